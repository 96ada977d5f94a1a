section
/-! the rows that evaluate, in a form that the kernel does not unfold; a lookup's frame -/
theorem pv_bI {α : Type} {a : Int32} {t : α} {k : Int32 → α → Option (sr_O × α)} : sr_bI (some (.inl (some (sr_i a)), t)) k = k a t := Eq.trans (Eq.refl _) (Eq.refl _)
theorem pv_bL {α : Type} {a : Int64} {t : α} {k : Int64 → α → Option (sr_O × α)} : sr_bL (some (.inl (some (sr_l a)), t)) k = k a t := Eq.trans (Eq.refl _) (Eq.refl _)
theorem pv_bV {α : Type} {t : α} {k : α → Option (sr_O × α)} : sr_bV (some (.inl none, t)) k = k t := Eq.trans (Eq.refl _) (Eq.refl _)
theorem pv_nt {α : Type} {v : Option sr_V} {t : α} : sr_nt (some ((.inl v : sr_O), t)) = some (.inl v, t) := Eq.trans (Eq.refl _) (Eq.refl _)
theorem pv_lt {t : sr_t} {k : sr_t → sr_Rs} : sr_lt t k = k t := Eq.trans (Eq.refl _) (Eq.refl _)
def S_lo (kp : Bool) (k i j : Nat) : Prop := (k = 11 ∧ i = 0 ∧ 10 ≤ j ∧ j ≤ 19) ∨ (k = 35 ∧ i = 0) ∨ (k = 36 ∧ i = 0) ∨ (kp.toNat = 1 ∧ 29 ≤ k ∧ k ≤ 32)
end
