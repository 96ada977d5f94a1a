/-! firstFrom in closed form -/
theorem pu_bR {α : Type} {kf cnt i : Nat} {t : α} {k : Nat → α → Option (sr_O × α)} (h : i < cnt) : sr_bR kf cnt (some (.inl (some (sr_r kf i)), t)) k = k i t := pu_dR h
theorem pu_bI {α : Type} {a : Int32} {t : α} {k : Int32 → α → Option (sr_O × α)} : sr_bI (some (.inl (some (sr_i a)), t)) k = k a t := rfl
theorem pu_bL {α : Type} {a : Int64} {t : α} {k : Int64 → α → Option (sr_O × α)} : sr_bL (some (.inl (some (sr_l a)), t)) k = k a t := rfl
theorem pu_bV {α : Type} {t : α} {k : α → Option (sr_O × α)} : sr_bV (some (.inl none, t)) k = k t := rfl
def pu_ff (t : sr_t) (i0 : Nat) (a0 : Int32) : Nat → Nat → Nat → Int32 → Nat
  | 0, _, j, _ => j
  | r + 1, n, j, x => if t.1 2 (25 * i0 + n) 2 = 0 then pu_ff t i0 a0 r (n + 1) j x else if x ≤ ((t.1 2 (25 * i0 + n) 1 - a0) &&& 4095) then pu_ff t i0 a0 r (n + 1) j x else pu_ff t i0 a0 r (n + 1) (25 * i0 + n) ((t.1 2 (25 * i0 + n) 1 - a0) &&& 4095)
theorem pu_firstLoop {t : sr_t} {i0 N : Nat} {a0 : Int32} {k69 : Nat → sr_t → sr_Rs} (hi : i0 < 2) (hN : N ≤ 24) (hs : t.1 3 i0 3 = nI N) : ∀ (r n f j : Nat) (x : Int32), n + r = N → r < f → f3_firstFrom_12 i0 a0 k69 f j x (nI n) t = k69 (pu_ff t i0 a0 r n j x) t := by
  intro r
  induction r with
  | zero =>
    intro n f j x hn hf
    obtain ⟨g, rfl⟩ : ∃ g, f = g + 1 := ⟨f - 1, by omega⟩
    have e : n = N := by omega
    subst e
    unfold f3_firstFrom_12
    rw [hs, if_pos (nI_le (Nat.le_refl n) (by omega))]
    rfl
  | succ r ih =>
    intro n f j x hn hf
    obtain ⟨g, rfl⟩ : ∃ g, f = g + 1 := ⟨f - 1, by omega⟩
    have hlt : ¬ nI N ≤ nI n := nI_ge (by omega) (by omega)
    have nxt : ∀ (j' : Nat) (x' : Int32), f3_firstFrom_63 i0 a0 (f3_firstFrom_12 i0 a0 k69 g) k69 j' x' (nI n) t = k69 (pu_ff t i0 a0 r (n + 1) j' x') t := by
      intro j' x'
      show f3_firstFrom_12 i0 a0 k69 g j' x' (nI n + 1) t = _
      rw [nI_1]
      exact ih (n + 1) g j' x' (by omega) (by omega)
    unfold f3_firstFrom_12
    rw [hs, if_neg hlt, pu_of (by omega), pu_bR (by omega)]
    unfold pu_ff
    by_cases hu : t.1 2 (25 * i0 + n) 2 = 0
    · rw [if_pos hu, if_pos hu]
      exact nxt j x
    · rw [if_neg hu, if_neg hu, pu_onward, pu_nt, pu_bI]
      by_cases hd : x ≤ ((t.1 2 (25 * i0 + n) 1 - a0) &&& 4095)
      · rw [if_pos hd, if_pos hd]
        exact nxt j x
      · rw [if_neg hd, if_neg hd, pu_onward, pu_nt, pu_bI]
        exact nxt _ _
theorem pu_firstFrom {t : sr_t} {i0 N : Nat} {a0 : Int32} (hi : i0 < 2) (hN : N ≤ 24) (hs : t.1 3 i0 3 = nI N) : F3_firstFrom i0 a0 t = some (.inl (some (sr_r 2 (pu_ff t i0 a0 N 0 (25 * i0 + 24) 4096))), t) := by
  unfold F3_firstFrom
  have e := pu_firstLoop (k69 := f3_firstFrom_69 i0 a0) (a0 := a0) hi hN hs N 0 sr_fu (25 * i0 + 24) 4096 (by omega) (by unfold sr_fu; omega)
  exact e
