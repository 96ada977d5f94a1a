/-! the pure part: how the printed functions are evaluated -/
theorem pu_bd {α : Type} {v : Option sr_V} {t : α} {k : Option sr_V → α → Option (sr_O × α)} : sr_bd (some (.inl v, t)) k = k v t := rfl
theorem pu_dI {α : Type} {a : Int32} {t : α} {k : Int32 → α → Option (sr_O × α)} : sr_dI k (some (sr_i a)) t = k a t := rfl
theorem pu_dL {α : Type} {a : Int64} {t : α} {k : Int64 → α → Option (sr_O × α)} : sr_dL k (some (sr_l a)) t = k a t := rfl
theorem pu_dV {α : Type} {t : α} {k : α → Option (sr_O × α)} : sr_dV k none t = k t := rfl
theorem pu_dR {α : Type} {kf cnt i : Nat} {t : α} {k : Nat → α → Option (sr_O × α)} (h : i < cnt) : sr_dR kf cnt k (some (sr_r kf i)) t = k i t := if_pos ⟨rfl, h⟩
theorem pu_nt {α : Type} {v : Option sr_V} {t : α} : sr_nt (some ((.inl v : sr_O), t)) = some (.inl v, t) := rfl
theorem pu_lt {t : sr_t} {k : sr_t → sr_Rs} : sr_lt t k = k t := rfl
theorem pu_ck {a cnt : Nat} {k : Nat → sr_Rs} (h : a < cnt) : sr_ck a cnt k = k a := if_pos h
theorem pu_us {t : sr_t} {k i j : Nat} {v : Int32} : (sr_u t k i j v).1 k i j = v := by simp [sr_u]
theorem pu_un {t : sr_t} {k i j k' i' j' : Nat} {v : Int32} (h : ¬ (k' = k ∧ i' = i ∧ j' = j)) : (sr_u t k i j v).1 k' i' j' = t.1 k' i' j' := by simp [sr_u, h]
theorem pu_ul {t : sr_t} {k i j : Nat} {v : Int32} : (sr_u t k i j v).2 = t.2 := rfl
theorem pu_onward (a b : Int32) (t : sr_t) : F10_onward a b t = some (.inl (some (sr_i ((b - a) &&& 4095))), t) := rfl
theorem pu_of {i0 n : Nat} {t : sr_t} (hn : n < 24) : F3_of i0 (nI n) t = some (.inl (some (sr_r 2 (25 * i0 + n))), t) := by
  unfold F3_of
  have h24 : ¬ (24 : Int32) ≤ nI n := nI_ge (b := 24) hn (by decide)
  rw [if_neg (nI_pos (by omega)), if_neg h24]
  rw [if_neg (by
    intro h
    rcases h with h | h
    · exact nI_pos (by omega) h
    · rw [nI_clamp (by omega)] at h; omega)]
  rw [nI_clamp (by omega)]
  rfl
/-- how many places one goes on from a to b, on the ring -/
def pu_d (a b : Nat) : Nat := (b + 65536 - a) % 4096
theorem pu_on {a b : Nat} (ha : a ≤ 65536) (hb : b ≤ 65536) : (nI b - nI a) &&& 4095 = nI (pu_d a b) := by
  rw [pk_and _ 12 (by decide)]
  congr 1
  have h0 : (nI b - nI a).toBitVec = BitVec.ofNat 32 b - BitVec.ofNat 32 a := rfl
  rw [h0]
  simp only [BitVec.toNat_sub, BitVec.toNat_ofNat, pu_d]
  omega
theorem pu_d_lt (a b : Nat) : pu_d a b < 4096 := Nat.mod_lt _ (by decide)
/-- the reference's way of saying it -/
theorem pu_from {a b : Nat} (ha : a ≤ 65536) (hb : b ≤ 65536) : (nI b - nI a + 4096) &&& 4095 = nI (pu_d a b) := by
  rw [pk_and _ 12 (by decide)]
  have h0 : ∀ x y z : Int32, (x - y + z).toBitVec = x.toBitVec - y.toBitVec + z.toBitVec := fun _ _ _ => rfl
  have h1 : ∀ n : Nat, (nI n).toBitVec = BitVec.ofNat 32 n := fun _ => rfl
  have h2 : (4096 : Int32).toBitVec = BitVec.ofNat 32 4096 := by decide
  have e : (nI b - nI a + 4096).toBitVec.toNat % 2 ^ 12 = pu_d a b := by
    rw [h0, h1, h1, h2]
    simp only [BitVec.toNat_sub, BitVec.toNat_add, BitVec.toNat_ofNat, pu_d]
    omega
  rw [e]
