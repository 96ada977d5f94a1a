section
/-! letters, on both sides -/
theorem pu_sh31 {x : Nat} (h : x < 32) : ((nI x &&& 31).toBitVec.smod 32).toNat = x := (by decide +kernel : ∀ y : Fin 32, ((nI y.val &&& 31).toBitVec.smod 32).toNat = y.val) ⟨x, h⟩
theorem pu_bL12 {b m : Nat} (h : m ≤ 12 / b) : b * m ≤ 12 := Nat.le_trans (Nat.mul_le_mul_left b h) (Nat.mul_div_le 12 b)
theorem pu_L12 {b : Nat} (h1 : 1 ≤ b) (h4 : b ≤ 4) : b * (12 / b) = 12 := by
  have hb : b = 1 ∨ b = 2 ∨ b = 3 ∨ b = 4 := by omega
  rcases hb with rfl | rfl | rfl | rfl <;> rfl
theorem pu_Lpos {b : Nat} (h1 : 1 ≤ b) (h4 : b ≤ 4) : 3 ≤ 12 / b ∧ 12 / b ≤ 12 := by
  have hb : b = 1 ∨ b = 2 ∨ b = 3 ∨ b = 4 := by omega
  rcases hb with rfl | rfl | rfl | rfl <;> decide
theorem pu_pow16 {b : Nat} (h4 : b ≤ 4) : 2 ^ b ≤ 16 := by
  have : 2 ^ b ≤ 2 ^ 4 := Nat.pow_le_pow_right (by decide) h4
  omega
theorem pu_powp {b : Nat} : 1 ≤ 2 ^ b := Nat.one_le_two_pow
theorem pu_pow12 {x : Nat} (h : x ≤ 12) : 2 ^ x ≤ 4096 := by
  have : 2 ^ x ≤ 2 ^ 12 := Nat.pow_le_pow_right (by decide) h
  omega
theorem pu_mask {b : Nat} (h1 : 1 ≤ b) (h4 : b ≤ 4) : (nI (2 ^ b) - nI 1).toBitVec.toNat = 2 ^ b - 1 := by
  have hb : b = 1 ∨ b = 2 ∨ b = 3 ∨ b = 4 := by omega
  rcases hb with rfl | rfl | rfl | rfl <;> decide
def rg_lt (b q k : Nat) : Nat := q / 2 ^ (b * (12 / b - 1 - k)) % 2 ^ b
def rg_sh (b q c : Nat) : Nat := (q * 2 ^ b + c) % 4096
theorem rg_lt_lt {b q k : Nat} : rg_lt b q k < 2 ^ b := Nat.mod_lt _ (Nat.two_pow_pos b)
theorem rg_sh_lt {b q c : Nat} : rg_sh b q c < 4096 := Nat.mod_lt _ (by decide)
theorem pu_letterC {t : sr_t} {s : rg_T} {r q k : Nat} (H : rg_head t r s) (O : rg_okB s) (hq : q < 4096) (hk : k < 12 / rg_b s) : F3_letterOf r (nI q) (nI k) t = some (.inl (some (sr_i (nI (rg_lt (rg_b s) q k)))), t) := by
  obtain ⟨_, h5, h6, h7, _⟩ := H
  obtain ⟨b1, b4⟩ := O.2.1
  have hL := pu_Lpos b1 b4
  have h12 := pu_bL12 (b := rg_b s) (m := 12 / rg_b s - 1 - k) (by omega)
  have e1 : nI q >>> (nI (rg_b s * (12 / rg_b s - 1 - k)) &&& 31) = nI (q / 2 ^ (rg_b s * (12 / rg_b s - 1 - k))) := pk_shrN (by omega) _ _ (pu_sh31 (by omega))
  have hle : q / 2 ^ (rg_b s * (12 / rg_b s - 1 - k)) ≤ q := Nat.div_le_self _ _
  have e2 : nI (q / 2 ^ (rg_b s * (12 / rg_b s - 1 - k))) &&& (nI (2 ^ rg_b s) - nI 1) = nI (q / 2 ^ (rg_b s * (12 / rg_b s - 1 - k)) % 2 ^ rg_b s) := pk_andN (by omega) _ (pu_mask b1 b4)
  simp (disch := omega) only [pu_lt, pu_ck, pu_bI, pu_bV, pu_bR, pu_bL, pu_nt, pu_us, pu_un, mL_0, mL_1, mL_2, mL_3, mL_4, mL_5, mL_6, mL_7, mL_8, mL_9, mL_10, mL_11, mL_12, mL_13, mL_14, mL_15, mL_16, mL_23, mL_24, mL_32, mL_48, mL_64, mL_99, mL_100, mL_200, mL_336, mL_576, mL_768, mL_800, mL_999, mL_4095, mL_4096, mL_m1, nI_leI, nI_ltI, nI_eq, nI_clamp, nI_add, pk_mul, nI_nu, bI_eq0, bI_eq1, bo_ft, pu_of, pu_of24, pu_onward, pu_frq, if_true, if_false, true_or, or_true, false_or, or_false, and_true, true_and, and_false, false_and, not_true_eq_false, not_false_eq_true, if_neg, if_pos, F3_letterOf, h5, h6, h7, pk_sub, e1, e2]
  rfl
theorem pu_shiftC {t : sr_t} {s : rg_T} {r q c : Nat} (H : rg_head t r s) (O : rg_okB s) (hq : q < 4096) (hc : c < 16) : F3_shiftIn r (nI q) (nI c) t = some (.inl (some (sr_i (nI (rg_sh (rg_b s) q c)))), t) := by
  obtain ⟨_, h5, _⟩ := H
  have hqb := rg_qb hq O.2.1.2
  have e2 : nI (q * 2 ^ rg_b s + c) &&& nI 4095 = nI ((q * 2 ^ rg_b s + c) % 2 ^ 12) := pk_andN (by omega) 12 (by decide)
  simp (disch := omega) only [pu_lt, pu_ck, pu_bI, pu_bV, pu_bR, pu_bL, pu_nt, pu_us, pu_un, mL_0, mL_1, mL_2, mL_3, mL_4, mL_5, mL_6, mL_7, mL_8, mL_9, mL_10, mL_11, mL_12, mL_13, mL_14, mL_15, mL_16, mL_23, mL_24, mL_32, mL_48, mL_64, mL_99, mL_100, mL_200, mL_336, mL_576, mL_768, mL_800, mL_999, mL_4095, mL_4096, mL_m1, nI_leI, nI_ltI, nI_eq, nI_clamp, nI_add, pk_mul, nI_nu, bI_eq0, bI_eq1, bo_ft, pu_of, pu_of24, pu_onward, pu_frq, if_true, if_false, true_or, or_true, false_or, or_false, and_true, true_and, and_false, false_and, not_true_eq_false, not_false_eq_true, if_neg, if_pos, F3_shiftIn, h5, e2]
  rfl
theorem pu_wLastC {t : sr_t} {s : rg_T} {r q m : Nat} (H : rg_head t r s) (O : rg_okB s) (hq : q < 4096) (hm : m ≤ 12 / rg_b s) : F3_withoutLast r (nI q) (nI m) t = some (.inl (some (sr_i (nI (q / 2 ^ (rg_b s * m))))), t) := by
  obtain ⟨_, _, h6, _⟩ := H
  have h12 := pu_bL12 hm
  have e1 : nI q >>> (nI (rg_b s * m) &&& 31) = nI (q / 2 ^ (rg_b s * m)) := pk_shrN (by omega) _ _ (pu_sh31 (by omega))
  simp (disch := omega) only [pu_lt, pu_ck, pu_bI, pu_bV, pu_bR, pu_bL, pu_nt, pu_us, pu_un, mL_0, mL_1, mL_2, mL_3, mL_4, mL_5, mL_6, mL_7, mL_8, mL_9, mL_10, mL_11, mL_12, mL_13, mL_14, mL_15, mL_16, mL_23, mL_24, mL_32, mL_48, mL_64, mL_99, mL_100, mL_200, mL_336, mL_576, mL_768, mL_800, mL_999, mL_4095, mL_4096, mL_m1, nI_leI, nI_ltI, nI_eq, nI_clamp, nI_add, pk_mul, nI_nu, bI_eq0, bI_eq1, bo_ft, pu_of, pu_of24, pu_onward, pu_frq, if_true, if_false, true_or, or_true, false_or, or_false, and_true, true_and, and_false, false_and, not_true_eq_false, not_false_eq_true, if_neg, if_pos, F3_withoutLast, h6, e1]
theorem pu_wFirstC {t : sr_t} {s : rg_T} {r m : Nat} {x : Int32} (H : rg_head t r s) (O : rg_okB s) (hm : m ≤ 12 / rg_b s) : F3_withoutFirst r x (nI m) t = some (.inl (some (sr_i (nI (x.toBitVec.toNat % 2 ^ (12 - rg_b s * m))))), t) := by
  obtain ⟨_, _, h6, _⟩ := H
  have h12 := pu_bL12 hm
  have e1 : nI 4095 >>> (nI (rg_b s * m) &&& 31) = nI (4095 / 2 ^ (rg_b s * m)) := pk_shrN (by omega) _ _ (pu_sh31 (by omega))
  have e2 : (nI (4095 / 2 ^ (rg_b s * m))).toBitVec.toNat = 2 ^ (12 - rg_b s * m) - 1 := by
    have hle : 4095 / 2 ^ (rg_b s * m) ≤ 4095 := Nat.div_le_self _ _
    rw [pk_tn (by omega)]
    generalize rg_b s * m = y at h12
    have : ∀ z : Fin 13, 4095 / 2 ^ z.val = 2 ^ (12 - z.val) - 1 := by decide
    exact this ⟨y, by omega⟩
  have e3 : x &&& nI (4095 / 2 ^ (rg_b s * m)) = nI (x.toBitVec.toNat % 2 ^ (12 - rg_b s * m)) := pk_and x _ e2
  simp (disch := omega) only [pu_lt, pu_ck, pu_bI, pu_bV, pu_bR, pu_bL, pu_nt, pu_us, pu_un, mL_0, mL_1, mL_2, mL_3, mL_4, mL_5, mL_6, mL_7, mL_8, mL_9, mL_10, mL_11, mL_12, mL_13, mL_14, mL_15, mL_16, mL_23, mL_24, mL_32, mL_48, mL_64, mL_99, mL_100, mL_200, mL_336, mL_576, mL_768, mL_800, mL_999, mL_4095, mL_4096, mL_m1, nI_leI, nI_ltI, nI_eq, nI_clamp, nI_add, pk_mul, nI_nu, bI_eq0, bI_eq1, bo_ft, pu_of, pu_of24, pu_onward, pu_frq, if_true, if_false, true_or, or_true, false_or, or_false, and_true, true_and, and_false, false_and, not_true_eq_false, not_false_eq_true, if_neg, if_pos, F3_withoutFirst, h6, e1, e3]
/-! the reference's -/
theorem pu_lettersR {t : sr_t} {s : rg_T} (H : t.1 11 0 7 = nI (2 ^ rg_b s)) (O : rg_okB s) : F11_letters t = some (.inl (some (sr_i (nI (12 / rg_b s)))), t) := by
  obtain ⟨b1, b4⟩ := O.2.1
  have hb : rg_b s = 1 ∨ rg_b s = 2 ∨ rg_b s = 3 ∨ rg_b s = 4 := by omega
  rcases hb with e | e | e | e
  · rw [e] at H ⊢
    simp (disch := omega) only [pu_lt, pu_ck, pu_bI, pu_bV, pu_bR, pu_bL, pu_nt, pu_us, pu_un, mL_0, mL_1, mL_2, mL_3, mL_4, mL_5, mL_6, mL_7, mL_8, mL_9, mL_10, mL_11, mL_12, mL_13, mL_14, mL_15, mL_16, mL_23, mL_24, mL_32, mL_48, mL_64, mL_99, mL_100, mL_200, mL_336, mL_576, mL_768, mL_800, mL_999, mL_4095, mL_4096, mL_m1, nI_leI, nI_ltI, nI_eq, nI_clamp, nI_add, pk_mul, nI_nu, bI_eq0, bI_eq1, bo_ft, pu_of, pu_of24, pu_onward, pu_frq, if_true, if_false, true_or, or_true, false_or, or_false, and_true, true_and, and_false, false_and, not_true_eq_false, not_false_eq_true, if_neg, if_pos, F11_letters, f11_letters_40, H, Nat.reducePow, Nat.reduceDiv]
  · rw [e] at H ⊢
    simp (disch := omega) only [pu_lt, pu_ck, pu_bI, pu_bV, pu_bR, pu_bL, pu_nt, pu_us, pu_un, mL_0, mL_1, mL_2, mL_3, mL_4, mL_5, mL_6, mL_7, mL_8, mL_9, mL_10, mL_11, mL_12, mL_13, mL_14, mL_15, mL_16, mL_23, mL_24, mL_32, mL_48, mL_64, mL_99, mL_100, mL_200, mL_336, mL_576, mL_768, mL_800, mL_999, mL_4095, mL_4096, mL_m1, nI_leI, nI_ltI, nI_eq, nI_clamp, nI_add, pk_mul, nI_nu, bI_eq0, bI_eq1, bo_ft, pu_of, pu_of24, pu_onward, pu_frq, if_true, if_false, true_or, or_true, false_or, or_false, and_true, true_and, and_false, false_and, not_true_eq_false, not_false_eq_true, if_neg, if_pos, F11_letters, f11_letters_40, H, Nat.reducePow, Nat.reduceDiv]
  · rw [e] at H ⊢
    simp (disch := omega) only [pu_lt, pu_ck, pu_bI, pu_bV, pu_bR, pu_bL, pu_nt, pu_us, pu_un, mL_0, mL_1, mL_2, mL_3, mL_4, mL_5, mL_6, mL_7, mL_8, mL_9, mL_10, mL_11, mL_12, mL_13, mL_14, mL_15, mL_16, mL_23, mL_24, mL_32, mL_48, mL_64, mL_99, mL_100, mL_200, mL_336, mL_576, mL_768, mL_800, mL_999, mL_4095, mL_4096, mL_m1, nI_leI, nI_ltI, nI_eq, nI_clamp, nI_add, pk_mul, nI_nu, bI_eq0, bI_eq1, bo_ft, pu_of, pu_of24, pu_onward, pu_frq, if_true, if_false, true_or, or_true, false_or, or_false, and_true, true_and, and_false, false_and, not_true_eq_false, not_false_eq_true, if_neg, if_pos, F11_letters, f11_letters_40, H, Nat.reducePow, Nat.reduceDiv]
  · rw [e] at H ⊢
    simp (disch := omega) only [pu_lt, pu_ck, pu_bI, pu_bV, pu_bR, pu_bL, pu_nt, pu_us, pu_un, mL_0, mL_1, mL_2, mL_3, mL_4, mL_5, mL_6, mL_7, mL_8, mL_9, mL_10, mL_11, mL_12, mL_13, mL_14, mL_15, mL_16, mL_23, mL_24, mL_32, mL_48, mL_64, mL_99, mL_100, mL_200, mL_336, mL_576, mL_768, mL_800, mL_999, mL_4095, mL_4096, mL_m1, nI_leI, nI_ltI, nI_eq, nI_clamp, nI_add, pk_mul, nI_nu, bI_eq0, bI_eq1, bo_ft, pu_of, pu_of24, pu_onward, pu_frq, if_true, if_false, true_or, or_true, false_or, or_false, and_true, true_and, and_false, false_and, not_true_eq_false, not_false_eq_true, if_neg, if_pos, F11_letters, f11_letters_40, H, Nat.reducePow, Nat.reduceDiv]
theorem pu_power {t : sr_t} {b n : Nat} (H : t.1 11 0 7 = nI (2 ^ b)) (hn : n < 100) : F11_power (nI n) t = some (.inl (some (sr_i (nI (2 ^ (b * n))))), t) := by
  refine pu_for (N := n) (L := fun f k => f11_power_4 (nI n) (f11_power_22 (nI n)) f (nI (2 ^ (b * k))) (nI k) t) ?_ ?_ (pu_fu (by omega))
  · intro k g hk
    show f11_power_4 (nI n) (f11_power_22 (nI n)) (g + 1) (nI (2 ^ (b * k))) (nI k) t = f11_power_4 (nI n) (f11_power_22 (nI n)) g (nI (2 ^ (b * (k + 1)))) (nI (k + 1)) t
    rw [Nat.mul_succ, Nat.pow_add]
    simp (disch := omega) only [pu_lt, pu_ck, pu_bI, pu_bV, pu_bR, pu_bL, pu_nt, pu_us, pu_un, mL_0, mL_1, mL_2, mL_3, mL_4, mL_5, mL_6, mL_7, mL_8, mL_9, mL_10, mL_11, mL_12, mL_13, mL_14, mL_15, mL_16, mL_23, mL_24, mL_32, mL_48, mL_64, mL_99, mL_100, mL_200, mL_336, mL_576, mL_768, mL_800, mL_999, mL_4095, mL_4096, mL_m1, nI_leI, nI_ltI, nI_eq, nI_clamp, nI_add, pk_mul, nI_nu, bI_eq0, bI_eq1, bo_ft, pu_of, pu_of24, pu_onward, pu_frq, if_true, if_false, true_or, or_true, false_or, or_false, and_true, true_and, and_false, false_and, not_true_eq_false, not_false_eq_true, if_neg, if_pos, f11_power_4, H]
  · intro g
    show f11_power_4 (nI n) (f11_power_22 (nI n)) (g + 1) (nI (2 ^ (b * n))) (nI n) t = _
    simp (disch := omega) only [pu_lt, pu_ck, pu_bI, pu_bV, pu_bR, pu_bL, pu_nt, pu_us, pu_un, mL_0, mL_1, mL_2, mL_3, mL_4, mL_5, mL_6, mL_7, mL_8, mL_9, mL_10, mL_11, mL_12, mL_13, mL_14, mL_15, mL_16, mL_23, mL_24, mL_32, mL_48, mL_64, mL_99, mL_100, mL_200, mL_336, mL_576, mL_768, mL_800, mL_999, mL_4095, mL_4096, mL_m1, nI_leI, nI_ltI, nI_eq, nI_clamp, nI_add, pk_mul, nI_nu, bI_eq0, bI_eq1, bo_ft, pu_of, pu_of24, pu_onward, pu_frq, if_true, if_false, true_or, or_true, false_or, or_false, and_true, true_and, and_false, false_and, not_true_eq_false, not_false_eq_true, if_neg, if_pos, f11_power_4, f11_power_22]
theorem pu_letterR {t : sr_t} {s : rg_T} {q k : Nat} (H : t.1 11 0 7 = nI (2 ^ rg_b s)) (O : rg_okB s) (hq : q < 4096) (hk : k < 12 / rg_b s) : F11_letterOf (nI q) (nI k) t = some (.inl (some (sr_i (nI (rg_lt (rg_b s) q k)))), t) := by
  obtain ⟨b1, b4⟩ := O.2.1
  have hL := pu_Lpos b1 b4
  have e1 := pu_lettersR H O
  have e2 := pu_power (n := 12 / rg_b s - 1 - k) H (by omega)
  have h12 := pu_bL12 (b := rg_b s) (m := 12 / rg_b s - 1 - k) (by omega)
  have p1 := pu_pow12 h12
  have p2 := pu_powp (b := rg_b s * (12 / rg_b s - 1 - k))
  have p3 := pu_pow16 b4
  have p4 := pu_powp (b := rg_b s)
  have hle : q / 2 ^ (rg_b s * (12 / rg_b s - 1 - k)) ≤ q := Nat.div_le_self _ _
  have e3 : nI q / nI (2 ^ (rg_b s * (12 / rg_b s - 1 - k))) = nI (q / 2 ^ (rg_b s * (12 / rg_b s - 1 - k))) := pk_div (by omega) (by omega) (by omega)
  have e4 : nI (q / 2 ^ (rg_b s * (12 / rg_b s - 1 - k))) - nI (q / 2 ^ (rg_b s * (12 / rg_b s - 1 - k))) / nI (2 ^ rg_b s) * nI (2 ^ rg_b s) = nI (q / 2 ^ (rg_b s * (12 / rg_b s - 1 - k)) % 2 ^ rg_b s) := pk_rem (by omega) (by omega) (by omega)
  simp (disch := omega) only [pu_lt, pu_ck, pu_bI, pu_bV, pu_bR, pu_bL, pu_nt, pu_us, pu_un, mL_0, mL_1, mL_2, mL_3, mL_4, mL_5, mL_6, mL_7, mL_8, mL_9, mL_10, mL_11, mL_12, mL_13, mL_14, mL_15, mL_16, mL_23, mL_24, mL_32, mL_48, mL_64, mL_99, mL_100, mL_200, mL_336, mL_576, mL_768, mL_800, mL_999, mL_4095, mL_4096, mL_m1, nI_leI, nI_ltI, nI_eq, nI_clamp, nI_add, pk_mul, nI_nu, bI_eq0, bI_eq1, bo_ft, pu_of, pu_of24, pu_onward, pu_frq, if_true, if_false, true_or, or_true, false_or, or_false, and_true, true_and, and_false, false_and, not_true_eq_false, not_false_eq_true, if_neg, if_pos, F11_letterOf, e1, pk_sub, e2, H, e3, e4]
  rfl
theorem pu_firstOf {t : sr_t} {s : rg_T} {q n : Nat} (H : t.1 11 0 7 = nI (2 ^ rg_b s)) (O : rg_okB s) (hq : q < 4096) (hn : n ≤ 12 / rg_b s) : F11_firstOf (nI q) (nI n) t = some (.inl (some (sr_i (nI (q / 2 ^ (rg_b s * (12 / rg_b s - n)))))), t) := by
  obtain ⟨b1, b4⟩ := O.2.1
  have hL := pu_Lpos b1 b4
  have e1 := pu_lettersR H O
  have e2 := pu_power (n := 12 / rg_b s - n) H (by omega)
  have h12 := pu_bL12 (b := rg_b s) (m := 12 / rg_b s - n) (by omega)
  have p1 := pu_pow12 h12
  have p2 := pu_powp (b := rg_b s * (12 / rg_b s - n))
  have e3 : nI q / nI (2 ^ (rg_b s * (12 / rg_b s - n))) = nI (q / 2 ^ (rg_b s * (12 / rg_b s - n))) := pk_div (by omega) (by omega) (by omega)
  simp (disch := omega) only [pu_lt, pu_ck, pu_bI, pu_bV, pu_bR, pu_bL, pu_nt, pu_us, pu_un, mL_0, mL_1, mL_2, mL_3, mL_4, mL_5, mL_6, mL_7, mL_8, mL_9, mL_10, mL_11, mL_12, mL_13, mL_14, mL_15, mL_16, mL_23, mL_24, mL_32, mL_48, mL_64, mL_99, mL_100, mL_200, mL_336, mL_576, mL_768, mL_800, mL_999, mL_4095, mL_4096, mL_m1, nI_leI, nI_ltI, nI_eq, nI_clamp, nI_add, pk_mul, nI_nu, bI_eq0, bI_eq1, bo_ft, pu_of, pu_of24, pu_onward, pu_frq, if_true, if_false, true_or, or_true, false_or, or_false, and_true, true_and, and_false, false_and, not_true_eq_false, not_false_eq_true, if_neg, if_pos, F11_firstOf, e1, pk_sub, e2, e3]
/-- the remainder that isn't below 0 -/
theorem pu_rr {w p e : Nat} (hw : w < 4096) (hp : p < 4096) (he : e ≤ 12) : ((nI w - nI p - (nI w - nI p) / nI (2 ^ e) * nI (2 ^ e)) + nI (2 ^ e)) - ((nI w - nI p - (nI w - nI p) / nI (2 ^ e) * nI (2 ^ e)) + nI (2 ^ e)) / nI (2 ^ e) * nI (2 ^ e) = nI ((w + 4096 - p) % 2 ^ e) := by
  have p1 := pu_pow12 he
  have p2 := pu_powp (b := e)
  have hW : (nI (2 ^ e)).toInt = ((2 ^ e : Nat) : Int) := nI_toInt (by omega)
  have hx : (nI w - nI p).toInt = (w : Int) - p := pk_sub_toInt (by omega) (by omega)
  rw [irem_eq_mod, irem_eq_mod]
  apply Int32.toInt_inj.mp
  have hlt : (w + 4096 - p) % 2 ^ e < 2 ^ e := Nat.mod_lt _ (by omega)
  rw [nI_toInt (by omega), Int32.toInt_mod, Int32.toInt_add, Int32.toInt_mod, hx, hW]
  generalize hG : (2 ^ e : Nat) = W at *
  have hd : ∃ c, 4096 = W * c := ⟨2 ^ (12 - e), by rw [← hG, ← Nat.pow_add, show e + (12 - e) = 12 by omega]⟩
  obtain ⟨c, hc⟩ := hd
  have a1 : -(W : Int) < ((w : Int) - p).tmod W := Int.lt_tmod_of_pos _ (by omega)
  have a2 : ((w : Int) - p).tmod W < W := Int.tmod_lt_of_pos _ (by omega)
  rw [Int.bmod_eq_of_le_mul_two (by omega) (by omega), Int.tmod_eq_emod_of_nonneg (by omega)]
  have b1 : ((w : Int) - p).tmod W + W = ((w : Int) - p) + W * (1 - ((w : Int) - p).tdiv W) := by
    rw [Int.tmod_def, Int.mul_sub]
    omega
  rw [b1, Int.add_mul_emod_self_left]
  have b2 : (((w + 4096 - p) % W : Nat) : Int) = ((w : Int) - p + W * c) % W := by
    rw [Int.natCast_emod]
    congr 1
    have : ((4096 : Nat) : Int) = (W : Int) * (c : Int) := by rw [hc]; exact Int.natCast_mul W c
    omega
  rw [b2, Int.add_mul_emod_self_left]
/-- how far on the first place is of which all but m last letters are the first ones of a key -/
def rg_of (s : rg_T) (key n m : Nat) : Nat := (key / 2 ^ (rg_b s * m) + 4096 - rg_p s n) % 2 ^ (12 - rg_b s * m)
def rg_ms (s : rg_T) (key n : Nat) : Nat := fi (fun m => decide (rg_of s key n m < rg_ar s n)) (12 / rg_b s)
/-- where one starts: the imaginary place, and how many letters are left -/
def rg_sta (s : rg_T) (key : Nat) (best : Bool) (n : Nat) : Nat × Nat := if best = true ∧ rg_nx s n ≠ 24 then ((rg_p s n + rg_of s key n (rg_ms s key n)) % 4096, rg_ms s key n) else (rg_p s n, 12 / rg_b s)
theorem rg_sta_lt {s : rg_T} {key n : Nat} {best : Bool} (O : rg_okB s) (hn : n < rg_N s) : (rg_sta s key best n).1 < 4096 ∧ (rg_sta s key best n).2 ≤ 12 / rg_b s := by
  have := O.2.2.2.1 n hn
  unfold rg_sta
  split
  · exact ⟨Nat.mod_lt _ (by decide), fi_le _ _⟩
  · exact ⟨this, Nat.le_refl _⟩
theorem rg_of_L {s : rg_T} {key n : Nat} (O : rg_okB s) : rg_of s key n (12 / rg_b s) = 0 := by
  unfold rg_of
  rw [pu_L12 O.2.1.1 O.2.1.2, Nat.sub_self, Nat.pow_zero, Nat.mod_one]
end
