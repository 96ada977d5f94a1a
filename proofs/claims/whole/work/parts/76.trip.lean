section
/-! a trip of the class -/
def S_tp (i0 k i _j : Nat) : Prop := (k = 8 ∧ i = i0) ∨ (k = 14 ∧ i = i0) ∨ ((k = 4 ∨ k = 12) ∧ i = 104 + i0)
def S_ps (i0 K k i j : Nat) : Prop := (k = 8 ∧ i = i0 ∧ (j = 3 ∨ j = 8 ∨ j = 9 ∨ j = 13)) ∨ (k = 14 ∧ i = i0 ∧ 4 * K ≤ j ∧ j < 4 * K + 4)
theorem pu_abs {x y : Nat} (hx : x ≤ 99) (hy : y ≤ 99) : (if nI 0 ≤ nI x - nI y then nI x - nI y else nI 0 - (nI x - nI y)) = nI (ad x y) := by
  unfold ad
  by_cases h : y ≤ x
  · rw [pk_sub h, if_pos (nI_le (by omega) (by omega)), show y - x = 0 by omega, Nat.add_zero]
  · have hn : nI x - nI y < 0 := pk_sneg (by omega) (by omega)
    have hn' : ¬ nI 0 ≤ nI x - nI y := fun q => by
      have := Int32.lt_of_lt_of_le hn q
      exact Int32.lt_irrefl this
    rw [if_neg hn', show x - y = 0 by omega, Nat.zero_add, ← pk_sub (by omega)]
    show (0 : Int32) - (nI x - nI y) = _
    rw [Int32.zero_sub, Int32.neg_sub]
set_option maxHeartbeats 2000000 in
theorem pu_pass {t : sr_t} {s : rg_T} {i0 r a m h l k hp tm c : Nat} (C : rg_C t r s) (O : rg_ok s) (hr : r < 2) (ha : a < rg_N s) (hm : m < rg_N s) (hk : k < 200) (H3 : t.1 8 i0 3 = nI (25 * r + a)) (H4 : t.1 8 i0 4 = nI h) (H5 : t.1 8 i0 5 = nI l) (H8 : t.1 8 i0 8 = nI k) (H9 : t.1 8 i0 9 = nI hp) (H13 : t.1 8 i0 13 = nI tm) : ∃ t', F8_pass i0 (nI c) (25 * r + m) t = some (.inl none, t') ∧ t'.1 8 i0 3 = nI (25 * r + m) ∧ t'.1 8 i0 8 = nI (k + 1) ∧ t'.1 8 i0 9 = nI (hp + if a = m then 0 else 1) ∧ t'.1 8 i0 13 = nI (tm + if a = m then 0 else 1 + ad (rg_s s a) (rg_s s m)) ∧ (t'.1 14 i0 (4 * k) = nI a ∧ t'.1 14 i0 (4 * k + 1) = nI h ∧ t'.1 14 i0 (4 * k + 2) = nI l ∧ t'.1 14 i0 (4 * k + 3) = nI c) ∧ fr (S_ps i0 k) t t' := by
  have hN := O.1.1
  have num := C.1.2.1.1 a (by omega)
  rw [nu_lt (by omega)] at num
  have sa := (C.1.2.2 a ha).2.2
  have sm' := (C.1.2.2 m hm).2.2
  have ab := pu_abs (O.1.2.2.2.2.2 a ha) (O.1.2.2.2.2.2 m hm)
  have f5 : fr (S_ps i0 k) t (sr_u (sr_u (sr_u (sr_u (sr_u t 14 i0 (4 * k) (nI a)) 14 i0 (4 * k + 1) (nI h)) 14 i0 (4 * k + 2) (nI l)) 14 i0 (4 * k + 3) (nI c)) 8 i0 8 (nI (k + 1))) := fr_u (fr_u (fr_u (fr_u (fr_u fr_rfl (by unfold S_ps; omega)) (by unfold S_ps; omega)) (by unfold S_ps; omega)) (by unfold S_ps; omega)) (by unfold S_ps; omega)
  have rem : F8_remember i0 (nI c) t = some (.inl none, (sr_u (sr_u (sr_u (sr_u (sr_u t 14 i0 (4 * k) (nI a)) 14 i0 (4 * k + 1) (nI h)) 14 i0 (4 * k + 2) (nI l)) 14 i0 (4 * k + 3) (nI c)) 8 i0 8 (nI (k + 1)))) := by
    simp (disch := omega) only [pu_lt, pu_ck, pu_bI, pu_bV, pu_bR, pu_bL, pu_nt, pu_us, pu_un, mL_0, mL_1, mL_2, mL_3, mL_4, mL_5, mL_6, mL_7, mL_8, mL_9, mL_10, mL_11, mL_12, mL_13, mL_14, mL_15, mL_16, mL_23, mL_24, mL_32, mL_48, mL_64, mL_99, mL_100, mL_200, mL_336, mL_576, mL_768, mL_800, mL_999, mL_4095, mL_4096, mL_m1, nI_leI, nI_ltI, nI_eq, nI_clamp, nI_add, pk_mul, nI_nu, bI_eq0, bI_eq1, bo_ft, pu_of, pu_of24, pu_onward, pu_frq, if_true, if_false, true_or, or_true, false_or, or_false, and_true, true_and, and_false, false_and, not_true_eq_false, not_false_eq_true, if_neg, if_pos, F8_remember, f8_remember_78, H3, H4, H5, H8, num]
  refine rs_via fun Q hQ => ?_
  by_cases e : a = m
  · rw [if_pos e, if_pos e] at hQ
    simp (disch := omega) only [pu_lt, pu_ck, pu_bI, pu_bV, pu_bR, pu_bL, pu_nt, pu_us, pu_un, mL_0, mL_1, mL_2, mL_3, mL_4, mL_5, mL_6, mL_7, mL_8, mL_9, mL_10, mL_11, mL_12, mL_13, mL_14, mL_15, mL_16, mL_23, mL_24, mL_32, mL_48, mL_64, mL_99, mL_100, mL_200, mL_336, mL_576, mL_768, mL_800, mL_999, mL_4095, mL_4096, mL_m1, nI_leI, nI_ltI, nI_eq, nI_clamp, nI_add, pk_mul, nI_nu, bI_eq0, bI_eq1, bo_ft, pu_of, pu_of24, pu_onward, pu_frq, if_true, if_false, true_or, or_true, false_or, or_false, and_true, true_and, and_false, false_and, not_true_eq_false, not_false_eq_true, if_neg, if_pos, F8_pass, f8_pass_49, rem, H3]
    refine rs_ret (hQ _ ⟨?_, ?_, ?_, ?_, ⟨?_, ?_, ?_, ?_⟩, ?_⟩)
    · simp (disch := omega) only [pu_lt, pu_ck, pu_bI, pu_bV, pu_bR, pu_bL, pu_nt, pu_us, pu_un, mL_0, mL_1, mL_2, mL_3, mL_4, mL_5, mL_6, mL_7, mL_8, mL_9, mL_10, mL_11, mL_12, mL_13, mL_14, mL_15, mL_16, mL_23, mL_24, mL_32, mL_48, mL_64, mL_99, mL_100, mL_200, mL_336, mL_576, mL_768, mL_800, mL_999, mL_4095, mL_4096, mL_m1, nI_leI, nI_ltI, nI_eq, nI_clamp, nI_add, pk_mul, nI_nu, bI_eq0, bI_eq1, bo_ft, pu_of, pu_of24, pu_onward, pu_frq, if_true, if_false, true_or, or_true, false_or, or_false, and_true, true_and, and_false, false_and, not_true_eq_false, not_false_eq_true, if_neg, if_pos]
    · simp (disch := omega) only [pu_lt, pu_ck, pu_bI, pu_bV, pu_bR, pu_bL, pu_nt, pu_us, pu_un, mL_0, mL_1, mL_2, mL_3, mL_4, mL_5, mL_6, mL_7, mL_8, mL_9, mL_10, mL_11, mL_12, mL_13, mL_14, mL_15, mL_16, mL_23, mL_24, mL_32, mL_48, mL_64, mL_99, mL_100, mL_200, mL_336, mL_576, mL_768, mL_800, mL_999, mL_4095, mL_4096, mL_m1, nI_leI, nI_ltI, nI_eq, nI_clamp, nI_add, pk_mul, nI_nu, bI_eq0, bI_eq1, bo_ft, pu_of, pu_of24, pu_onward, pu_frq, if_true, if_false, true_or, or_true, false_or, or_false, and_true, true_and, and_false, false_and, not_true_eq_false, not_false_eq_true, if_neg, if_pos]
    · simp (disch := omega) only [pu_lt, pu_ck, pu_bI, pu_bV, pu_bR, pu_bL, pu_nt, pu_us, pu_un, mL_0, mL_1, mL_2, mL_3, mL_4, mL_5, mL_6, mL_7, mL_8, mL_9, mL_10, mL_11, mL_12, mL_13, mL_14, mL_15, mL_16, mL_23, mL_24, mL_32, mL_48, mL_64, mL_99, mL_100, mL_200, mL_336, mL_576, mL_768, mL_800, mL_999, mL_4095, mL_4096, mL_m1, nI_leI, nI_ltI, nI_eq, nI_clamp, nI_add, pk_mul, nI_nu, bI_eq0, bI_eq1, bo_ft, pu_of, pu_of24, pu_onward, pu_frq, if_true, if_false, true_or, or_true, false_or, or_false, and_true, true_and, and_false, false_and, not_true_eq_false, not_false_eq_true, if_neg, if_pos, H9, Nat.add_zero]
    · simp (disch := omega) only [pu_lt, pu_ck, pu_bI, pu_bV, pu_bR, pu_bL, pu_nt, pu_us, pu_un, mL_0, mL_1, mL_2, mL_3, mL_4, mL_5, mL_6, mL_7, mL_8, mL_9, mL_10, mL_11, mL_12, mL_13, mL_14, mL_15, mL_16, mL_23, mL_24, mL_32, mL_48, mL_64, mL_99, mL_100, mL_200, mL_336, mL_576, mL_768, mL_800, mL_999, mL_4095, mL_4096, mL_m1, nI_leI, nI_ltI, nI_eq, nI_clamp, nI_add, pk_mul, nI_nu, bI_eq0, bI_eq1, bo_ft, pu_of, pu_of24, pu_onward, pu_frq, if_true, if_false, true_or, or_true, false_or, or_false, and_true, true_and, and_false, false_and, not_true_eq_false, not_false_eq_true, if_neg, if_pos, H13, Nat.add_zero]
    · simp (disch := omega) only [pu_lt, pu_ck, pu_bI, pu_bV, pu_bR, pu_bL, pu_nt, pu_us, pu_un, mL_0, mL_1, mL_2, mL_3, mL_4, mL_5, mL_6, mL_7, mL_8, mL_9, mL_10, mL_11, mL_12, mL_13, mL_14, mL_15, mL_16, mL_23, mL_24, mL_32, mL_48, mL_64, mL_99, mL_100, mL_200, mL_336, mL_576, mL_768, mL_800, mL_999, mL_4095, mL_4096, mL_m1, nI_leI, nI_ltI, nI_eq, nI_clamp, nI_add, pk_mul, nI_nu, bI_eq0, bI_eq1, bo_ft, pu_of, pu_of24, pu_onward, pu_frq, if_true, if_false, true_or, or_true, false_or, or_false, and_true, true_and, and_false, false_and, not_true_eq_false, not_false_eq_true, if_neg, if_pos]
    · simp (disch := omega) only [pu_lt, pu_ck, pu_bI, pu_bV, pu_bR, pu_bL, pu_nt, pu_us, pu_un, mL_0, mL_1, mL_2, mL_3, mL_4, mL_5, mL_6, mL_7, mL_8, mL_9, mL_10, mL_11, mL_12, mL_13, mL_14, mL_15, mL_16, mL_23, mL_24, mL_32, mL_48, mL_64, mL_99, mL_100, mL_200, mL_336, mL_576, mL_768, mL_800, mL_999, mL_4095, mL_4096, mL_m1, nI_leI, nI_ltI, nI_eq, nI_clamp, nI_add, pk_mul, nI_nu, bI_eq0, bI_eq1, bo_ft, pu_of, pu_of24, pu_onward, pu_frq, if_true, if_false, true_or, or_true, false_or, or_false, and_true, true_and, and_false, false_and, not_true_eq_false, not_false_eq_true, if_neg, if_pos]
    · simp (disch := omega) only [pu_lt, pu_ck, pu_bI, pu_bV, pu_bR, pu_bL, pu_nt, pu_us, pu_un, mL_0, mL_1, mL_2, mL_3, mL_4, mL_5, mL_6, mL_7, mL_8, mL_9, mL_10, mL_11, mL_12, mL_13, mL_14, mL_15, mL_16, mL_23, mL_24, mL_32, mL_48, mL_64, mL_99, mL_100, mL_200, mL_336, mL_576, mL_768, mL_800, mL_999, mL_4095, mL_4096, mL_m1, nI_leI, nI_ltI, nI_eq, nI_clamp, nI_add, pk_mul, nI_nu, bI_eq0, bI_eq1, bo_ft, pu_of, pu_of24, pu_onward, pu_frq, if_true, if_false, true_or, or_true, false_or, or_false, and_true, true_and, and_false, false_and, not_true_eq_false, not_false_eq_true, if_neg, if_pos]
    · simp (disch := omega) only [pu_lt, pu_ck, pu_bI, pu_bV, pu_bR, pu_bL, pu_nt, pu_us, pu_un, mL_0, mL_1, mL_2, mL_3, mL_4, mL_5, mL_6, mL_7, mL_8, mL_9, mL_10, mL_11, mL_12, mL_13, mL_14, mL_15, mL_16, mL_23, mL_24, mL_32, mL_48, mL_64, mL_99, mL_100, mL_200, mL_336, mL_576, mL_768, mL_800, mL_999, mL_4095, mL_4096, mL_m1, nI_leI, nI_ltI, nI_eq, nI_clamp, nI_add, pk_mul, nI_nu, bI_eq0, bI_eq1, bo_ft, pu_of, pu_of24, pu_onward, pu_frq, if_true, if_false, true_or, or_true, false_or, or_false, and_true, true_and, and_false, false_and, not_true_eq_false, not_false_eq_true, if_neg, if_pos]
    · exact fr_u f5 (by unfold S_ps; omega)
  · rw [if_neg e, if_neg e] at hQ
    simp (disch := omega) only [pu_lt, pu_ck, pu_bI, pu_bV, pu_bR, pu_bL, pu_nt, pu_us, pu_un, mL_0, mL_1, mL_2, mL_3, mL_4, mL_5, mL_6, mL_7, mL_8, mL_9, mL_10, mL_11, mL_12, mL_13, mL_14, mL_15, mL_16, mL_23, mL_24, mL_32, mL_48, mL_64, mL_99, mL_100, mL_200, mL_336, mL_576, mL_768, mL_800, mL_999, mL_4095, mL_4096, mL_m1, nI_leI, nI_ltI, nI_eq, nI_clamp, nI_add, pk_mul, nI_nu, bI_eq0, bI_eq1, bo_ft, pu_of, pu_of24, pu_onward, pu_frq, if_true, if_false, true_or, or_true, false_or, or_false, and_true, true_and, and_false, false_and, not_true_eq_false, not_false_eq_true, if_neg, if_pos, F8_pass, f8_pass_49, rem, H3, H9, H13, sa, sm', ab]
    refine rs_ret (hQ _ ⟨?_, ?_, ?_, ?_, ⟨?_, ?_, ?_, ?_⟩, ?_⟩)
    · simp (disch := omega) only [pu_lt, pu_ck, pu_bI, pu_bV, pu_bR, pu_bL, pu_nt, pu_us, pu_un, mL_0, mL_1, mL_2, mL_3, mL_4, mL_5, mL_6, mL_7, mL_8, mL_9, mL_10, mL_11, mL_12, mL_13, mL_14, mL_15, mL_16, mL_23, mL_24, mL_32, mL_48, mL_64, mL_99, mL_100, mL_200, mL_336, mL_576, mL_768, mL_800, mL_999, mL_4095, mL_4096, mL_m1, nI_leI, nI_ltI, nI_eq, nI_clamp, nI_add, pk_mul, nI_nu, bI_eq0, bI_eq1, bo_ft, pu_of, pu_of24, pu_onward, pu_frq, if_true, if_false, true_or, or_true, false_or, or_false, and_true, true_and, and_false, false_and, not_true_eq_false, not_false_eq_true, if_neg, if_pos]
    · simp (disch := omega) only [pu_lt, pu_ck, pu_bI, pu_bV, pu_bR, pu_bL, pu_nt, pu_us, pu_un, mL_0, mL_1, mL_2, mL_3, mL_4, mL_5, mL_6, mL_7, mL_8, mL_9, mL_10, mL_11, mL_12, mL_13, mL_14, mL_15, mL_16, mL_23, mL_24, mL_32, mL_48, mL_64, mL_99, mL_100, mL_200, mL_336, mL_576, mL_768, mL_800, mL_999, mL_4095, mL_4096, mL_m1, nI_leI, nI_ltI, nI_eq, nI_clamp, nI_add, pk_mul, nI_nu, bI_eq0, bI_eq1, bo_ft, pu_of, pu_of24, pu_onward, pu_frq, if_true, if_false, true_or, or_true, false_or, or_false, and_true, true_and, and_false, false_and, not_true_eq_false, not_false_eq_true, if_neg, if_pos]
    · simp (disch := omega) only [pu_lt, pu_ck, pu_bI, pu_bV, pu_bR, pu_bL, pu_nt, pu_us, pu_un, mL_0, mL_1, mL_2, mL_3, mL_4, mL_5, mL_6, mL_7, mL_8, mL_9, mL_10, mL_11, mL_12, mL_13, mL_14, mL_15, mL_16, mL_23, mL_24, mL_32, mL_48, mL_64, mL_99, mL_100, mL_200, mL_336, mL_576, mL_768, mL_800, mL_999, mL_4095, mL_4096, mL_m1, nI_leI, nI_ltI, nI_eq, nI_clamp, nI_add, pk_mul, nI_nu, bI_eq0, bI_eq1, bo_ft, pu_of, pu_of24, pu_onward, pu_frq, if_true, if_false, true_or, or_true, false_or, or_false, and_true, true_and, and_false, false_and, not_true_eq_false, not_false_eq_true, if_neg, if_pos]
    · simp (disch := omega) only [pu_lt, pu_ck, pu_bI, pu_bV, pu_bR, pu_bL, pu_nt, pu_us, pu_un, mL_0, mL_1, mL_2, mL_3, mL_4, mL_5, mL_6, mL_7, mL_8, mL_9, mL_10, mL_11, mL_12, mL_13, mL_14, mL_15, mL_16, mL_23, mL_24, mL_32, mL_48, mL_64, mL_99, mL_100, mL_200, mL_336, mL_576, mL_768, mL_800, mL_999, mL_4095, mL_4096, mL_m1, nI_leI, nI_ltI, nI_eq, nI_clamp, nI_add, pk_mul, nI_nu, bI_eq0, bI_eq1, bo_ft, pu_of, pu_of24, pu_onward, pu_frq, if_true, if_false, true_or, or_true, false_or, or_false, and_true, true_and, and_false, false_and, not_true_eq_false, not_false_eq_true, if_neg, if_pos]
    · simp (disch := omega) only [pu_lt, pu_ck, pu_bI, pu_bV, pu_bR, pu_bL, pu_nt, pu_us, pu_un, mL_0, mL_1, mL_2, mL_3, mL_4, mL_5, mL_6, mL_7, mL_8, mL_9, mL_10, mL_11, mL_12, mL_13, mL_14, mL_15, mL_16, mL_23, mL_24, mL_32, mL_48, mL_64, mL_99, mL_100, mL_200, mL_336, mL_576, mL_768, mL_800, mL_999, mL_4095, mL_4096, mL_m1, nI_leI, nI_ltI, nI_eq, nI_clamp, nI_add, pk_mul, nI_nu, bI_eq0, bI_eq1, bo_ft, pu_of, pu_of24, pu_onward, pu_frq, if_true, if_false, true_or, or_true, false_or, or_false, and_true, true_and, and_false, false_and, not_true_eq_false, not_false_eq_true, if_neg, if_pos]
    · simp (disch := omega) only [pu_lt, pu_ck, pu_bI, pu_bV, pu_bR, pu_bL, pu_nt, pu_us, pu_un, mL_0, mL_1, mL_2, mL_3, mL_4, mL_5, mL_6, mL_7, mL_8, mL_9, mL_10, mL_11, mL_12, mL_13, mL_14, mL_15, mL_16, mL_23, mL_24, mL_32, mL_48, mL_64, mL_99, mL_100, mL_200, mL_336, mL_576, mL_768, mL_800, mL_999, mL_4095, mL_4096, mL_m1, nI_leI, nI_ltI, nI_eq, nI_clamp, nI_add, pk_mul, nI_nu, bI_eq0, bI_eq1, bo_ft, pu_of, pu_of24, pu_onward, pu_frq, if_true, if_false, true_or, or_true, false_or, or_false, and_true, true_and, and_false, false_and, not_true_eq_false, not_false_eq_true, if_neg, if_pos]
    · simp (disch := omega) only [pu_lt, pu_ck, pu_bI, pu_bV, pu_bR, pu_bL, pu_nt, pu_us, pu_un, mL_0, mL_1, mL_2, mL_3, mL_4, mL_5, mL_6, mL_7, mL_8, mL_9, mL_10, mL_11, mL_12, mL_13, mL_14, mL_15, mL_16, mL_23, mL_24, mL_32, mL_48, mL_64, mL_99, mL_100, mL_200, mL_336, mL_576, mL_768, mL_800, mL_999, mL_4095, mL_4096, mL_m1, nI_leI, nI_ltI, nI_eq, nI_clamp, nI_add, pk_mul, nI_nu, bI_eq0, bI_eq1, bo_ft, pu_of, pu_of24, pu_onward, pu_frq, if_true, if_false, true_or, or_true, false_or, or_false, and_true, true_and, and_false, false_and, not_true_eq_false, not_false_eq_true, if_neg, if_pos]
    · simp (disch := omega) only [pu_lt, pu_ck, pu_bI, pu_bV, pu_bR, pu_bL, pu_nt, pu_us, pu_un, mL_0, mL_1, mL_2, mL_3, mL_4, mL_5, mL_6, mL_7, mL_8, mL_9, mL_10, mL_11, mL_12, mL_13, mL_14, mL_15, mL_16, mL_23, mL_24, mL_32, mL_48, mL_64, mL_99, mL_100, mL_200, mL_336, mL_576, mL_768, mL_800, mL_999, mL_4095, mL_4096, mL_m1, nI_leI, nI_ltI, nI_eq, nI_clamp, nI_add, pk_mul, nI_nu, bI_eq0, bI_eq1, bo_ft, pu_of, pu_of24, pu_onward, pu_frq, if_true, if_false, true_or, or_true, false_or, or_false, and_true, true_and, and_false, false_and, not_true_eq_false, not_false_eq_true, if_neg, if_pos]
    · exact fr_u (fr_u (fr_u f5 (by unfold S_ps; omega)) (by unfold S_ps; omega)) (by unfold S_ps; omega)
/-- trip i0 on ring r, k steps on -/
def tp_I (t : sr_t) (i0 r : Nat) (s : rg_T) (key : Nat) (best : Bool) (n k : Nat) : Prop := tp_H t i0 r (lk_at s key best n k) key best ∧ (t.1 8 i0 4 = nI (lk_he s key best n k) ∧ t.1 8 i0 5 = nI (lk_le s key best n k) ∧ t.1 8 i0 8 = nI k) ∧ (t.1 8 i0 9 = nI (lk_hp s key best n k) ∧ t.1 8 i0 10 = nI (lk_kc s key best n 0 k) ∧ t.1 8 i0 11 = nI (lk_kc s key best n 1 k) ∧ t.1 8 i0 12 = nI (lk_kc s key best n 2 k) ∧ t.1 8 i0 13 = nI (lk_tm s key best n k)) ∧ (∀ j, j < k → t.1 14 i0 (4 * j) = nI (lk_at s key best n j) ∧ t.1 14 i0 (4 * j + 1) = nI (lk_he s key best n j) ∧ t.1 14 i0 (4 * j + 2) = nI (lk_le s key best n j) ∧ t.1 14 i0 (4 * j + 3) = nI (lk_ki s key best n j))
/-- what a step makes of the counts -/
theorem tp_next {t0 t1 : sr_t} {i0 r : Nat} {s : rg_T} {key : Nat} {best : Bool} {n k a m h l c h' l' : Nat} (I : tp_I t0 i0 r s key best n k) (ea : lk_at s key best n k = a) (eh : lk_he s key best n k = h) (el : lk_le s key best n k = l) (es : lk s key best n (k + 1) = (c, m, h', l')) (H0 : t1.1 8 i0 0 = nI r) (H1 : t1.1 8 i0 1 = nI key) (H2 : t1.1 8 i0 2 = bI best) (H3 : t1.1 8 i0 3 = nI (25 * r + m)) (H4 : t1.1 8 i0 4 = nI h') (H5 : t1.1 8 i0 5 = nI l') (H8 : t1.1 8 i0 8 = nI (k + 1)) (H9 : t1.1 8 i0 9 = nI (lk_hp s key best n k + if a = m then 0 else 1)) (H10 : t1.1 8 i0 10 = nI (lk_kc s key best n 0 k + if c = 0 then 1 else 0)) (H11 : t1.1 8 i0 11 = nI (lk_kc s key best n 1 k + if c = 1 then 1 else 0)) (H12 : t1.1 8 i0 12 = nI (lk_kc s key best n 2 k + if c = 2 then 1 else 0)) (H13 : t1.1 8 i0 13 = nI (lk_tm s key best n k + if a = m then 0 else 1 + ad (rg_s s a) (rg_s s m))) (Hr : t1.1 14 i0 (4 * k) = nI a ∧ t1.1 14 i0 (4 * k + 1) = nI h ∧ t1.1 14 i0 (4 * k + 2) = nI l ∧ t1.1 14 i0 (4 * k + 3) = nI c) (Ho : ∀ j, j < 4 * k → t1.1 14 i0 j = t0.1 14 i0 j) : tp_I t1 i0 r s key best n (k + 1) := by
  have em : lk_at s key best n (k + 1) = m := by unfold lk_at; rw [es]
  have eh' : lk_he s key best n (k + 1) = h' := by unfold lk_he; rw [es]
  have el' : lk_le s key best n (k + 1) = l' := by unfold lk_le; rw [es]
  have ec : lk_ki s key best n k = c := by unfold lk_ki; rw [es]
  obtain ⟨_, _, _, Ir⟩ := I
  refine ⟨⟨H0, H1, H2, by rw [em]; exact H3⟩, ⟨by rw [eh']; exact H4, by rw [el']; exact H5, H8⟩, ⟨?_, ?_, ?_, ?_, ?_⟩, fun j hj => ?_⟩
  · rw [H9]
    congr 1
    show _ = rg_cu _ k + (if (lk_at s key best n k != lk_at s key best n (k + 1)) = true then 1 else 0)
    rw [ea, em]
    show rg_cu _ k + _ = _
    by_cases e : a = m
    · rw [if_pos e, if_neg (by simp [e])]
    · rw [if_neg e, if_pos (by simp [e])]
  · rw [H10]
    congr 1
    show _ = rg_cu _ k + (if (lk_ki s key best n k == 0) = true then 1 else 0)
    rw [ec]
    show rg_cu _ k + _ = _
    simp
  · rw [H11]
    congr 1
    show _ = rg_cu _ k + (if (lk_ki s key best n k == 1) = true then 1 else 0)
    rw [ec]
    show rg_cu _ k + _ = _
    simp
  · rw [H12]
    congr 1
    show _ = rg_cu _ k + (if (lk_ki s key best n k == 2) = true then 1 else 0)
    rw [ec]
    show rg_cu _ k + _ = _
    simp
  · rw [H13]
    congr 1
    show _ = sm _ k + (if lk_at s key best n k = lk_at s key best n (k + 1) then 0 else 1 + ad (rg_s s (lk_at s key best n k)) (rg_s s (lk_at s key best n (k + 1))))
    rw [ea, em]
    rfl
  · by_cases e : j = k
    · rw [e, ea, eh, el, ec]; exact Hr
    · have := Ir j (by omega)
      rw [Ho _ (by omega), Ho _ (by omega), Ho _ (by omega), Ho _ (by omega)]
      exact this
end
