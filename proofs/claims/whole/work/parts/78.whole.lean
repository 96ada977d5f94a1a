section
/-! a trip of the class, from its start to its end -/
set_option maxHeartbeats 2000000 in
theorem pu_setOut {t : sr_t} {s : rg_T} {i0 r key n : Nat} {best : Bool} (C : rg_C t r s) (K : rg_K t r s) (O : rg_ok s) (hr : r < 2) (hn : n < rg_N s) (hu : rg_u s n = true) (hkey : key < 4096) : ∃ t', F8_setOut i0 r (25 * r + n) (nI key) (bI best) t = some (.inl none, t') ∧ tp_I t' i0 r s key best n 0 ∧ t'.1 8 i0 6 = -(nI 4) ∧ t'.1 8 i0 14 = nI (12 / rg_b s - lk_le s key best n 0) ∧ t'.1 4 (104 + i0) 1 = nI 0 ∧ fr (S_tp i0) t t' := by
  have hN := O.1.1
  have f12 : fr (S_tp i0) t (sr_u (sr_u (sr_u (sr_u (sr_u (sr_u (sr_u (sr_u (sr_u (sr_u (sr_u (sr_u t 8 i0 0 (nI r)) 8 i0 3 (nI (25 * r + n))) 8 i0 1 (nI key)) 8 i0 2 (bI best)) 8 i0 6 (-(nI 4))) 8 i0 8 (nI 0)) 8 i0 9 (nI 0)) 8 i0 10 (nI 0)) 8 i0 11 (nI 0)) 8 i0 12 (nI 0)) 8 i0 13 (nI 0)) 4 (104 + i0) 1 (nI 0)) := by
    refine fr_u (fr_u (fr_u (fr_u (fr_u (fr_u (fr_u (fr_u (fr_u (fr_u (fr_u (fr_u fr_rfl ?_) ?_) ?_) ?_) ?_) ?_) ?_) ?_) ?_) ?_) ?_) ?_ <;> (unfold S_tp; omega)
  obtain ⟨T, hT⟩ : ∃ T, T = (sr_u (sr_u (sr_u (sr_u (sr_u (sr_u (sr_u (sr_u (sr_u (sr_u (sr_u (sr_u t 8 i0 0 (nI r)) 8 i0 3 (nI (25 * r + n))) 8 i0 1 (nI key)) 8 i0 2 (bI best)) 8 i0 6 (-(nI 4))) 8 i0 8 (nI 0)) 8 i0 9 (nI 0)) 8 i0 10 (nI 0)) 8 i0 11 (nI 0)) 8 i0 12 (nI 0)) 8 i0 13 (nI 0)) 4 (104 + i0) 1 (nI 0)) := ⟨_, rfl⟩
  rw [← hT] at f12
  have C1 := rg_C_fr hN f12 (fun k i j q => by unfold Fp_C at q; unfold S_tp; omega) C
  have K1 := rg_K_fr hN f12 (fun k i j q => by unfold Fp_K at q; unfold S_tp; omega) K
  have a0 : T.1 8 i0 0 = nI r := by rw [hT]; simp (disch := omega) only [pu_lt, pu_ck, pu_bI, pu_bV, pu_bR, pu_bL, pu_nt, pu_us, pu_un, mL_0, mL_1, mL_2, mL_3, mL_4, mL_5, mL_6, mL_7, mL_8, mL_9, mL_10, mL_11, mL_12, mL_13, mL_14, mL_15, mL_16, mL_23, mL_24, mL_32, mL_48, mL_64, mL_99, mL_100, mL_200, mL_336, mL_576, mL_768, mL_800, mL_999, mL_4095, mL_4096, mL_m1, nI_leI, nI_ltI, nI_eq, nI_clamp, nI_add, pk_mul, nI_nu, bI_eq0, bI_eq1, bo_ft, pu_of, pu_of24, pu_onward, pu_frq, if_true, if_false, true_or, or_true, false_or, or_false, and_true, true_and, and_false, false_and, not_true_eq_false, not_false_eq_true, if_neg, if_pos]
  have a1 : T.1 8 i0 1 = nI key := by rw [hT]; simp (disch := omega) only [pu_lt, pu_ck, pu_bI, pu_bV, pu_bR, pu_bL, pu_nt, pu_us, pu_un, mL_0, mL_1, mL_2, mL_3, mL_4, mL_5, mL_6, mL_7, mL_8, mL_9, mL_10, mL_11, mL_12, mL_13, mL_14, mL_15, mL_16, mL_23, mL_24, mL_32, mL_48, mL_64, mL_99, mL_100, mL_200, mL_336, mL_576, mL_768, mL_800, mL_999, mL_4095, mL_4096, mL_m1, nI_leI, nI_ltI, nI_eq, nI_clamp, nI_add, pk_mul, nI_nu, bI_eq0, bI_eq1, bo_ft, pu_of, pu_of24, pu_onward, pu_frq, if_true, if_false, true_or, or_true, false_or, or_false, and_true, true_and, and_false, false_and, not_true_eq_false, not_false_eq_true, if_neg, if_pos]
  have a2 : T.1 8 i0 2 = bI best := by rw [hT]; simp (disch := omega) only [pu_lt, pu_ck, pu_bI, pu_bV, pu_bR, pu_bL, pu_nt, pu_us, pu_un, mL_0, mL_1, mL_2, mL_3, mL_4, mL_5, mL_6, mL_7, mL_8, mL_9, mL_10, mL_11, mL_12, mL_13, mL_14, mL_15, mL_16, mL_23, mL_24, mL_32, mL_48, mL_64, mL_99, mL_100, mL_200, mL_336, mL_576, mL_768, mL_800, mL_999, mL_4095, mL_4096, mL_m1, nI_leI, nI_ltI, nI_eq, nI_clamp, nI_add, pk_mul, nI_nu, bI_eq0, bI_eq1, bo_ft, pu_of, pu_of24, pu_onward, pu_frq, if_true, if_false, true_or, or_true, false_or, or_false, and_true, true_and, and_false, false_and, not_true_eq_false, not_false_eq_true, if_neg, if_pos]
  have a3 : T.1 8 i0 3 = nI (25 * r + n) := by rw [hT]; simp (disch := omega) only [pu_lt, pu_ck, pu_bI, pu_bV, pu_bR, pu_bL, pu_nt, pu_us, pu_un, mL_0, mL_1, mL_2, mL_3, mL_4, mL_5, mL_6, mL_7, mL_8, mL_9, mL_10, mL_11, mL_12, mL_13, mL_14, mL_15, mL_16, mL_23, mL_24, mL_32, mL_48, mL_64, mL_99, mL_100, mL_200, mL_336, mL_576, mL_768, mL_800, mL_999, mL_4095, mL_4096, mL_m1, nI_leI, nI_ltI, nI_eq, nI_clamp, nI_add, pk_mul, nI_nu, bI_eq0, bI_eq1, bo_ft, pu_of, pu_of24, pu_onward, pu_frq, if_true, if_false, true_or, or_true, false_or, or_false, and_true, true_and, and_false, false_and, not_true_eq_false, not_false_eq_true, if_neg, if_pos]
  have a6 : T.1 8 i0 6 = -(nI 4) := by rw [hT]; simp (disch := omega) only [pu_lt, pu_ck, pu_bI, pu_bV, pu_bR, pu_bL, pu_nt, pu_us, pu_un, mL_0, mL_1, mL_2, mL_3, mL_4, mL_5, mL_6, mL_7, mL_8, mL_9, mL_10, mL_11, mL_12, mL_13, mL_14, mL_15, mL_16, mL_23, mL_24, mL_32, mL_48, mL_64, mL_99, mL_100, mL_200, mL_336, mL_576, mL_768, mL_800, mL_999, mL_4095, mL_4096, mL_m1, nI_leI, nI_ltI, nI_eq, nI_clamp, nI_add, pk_mul, nI_nu, bI_eq0, bI_eq1, bo_ft, pu_of, pu_of24, pu_onward, pu_frq, if_true, if_false, true_or, or_true, false_or, or_false, and_true, true_and, and_false, false_and, not_true_eq_false, not_false_eq_true, if_neg, if_pos]
  have a8 : T.1 8 i0 8 = nI 0 := by rw [hT]; simp (disch := omega) only [pu_lt, pu_ck, pu_bI, pu_bV, pu_bR, pu_bL, pu_nt, pu_us, pu_un, mL_0, mL_1, mL_2, mL_3, mL_4, mL_5, mL_6, mL_7, mL_8, mL_9, mL_10, mL_11, mL_12, mL_13, mL_14, mL_15, mL_16, mL_23, mL_24, mL_32, mL_48, mL_64, mL_99, mL_100, mL_200, mL_336, mL_576, mL_768, mL_800, mL_999, mL_4095, mL_4096, mL_m1, nI_leI, nI_ltI, nI_eq, nI_clamp, nI_add, pk_mul, nI_nu, bI_eq0, bI_eq1, bo_ft, pu_of, pu_of24, pu_onward, pu_frq, if_true, if_false, true_or, or_true, false_or, or_false, and_true, true_and, and_false, false_and, not_true_eq_false, not_false_eq_true, if_neg, if_pos]
  have a9 : T.1 8 i0 9 = nI 0 := by rw [hT]; simp (disch := omega) only [pu_lt, pu_ck, pu_bI, pu_bV, pu_bR, pu_bL, pu_nt, pu_us, pu_un, mL_0, mL_1, mL_2, mL_3, mL_4, mL_5, mL_6, mL_7, mL_8, mL_9, mL_10, mL_11, mL_12, mL_13, mL_14, mL_15, mL_16, mL_23, mL_24, mL_32, mL_48, mL_64, mL_99, mL_100, mL_200, mL_336, mL_576, mL_768, mL_800, mL_999, mL_4095, mL_4096, mL_m1, nI_leI, nI_ltI, nI_eq, nI_clamp, nI_add, pk_mul, nI_nu, bI_eq0, bI_eq1, bo_ft, pu_of, pu_of24, pu_onward, pu_frq, if_true, if_false, true_or, or_true, false_or, or_false, and_true, true_and, and_false, false_and, not_true_eq_false, not_false_eq_true, if_neg, if_pos]
  have a10 : T.1 8 i0 10 = nI 0 := by rw [hT]; simp (disch := omega) only [pu_lt, pu_ck, pu_bI, pu_bV, pu_bR, pu_bL, pu_nt, pu_us, pu_un, mL_0, mL_1, mL_2, mL_3, mL_4, mL_5, mL_6, mL_7, mL_8, mL_9, mL_10, mL_11, mL_12, mL_13, mL_14, mL_15, mL_16, mL_23, mL_24, mL_32, mL_48, mL_64, mL_99, mL_100, mL_200, mL_336, mL_576, mL_768, mL_800, mL_999, mL_4095, mL_4096, mL_m1, nI_leI, nI_ltI, nI_eq, nI_clamp, nI_add, pk_mul, nI_nu, bI_eq0, bI_eq1, bo_ft, pu_of, pu_of24, pu_onward, pu_frq, if_true, if_false, true_or, or_true, false_or, or_false, and_true, true_and, and_false, false_and, not_true_eq_false, not_false_eq_true, if_neg, if_pos]
  have a11 : T.1 8 i0 11 = nI 0 := by rw [hT]; simp (disch := omega) only [pu_lt, pu_ck, pu_bI, pu_bV, pu_bR, pu_bL, pu_nt, pu_us, pu_un, mL_0, mL_1, mL_2, mL_3, mL_4, mL_5, mL_6, mL_7, mL_8, mL_9, mL_10, mL_11, mL_12, mL_13, mL_14, mL_15, mL_16, mL_23, mL_24, mL_32, mL_48, mL_64, mL_99, mL_100, mL_200, mL_336, mL_576, mL_768, mL_800, mL_999, mL_4095, mL_4096, mL_m1, nI_leI, nI_ltI, nI_eq, nI_clamp, nI_add, pk_mul, nI_nu, bI_eq0, bI_eq1, bo_ft, pu_of, pu_of24, pu_onward, pu_frq, if_true, if_false, true_or, or_true, false_or, or_false, and_true, true_and, and_false, false_and, not_true_eq_false, not_false_eq_true, if_neg, if_pos]
  have a12 : T.1 8 i0 12 = nI 0 := by rw [hT]; simp (disch := omega) only [pu_lt, pu_ck, pu_bI, pu_bV, pu_bR, pu_bL, pu_nt, pu_us, pu_un, mL_0, mL_1, mL_2, mL_3, mL_4, mL_5, mL_6, mL_7, mL_8, mL_9, mL_10, mL_11, mL_12, mL_13, mL_14, mL_15, mL_16, mL_23, mL_24, mL_32, mL_48, mL_64, mL_99, mL_100, mL_200, mL_336, mL_576, mL_768, mL_800, mL_999, mL_4095, mL_4096, mL_m1, nI_leI, nI_ltI, nI_eq, nI_clamp, nI_add, pk_mul, nI_nu, bI_eq0, bI_eq1, bo_ft, pu_of, pu_of24, pu_onward, pu_frq, if_true, if_false, true_or, or_true, false_or, or_false, and_true, true_and, and_false, false_and, not_true_eq_false, not_false_eq_true, if_neg, if_pos]
  have a13 : T.1 8 i0 13 = nI 0 := by rw [hT]; simp (disch := omega) only [pu_lt, pu_ck, pu_bI, pu_bV, pu_bR, pu_bL, pu_nt, pu_us, pu_un, mL_0, mL_1, mL_2, mL_3, mL_4, mL_5, mL_6, mL_7, mL_8, mL_9, mL_10, mL_11, mL_12, mL_13, mL_14, mL_15, mL_16, mL_23, mL_24, mL_32, mL_48, mL_64, mL_99, mL_100, mL_200, mL_336, mL_576, mL_768, mL_800, mL_999, mL_4095, mL_4096, mL_m1, nI_leI, nI_ltI, nI_eq, nI_clamp, nI_add, pk_mul, nI_nu, bI_eq0, bI_eq1, bo_ft, pu_of, pu_of24, pu_onward, pu_frq, if_true, if_false, true_or, or_true, false_or, or_false, and_true, true_and, and_false, false_and, not_true_eq_false, not_false_eq_true, if_neg, if_pos]
  have ar : T.1 4 (104 + i0) 1 = nI 0 := by rw [hT]; simp (disch := omega) only [pu_lt, pu_ck, pu_bI, pu_bV, pu_bR, pu_bL, pu_nt, pu_us, pu_un, mL_0, mL_1, mL_2, mL_3, mL_4, mL_5, mL_6, mL_7, mL_8, mL_9, mL_10, mL_11, mL_12, mL_13, mL_14, mL_15, mL_16, mL_23, mL_24, mL_32, mL_48, mL_64, mL_99, mL_100, mL_200, mL_336, mL_576, mL_768, mL_800, mL_999, mL_4095, mL_4096, mL_m1, nI_leI, nI_ltI, nI_eq, nI_clamp, nI_add, pk_mul, nI_nu, bI_eq0, bI_eq1, bo_ft, pu_of, pu_of24, pu_onward, pu_frq, if_true, if_false, true_or, or_true, false_or, or_false, and_true, true_and, and_false, false_and, not_true_eq_false, not_false_eq_true, if_neg, if_pos]
  obtain ⟨t3, e3, q4, q5, qf⟩ := pu_startC (i0 := i0) (best := best) C1 K1 O hr hn hu hkey ⟨a0, a1, a2, a3⟩
  have l7 : t3.1 3 r 7 = nI (12 / rg_b s) := by rw [qf.2 _ _ _ (by unfold S_st; omega)]; exact C1.1.1.2.2.2.1
  have b0 : t3.1 8 i0 0 = nI r := by rw [qf.2 _ _ _ (by unfold S_st; omega)]; exact a0
  have hl := (rg_sta_lt (key := key) (best := best) O.1 hn).2
  rw [hT] at e3
  refine rs_via fun Q hQ => ?_
  simp (disch := omega) only [pu_lt, pu_ck, pu_bI, pu_bV, pu_bR, pu_bL, pu_nt, pu_us, pu_un, mL_0, mL_1, mL_2, mL_3, mL_4, mL_5, mL_6, mL_7, mL_8, mL_9, mL_10, mL_11, mL_12, mL_13, mL_14, mL_15, mL_16, mL_23, mL_24, mL_32, mL_48, mL_64, mL_99, mL_100, mL_200, mL_336, mL_576, mL_768, mL_800, mL_999, mL_4095, mL_4096, mL_m1, nI_leI, nI_ltI, nI_eq, nI_clamp, nI_add, pk_mul, nI_nu, bI_eq0, bI_eq1, bo_ft, pu_of, pu_of24, pu_onward, pu_frq, if_true, if_false, true_or, or_true, false_or, or_false, and_true, true_and, and_false, false_and, not_true_eq_false, not_false_eq_true, if_neg, if_pos, F8_setOut, F4_empty, bI_01', e3, b0, l7, q5, pk_sub]
  refine rs_ret (hQ _ ⟨⟨⟨?_, ?_, ?_, ?_⟩, ⟨?_, ?_, ?_⟩, ⟨?_, ?_, ?_, ?_, ?_⟩, fun j hj => by omega⟩, ?_, ?_, ?_, ?_⟩)
  · rw [pu_un (by omega)]; exact b0
  · rw [pu_un (by omega), qf.2 _ _ _ (by unfold S_st; omega)]; exact a1
  · rw [pu_un (by omega), qf.2 _ _ _ (by unfold S_st; omega)]; exact a2
  · rw [pu_un (by omega), qf.2 _ _ _ (by unfold S_st; omega)]; exact a3
  · rw [pu_un (by omega)]; exact q4
  · rw [pu_un (by omega)]; exact q5
  · rw [pu_un (by omega), qf.2 _ _ _ (by unfold S_st; omega)]; exact a8
  · rw [pu_un (by omega), qf.2 _ _ _ (by unfold S_st; omega)]; exact a9
  · rw [pu_un (by omega), qf.2 _ _ _ (by unfold S_st; omega)]; exact a10
  · rw [pu_un (by omega), qf.2 _ _ _ (by unfold S_st; omega)]; exact a11
  · rw [pu_un (by omega), qf.2 _ _ _ (by unfold S_st; omega)]; exact a12
  · rw [pu_un (by omega), qf.2 _ _ _ (by unfold S_st; omega)]; exact a13
  · rw [pu_un (by omega), qf.2 _ _ _ (by unfold S_st; omega)]; exact a6
  · rw [pu_us]; rfl
  · rw [pu_un (by omega), qf.2 _ _ _ (by unfold S_st; omega)]; exact ar
  · exact fr_u (fr_trans f12 (fr_mono qf (fun k i j q => by unfold S_st at q; unfold S_tp; omega))) (by unfold S_tp; omega)
/-- why a lookup was cut: the node, then its successors, the last first -/
def rg_wy (s : rg_T) (a j : Nat) : Nat := if j = 0 then a else rg_t s a (2 + (rg_t s a 1 - j))
theorem pu_remWhy {t : sr_t} {s : rg_T} {i0 r a : Nat} (C : rg_C t r s) (O : rg_ok s) (hr : r < 2) (hi : i0 < 3) (ha : a < rg_N s) (H3 : t.1 8 i0 3 = nI (25 * r + a)) (Hr : t.1 4 (104 + i0) 1 = nI 0) : ∃ t', F8_rememberWhy i0 t = some (.inl none, t') ∧ rg_row t' (104 + i0) (1 + rg_t s a 1) (rg_wy s a) ∧ fr (S_row (104 + i0)) t t' := by
  have hN := O.1.1
  obtain ⟨o0, o1, o2, o3, o4, o5⟩ := O.2 a ha
  have num := C.1.2.1.1 a (by omega)
  rw [nu_lt (by omega)] at num
  have ad := pu_add (v := nI a) Hr (by omega)
  have f1 : fr (S_row (104 + i0)) t (sr_u (sr_u t 12 (104 + i0) 0 (nI a)) 4 (104 + i0) 1 (nI (0 + 1))) := fr_u (fr_u fr_rfl (by unfold S_row; omega)) (by unfold S_row; omega)
  have h1 : t.1 4 (2 * (25 * r + a)) 1 = nI (rg_t s a 1) := (C.2 a ha).2.1.1
  refine rs_via fun Q hQ => ?_
  simp (disch := omega) only [pu_lt, pu_ck, pu_bI, pu_bV, pu_bR, pu_bL, pu_nt, pu_us, pu_un, mL_0, mL_1, mL_2, mL_3, mL_4, mL_5, mL_6, mL_7, mL_8, mL_9, mL_10, mL_11, mL_12, mL_13, mL_14, mL_15, mL_16, mL_23, mL_24, mL_32, mL_48, mL_64, mL_99, mL_100, mL_200, mL_336, mL_576, mL_768, mL_800, mL_999, mL_4095, mL_4096, mL_m1, nI_leI, nI_ltI, nI_eq, nI_clamp, nI_add, pk_mul, nI_nu, bI_eq0, bI_eq1, bo_ft, pu_of, pu_of24, pu_onward, pu_frq, if_true, if_false, true_or, or_true, false_or, or_false, and_true, true_and, and_false, false_and, not_true_eq_false, not_false_eq_true, if_neg, if_pos, F8_rememberWhy, H3, num, ad, h1]
  refine rs_loop (N := rg_t s a 1) (L := fun f n t' => f8_rememberWhy_32 i0 (f8_rememberWhy_54 i0) f (2 * (25 * r + a)) (ix (rg_t s a 1 - n)) t') (fun n t' => rg_row t' (104 + i0) (1 + n) (rg_wy s a) ∧ fr (S_row (104 + i0)) t t') ?_ ?_ (by unfold sr_fu; omega) ⟨⟨?_, fun k hk => ?_⟩, f1⟩
  · rintro n g t' hn ⟨⟨p1, p2⟩, p3⟩
    obtain ⟨c, hc⟩ : ∃ c, rg_t s a 1 - n = c + 1 := ⟨rg_t s a 1 - n - 1, by omega⟩
    have Rw : rg_row t' (2 * (25 * r + a)) (rg_t s a 1) (fun k => rg_t s a (2 + k)) := rg_row_fr (p3.2 _ _ _ (by unfold S_row; omega)) (fun x => p3.2 _ _ _ (by unfold S_row; omega)) (C.2 a ha).2.1
    have hat := pu_at Rw (by omega) (show c < rg_t s a 1 by omega)
    have ad := pu_add (v := nI (rg_t s a (2 + c))) p1 (by omega)
    left
    refine ⟨sr_u (sr_u t' 12 (104 + i0) (1 + n) (nI (rg_t s a (2 + c)))) 4 (104 + i0) 1 (nI (1 + n + 1)), ⟨⟨pu_us, fun k hk => ?_⟩, fr_u (fr_u p3 (by unfold S_row; omega)) (by unfold S_row; omega)⟩, ?_⟩
    · rw [pu_un (by omega)]
      by_cases e : k = 1 + n
      · rw [e, pu_us]
        unfold rg_wy
        rw [if_neg (by omega), show rg_t s a 1 - (1 + n) = c by omega]
      · rw [pu_un (by omega)]; exact p2 k (by omega)
    · show f8_rememberWhy_32 i0 (f8_rememberWhy_54 i0) (g + 1) (2 * (25 * r + a)) (ix (rg_t s a 1 - n)) t' = f8_rememberWhy_32 i0 (f8_rememberWhy_54 i0) g (2 * (25 * r + a)) (ix (rg_t s a 1 - (n + 1))) _
      rw [hc, ix_s, show rg_t s a 1 - (n + 1) = c by omega, ← ix_d]
      simp (disch := omega) only [pu_lt, pu_ck, pu_bI, pu_bV, pu_bR, pu_bL, pu_nt, pu_us, pu_un, mL_0, mL_1, mL_2, mL_3, mL_4, mL_5, mL_6, mL_7, mL_8, mL_9, mL_10, mL_11, mL_12, mL_13, mL_14, mL_15, mL_16, mL_23, mL_24, mL_32, mL_48, mL_64, mL_99, mL_100, mL_200, mL_336, mL_576, mL_768, mL_800, mL_999, mL_4095, mL_4096, mL_m1, nI_leI, nI_ltI, nI_eq, nI_clamp, nI_add, pk_mul, nI_nu, bI_eq0, bI_eq1, bo_ft, pu_of, pu_of24, pu_onward, pu_frq, if_true, if_false, true_or, or_true, false_or, or_false, and_true, true_and, and_false, false_and, not_true_eq_false, not_false_eq_true, if_neg, if_pos, f8_rememberWhy_32, hat, ad]
  · rintro g t' ⟨p1, p3⟩
    show rs_to _ (f8_rememberWhy_32 i0 (f8_rememberWhy_54 i0) (g + 1) (2 * (25 * r + a)) (ix (rg_t s a 1 - rg_t s a 1)) t')
    rw [Nat.sub_self, ix_0]
    simp (disch := omega) only [pu_lt, pu_ck, pu_bI, pu_bV, pu_bR, pu_bL, pu_nt, pu_us, pu_un, mL_0, mL_1, mL_2, mL_3, mL_4, mL_5, mL_6, mL_7, mL_8, mL_9, mL_10, mL_11, mL_12, mL_13, mL_14, mL_15, mL_16, mL_23, mL_24, mL_32, mL_48, mL_64, mL_99, mL_100, mL_200, mL_336, mL_576, mL_768, mL_800, mL_999, mL_4095, mL_4096, mL_m1, nI_leI, nI_ltI, nI_eq, nI_clamp, nI_add, pk_mul, nI_nu, bI_eq0, bI_eq1, bo_ft, pu_of, pu_of24, pu_onward, pu_frq, if_true, if_false, true_or, or_true, false_or, or_false, and_true, true_and, and_false, false_and, not_true_eq_false, not_false_eq_true, if_neg, if_pos, f8_rememberWhy_32, f8_rememberWhy_54, nu24_neg]
    exact rs_ret (hQ _ ⟨p1, p3⟩)
  · rw [pu_us]
  · rw [show k = 0 by omega, pu_un (by omega), pu_us]
    rfl
theorem pu_ofc {t : sr_t} {r c : Nat} (h : c < 24 ∨ c = 26 ∨ c = 27) : F3_of r (cI c) t = some (.inl (some (sr_r 2 (25 * r + if c < 24 then c else 24))), t) := by
  rcases h with h | rfl | rfl
  · rw [cI_lt h, if_pos h]; exact pu_of h
  · rfl
  · rfl
def lk_wm (s : rg_T) (key : Nat) (best : Bool) (n : Nat) : Nat := if lk_e s key best n = 26 then 1 + rg_t s (lk_at s key best n (lk_n s key best n)) 1 else 0
theorem tp_I_fr {S : Nat → Nat → Nat → Prop} {t t' : sr_t} {i0 r key n k : Nat} {s : rg_T} {best : Bool} (h : fr S t t') (hs : ∀ x i j, (x = 8 ∧ i = i0 ∧ j ≠ 6 ∧ j ≠ 7 ∧ j ≠ 14) ∨ (x = 14 ∧ i = i0) → ¬ S x i j) (I : tp_I t i0 r s key best n k) : tp_I t' i0 r s key best n k := by
  have g : ∀ x i j, (x = 8 ∧ i = i0 ∧ j ≠ 6 ∧ j ≠ 7 ∧ j ≠ 14) ∨ (x = 14 ∧ i = i0) → t'.1 x i j = t.1 x i j := fun x i j q => h.2 x i j (hs x i j q)
  obtain ⟨⟨H0, H1, H2, H3⟩, ⟨H4, H5, H8⟩, ⟨H9, H10, H11, H12, H13⟩, Hr⟩ := I
  refine ⟨⟨?_, ?_, ?_, ?_⟩, ⟨?_, ?_, ?_⟩, ⟨?_, ?_, ?_, ?_, ?_⟩, fun j hj => ?_⟩
  · rw [g _ _ _ (by omega)]; exact H0
  · rw [g _ _ _ (by omega)]; exact H1
  · rw [g _ _ _ (by omega)]; exact H2
  · rw [g _ _ _ (by omega)]; exact H3
  · rw [g _ _ _ (by omega)]; exact H4
  · rw [g _ _ _ (by omega)]; exact H5
  · rw [g _ _ _ (by omega)]; exact H8
  · rw [g _ _ _ (by omega)]; exact H9
  · rw [g _ _ _ (by omega)]; exact H10
  · rw [g _ _ _ (by omega)]; exact H11
  · rw [g _ _ _ (by omega)]; exact H12
  · rw [g _ _ _ (by omega)]; exact H13
  · rw [g _ _ _ (by omega), g _ _ _ (by omega), g _ _ _ (by omega), g _ _ _ (by omega)]; exact Hr j hj
/-- all that a trip leaves -/
def tp_D (t : sr_t) (i0 r : Nat) (s : rg_T) (key : Nat) (best : Bool) (n : Nat) : Prop := tp_I t i0 r s key best n (lk_n s key best n) ∧ t.1 8 i0 7 = bI (lk_r s key best n) ∧ t.1 8 i0 14 = nI (12 / rg_b s - lk_le s key best n 0) ∧ rg_row t (104 + i0) (lk_wm s key best n) (rg_wy s (lk_at s key best n (lk_n s key best n)))
set_option maxHeartbeats 2000000 in
theorem pu_travel {t : sr_t} {s : rg_T} {i0 r key n : Nat} {best : Bool} (C : rg_C t r s) (K : rg_K t r s) (O : rg_ok s) (hr : r < 2) (hi : i0 < 3) (hn : n < rg_N s) (hu : rg_u s n = true) (hkey : key < 4096) : ∃ t', F8_travel i0 r (25 * r + n) (nI key) (bI best) t = some (.inl (some (sr_i (cI (lk_e s key best n)))), t') ∧ tp_D t' i0 r s key best n ∧ fr (S_tp i0) t t' := by
  have hN := O.1.1
  obtain ⟨t1, e1, I1, z1, z2, z3, f1⟩ := pu_setOut (i0 := i0) (best := best) C K O hr hn hu hkey
  have k200 := lk_n_le (s := s) (key := key) (n := n) (best := best)
  have oe := lk_ok (key := key) (best := best) O hn hu (lk_n s key best n) (Nat.le_refl _)
  have ec := lk_c_cases (key := key) O oe.1
  have ec' : lk_e s key best n < 24 ∨ lk_e s key best n = 26 ∨ lk_e s key best n = 27 := by
    rcases ec with h | h | h
    · exact Or.inl h.2
    · exact Or.inr (Or.inl h)
    · exact Or.inr (Or.inr h)
  refine rs_via fun Q hQ => ?_
  simp (disch := omega) only [pu_lt, pu_ck, pu_bI, pu_bV, pu_bR, pu_bL, pu_nt, pu_us, pu_un, mL_0, mL_1, mL_2, mL_3, mL_4, mL_5, mL_6, mL_7, mL_8, mL_9, mL_10, mL_11, mL_12, mL_13, mL_14, mL_15, mL_16, mL_23, mL_24, mL_32, mL_48, mL_64, mL_99, mL_100, mL_200, mL_336, mL_576, mL_768, mL_800, mL_999, mL_4095, mL_4096, mL_m1, nI_leI, nI_ltI, nI_eq, nI_clamp, nI_add, pk_mul, nI_nu, bI_eq0, bI_eq1, bo_ft, pu_of, pu_of24, pu_onward, pu_frq, if_true, if_false, true_or, or_true, false_or, or_false, and_true, true_and, and_false, false_and, not_true_eq_false, not_false_eq_true, if_neg, if_pos, F8_travel, e1]
  have cf : ∀ x i j, Fp_C r x i j → ¬ S_tp i0 x i j := fun x i j q => by unfold Fp_C at q; unfold S_tp; omega
  have kf : ∀ x i j, Fp_K r x i j → ¬ S_tp i0 x i j := fun x i j q => by unfold Fp_K at q; unfold S_tp; omega
  refine rs_loop (N := lk_n s key best n + 1) (L := fun f k t' => f8_travel_12 i0 r (25 * r + n) (nI key) (bI best) (f8_travel_56 i0 r (25 * r + n) (nI key) (bI best)) f (nI k) t') (fun k t' => (k ≤ lk_n s key best n → tp_I t' i0 r s key best n k ∧ t'.1 8 i0 6 = -(nI 4)) ∧ (k = lk_n s key best n + 1 → tp_I t' i0 r s key best n (lk_n s key best n) ∧ t'.1 8 i0 6 = cI (lk_e s key best n)) ∧ (t'.1 8 i0 14 = nI (12 / rg_b s - lk_le s key best n 0) ∧ t'.1 4 (104 + i0) 1 = nI 0) ∧ fr (S_tp i0) t t') ?_ ?_ (by unfold sr_fu; omega) ⟨fun _ => ⟨I1, z1⟩, fun h => by omega, ⟨z2, z3⟩, f1⟩
  · rintro k g t' hk ⟨p1, _, ⟨p3, p4⟩, p5⟩
    obtain ⟨I, h6⟩ := p1 (by omega)
    have C' := rg_C_fr hN p5 cf C
    have K' := rg_K_fr hN p5 kf K
    have eh := pu_endHere C' K' O hr hn hu hkey (by omega) I
    have f2 : fr (S_c1 8 i0 6) t' (sr_u t' 8 i0 6 (if k < lk_n s key best n then -(nI 4) else cI (lk_e s key best n))) := fr_1
    have I2 : tp_I (sr_u t' 8 i0 6 (if k < lk_n s key best n then -(nI 4) else cI (lk_e s key best n))) i0 r s key best n k := tp_I_fr f2 (fun x i j q => by unfold S_c1; omega) I
    left
    by_cases hk2 : k < lk_n s key best n
    · rw [if_pos hk2] at eh f2 I2
      have C2 := rg_C_fr hN f2 (fun x i j q => by unfold Fp_C at q; unfold S_c1; omega) C'
      have K2 := rg_K_fr hN f2 (fun x i j q => by unfold Fp_K at q; unfold S_c1; omega) K'
      obtain ⟨t3, e3, I3, f3⟩ := pu_takeStep C2 K2 O hr hn hu hkey hk2 I2
      refine ⟨t3, ⟨fun _ => ⟨I3, ?_⟩, fun h => by omega, ⟨?_, ?_⟩, ?_⟩, ?_⟩
      · rw [f3.2 _ _ _ (by unfold S_tk; omega), pu_us]
      · rw [f3.2 _ _ _ (by unfold S_tk; omega), pu_un (by omega)]; exact p3
      · rw [f3.2 _ _ _ (by unfold S_tk; omega), pu_un (by omega)]; exact p4
      · exact fr_trans p5 (fr_trans (fr_mono f2 (fun x i j q => by unfold S_c1 at q; unfold S_tp; omega)) (fr_mono f3 (fun x i j q => by unfold S_tk at q; unfold S_tp; omega)))
      · show f8_travel_12 i0 r (25 * r + n) (nI key) (bI best) (f8_travel_56 i0 r (25 * r + n) (nI key) (bI best)) (g + 1) (nI k) t' = f8_travel_12 i0 r (25 * r + n) (nI key) (bI best) (f8_travel_56 i0 r (25 * r + n) (nI key) (bI best)) g (nI (k + 1)) t3
        simp (disch := omega) only [pu_lt, pu_ck, pu_bI, pu_bV, pu_bR, pu_bL, pu_nt, pu_us, pu_un, mL_0, mL_1, mL_2, mL_3, mL_4, mL_5, mL_6, mL_7, mL_8, mL_9, mL_10, mL_11, mL_12, mL_13, mL_14, mL_15, mL_16, mL_23, mL_24, mL_32, mL_48, mL_64, mL_99, mL_100, mL_200, mL_336, mL_576, mL_768, mL_800, mL_999, mL_4095, mL_4096, mL_m1, nI_leI, nI_ltI, nI_eq, nI_clamp, nI_add, pk_mul, nI_nu, bI_eq0, bI_eq1, bo_ft, pu_of, pu_of24, pu_onward, pu_frq, if_true, if_false, true_or, or_true, false_or, or_false, and_true, true_and, and_false, false_and, not_true_eq_false, not_false_eq_true, if_neg, if_pos, f8_travel_12, f8_travel_50, h6, eh, e3]
    · rw [if_neg hk2] at eh f2 I2
      have ek : k = lk_n s key best n := by omega
      refine ⟨_, ⟨fun h => by omega, fun _ => ⟨by rw [← ek]; exact I2, pu_us⟩, ⟨?_, ?_⟩, ?_⟩, ?_⟩
      · rw [pu_un (by omega)]; exact p3
      · rw [pu_un (by omega)]; exact p4
      · exact fr_trans p5 (fr_mono f2 (fun x i j q => by unfold S_c1 at q; unfold S_tp; omega))
      · show f8_travel_12 i0 r (25 * r + n) (nI key) (bI best) (f8_travel_56 i0 r (25 * r + n) (nI key) (bI best)) (g + 1) (nI k) t' = f8_travel_12 i0 r (25 * r + n) (nI key) (bI best) (f8_travel_56 i0 r (25 * r + n) (nI key) (bI best)) g (nI (k + 1)) _
        have n4 := cI_ne4 ec'
        simp (disch := omega) only [pu_lt, pu_ck, pu_bI, pu_bV, pu_bR, pu_bL, pu_nt, pu_us, pu_un, mL_0, mL_1, mL_2, mL_3, mL_4, mL_5, mL_6, mL_7, mL_8, mL_9, mL_10, mL_11, mL_12, mL_13, mL_14, mL_15, mL_16, mL_23, mL_24, mL_32, mL_48, mL_64, mL_99, mL_100, mL_200, mL_336, mL_576, mL_768, mL_800, mL_999, mL_4095, mL_4096, mL_m1, nI_leI, nI_ltI, nI_eq, nI_clamp, nI_add, pk_mul, nI_nu, bI_eq0, bI_eq1, bo_ft, pu_of, pu_of24, pu_onward, pu_frq, if_true, if_false, true_or, or_true, false_or, or_false, and_true, true_and, and_false, false_and, not_true_eq_false, not_false_eq_true, if_neg, if_pos, f8_travel_12, f8_travel_50, h6, eh, n4]
  · rintro g t' ⟨_, p2, ⟨p3, p4⟩, p5⟩
    obtain ⟨I, h6⟩ := p2 rfl
    have n4 := cI_ne4 ec'
    have C' := rg_C_fr hN p5 cf C
    have K' := rg_K_fr hN p5 kf K
    obtain ⟨⟨H0, H1, H2, H3⟩, _⟩ := id I
    have go : f8_travel_12 i0 r (25 * r + n) (nI key) (bI best) (f8_travel_56 i0 r (25 * r + n) (nI key) (bI best)) (g + 1) (nI (lk_n s key best n + 1)) t' = f8_travel_56 i0 r (25 * r + n) (nI key) (bI best) t' := by
      by_cases hl : 200 < lk_n s key best n + 1
      · simp (disch := omega) only [pu_lt, pu_ck, pu_bI, pu_bV, pu_bR, pu_bL, pu_nt, pu_us, pu_un, mL_0, mL_1, mL_2, mL_3, mL_4, mL_5, mL_6, mL_7, mL_8, mL_9, mL_10, mL_11, mL_12, mL_13, mL_14, mL_15, mL_16, mL_23, mL_24, mL_32, mL_48, mL_64, mL_99, mL_100, mL_200, mL_336, mL_576, mL_768, mL_800, mL_999, mL_4095, mL_4096, mL_m1, nI_leI, nI_ltI, nI_eq, nI_clamp, nI_add, pk_mul, nI_nu, bI_eq0, bI_eq1, bo_ft, pu_of, pu_of24, pu_onward, pu_frq, if_true, if_false, true_or, or_true, false_or, or_false, and_true, true_and, and_false, false_and, not_true_eq_false, not_false_eq_true, if_neg, if_pos, f8_travel_12]
      · simp (disch := omega) only [pu_lt, pu_ck, pu_bI, pu_bV, pu_bR, pu_bL, pu_nt, pu_us, pu_un, mL_0, mL_1, mL_2, mL_3, mL_4, mL_5, mL_6, mL_7, mL_8, mL_9, mL_10, mL_11, mL_12, mL_13, mL_14, mL_15, mL_16, mL_23, mL_24, mL_32, mL_48, mL_64, mL_99, mL_100, mL_200, mL_336, mL_576, mL_768, mL_800, mL_999, mL_4095, mL_4096, mL_m1, nI_leI, nI_ltI, nI_eq, nI_clamp, nI_add, pk_mul, nI_nu, bI_eq0, bI_eq1, bo_ft, pu_of, pu_of24, pu_onward, pu_frq, if_true, if_false, true_or, or_true, false_or, or_false, and_true, true_and, and_false, false_and, not_true_eq_false, not_false_eq_true, if_neg, if_pos, f8_travel_12, h6, n4]
    show rs_to _ (f8_travel_12 i0 r (25 * r + n) (nI key) (bI best) (f8_travel_56 i0 r (25 * r + n) (nI key) (bI best)) (g + 1) (nI (lk_n s key best n + 1)) t')
    rw [go]
    have last : ∀ t2, rg_C t2 r s → rg_K t2 r s → tp_I t2 i0 r s key best n (lk_n s key best n) → t2.1 8 i0 6 = cI (lk_e s key best n) → t2.1 8 i0 14 = nI (12 / rg_b s - lk_le s key best n 0) → rg_row t2 (104 + i0) (lk_wm s key best n) (rg_wy s (lk_at s key best n (lk_n s key best n))) → fr (S_tp i0) t t2 → rs_to Q (f8_travel_69 i0 r (25 * r + n) (nI key) (bI best) t2) := by
      intro t2 C2 K2 I2 g6 g14 grow gf
      obtain ⟨⟨G0, G1, G2, G3⟩, _⟩ := id I2
      have of := pu_ofc (t := t2) (r := r) ec'
      have ow : F2_owns (25 * r + if lk_e s key best n < 24 then lk_e s key best n else 24) (nI key) t2 = some (.inl (some (sr_i (bI (lk_r s key best n)))), t2) := by
        rcases ec with h | h
        · have h1 : lk_e s key best n < rg_N s := h.1
          have h2 : lk_e s key best n < 24 := h.2
          rw [if_pos h2, pu_ownsC C2 K2 O h1 hkey, rg_ow_ff O.1 h1 hkey]
          rfl
        · have h2 : ¬ lk_e s key best n < 24 := by
            have : lk_e s key best n = 26 ∨ lk_e s key best n = 27 := h
            omega
          obtain ⟨z, y1, y2⟩ := pu_ownsN (q := key) C2.1.2.1 trivial
          have rf : lk_r s key best n = false := by
            unfold lk_r
            rw [decide_eq_false_iff_not]
            have := am_le (D := fun n => pu_d key (rg_p s n)) (u := rg_u s) (N := rg_N s) hN
            have hff : rg_ff s key ≤ 24 := this
            omega
          rw [if_neg h2, y1, y2, rf]
          rfl
      have hlt : (if lk_e s key best n < 24 then lk_e s key best n else 24) ≤ 24 := by split <;> omega
      simp (disch := omega) only [pu_lt, pu_ck, pu_bI, pu_bV, pu_bR, pu_bL, pu_nt, pu_us, pu_un, mL_0, mL_1, mL_2, mL_3, mL_4, mL_5, mL_6, mL_7, mL_8, mL_9, mL_10, mL_11, mL_12, mL_13, mL_14, mL_15, mL_16, mL_23, mL_24, mL_32, mL_48, mL_64, mL_99, mL_100, mL_200, mL_336, mL_576, mL_768, mL_800, mL_999, mL_4095, mL_4096, mL_m1, nI_leI, nI_ltI, nI_eq, nI_clamp, nI_add, pk_mul, nI_nu, bI_eq0, bI_eq1, bo_ft, pu_of, pu_of24, pu_onward, pu_frq, if_true, if_false, true_or, or_true, false_or, or_false, and_true, true_and, and_false, false_and, not_true_eq_false, not_false_eq_true, if_neg, if_pos, f8_travel_69, G0, G1, g6, of, ow, bI_01']
      refine rs_ret (hQ _ ⟨⟨tp_I_fr fr_1 (fun x i j q => by unfold S_c1; omega) I2, pu_us, ?_, rg_row_fr (by rw [pu_un (by omega)]) (fun j => by rw [pu_un (by omega)]) grow⟩, fr_u gf (by unfold S_tp; omega)⟩)
      rw [pu_un (by omega)]; exact g14
    by_cases h26 : lk_e s key best n = 26
    · obtain ⟨t2, w1, w2, w3⟩ := pu_remWhy C' O hr hi oe.1 H3 p4
      have h6' : t'.1 8 i0 6 = -(nI 2) := by rw [h6, h26]; rfl
      have wm : lk_wm s key best n = 1 + rg_t s (lk_at s key best n (lk_n s key best n)) 1 := if_pos h26
      simp (disch := omega) only [pu_lt, pu_ck, pu_bI, pu_bV, pu_bR, pu_bL, pu_nt, pu_us, pu_un, mL_0, mL_1, mL_2, mL_3, mL_4, mL_5, mL_6, mL_7, mL_8, mL_9, mL_10, mL_11, mL_12, mL_13, mL_14, mL_15, mL_16, mL_23, mL_24, mL_32, mL_48, mL_64, mL_99, mL_100, mL_200, mL_336, mL_576, mL_768, mL_800, mL_999, mL_4095, mL_4096, mL_m1, nI_leI, nI_ltI, nI_eq, nI_clamp, nI_add, pk_mul, nI_nu, bI_eq0, bI_eq1, bo_ft, pu_of, pu_of24, pu_onward, pu_frq, if_true, if_false, true_or, or_true, false_or, or_false, and_true, true_and, and_false, false_and, not_true_eq_false, not_false_eq_true, if_neg, if_pos, f8_travel_56, h6', w1]
      refine last t2 (rg_C_fr hN w3 (fun x i j q => by unfold Fp_C at q; unfold S_row; omega) C') (rg_K_fr hN w3 (fun x i j q => by unfold Fp_K at q; unfold S_row; omega) K') (tp_I_fr w3 (fun x i j q => by unfold S_row; omega) I) ?_ ?_ (by rw [wm]; exact w2) (fr_trans p5 (fr_mono w3 (fun x i j q => by unfold S_row at q; unfold S_tp; omega)))
      · rw [w3.2 _ _ _ (by unfold S_row; omega)]; exact h6
      · rw [w3.2 _ _ _ (by unfold S_row; omega)]; exact p3
    · have h6' : ¬ cI (lk_e s key best n) = -(nI 2) := fun q => h26 ((cI_eq2 ec').mp q)
      have wm : lk_wm s key best n = 0 := if_neg h26
      simp (disch := omega) only [pu_lt, pu_ck, pu_bI, pu_bV, pu_bR, pu_bL, pu_nt, pu_us, pu_un, mL_0, mL_1, mL_2, mL_3, mL_4, mL_5, mL_6, mL_7, mL_8, mL_9, mL_10, mL_11, mL_12, mL_13, mL_14, mL_15, mL_16, mL_23, mL_24, mL_32, mL_48, mL_64, mL_99, mL_100, mL_200, mL_336, mL_576, mL_768, mL_800, mL_999, mL_4095, mL_4096, mL_m1, nI_leI, nI_ltI, nI_eq, nI_clamp, nI_add, pk_mul, nI_nu, bI_eq0, bI_eq1, bo_ft, pu_of, pu_of24, pu_onward, pu_frq, if_true, if_false, true_or, or_true, false_or, or_false, and_true, true_and, and_false, false_and, not_true_eq_false, not_false_eq_true, if_neg, if_pos, f8_travel_56, h6, h6']
      exact last t' C' K' I h6 p3 (by rw [wm]; exact ⟨p4, fun k hk => by omega⟩) p5
end
