section
/-! the class's sample, run -/
def S_f (K k i _j : Nat) : Prop := k = K ∧ i = 0
theorem pc_fill15 {t : sr_t} : ∃ t', Fa_fill_15 (nI 0) t = some (.inl none, t') ∧ (∀ v, v < 24 → t'.1 15 0 v = nI 0) ∧ fr (S_f 15) t t' := by
  refine rs_via fun Q hQ => ?_
  simp (disch := omega) only [pv_lt, pu_ck, pv_bI, pv_bV, pu_bR, pv_bL, pv_nt, pu_us, pu_un, mL_0, mL_1, mL_2, mL_3, mL_4, mL_5, mL_6, mL_7, mL_8, mL_9, mL_10, mL_11, mL_12, mL_13, mL_14, mL_15, mL_16, mL_23, mL_24, mL_32, mL_48, mL_64, mL_99, mL_100, mL_200, mL_336, mL_576, mL_768, mL_800, mL_999, mL_4095, mL_4096, mL_m1, nI_leI, nI_ltI, nI_eq, nI_clamp, nI_add, pk_mul, nI_nu, bI_eq0, bI_eq1, bo_ft, Bool.true_eq_false, Bool.false_eq_true, pu_of, pu_of24, pu_onward, pu_frq, if_true, if_false, true_or, or_true, false_or, or_false, and_true, true_and, and_false, false_and, not_true_eq_false, not_false_eq_true, if_neg, if_pos, Fa_fill_15]
  refine rs_loop (N := 24) (L := fun f k t' => fa_fill_15_5 (nI 0) (fa_fill_15_20 (nI 0)) f (nI k) (nI 24) t') (fun k t' => (∀ v, v < k → t'.1 15 0 v = nI 0) ∧ fr (S_f 15) t t') ?_ ?_ (by unfold sr_fu; omega) ⟨fun v hv => by omega, fr_rfl⟩
  · rintro k g t' hk ⟨p1, p2⟩
    left
    refine ⟨sr_u t' 15 0 k (nI 0), ⟨fun v hv => ?_, fr_u p2 ⟨rfl, rfl⟩⟩, ?_⟩
    · by_cases e : v = k
      · rw [e, pu_us]
      · rw [pu_un (by omega)]; exact p1 v (by omega)
    · show fa_fill_15_5 (nI 0) (fa_fill_15_20 (nI 0)) (g + 1) (nI k) (nI 24) t' = fa_fill_15_5 (nI 0) (fa_fill_15_20 (nI 0)) g (nI (k + 1)) (nI 24) _
      simp (disch := omega) only [pv_lt, pu_ck, pv_bI, pv_bV, pu_bR, pv_bL, pv_nt, pu_us, pu_un, mL_0, mL_1, mL_2, mL_3, mL_4, mL_5, mL_6, mL_7, mL_8, mL_9, mL_10, mL_11, mL_12, mL_13, mL_14, mL_15, mL_16, mL_23, mL_24, mL_32, mL_48, mL_64, mL_99, mL_100, mL_200, mL_336, mL_576, mL_768, mL_800, mL_999, mL_4095, mL_4096, mL_m1, nI_leI, nI_ltI, nI_eq, nI_clamp, nI_add, pk_mul, nI_nu, bI_eq0, bI_eq1, bo_ft, Bool.true_eq_false, Bool.false_eq_true, pu_of, pu_of24, pu_onward, pu_frq, if_true, if_false, true_or, or_true, false_or, or_false, and_true, true_and, and_false, false_and, not_true_eq_false, not_false_eq_true, if_neg, if_pos, fa_fill_15_5, pu_ixN']
  · rintro g t' ⟨p1, p2⟩
    show rs_to _ (fa_fill_15_5 (nI 0) (fa_fill_15_20 (nI 0)) (g + 1) (nI 24) (nI 24) t')
    simp (disch := omega) only [pv_lt, pu_ck, pv_bI, pv_bV, pu_bR, pv_bL, pv_nt, pu_us, pu_un, mL_0, mL_1, mL_2, mL_3, mL_4, mL_5, mL_6, mL_7, mL_8, mL_9, mL_10, mL_11, mL_12, mL_13, mL_14, mL_15, mL_16, mL_23, mL_24, mL_32, mL_48, mL_64, mL_99, mL_100, mL_200, mL_336, mL_576, mL_768, mL_800, mL_999, mL_4095, mL_4096, mL_m1, nI_leI, nI_ltI, nI_eq, nI_clamp, nI_add, pk_mul, nI_nu, bI_eq0, bI_eq1, bo_ft, Bool.true_eq_false, Bool.false_eq_true, pu_of, pu_of24, pu_onward, pu_frq, if_true, if_false, true_or, or_true, false_or, or_false, and_true, true_and, and_false, false_and, not_true_eq_false, not_false_eq_true, if_neg, if_pos, fa_fill_15_5, fa_fill_15_20]
    exact rs_ret (hQ _ ⟨p1, p2⟩)
theorem pc_fill16 {t : sr_t} : ∃ t', Fa_fill_16 (nI 0) t = some (.inl none, t') ∧ (∀ v, v < 576 → t'.1 16 0 v = nI 0) ∧ fr (S_f 16) t t' := by
  refine rs_via fun Q hQ => ?_
  simp (disch := omega) only [pv_lt, pu_ck, pv_bI, pv_bV, pu_bR, pv_bL, pv_nt, pu_us, pu_un, mL_0, mL_1, mL_2, mL_3, mL_4, mL_5, mL_6, mL_7, mL_8, mL_9, mL_10, mL_11, mL_12, mL_13, mL_14, mL_15, mL_16, mL_23, mL_24, mL_32, mL_48, mL_64, mL_99, mL_100, mL_200, mL_336, mL_576, mL_768, mL_800, mL_999, mL_4095, mL_4096, mL_m1, nI_leI, nI_ltI, nI_eq, nI_clamp, nI_add, pk_mul, nI_nu, bI_eq0, bI_eq1, bo_ft, Bool.true_eq_false, Bool.false_eq_true, pu_of, pu_of24, pu_onward, pu_frq, if_true, if_false, true_or, or_true, false_or, or_false, and_true, true_and, and_false, false_and, not_true_eq_false, not_false_eq_true, if_neg, if_pos, Fa_fill_16]
  refine rs_loop (N := 576) (L := fun f k t' => fa_fill_16_5 (nI 0) (fa_fill_16_20 (nI 0)) f (nI k) (nI 576) t') (fun k t' => (∀ v, v < k → t'.1 16 0 v = nI 0) ∧ fr (S_f 16) t t') ?_ ?_ (by unfold sr_fu; omega) ⟨fun v hv => by omega, fr_rfl⟩
  · rintro k g t' hk ⟨p1, p2⟩
    left
    refine ⟨sr_u t' 16 0 k (nI 0), ⟨fun v hv => ?_, fr_u p2 ⟨rfl, rfl⟩⟩, ?_⟩
    · by_cases e : v = k
      · rw [e, pu_us]
      · rw [pu_un (by omega)]; exact p1 v (by omega)
    · show fa_fill_16_5 (nI 0) (fa_fill_16_20 (nI 0)) (g + 1) (nI k) (nI 576) t' = fa_fill_16_5 (nI 0) (fa_fill_16_20 (nI 0)) g (nI (k + 1)) (nI 576) _
      simp (disch := omega) only [pv_lt, pu_ck, pv_bI, pv_bV, pu_bR, pv_bL, pv_nt, pu_us, pu_un, mL_0, mL_1, mL_2, mL_3, mL_4, mL_5, mL_6, mL_7, mL_8, mL_9, mL_10, mL_11, mL_12, mL_13, mL_14, mL_15, mL_16, mL_23, mL_24, mL_32, mL_48, mL_64, mL_99, mL_100, mL_200, mL_336, mL_576, mL_768, mL_800, mL_999, mL_4095, mL_4096, mL_m1, nI_leI, nI_ltI, nI_eq, nI_clamp, nI_add, pk_mul, nI_nu, bI_eq0, bI_eq1, bo_ft, Bool.true_eq_false, Bool.false_eq_true, pu_of, pu_of24, pu_onward, pu_frq, if_true, if_false, true_or, or_true, false_or, or_false, and_true, true_and, and_false, false_and, not_true_eq_false, not_false_eq_true, if_neg, if_pos, fa_fill_16_5, pu_ixN']
  · rintro g t' ⟨p1, p2⟩
    show rs_to _ (fa_fill_16_5 (nI 0) (fa_fill_16_20 (nI 0)) (g + 1) (nI 576) (nI 576) t')
    simp (disch := omega) only [pv_lt, pu_ck, pv_bI, pv_bV, pu_bR, pv_bL, pv_nt, pu_us, pu_un, mL_0, mL_1, mL_2, mL_3, mL_4, mL_5, mL_6, mL_7, mL_8, mL_9, mL_10, mL_11, mL_12, mL_13, mL_14, mL_15, mL_16, mL_23, mL_24, mL_32, mL_48, mL_64, mL_99, mL_100, mL_200, mL_336, mL_576, mL_768, mL_800, mL_999, mL_4095, mL_4096, mL_m1, nI_leI, nI_ltI, nI_eq, nI_clamp, nI_add, pk_mul, nI_nu, bI_eq0, bI_eq1, bo_ft, Bool.true_eq_false, Bool.false_eq_true, pu_of, pu_of24, pu_onward, pu_frq, if_true, if_false, true_or, or_true, false_or, or_false, and_true, true_and, and_false, false_and, not_true_eq_false, not_false_eq_true, if_neg, if_pos, fa_fill_16_5, fa_fill_16_20]
    exact rs_ret (hQ _ ⟨p1, p2⟩)
/-- what a sample of the class may change -/
def S_sa (k i _j : Nat) : Prop := (k = 8 ∧ i = 2) ∨ (k = 14 ∧ i = 2) ∨ ((k = 4 ∨ k = 12) ∧ i = 106) ∨ k = 5 ∨ k = 15 ∨ k = 16
theorem pc_reset {t : sr_t} {s : rg_T} {best : Bool} : ∃ t', F5_reset t = some (.inl none, t') ∧ sc_I t' s best 0 ∧ sc_V t' s best 0 ∧ fr S_sa t t' := by
  obtain ⟨T, hT⟩ : ∃ T, T = (sr_u (sr_u (sr_u (sr_u (sr_u (sr_u (sr_u (sr_u t 5 0 3 (nI 0)) 5 0 4 (nI 0)) 5 0 5 (nI 0)) 5 0 6 (nI 0)) 5 0 7 (nI 0)) 5 0 8 (nI 0)) 5 0 9 (nI 0)) 5 0 10 (nI 0)) := ⟨_, rfl⟩
  have f0 : fr S_sa t T := by
    rw [hT]
    refine fr_u (fr_u (fr_u (fr_u (fr_u (fr_u (fr_u (fr_u fr_rfl ?_) ?_) ?_) ?_) ?_) ?_) ?_) ?_ <;> (unfold S_sa; omega)
  obtain ⟨t1, e1, v1, f1⟩ := pc_fill15 (t := T)
  obtain ⟨t2, e2, v2, f2⟩ := pc_fill16 (t := t1)
  have g : ∀ j, t2.1 5 0 j = T.1 5 0 j := fun j => by rw [f2.2 _ _ _ (by unfold S_f; omega), f1.2 _ _ _ (by unfold S_f; omega)]
  refine ⟨t2, ?_, ⟨?_, ?_, ?_, ?_, ?_, ?_, ?_, ?_⟩, ⟨fun v hv => ?_, fun a b ha hb => ?_⟩, ?_⟩
  · simp (disch := omega) only [pv_lt, pu_ck, pv_bI, pv_bV, pu_bR, pv_bL, pv_nt, pu_us, pu_un, mL_0, mL_1, mL_2, mL_3, mL_4, mL_5, mL_6, mL_7, mL_8, mL_9, mL_10, mL_11, mL_12, mL_13, mL_14, mL_15, mL_16, mL_23, mL_24, mL_32, mL_48, mL_64, mL_99, mL_100, mL_200, mL_336, mL_576, mL_768, mL_800, mL_999, mL_4095, mL_4096, mL_m1, nI_leI, nI_ltI, nI_eq, nI_clamp, nI_add, pk_mul, nI_nu, bI_eq0, bI_eq1, bo_ft, Bool.true_eq_false, Bool.false_eq_true, pu_of, pu_of24, pu_onward, pu_frq, if_true, if_false, true_or, or_true, false_or, or_false, and_true, true_and, and_false, false_and, not_true_eq_false, not_false_eq_true, if_neg, if_pos, F5_reset]
    rw [← hT]
    simp (disch := omega) only [pv_lt, pu_ck, pv_bI, pv_bV, pu_bR, pv_bL, pv_nt, pu_us, pu_un, mL_0, mL_1, mL_2, mL_3, mL_4, mL_5, mL_6, mL_7, mL_8, mL_9, mL_10, mL_11, mL_12, mL_13, mL_14, mL_15, mL_16, mL_23, mL_24, mL_32, mL_48, mL_64, mL_99, mL_100, mL_200, mL_336, mL_576, mL_768, mL_800, mL_999, mL_4095, mL_4096, mL_m1, nI_leI, nI_ltI, nI_eq, nI_clamp, nI_add, pk_mul, nI_nu, bI_eq0, bI_eq1, bo_ft, Bool.true_eq_false, Bool.false_eq_true, pu_of, pu_of24, pu_onward, pu_frq, if_true, if_false, true_or, or_true, false_or, or_false, and_true, true_and, and_false, false_and, not_true_eq_false, not_false_eq_true, if_neg, if_pos, e1, e2]
  · rw [g, hT]; simp (disch := omega) only [pv_lt, pu_ck, pv_bI, pv_bV, pu_bR, pv_bL, pv_nt, pu_us, pu_un, mL_0, mL_1, mL_2, mL_3, mL_4, mL_5, mL_6, mL_7, mL_8, mL_9, mL_10, mL_11, mL_12, mL_13, mL_14, mL_15, mL_16, mL_23, mL_24, mL_32, mL_48, mL_64, mL_99, mL_100, mL_200, mL_336, mL_576, mL_768, mL_800, mL_999, mL_4095, mL_4096, mL_m1, nI_leI, nI_ltI, nI_eq, nI_clamp, nI_add, pk_mul, nI_nu, bI_eq0, bI_eq1, bo_ft, Bool.true_eq_false, Bool.false_eq_true, pu_of, pu_of24, pu_onward, pu_frq, if_true, if_false, true_or, or_true, false_or, or_false, and_true, true_and, and_false, false_and, not_true_eq_false, not_false_eq_true, if_neg, if_pos]; rfl
  · rw [g, hT]; simp (disch := omega) only [pv_lt, pu_ck, pv_bI, pv_bV, pu_bR, pv_bL, pv_nt, pu_us, pu_un, mL_0, mL_1, mL_2, mL_3, mL_4, mL_5, mL_6, mL_7, mL_8, mL_9, mL_10, mL_11, mL_12, mL_13, mL_14, mL_15, mL_16, mL_23, mL_24, mL_32, mL_48, mL_64, mL_99, mL_100, mL_200, mL_336, mL_576, mL_768, mL_800, mL_999, mL_4095, mL_4096, mL_m1, nI_leI, nI_ltI, nI_eq, nI_clamp, nI_add, pk_mul, nI_nu, bI_eq0, bI_eq1, bo_ft, Bool.true_eq_false, Bool.false_eq_true, pu_of, pu_of24, pu_onward, pu_frq, if_true, if_false, true_or, or_true, false_or, or_false, and_true, true_and, and_false, false_and, not_true_eq_false, not_false_eq_true, if_neg, if_pos]; rfl
  · rw [g, hT]; simp (disch := omega) only [pv_lt, pu_ck, pv_bI, pv_bV, pu_bR, pv_bL, pv_nt, pu_us, pu_un, mL_0, mL_1, mL_2, mL_3, mL_4, mL_5, mL_6, mL_7, mL_8, mL_9, mL_10, mL_11, mL_12, mL_13, mL_14, mL_15, mL_16, mL_23, mL_24, mL_32, mL_48, mL_64, mL_99, mL_100, mL_200, mL_336, mL_576, mL_768, mL_800, mL_999, mL_4095, mL_4096, mL_m1, nI_leI, nI_ltI, nI_eq, nI_clamp, nI_add, pk_mul, nI_nu, bI_eq0, bI_eq1, bo_ft, Bool.true_eq_false, Bool.false_eq_true, pu_of, pu_of24, pu_onward, pu_frq, if_true, if_false, true_or, or_true, false_or, or_false, and_true, true_and, and_false, false_and, not_true_eq_false, not_false_eq_true, if_neg, if_pos]; rfl
  · rw [g, hT]; simp (disch := omega) only [pv_lt, pu_ck, pv_bI, pv_bV, pu_bR, pv_bL, pv_nt, pu_us, pu_un, mL_0, mL_1, mL_2, mL_3, mL_4, mL_5, mL_6, mL_7, mL_8, mL_9, mL_10, mL_11, mL_12, mL_13, mL_14, mL_15, mL_16, mL_23, mL_24, mL_32, mL_48, mL_64, mL_99, mL_100, mL_200, mL_336, mL_576, mL_768, mL_800, mL_999, mL_4095, mL_4096, mL_m1, nI_leI, nI_ltI, nI_eq, nI_clamp, nI_add, pk_mul, nI_nu, bI_eq0, bI_eq1, bo_ft, Bool.true_eq_false, Bool.false_eq_true, pu_of, pu_of24, pu_onward, pu_frq, if_true, if_false, true_or, or_true, false_or, or_false, and_true, true_and, and_false, false_and, not_true_eq_false, not_false_eq_true, if_neg, if_pos]; rfl
  · rw [g, hT]; simp (disch := omega) only [pv_lt, pu_ck, pv_bI, pv_bV, pu_bR, pv_bL, pv_nt, pu_us, pu_un, mL_0, mL_1, mL_2, mL_3, mL_4, mL_5, mL_6, mL_7, mL_8, mL_9, mL_10, mL_11, mL_12, mL_13, mL_14, mL_15, mL_16, mL_23, mL_24, mL_32, mL_48, mL_64, mL_99, mL_100, mL_200, mL_336, mL_576, mL_768, mL_800, mL_999, mL_4095, mL_4096, mL_m1, nI_leI, nI_ltI, nI_eq, nI_clamp, nI_add, pk_mul, nI_nu, bI_eq0, bI_eq1, bo_ft, Bool.true_eq_false, Bool.false_eq_true, pu_of, pu_of24, pu_onward, pu_frq, if_true, if_false, true_or, or_true, false_or, or_false, and_true, true_and, and_false, false_and, not_true_eq_false, not_false_eq_true, if_neg, if_pos]; rfl
  · rw [g, hT]; simp (disch := omega) only [pv_lt, pu_ck, pv_bI, pv_bV, pu_bR, pv_bL, pv_nt, pu_us, pu_un, mL_0, mL_1, mL_2, mL_3, mL_4, mL_5, mL_6, mL_7, mL_8, mL_9, mL_10, mL_11, mL_12, mL_13, mL_14, mL_15, mL_16, mL_23, mL_24, mL_32, mL_48, mL_64, mL_99, mL_100, mL_200, mL_336, mL_576, mL_768, mL_800, mL_999, mL_4095, mL_4096, mL_m1, nI_leI, nI_ltI, nI_eq, nI_clamp, nI_add, pk_mul, nI_nu, bI_eq0, bI_eq1, bo_ft, Bool.true_eq_false, Bool.false_eq_true, pu_of, pu_of24, pu_onward, pu_frq, if_true, if_false, true_or, or_true, false_or, or_false, and_true, true_and, and_false, false_and, not_true_eq_false, not_false_eq_true, if_neg, if_pos]; rfl
  · rw [g, hT]; simp (disch := omega) only [pv_lt, pu_ck, pv_bI, pv_bV, pu_bR, pv_bL, pv_nt, pu_us, pu_un, mL_0, mL_1, mL_2, mL_3, mL_4, mL_5, mL_6, mL_7, mL_8, mL_9, mL_10, mL_11, mL_12, mL_13, mL_14, mL_15, mL_16, mL_23, mL_24, mL_32, mL_48, mL_64, mL_99, mL_100, mL_200, mL_336, mL_576, mL_768, mL_800, mL_999, mL_4095, mL_4096, mL_m1, nI_leI, nI_ltI, nI_eq, nI_clamp, nI_add, pk_mul, nI_nu, bI_eq0, bI_eq1, bo_ft, Bool.true_eq_false, Bool.false_eq_true, pu_of, pu_of24, pu_onward, pu_frq, if_true, if_false, true_or, or_true, false_or, or_false, and_true, true_and, and_false, false_and, not_true_eq_false, not_false_eq_true, if_neg, if_pos]; rfl
  · rw [g, hT]; simp (disch := omega) only [pv_lt, pu_ck, pv_bI, pv_bV, pu_bR, pv_bL, pv_nt, pu_us, pu_un, mL_0, mL_1, mL_2, mL_3, mL_4, mL_5, mL_6, mL_7, mL_8, mL_9, mL_10, mL_11, mL_12, mL_13, mL_14, mL_15, mL_16, mL_23, mL_24, mL_32, mL_48, mL_64, mL_99, mL_100, mL_200, mL_336, mL_576, mL_768, mL_800, mL_999, mL_4095, mL_4096, mL_m1, nI_leI, nI_ltI, nI_eq, nI_clamp, nI_add, pk_mul, nI_nu, bI_eq0, bI_eq1, bo_ft, Bool.true_eq_false, Bool.false_eq_true, pu_of, pu_of24, pu_onward, pu_frq, if_true, if_false, true_or, or_true, false_or, or_false, and_true, true_and, and_false, false_and, not_true_eq_false, not_false_eq_true, if_neg, if_pos]; rfl
  · rw [f2.2 _ _ _ (by unfold S_f; omega)]; exact v1 v hv
  · exact v2 _ (by omega)
  · exact fr_trans f0 (fr_trans (fr_mono f1 (fun k i j q => by unfold S_f at q; unfold S_sa; omega)) (fr_mono f2 (fun k i j q => by unfold S_f at q; unfold S_sa; omega)))
theorem sc_I_down {t : sr_t} {s : rg_T} {best : Bool} {n : Nat} (h : rg_u s n = false) (I : sc_I t s best (64 * n)) : sc_I t s best (64 * (n + 1)) := by
  unfold sc_I at *
  rw [show 64 * (n + 1) = 64 * n + 64 by omega, sS_down h 64 (by omega), sS_down h 64 (by omega), sS_down h 64 (by omega), sS_down h 64 (by omega), sS_down h 64 (by omega), sS_down h 64 (by omega), sM_down h 64 (by omega), sM_down h 64 (by omega)]
  exact I
theorem sc_V_down {t : sr_t} {s : rg_T} {best : Bool} {n : Nat} (h : rg_u s n = false) (I : sc_V t s best (64 * n)) : sc_V t s best (64 * (n + 1)) := by
  refine ⟨fun v hv => ?_, fun a b ha hb => ?_⟩
  · rw [show 64 * (n + 1) = 64 * n + 64 by omega, sS_down h 64 (by omega)]; exact I.1 v hv
  · rw [show 64 * (n + 1) = 64 * n + 64 by omega, sS_down h 64 (by omega)]; exact I.2 a b ha hb
theorem sc_I_fr {S : Nat → Nat → Nat → Prop} {t t' : sr_t} {s : rg_T} {best : Bool} {m : Nat} (h : fr S t t') (hs : ∀ j, ¬ S 5 0 j) (I : sc_I t s best m) : sc_I t' s best m := by
  unfold sc_I at *
  rw [h.2 _ _ _ (hs 3), h.2 _ _ _ (hs 4), h.2 _ _ _ (hs 5), h.2 _ _ _ (hs 6), h.2 _ _ _ (hs 7), h.2 _ _ _ (hs 8), h.2 _ _ _ (hs 9), h.2 _ _ _ (hs 10)]
  exact I
theorem sc_V_fr {S : Nat → Nat → Nat → Prop} {t t' : sr_t} {s : rg_T} {best : Bool} {m : Nat} (h : fr S t t') (hs : ∀ j, ¬ S 15 0 j ∧ ¬ S 16 0 j) (I : sc_V t s best m) : sc_V t' s best m := by
  refine ⟨fun v hv => ?_, fun a b ha hb => ?_⟩
  · rw [h.2 _ _ _ (hs _).1]; exact I.1 v hv
  · rw [h.2 _ _ _ (hs _).2]; exact I.2 a b ha hb
set_option maxHeartbeats 4000000 in
theorem pc_run {t : sr_t} {s : rg_T} {r : Nat} {best tr : Bool} (C : rg_C t r s) (K : rg_K t r s) (O : rg_ok s) (hr : r < 2) : ∃ t', F5_run r (bI best) (bI tr) t = some (.inl none, t') ∧ sc_I t' s best (64 * rg_N s) ∧ (tr = true → sc_V t' s best (64 * rg_N s)) ∧ fr S_sa t t' := by
  have hN := O.1.1
  obtain ⟨t0, e0, I0, V0, f0⟩ := pc_reset (t := t) (s := s) (best := best)
  have cf : ∀ x i j, Fp_C r x i j → ¬ S_sa x i j := fun x i j q => by unfold Fp_C at q; unfold S_sa; omega
  have kf : ∀ x i j, Fp_K r x i j → ¬ S_sa x i j := fun x i j q => by unfold Fp_K at q; unfold S_sa; omega
  refine rs_via fun Q hQ => ?_
  simp (disch := omega) only [pv_lt, pu_ck, pv_bI, pv_bV, pu_bR, pv_bL, pv_nt, pu_us, pu_un, mL_0, mL_1, mL_2, mL_3, mL_4, mL_5, mL_6, mL_7, mL_8, mL_9, mL_10, mL_11, mL_12, mL_13, mL_14, mL_15, mL_16, mL_23, mL_24, mL_32, mL_48, mL_64, mL_99, mL_100, mL_200, mL_336, mL_576, mL_768, mL_800, mL_999, mL_4095, mL_4096, mL_m1, nI_leI, nI_ltI, nI_eq, nI_clamp, nI_add, pk_mul, nI_nu, bI_eq0, bI_eq1, bo_ft, Bool.true_eq_false, Bool.false_eq_true, pu_of, pu_of24, pu_onward, pu_frq, if_true, if_false, true_or, or_true, false_or, or_false, and_true, true_and, and_false, false_and, not_true_eq_false, not_false_eq_true, if_neg, if_pos, F5_run, e0]
  refine rs_loop (N := rg_N s) (L := fun f n t' => f5_run_7 r (bI best) (bI tr) (f5_run_81 r (bI best) (bI tr)) f (nI n) t') (fun n t' => sc_I t' s best (64 * n) ∧ (tr = true → sc_V t' s best (64 * n)) ∧ fr S_sa t t') ?_ ?_ (by unfold sr_fu; omega) ⟨I0, fun _ => V0, f0⟩
  · rintro n g t' hn ⟨p1, p2, p3⟩
    have C' := rg_C_fr hN p3 cf C
    have K' := rg_K_fr hN p3 kf K
    have h3 := C'.1.1.1
    have hup := (C'.1.2.2 n hn).2.1
    have start : f5_run_7 r (bI best) (bI tr) (f5_run_81 r (bI best) (bI tr)) (g + 1) (nI n) t' = f5_run_27 r (bI best) (bI tr) (f5_run_75 r (bI best) (bI tr) (f5_run_7 r (bI best) (bI tr) (f5_run_81 r (bI best) (bI tr)) g) (f5_run_81 r (bI best) (bI tr))) sr_fu (nI n) (25 * r + n) (nI 0) t' := by
      simp (disch := omega) only [pv_lt, pu_ck, pv_bI, pv_bV, pu_bR, pv_bL, pv_nt, pu_us, pu_un, mL_0, mL_1, mL_2, mL_3, mL_4, mL_5, mL_6, mL_7, mL_8, mL_9, mL_10, mL_11, mL_12, mL_13, mL_14, mL_15, mL_16, mL_23, mL_24, mL_32, mL_48, mL_64, mL_99, mL_100, mL_200, mL_336, mL_576, mL_768, mL_800, mL_999, mL_4095, mL_4096, mL_m1, nI_leI, nI_ltI, nI_eq, nI_clamp, nI_add, pk_mul, nI_nu, bI_eq0, bI_eq1, bo_ft, Bool.true_eq_false, Bool.false_eq_true, pu_of, pu_of24, pu_onward, pu_frq, if_true, if_false, true_or, or_true, false_or, or_false, and_true, true_and, and_false, false_and, not_true_eq_false, not_false_eq_true, if_neg, if_pos, f5_run_7, h3]
    have done : ∀ t2 : sr_t, f5_run_75 r (bI best) (bI tr) (f5_run_7 r (bI best) (bI tr) (f5_run_81 r (bI best) (bI tr)) g) (f5_run_81 r (bI best) (bI tr)) (nI n) t2 = f5_run_7 r (bI best) (bI tr) (f5_run_81 r (bI best) (bI tr)) g (nI (n + 1)) t2 := by
      intro t2
      unfold f5_run_75
      rw [nI_1]
    left
    by_cases hu : rg_u s n = true
    · have main : ∃ t2, (sc_I t2 s best (64 * n + 64) ∧ (tr = true → sc_V t2 s best (64 * n + 64)) ∧ fr S_sa t t2) ∧ f5_run_27 r (bI best) (bI tr) (f5_run_75 r (bI best) (bI tr) (f5_run_7 r (bI best) (bI tr) (f5_run_81 r (bI best) (bI tr)) g) (f5_run_81 r (bI best) (bI tr))) sr_fu (nI n) (25 * r + n) (nI (64 * 0)) t' = f5_run_7 r (bI best) (bI tr) (f5_run_81 r (bI best) (bI tr)) g (nI (n + 1)) t2 := by
        refine pu_forR (N := 64) (L := fun f j t2 => f5_run_27 r (bI best) (bI tr) (f5_run_75 r (bI best) (bI tr) (f5_run_7 r (bI best) (bI tr) (f5_run_81 r (bI best) (bI tr)) g) (f5_run_81 r (bI best) (bI tr))) f (nI n) (25 * r + n) (nI (64 * j)) t2) (fin := fun t2 => f5_run_7 r (bI best) (bI tr) (f5_run_81 r (bI best) (bI tr)) g (nI (n + 1)) t2) (P := fun j t2 => sc_I t2 s best (64 * n + j) ∧ (tr = true → sc_V t2 s best (64 * n + j)) ∧ fr S_sa t t2) ?_ ?_ (by unfold sr_fu; omega) ⟨p1, p2, p3⟩
        · rintro j g2 t2 hj ⟨q1, q2, q3⟩
          have C2 := rg_C_fr hN q3 cf C
          have K2 := rg_K_fr hN q3 kf K
          have hup2 := (C2.1.2.2 n hn).2.1
          rw [hu] at hup2
          have bt : ¬ bI true = nI 0 := by decide
          obtain ⟨t3, e3, D3, f3⟩ := pu_travel (i0 := 2) (best := best) (key := 64 * j) C2 K2 O hr (by omega) hn hu (by omega)
          have I3 := sc_I_fr f3 (fun j => by unfold S_tp; omega) q1
          obtain ⟨t4, e4, I4, f4⟩ := pc_addTrip O hn hu hj I3 D3
          have f34 : fr S_sa t2 t4 := fr_trans (fr_mono f3 (fun k i j q => by unfold S_tp at q; unfold S_sa; omega)) (fr_mono f4 (fun k i j q => by unfold S_k at q; unfold S_sa; omega))
          cases htr : tr with
          | false =>
            refine ⟨t4, ⟨I4, fun q => absurd q (by decide), fr_trans q3 f34⟩, ?_⟩
            have bf : bI false = nI 0 := rfl
            show f5_run_27 r (bI best) (bI false) _ (g2 + 1) (nI n) (25 * r + n) (nI (64 * j)) t2 = f5_run_27 r (bI best) (bI false) _ g2 (nI n) (25 * r + n) (nI (64 * (j + 1))) t4
            conv => lhs; unfold f5_run_27
            simp (disch := omega) only [if_true, if_false, mL_0, mL_64, mL_4096, nI_leI, if_neg, if_pos, hup2, bt, e3, pv_bI, e4, pv_bV, bf, f5_run_69, nI_add]
            rw [show 64 * j + 64 = 64 * (j + 1) by omega]
          | true =>
            have V3 : sc_V t4 s best (64 * n + j) := sc_V_fr f4 (fun j => by unfold S_k; omega) (sc_V_fr f3 (fun j => by unfold S_tp; omega) (q2 htr))
            have C4 := rg_C_fr hN (fr_trans q3 f34) cf C
            have I4' : tp_I t4 2 r s (64 * j) best n (lk_n s (64 * j) best n) := tp_I_fr f4 (fun x i j q => by unfold S_k; omega) D3.1
            obtain ⟨t5, e5, v5, x5, f5⟩ := pc_trace C4 O hr hn hu I4'
            refine ⟨t5, ⟨sc_I_fr f5 (fun j => by unfold S_vx; omega) I4, fun _ => ⟨fun v hv => ?_, fun a b ha hb => ?_⟩, fr_trans q3 (fr_trans f34 (fr_mono f5 (fun k i j q => by unfold S_vx at q; unfold S_sa; omega)))⟩, ?_⟩
            · rw [v5 v hv, V3.1 v hv, nI_add, ← Nat.add_assoc, sS_s, sv_n hj, if_pos hu]
            · rw [x5 a b ha hb, V3.2 a b ha hb, nI_add, ← Nat.add_assoc, sS_s, sv_n hj, if_pos hu]
            · show f5_run_27 r (bI best) (bI true) _ (g2 + 1) (nI n) (25 * r + n) (nI (64 * j)) t2 = f5_run_27 r (bI best) (bI true) _ g2 (nI n) (25 * r + n) (nI (64 * (j + 1))) t5
              conv => lhs; unfold f5_run_27
              simp (disch := omega) only [if_true, if_false, mL_0, mL_64, mL_4096, nI_leI, if_neg, if_pos, hup2, bt, e3, pv_bI, e4, pv_bV, e5, f5_run_69, nI_add]
              rw [show 64 * j + 64 = 64 * (j + 1) by omega]
        · rintro g2 t2 ⟨q1, q2, q3⟩
          show f5_run_27 r (bI best) (bI tr) _ (g2 + 1) (nI n) (25 * r + n) (nI (64 * 64)) t2 = _
          conv => lhs; unfold f5_run_27
          simp (disch := omega) only [mL_4096, nI_leI, if_pos]
          exact done t2
      obtain ⟨t2, q, e2⟩ := main
      refine ⟨t2, by rw [show 64 * (n + 1) = 64 * n + 64 by omega]; exact q, ?_⟩
      show f5_run_7 r (bI best) (bI tr) (f5_run_81 r (bI best) (bI tr)) (g + 1) (nI n) t' = _
      rw [start]
      exact e2
    · have hu' : rg_u s n = false := by simpa using hu
      rw [hu'] at hup
      have bf : bI false = nI 0 := rfl
      refine ⟨t', ⟨sc_I_down hu' p1, fun h => sc_V_down hu' (p2 h), p3⟩, ?_⟩
      show f5_run_7 r (bI best) (bI tr) (f5_run_81 r (bI best) (bI tr)) (g + 1) (nI n) t' = f5_run_7 r (bI best) (bI tr) (f5_run_81 r (bI best) (bI tr)) g (nI (n + 1)) t'
      rw [start]
      obtain ⟨g3, hg⟩ : ∃ g3, sr_fu = g3 + 1 := ⟨999999, rfl⟩
      rw [hg]
      conv => lhs; unfold f5_run_27
      simp (disch := omega) only [if_true, if_false, mL_0, mL_4096, nI_leI, if_neg, if_pos, hup, bf]
      exact done t'
  · rintro g t' ⟨p1, p2, p3⟩
    have h3 := (rg_C_fr hN p3 cf C).1.1.1
    show rs_to _ (f5_run_7 r (bI best) (bI tr) (f5_run_81 r (bI best) (bI tr)) (g + 1) (nI (rg_N s)) t')
    simp (disch := omega) only [pv_lt, pu_ck, pv_bI, pv_bV, pu_bR, pv_bL, pv_nt, pu_us, pu_un, mL_0, mL_1, mL_2, mL_3, mL_4, mL_5, mL_6, mL_7, mL_8, mL_9, mL_10, mL_11, mL_12, mL_13, mL_14, mL_15, mL_16, mL_23, mL_24, mL_32, mL_48, mL_64, mL_99, mL_100, mL_200, mL_336, mL_576, mL_768, mL_800, mL_999, mL_4095, mL_4096, mL_m1, nI_leI, nI_ltI, nI_eq, nI_clamp, nI_add, pk_mul, nI_nu, bI_eq0, bI_eq1, bo_ft, Bool.true_eq_false, Bool.false_eq_true, pu_of, pu_of24, pu_onward, pu_frq, if_true, if_false, true_or, or_true, false_or, or_false, and_true, true_and, and_false, false_and, not_true_eq_false, not_false_eq_true, if_neg, if_pos, f5_run_7, f5_run_81, h3]
    exact rs_ret (hQ _ ⟨p1, p2, p3⟩)
end
