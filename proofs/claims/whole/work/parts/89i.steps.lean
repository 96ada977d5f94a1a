section
/-! steps: sample, traffic, cost -/
theorem pc_sam {i : Nat} {t : sr_t} {s : rg_T} {w : st_T} {best tr : Bool} (X : J i t s w) : ∃ t1, F5_run 0 (bI best) (bI tr) t = some (.inl none, t1) ∧ sc_I t1 s best (64 * rg_N s) ∧ (tr = true → sc_V t1 s best (64 * rg_N s)) ∧ fr Sc t t1 := by
  obtain ⟨O, C, K, nb, sp, R, kp, L, W⟩ := X
  obtain ⟨t1, e1, I1, V1, f1⟩ := pc_run (best := best) (tr := tr) C K O (by omega)
  exact ⟨t1, e1, I1, V1, fr_mono f1 (fun k i j q => by unfold S_sa at q; unfold Sc; omega)⟩
theorem pr_sam {i : Nat} {t : sr_t} {s : rg_T} {w : st_T} {best : Bool} (X : J i t s w) : ∃ t1, F11_samples (bI best) t = some (.inl none, t1) ∧ sr_I' t1 s best (64 * rg_N s) ∧ fr Sr0 t t1 := by
  obtain ⟨O, C, K, nb, sp, R, kp, L, W⟩ := X
  obtain ⟨t1, e1, I1, f1⟩ := pr_samples (best := best) (rg_RN_of R O) O kp
  exact ⟨t1, e1, I1, fr_mono f1 (fun k i j q => by unfold S_sr' at q; unfold Sr0; omega)⟩
theorem s_sample {i : Nat} (hi : i + 4 ≤ 2048) (best : Bool) (a : Int32) : sr_ok3 (sr_Inv i) (sr_Inv (i + 4)) (fun t => FL_sample_23 (bI best) a t) (fun t => F11_sample (bI best) a t) := by
  refine ok3_qf hi (F := F10_sample (bI best) a) (G := F11_sample (bI best) a) (hc := hcL_sample_23) (fun t s w X => ?_)
  rcases a_in a 0 7 (by omega) (by omega) with hb | ⟨j, _, j7, rfl⟩
  · right
    have nW := nW_no (t := t) (m := 7) hb
    have iD : F11_isIn a (nI 0) (nI 7) t = some (.inl (some (sr_i (nI 0))), t) := iIn_no hb
    refine ⟨3, nI 1, nI 0, sr_u t 11 0 0 (nI 1), ?_, rfl, by decide, ?_, pu_us, Sr_0⟩
    · simp (disch := omega) only [pv_lt, pu_ck, pv_bI, pv_bV, pu_bR, pv_bL, pv_nt, pu_us, pu_un, mL_0, mL_1, mL_2, mL_3, mL_4, mL_5, mL_6, mL_7, mL_8, mL_9, mL_10, mL_11, mL_12, mL_13, mL_14, mL_15, mL_16, mL_23, mL_24, mL_32, mL_48, mL_64, mL_99, mL_100, mL_200, mL_336, mL_576, mL_768, mL_800, mL_999, mL_4095, mL_4096, mL_m1, nI_leI, nI_ltI, nI_eq, nI_clamp, nI_add, pk_mul, nI_nu, bI_eq0, bI_eq1, bo_ft, Bool.true_eq_false, Bool.false_eq_true, pu_of, pu_of24, pu_onward, pu_frq, if_true, if_false, true_or, or_true, false_or, or_false, and_true, true_and, and_false, false_and, not_true_eq_false, not_false_eq_true, if_neg, if_pos, F10_sample, nW, bVr]
    · simp (disch := omega) only [pv_lt, pu_ck, pv_bI, pv_bV, pu_bR, pv_bL, pv_nt, pu_us, pu_un, mL_0, mL_1, mL_2, mL_3, mL_4, mL_5, mL_6, mL_7, mL_8, mL_9, mL_10, mL_11, mL_12, mL_13, mL_14, mL_15, mL_16, mL_23, mL_24, mL_32, mL_48, mL_64, mL_99, mL_100, mL_200, mL_336, mL_576, mL_768, mL_800, mL_999, mL_4095, mL_4096, mL_m1, nI_leI, nI_ltI, nI_eq, nI_clamp, nI_add, pk_mul, nI_nu, bI_eq0, bI_eq1, bo_ft, Bool.true_eq_false, Bool.false_eq_true, pu_of, pu_of24, pu_onward, pu_frq, if_true, if_false, true_or, or_true, false_or, or_false, and_true, true_and, and_false, false_and, not_true_eq_false, not_false_eq_true, if_neg, if_pos, F11_sample, f11_sample_16, iD]
  · left
    obtain ⟨t1, e1, I1, _, f1⟩ := pc_sam (best := best) (tr := false) X
    have e1' : F5_run 0 (bI best) (nI 0) t = some (.inl none, t1) := e1
    obtain ⟨y3, y4, y5, y6, y7, y8, y9, y10⟩ := I1
    have ref : ∀ t', J i t' s w → ∃ t2, F11_samples (bI best) (sr_u t' 11 0 0 (nI 0)) = some (.inl none, t2) ∧ sr_I' t2 s best (64 * rg_N s) ∧ fr Sr0 (sr_u t' 11 0 0 (nI 0)) t2 := fun t' X' => pr_sam (J_thr X')
    have hj : j = 0 ∨ j = 1 ∨ j = 2 ∨ j = 3 ∨ j = 4 ∨ j = 5 ∨ j = 6 ∨ j = 7 := by omega
    rcases hj with rfl | rfl | rfl | rfl | rfl | rfl | rfl | rfl
    · have nW := nW_ok (t := t) (j := 0) (m := 7) (by omega) (by omega)
      refine ⟨nI (sS s (fH s best) (64 * rg_N s)), ⟨t1, ?_, frI_of f1⟩, fun t' X' ft => ?_⟩
      · simp (disch := omega) only [pv_lt, pu_ck, pv_bI, pv_bV, pu_bR, pv_bL, pv_nt, pu_us, pu_un, mL_0, mL_1, mL_2, mL_3, mL_4, mL_5, mL_6, mL_7, mL_8, mL_9, mL_10, mL_11, mL_12, mL_13, mL_14, mL_15, mL_16, mL_23, mL_24, mL_32, mL_48, mL_64, mL_99, mL_100, mL_200, mL_336, mL_576, mL_768, mL_800, mL_999, mL_4095, mL_4096, mL_m1, nI_leI, nI_ltI, nI_eq, nI_clamp, nI_add, pk_mul, nI_nu, bI_eq0, bI_eq1, bo_ft, Bool.true_eq_false, Bool.false_eq_true, pu_of, pu_of24, pu_onward, pu_frq, if_true, if_false, true_or, or_true, false_or, or_false, and_true, true_and, and_false, false_and, not_true_eq_false, not_false_eq_true, if_neg, if_pos, F10_sample, nW, e1', sw_0, y3]
      · obtain ⟨t2, e2, ⟨⟨z0, z1, z2, z3, z4, z5, z6, z7⟩, _, _⟩, f2⟩ := ref t' X'
        have iD := iIn_ok (t := t') (j := 0) (l := 0) (h := 7) (by omega) (by omega) (by omega)
        refine ⟨t2, ?_, (Sr_q f2).1, (Sr_q f2).2⟩
        simp (disch := omega) only [pv_lt, pu_ck, pv_bI, pv_bV, pu_bR, pv_bL, pv_nt, pu_us, pu_un, mL_0, mL_1, mL_2, mL_3, mL_4, mL_5, mL_6, mL_7, mL_8, mL_9, mL_10, mL_11, mL_12, mL_13, mL_14, mL_15, mL_16, mL_23, mL_24, mL_32, mL_48, mL_64, mL_99, mL_100, mL_200, mL_336, mL_576, mL_768, mL_800, mL_999, mL_4095, mL_4096, mL_m1, nI_leI, nI_ltI, nI_eq, nI_clamp, nI_add, pk_mul, nI_nu, bI_eq0, bI_eq1, bo_ft, Bool.true_eq_false, Bool.false_eq_true, pu_of, pu_of24, pu_onward, pu_frq, if_true, if_false, true_or, or_true, false_or, or_false, and_true, true_and, and_false, false_and, not_true_eq_false, not_false_eq_true, if_neg, if_pos, F11_sample, f11_sample_16, iD, e2, sw_0, z0]
    · have nW := nW_ok (t := t) (j := 1) (m := 7) (by omega) (by omega)
      refine ⟨nI (sS s (fK s best 0) (64 * rg_N s)), ⟨t1, ?_, frI_of f1⟩, fun t' X' ft => ?_⟩
      · simp (disch := omega) only [pv_lt, pu_ck, pv_bI, pv_bV, pu_bR, pv_bL, pv_nt, pu_us, pu_un, mL_0, mL_1, mL_2, mL_3, mL_4, mL_5, mL_6, mL_7, mL_8, mL_9, mL_10, mL_11, mL_12, mL_13, mL_14, mL_15, mL_16, mL_23, mL_24, mL_32, mL_48, mL_64, mL_99, mL_100, mL_200, mL_336, mL_576, mL_768, mL_800, mL_999, mL_4095, mL_4096, mL_m1, nI_leI, nI_ltI, nI_eq, nI_clamp, nI_add, pk_mul, nI_nu, bI_eq0, bI_eq1, bo_ft, Bool.true_eq_false, Bool.false_eq_true, pu_of, pu_of24, pu_onward, pu_frq, if_true, if_false, true_or, or_true, false_or, or_false, and_true, true_and, and_false, false_and, not_true_eq_false, not_false_eq_true, if_neg, if_pos, F10_sample, nW, e1', sw_0, y4]
      · obtain ⟨t2, e2, ⟨⟨z0, z1, z2, z3, z4, z5, z6, z7⟩, _, _⟩, f2⟩ := ref t' X'
        have iD := iIn_ok (t := t') (j := 1) (l := 0) (h := 7) (by omega) (by omega) (by omega)
        refine ⟨t2, ?_, (Sr_q f2).1, (Sr_q f2).2⟩
        simp (disch := omega) only [pv_lt, pu_ck, pv_bI, pv_bV, pu_bR, pv_bL, pv_nt, pu_us, pu_un, mL_0, mL_1, mL_2, mL_3, mL_4, mL_5, mL_6, mL_7, mL_8, mL_9, mL_10, mL_11, mL_12, mL_13, mL_14, mL_15, mL_16, mL_23, mL_24, mL_32, mL_48, mL_64, mL_99, mL_100, mL_200, mL_336, mL_576, mL_768, mL_800, mL_999, mL_4095, mL_4096, mL_m1, nI_leI, nI_ltI, nI_eq, nI_clamp, nI_add, pk_mul, nI_nu, bI_eq0, bI_eq1, bo_ft, Bool.true_eq_false, Bool.false_eq_true, pu_of, pu_of24, pu_onward, pu_frq, if_true, if_false, true_or, or_true, false_or, or_false, and_true, true_and, and_false, false_and, not_true_eq_false, not_false_eq_true, if_neg, if_pos, F11_sample, f11_sample_16, iD, e2, sw_0, z1]
    · have nW := nW_ok (t := t) (j := 2) (m := 7) (by omega) (by omega)
      refine ⟨nI (sS s (fK s best 1) (64 * rg_N s)), ⟨t1, ?_, frI_of f1⟩, fun t' X' ft => ?_⟩
      · simp (disch := omega) only [pv_lt, pu_ck, pv_bI, pv_bV, pu_bR, pv_bL, pv_nt, pu_us, pu_un, mL_0, mL_1, mL_2, mL_3, mL_4, mL_5, mL_6, mL_7, mL_8, mL_9, mL_10, mL_11, mL_12, mL_13, mL_14, mL_15, mL_16, mL_23, mL_24, mL_32, mL_48, mL_64, mL_99, mL_100, mL_200, mL_336, mL_576, mL_768, mL_800, mL_999, mL_4095, mL_4096, mL_m1, nI_leI, nI_ltI, nI_eq, nI_clamp, nI_add, pk_mul, nI_nu, bI_eq0, bI_eq1, bo_ft, Bool.true_eq_false, Bool.false_eq_true, pu_of, pu_of24, pu_onward, pu_frq, if_true, if_false, true_or, or_true, false_or, or_false, and_true, true_and, and_false, false_and, not_true_eq_false, not_false_eq_true, if_neg, if_pos, F10_sample, nW, e1', sw_0, y5]
      · obtain ⟨t2, e2, ⟨⟨z0, z1, z2, z3, z4, z5, z6, z7⟩, _, _⟩, f2⟩ := ref t' X'
        have iD := iIn_ok (t := t') (j := 2) (l := 0) (h := 7) (by omega) (by omega) (by omega)
        refine ⟨t2, ?_, (Sr_q f2).1, (Sr_q f2).2⟩
        simp (disch := omega) only [pv_lt, pu_ck, pv_bI, pv_bV, pu_bR, pv_bL, pv_nt, pu_us, pu_un, mL_0, mL_1, mL_2, mL_3, mL_4, mL_5, mL_6, mL_7, mL_8, mL_9, mL_10, mL_11, mL_12, mL_13, mL_14, mL_15, mL_16, mL_23, mL_24, mL_32, mL_48, mL_64, mL_99, mL_100, mL_200, mL_336, mL_576, mL_768, mL_800, mL_999, mL_4095, mL_4096, mL_m1, nI_leI, nI_ltI, nI_eq, nI_clamp, nI_add, pk_mul, nI_nu, bI_eq0, bI_eq1, bo_ft, Bool.true_eq_false, Bool.false_eq_true, pu_of, pu_of24, pu_onward, pu_frq, if_true, if_false, true_or, or_true, false_or, or_false, and_true, true_and, and_false, false_and, not_true_eq_false, not_false_eq_true, if_neg, if_pos, F11_sample, f11_sample_16, iD, e2, sw_0, z2]
    · have nW := nW_ok (t := t) (j := 3) (m := 7) (by omega) (by omega)
      refine ⟨nI (sS s (fK s best 2) (64 * rg_N s)), ⟨t1, ?_, frI_of f1⟩, fun t' X' ft => ?_⟩
      · simp (disch := omega) only [pv_lt, pu_ck, pv_bI, pv_bV, pu_bR, pv_bL, pv_nt, pu_us, pu_un, mL_0, mL_1, mL_2, mL_3, mL_4, mL_5, mL_6, mL_7, mL_8, mL_9, mL_10, mL_11, mL_12, mL_13, mL_14, mL_15, mL_16, mL_23, mL_24, mL_32, mL_48, mL_64, mL_99, mL_100, mL_200, mL_336, mL_576, mL_768, mL_800, mL_999, mL_4095, mL_4096, mL_m1, nI_leI, nI_ltI, nI_eq, nI_clamp, nI_add, pk_mul, nI_nu, bI_eq0, bI_eq1, bo_ft, Bool.true_eq_false, Bool.false_eq_true, pu_of, pu_of24, pu_onward, pu_frq, if_true, if_false, true_or, or_true, false_or, or_false, and_true, true_and, and_false, false_and, not_true_eq_false, not_false_eq_true, if_neg, if_pos, F10_sample, nW, e1', sw_0, y6]
      · obtain ⟨t2, e2, ⟨⟨z0, z1, z2, z3, z4, z5, z6, z7⟩, _, _⟩, f2⟩ := ref t' X'
        have iD := iIn_ok (t := t') (j := 3) (l := 0) (h := 7) (by omega) (by omega) (by omega)
        refine ⟨t2, ?_, (Sr_q f2).1, (Sr_q f2).2⟩
        simp (disch := omega) only [pv_lt, pu_ck, pv_bI, pv_bV, pu_bR, pv_bL, pv_nt, pu_us, pu_un, mL_0, mL_1, mL_2, mL_3, mL_4, mL_5, mL_6, mL_7, mL_8, mL_9, mL_10, mL_11, mL_12, mL_13, mL_14, mL_15, mL_16, mL_23, mL_24, mL_32, mL_48, mL_64, mL_99, mL_100, mL_200, mL_336, mL_576, mL_768, mL_800, mL_999, mL_4095, mL_4096, mL_m1, nI_leI, nI_ltI, nI_eq, nI_clamp, nI_add, pk_mul, nI_nu, bI_eq0, bI_eq1, bo_ft, Bool.true_eq_false, Bool.false_eq_true, pu_of, pu_of24, pu_onward, pu_frq, if_true, if_false, true_or, or_true, false_or, or_false, and_true, true_and, and_false, false_and, not_true_eq_false, not_false_eq_true, if_neg, if_pos, F11_sample, f11_sample_16, iD, e2, sw_0, z3]
    · have nW := nW_ok (t := t) (j := 4) (m := 7) (by omega) (by omega)
      refine ⟨nI (sS s (fW s best) (64 * rg_N s)), ⟨t1, ?_, frI_of f1⟩, fun t' X' ft => ?_⟩
      · simp (disch := omega) only [pv_lt, pu_ck, pv_bI, pv_bV, pu_bR, pv_bL, pv_nt, pu_us, pu_un, mL_0, mL_1, mL_2, mL_3, mL_4, mL_5, mL_6, mL_7, mL_8, mL_9, mL_10, mL_11, mL_12, mL_13, mL_14, mL_15, mL_16, mL_23, mL_24, mL_32, mL_48, mL_64, mL_99, mL_100, mL_200, mL_336, mL_576, mL_768, mL_800, mL_999, mL_4095, mL_4096, mL_m1, nI_leI, nI_ltI, nI_eq, nI_clamp, nI_add, pk_mul, nI_nu, bI_eq0, bI_eq1, bo_ft, Bool.true_eq_false, Bool.false_eq_true, pu_of, pu_of24, pu_onward, pu_frq, if_true, if_false, true_or, or_true, false_or, or_false, and_true, true_and, and_false, false_and, not_true_eq_false, not_false_eq_true, if_neg, if_pos, F10_sample, nW, e1', sw_0, y7]
      · obtain ⟨t2, e2, ⟨⟨z0, z1, z2, z3, z4, z5, z6, z7⟩, _, _⟩, f2⟩ := ref t' X'
        have iD := iIn_ok (t := t') (j := 4) (l := 0) (h := 7) (by omega) (by omega) (by omega)
        refine ⟨t2, ?_, (Sr_q f2).1, (Sr_q f2).2⟩
        simp (disch := omega) only [pv_lt, pu_ck, pv_bI, pv_bV, pu_bR, pv_bL, pv_nt, pu_us, pu_un, mL_0, mL_1, mL_2, mL_3, mL_4, mL_5, mL_6, mL_7, mL_8, mL_9, mL_10, mL_11, mL_12, mL_13, mL_14, mL_15, mL_16, mL_23, mL_24, mL_32, mL_48, mL_64, mL_99, mL_100, mL_200, mL_336, mL_576, mL_768, mL_800, mL_999, mL_4095, mL_4096, mL_m1, nI_leI, nI_ltI, nI_eq, nI_clamp, nI_add, pk_mul, nI_nu, bI_eq0, bI_eq1, bo_ft, Bool.true_eq_false, Bool.false_eq_true, pu_of, pu_of24, pu_onward, pu_frq, if_true, if_false, true_or, or_true, false_or, or_false, and_true, true_and, and_false, false_and, not_true_eq_false, not_false_eq_true, if_neg, if_pos, F11_sample, f11_sample_16, iD, e2, sw_0, z4]
    · have nW := nW_ok (t := t) (j := 5) (m := 7) (by omega) (by omega)
      refine ⟨nI (sM s (fH s best) (64 * rg_N s)), ⟨t1, ?_, frI_of f1⟩, fun t' X' ft => ?_⟩
      · simp (disch := omega) only [pv_lt, pu_ck, pv_bI, pv_bV, pu_bR, pv_bL, pv_nt, pu_us, pu_un, mL_0, mL_1, mL_2, mL_3, mL_4, mL_5, mL_6, mL_7, mL_8, mL_9, mL_10, mL_11, mL_12, mL_13, mL_14, mL_15, mL_16, mL_23, mL_24, mL_32, mL_48, mL_64, mL_99, mL_100, mL_200, mL_336, mL_576, mL_768, mL_800, mL_999, mL_4095, mL_4096, mL_m1, nI_leI, nI_ltI, nI_eq, nI_clamp, nI_add, pk_mul, nI_nu, bI_eq0, bI_eq1, bo_ft, Bool.true_eq_false, Bool.false_eq_true, pu_of, pu_of24, pu_onward, pu_frq, if_true, if_false, true_or, or_true, false_or, or_false, and_true, true_and, and_false, false_and, not_true_eq_false, not_false_eq_true, if_neg, if_pos, F10_sample, nW, e1', sw_0, y8]
      · obtain ⟨t2, e2, ⟨⟨z0, z1, z2, z3, z4, z5, z6, z7⟩, _, _⟩, f2⟩ := ref t' X'
        have iD := iIn_ok (t := t') (j := 5) (l := 0) (h := 7) (by omega) (by omega) (by omega)
        refine ⟨t2, ?_, (Sr_q f2).1, (Sr_q f2).2⟩
        simp (disch := omega) only [pv_lt, pu_ck, pv_bI, pv_bV, pu_bR, pv_bL, pv_nt, pu_us, pu_un, mL_0, mL_1, mL_2, mL_3, mL_4, mL_5, mL_6, mL_7, mL_8, mL_9, mL_10, mL_11, mL_12, mL_13, mL_14, mL_15, mL_16, mL_23, mL_24, mL_32, mL_48, mL_64, mL_99, mL_100, mL_200, mL_336, mL_576, mL_768, mL_800, mL_999, mL_4095, mL_4096, mL_m1, nI_leI, nI_ltI, nI_eq, nI_clamp, nI_add, pk_mul, nI_nu, bI_eq0, bI_eq1, bo_ft, Bool.true_eq_false, Bool.false_eq_true, pu_of, pu_of24, pu_onward, pu_frq, if_true, if_false, true_or, or_true, false_or, or_false, and_true, true_and, and_false, false_and, not_true_eq_false, not_false_eq_true, if_neg, if_pos, F11_sample, f11_sample_16, iD, e2, sw_0, z6]
    · have nW := nW_ok (t := t) (j := 6) (m := 7) (by omega) (by omega)
      refine ⟨nI (sS s (fT s best) (64 * rg_N s)), ⟨t1, ?_, frI_of f1⟩, fun t' X' ft => ?_⟩
      · simp (disch := omega) only [pv_lt, pu_ck, pv_bI, pv_bV, pu_bR, pv_bL, pv_nt, pu_us, pu_un, mL_0, mL_1, mL_2, mL_3, mL_4, mL_5, mL_6, mL_7, mL_8, mL_9, mL_10, mL_11, mL_12, mL_13, mL_14, mL_15, mL_16, mL_23, mL_24, mL_32, mL_48, mL_64, mL_99, mL_100, mL_200, mL_336, mL_576, mL_768, mL_800, mL_999, mL_4095, mL_4096, mL_m1, nI_leI, nI_ltI, nI_eq, nI_clamp, nI_add, pk_mul, nI_nu, bI_eq0, bI_eq1, bo_ft, Bool.true_eq_false, Bool.false_eq_true, pu_of, pu_of24, pu_onward, pu_frq, if_true, if_false, true_or, or_true, false_or, or_false, and_true, true_and, and_false, false_and, not_true_eq_false, not_false_eq_true, if_neg, if_pos, F10_sample, nW, e1', sw_0, y9]
      · obtain ⟨t2, e2, ⟨⟨z0, z1, z2, z3, z4, z5, z6, z7⟩, _, _⟩, f2⟩ := ref t' X'
        have iD := iIn_ok (t := t') (j := 6) (l := 0) (h := 7) (by omega) (by omega) (by omega)
        refine ⟨t2, ?_, (Sr_q f2).1, (Sr_q f2).2⟩
        simp (disch := omega) only [pv_lt, pu_ck, pv_bI, pv_bV, pu_bR, pv_bL, pv_nt, pu_us, pu_un, mL_0, mL_1, mL_2, mL_3, mL_4, mL_5, mL_6, mL_7, mL_8, mL_9, mL_10, mL_11, mL_12, mL_13, mL_14, mL_15, mL_16, mL_23, mL_24, mL_32, mL_48, mL_64, mL_99, mL_100, mL_200, mL_336, mL_576, mL_768, mL_800, mL_999, mL_4095, mL_4096, mL_m1, nI_leI, nI_ltI, nI_eq, nI_clamp, nI_add, pk_mul, nI_nu, bI_eq0, bI_eq1, bo_ft, Bool.true_eq_false, Bool.false_eq_true, pu_of, pu_of24, pu_onward, pu_frq, if_true, if_false, true_or, or_true, false_or, or_false, and_true, true_and, and_false, false_and, not_true_eq_false, not_false_eq_true, if_neg, if_pos, F11_sample, f11_sample_16, iD, e2, sw_0, z5]
    · have nW := nW_ok (t := t) (j := 7) (m := 7) (by omega) (by omega)
      refine ⟨nI (sM s (fT s best) (64 * rg_N s)), ⟨t1, ?_, frI_of f1⟩, fun t' X' ft => ?_⟩
      · simp (disch := omega) only [pv_lt, pu_ck, pv_bI, pv_bV, pu_bR, pv_bL, pv_nt, pu_us, pu_un, mL_0, mL_1, mL_2, mL_3, mL_4, mL_5, mL_6, mL_7, mL_8, mL_9, mL_10, mL_11, mL_12, mL_13, mL_14, mL_15, mL_16, mL_23, mL_24, mL_32, mL_48, mL_64, mL_99, mL_100, mL_200, mL_336, mL_576, mL_768, mL_800, mL_999, mL_4095, mL_4096, mL_m1, nI_leI, nI_ltI, nI_eq, nI_clamp, nI_add, pk_mul, nI_nu, bI_eq0, bI_eq1, bo_ft, Bool.true_eq_false, Bool.false_eq_true, pu_of, pu_of24, pu_onward, pu_frq, if_true, if_false, true_or, or_true, false_or, or_false, and_true, true_and, and_false, false_and, not_true_eq_false, not_false_eq_true, if_neg, if_pos, F10_sample, nW, e1', sw_out, y10]
      · obtain ⟨t2, e2, ⟨⟨z0, z1, z2, z3, z4, z5, z6, z7⟩, _, _⟩, f2⟩ := ref t' X'
        have iD := iIn_ok (t := t') (j := 7) (l := 0) (h := 7) (by omega) (by omega) (by omega)
        refine ⟨t2, ?_, (Sr_q f2).1, (Sr_q f2).2⟩
        simp (disch := omega) only [pv_lt, pu_ck, pv_bI, pv_bV, pu_bR, pv_bL, pv_nt, pu_us, pu_un, mL_0, mL_1, mL_2, mL_3, mL_4, mL_5, mL_6, mL_7, mL_8, mL_9, mL_10, mL_11, mL_12, mL_13, mL_14, mL_15, mL_16, mL_23, mL_24, mL_32, mL_48, mL_64, mL_99, mL_100, mL_200, mL_336, mL_576, mL_768, mL_800, mL_999, mL_4095, mL_4096, mL_m1, nI_leI, nI_ltI, nI_eq, nI_clamp, nI_add, pk_mul, nI_nu, bI_eq0, bI_eq1, bo_ft, Bool.true_eq_false, Bool.false_eq_true, pu_of, pu_of24, pu_onward, pu_frq, if_true, if_false, true_or, or_true, false_or, or_false, and_true, true_and, and_false, false_and, not_true_eq_false, not_false_eq_true, if_neg, if_pos, F11_sample, f11_sample_16, iD, e2, sw_out, z7]
theorem s_traffic {i : Nat} (hi : i + 4 ≤ 2048) (a : Int32) : sr_ok3 (sr_Inv i) (sr_Inv (i + 4)) (fun t => FL_traffic_23 a t) (fun t => F11_traffic a t) := by
  refine ok3_qf hi (F := F10_traffic a) (G := F11_traffic a) (hc := hcL_traffic_23) (fun t s w X => ?_)
  obtain ⟨O, C, K, nb, sp, R, kp, L, W⟩ := id X
  have hN := O.1.1
  rcases a_node a hN with ha | ⟨n, hn, rfl⟩
  · right
    have n1 := nN_no C ha
    have i1 := iN_no R.1 O.1 ha
    refine ⟨2, nI 1, nI 0, sr_u t 11 0 0 (nI 1), ?_, rfl, by decide, ?_, pu_us, Sr_0⟩
    · simp (disch := omega) only [pv_lt, pu_ck, pv_bI, pv_bV, pu_bR, pv_bL, pv_nt, pu_us, pu_un, mL_0, mL_1, mL_2, mL_3, mL_4, mL_5, mL_6, mL_7, mL_8, mL_9, mL_10, mL_11, mL_12, mL_13, mL_14, mL_15, mL_16, mL_23, mL_24, mL_32, mL_48, mL_64, mL_99, mL_100, mL_200, mL_336, mL_576, mL_768, mL_800, mL_999, mL_4095, mL_4096, mL_m1, nI_leI, nI_ltI, nI_eq, nI_clamp, nI_add, pk_mul, nI_nu, bI_eq0, bI_eq1, bo_ft, Bool.true_eq_false, Bool.false_eq_true, pu_of, pu_of24, pu_onward, pu_frq, if_true, if_false, true_or, or_true, false_or, or_false, and_true, true_and, and_false, false_and, not_true_eq_false, not_false_eq_true, if_neg, if_pos, F10_traffic, n1, bVr]
    · simp (disch := omega) only [pv_lt, pu_ck, pv_bI, pv_bV, pu_bR, pv_bL, pv_nt, pu_us, pu_un, mL_0, mL_1, mL_2, mL_3, mL_4, mL_5, mL_6, mL_7, mL_8, mL_9, mL_10, mL_11, mL_12, mL_13, mL_14, mL_15, mL_16, mL_23, mL_24, mL_32, mL_48, mL_64, mL_99, mL_100, mL_200, mL_336, mL_576, mL_768, mL_800, mL_999, mL_4095, mL_4096, mL_m1, nI_leI, nI_ltI, nI_eq, nI_clamp, nI_add, pk_mul, nI_nu, bI_eq0, bI_eq1, bo_ft, Bool.true_eq_false, Bool.false_eq_true, pu_of, pu_of24, pu_onward, pu_frq, if_true, if_false, true_or, or_true, false_or, or_false, and_true, true_and, and_false, false_and, not_true_eq_false, not_false_eq_true, if_neg, if_pos, F11_traffic, F11_wrongUp, f11_wrongUp_26, i1]
  · have n1 := nN_ok C O hn
    have wu := pu_wrongUp R.1 O.1 hn
    by_cases hu : rg_u s n = true
    · left
      have nU := nU_ok C O hn hu
      obtain ⟨t1, e1, _, V1, f1⟩ := pc_sam (best := true) (tr := true) X
      have e1' : F5_run 0 (nI 1) (nI 1) t = some (.inl none, t1) := e1
      have v := (V1 rfl).1 n (by omega)
      refine ⟨nI (sS s (fV s true n) (64 * rg_N s)), ⟨t1, ?_, frI_of f1⟩, fun t' X' ft => ?_⟩
      · simp (disch := omega) only [pv_lt, pu_ck, pv_bI, pv_bV, pu_bR, pv_bL, pv_nt, pu_us, pu_un, mL_0, mL_1, mL_2, mL_3, mL_4, mL_5, mL_6, mL_7, mL_8, mL_9, mL_10, mL_11, mL_12, mL_13, mL_14, mL_15, mL_16, mL_23, mL_24, mL_32, mL_48, mL_64, mL_99, mL_100, mL_200, mL_336, mL_576, mL_768, mL_800, mL_999, mL_4095, mL_4096, mL_m1, nI_leI, nI_ltI, nI_eq, nI_clamp, nI_add, pk_mul, nI_nu, bI_eq0, bI_eq1, bo_ft, Bool.true_eq_false, Bool.false_eq_true, pu_of, pu_of24, pu_onward, pu_frq, if_true, if_false, true_or, or_true, false_or, or_false, and_true, true_and, and_false, false_and, not_true_eq_false, not_false_eq_true, if_neg, if_pos, F10_traffic, n1, nU, e1', F5_visitsOf, f5_visitsOf_23, v, pu_ixN']
      · have wu := pu_wrongUp X'.2.2.2.2.2.1.1 O.1 hn
        rw [if_pos hu] at wu
        obtain ⟨t2, e2, ⟨_, zv, _⟩, f2⟩ := pr_sam (best := true) (J_thr (v := nI 0) X')
        have e2' : F11_samples (nI 1) (sr_u t' 11 0 0 (nI 0)) = some (.inl none, t2) := e2
        have z := zv n hn
        refine ⟨t2, ?_, (Sr_q f2).1, (Sr_q f2).2⟩
        simp (disch := omega) only [pv_lt, pu_ck, pv_bI, pv_bV, pu_bR, pv_bL, pv_nt, pu_us, pu_un, mL_0, mL_1, mL_2, mL_3, mL_4, mL_5, mL_6, mL_7, mL_8, mL_9, mL_10, mL_11, mL_12, mL_13, mL_14, mL_15, mL_16, mL_23, mL_24, mL_32, mL_48, mL_64, mL_99, mL_100, mL_200, mL_336, mL_576, mL_768, mL_800, mL_999, mL_4095, mL_4096, mL_m1, nI_leI, nI_ltI, nI_eq, nI_clamp, nI_add, pk_mul, nI_nu, bI_eq0, bI_eq1, bo_ft, Bool.true_eq_false, Bool.false_eq_true, pu_of, pu_of24, pu_onward, pu_frq, if_true, if_false, true_or, or_true, false_or, or_false, and_true, true_and, and_false, false_and, not_true_eq_false, not_false_eq_true, if_neg, if_pos, F11_traffic, wu, e2', z, pu_ixN']
    · right
      have hu' : rg_u s n = false := by simpa using hu
      have nU := nU_no C O hn hu'
      rw [if_neg hu] at wu
      refine ⟨1, nI 2, nI 0, sr_u t 11 0 0 (nI 2), ?_, rfl, by decide, ?_, pu_us, Sr_0⟩
      · simp (disch := omega) only [pv_lt, pu_ck, pv_bI, pv_bV, pu_bR, pv_bL, pv_nt, pu_us, pu_un, mL_0, mL_1, mL_2, mL_3, mL_4, mL_5, mL_6, mL_7, mL_8, mL_9, mL_10, mL_11, mL_12, mL_13, mL_14, mL_15, mL_16, mL_23, mL_24, mL_32, mL_48, mL_64, mL_99, mL_100, mL_200, mL_336, mL_576, mL_768, mL_800, mL_999, mL_4095, mL_4096, mL_m1, nI_leI, nI_ltI, nI_eq, nI_clamp, nI_add, pk_mul, nI_nu, bI_eq0, bI_eq1, bo_ft, Bool.true_eq_false, Bool.false_eq_true, pu_of, pu_of24, pu_onward, pu_frq, if_true, if_false, true_or, or_true, false_or, or_false, and_true, true_and, and_false, false_and, not_true_eq_false, not_false_eq_true, if_neg, if_pos, F10_traffic, n1, nU, bVr]
      · simp (disch := omega) only [pv_lt, pu_ck, pv_bI, pv_bV, pu_bR, pv_bL, pv_nt, pu_us, pu_un, mL_0, mL_1, mL_2, mL_3, mL_4, mL_5, mL_6, mL_7, mL_8, mL_9, mL_10, mL_11, mL_12, mL_13, mL_14, mL_15, mL_16, mL_23, mL_24, mL_32, mL_48, mL_64, mL_99, mL_100, mL_200, mL_336, mL_576, mL_768, mL_800, mL_999, mL_4095, mL_4096, mL_m1, nI_leI, nI_ltI, nI_eq, nI_clamp, nI_add, pk_mul, nI_nu, bI_eq0, bI_eq1, bo_ft, Bool.true_eq_false, Bool.false_eq_true, pu_of, pu_of24, pu_onward, pu_frq, if_true, if_false, true_or, or_true, false_or, or_false, and_true, true_and, and_false, false_and, not_true_eq_false, not_false_eq_true, if_neg, if_pos, F11_traffic, wu]
/-! all laid by a base and a degree -/
def rg_by (s : rg_T) (b d : Nat) : rg_T := rg_la (rg_sd (rg_sb s b) d) b d
theorem rg_ok_by {s : rg_T} {b d : Nat} (O : rg_ok s) (b1 : 1 ≤ b) (b4 : b ≤ 4) (d1 : 1 ≤ d) (d8 : d ≤ 8) : rg_ok (rg_by s b d) := rg_ok_la (rg_ok_sd (rg_ok_sb O b1 b4) d1 d8) b4 d1 d8
theorem rg_cy_sb {s : rg_T} {b h : Nat} : ∀ k, rg_cy (rg_sb s b) h k = rg_cy s h k := by
  intro k
  induction k with
  | zero => rfl
  | succ k ih => exact congrArg (rg_sc s) ih
theorem rg_lay_sb {s : rg_T} {b' b d m : Nat} : rg_lay (rg_sb s b') b d m = rg_lay s b d m := by
  funext i
  unfold rg_lay
  rw [rg_cy_sb, rg_cy_sb]
  rfl
theorem rg_lay_la {s : rg_T} {b' d' b d m : Nat} : rg_lay (rg_la s b' d') b d m = rg_lay s b d m := by
  funext i
  unfold rg_lay
  rw [rg_cy_la, rg_cy_la]
  rfl
theorem rg_by_by {s : rg_T} {b0 d0 b d : Nat} : rg_by (rg_by s b0 d0) b d = rg_by s b d := by
  have e : ∀ m, rg_lay (rg_sd (rg_sb (rg_by s b0 d0) b) d) b d m = rg_lay (rg_sd (rg_sb s b) d) b d m := by
    intro m
    rw [rg_lay_sd, rg_lay_sb, rg_lay_sd, rg_lay_sb]
    unfold rg_by
    rw [rg_lay_la, rg_lay_sd, rg_lay_sb]
  have ht : (fun m => if rg_u s m = true then rg_lay (rg_sd (rg_sb (rg_by s b0 d0) b) d) b d m else (if rg_u s m = true then rg_lay (rg_sd (rg_sb s b0) d0) b0 d0 m else rg_t s m)) = (fun m => if rg_u s m = true then rg_lay (rg_sd (rg_sb s b) d) b d m else rg_t s m) := by
    funext m
    by_cases hu : rg_u s m = true
    · rw [if_pos hu, if_pos hu, e]
    · rw [if_neg hu, if_neg hu, if_neg hu]
  show ((s.1.1, b, d), s.2.1, s.2.2.1, s.2.2.2.1, (fun m => if rg_u s m = true then rg_lay (rg_sd (rg_sb (rg_by s b0 d0) b) d) b d m else (if rg_u s m = true then rg_lay (rg_sd (rg_sb s b0) d0) b0 d0 m else rg_t s m))) = ((s.1.1, b, d), s.2.1, s.2.2.1, s.2.2.2.1, (fun m => if rg_u s m = true then rg_lay (rg_sd (rg_sb s b) d) b d m else rg_t s m))
  rw [ht]
/-- ring 1 is a trial of this picture -/
def Tr (t : sr_t) (s : rg_T) : Prop := ∃ s1, rg_C t 1 s1 ∧ rg_ok s1 ∧ ∀ b d, rg_by s1 b d = rg_by s b d
/-- what a trial may change -/
def S_tr (k i j : Nat) : Prop := S_r1 k i j ∨ S_sa k i j
theorem S_tr_Sc {k i j : Nat} (h : S_tr k i j) : Sc k i j := by
  unfold S_tr S_r1 S_sa at h
  unfold Sc
  omega
theorem pc_copy {i : Nat} {t : sr_t} {s : rg_T} {w : st_T} (X : J i t s w) : ∃ t1, F3_copyFrom 1 0 t = some (.inl none, t1) ∧ rg_C t1 1 s ∧ rg_K t1 1 s ∧ fr S_tr t t1 := by
  obtain ⟨O, C, K, nb, sp, R, kp, L, W⟩ := X
  obtain ⟨t1, e1, c1, k1, f1⟩ := pu_copyRing C O nb
  exact ⟨t1, e1, c1, k1, fr_mono f1 (fun k i j q => Or.inl q)⟩
theorem pc_laid {t : sr_t} {s : rg_T} {b d : Nat} (T : Tr t s) (b1 : 1 ≤ b) (b4 : b ≤ 4) (d1 : 1 ≤ d) (d8 : d ≤ 8) : ∃ t1, F1_runLaidBy (nI (2 ^ b)) (nI d) t = some (.inl none, t1) ∧ Tr t1 s ∧ sc_I t1 (rg_by s b d) true (64 * rg_N s) ∧ fr S_tr t t1 := by
  obtain ⟨s1, C, O, hby⟩ := T
  have hN := O.1.1
  have sB := pu_setBase (t := t) (r := 1) b1 b4
  have C1 := rg_C_sd (s := rg_sb s1 b) (d := d) hN (rg_C_sb (b := b) hN C)
  have O1 : rg_ok (rg_sd (rg_sb s1 b) d) := rg_ok_sd (rg_ok_sb O b1 b4) d1 d8
  obtain ⟨t2, e2, c2, k2, f2⟩ := pu_layAll C1 O1 (by omega)
  have c2' : rg_C t2 1 (rg_by s1 b d) := c2
  have k2' : rg_K t2 1 (rg_by s1 b d) := k2
  rw [hby] at c2' k2'
  have eN : rg_N (rg_by s b d) = rg_N s := rfl
  have Ob : rg_ok (rg_by s b d) := by rw [← hby]; exact rg_ok_by O b1 b4 d1 d8
  obtain ⟨t3, e3, I3, _, f3⟩ := pc_run (best := true) (tr := false) c2' k2' Ob (by omega)
  have e3' : F5_run 1 (nI 1) (nI 0) t2 = some (.inl none, t3) := e3
  rw [eN] at I3
  refine ⟨t3, ?_, ⟨rg_by s b d, rg_C_fr Ob.1.1 f3 (fun k i j q => by unfold Fp_C at q; unfold S_sa; omega) c2', Ob, fun b' d' => rg_by_by⟩, I3, ?_⟩
  · simp (disch := omega) only [pv_lt, pu_ck, pv_bI, pv_bV, pu_bR, pv_bL, pv_nt, pu_us, pu_un, mL_0, mL_1, mL_2, mL_3, mL_4, mL_5, mL_6, mL_7, mL_8, mL_9, mL_10, mL_11, mL_12, mL_13, mL_14, mL_15, mL_16, mL_23, mL_24, mL_32, mL_48, mL_64, mL_99, mL_100, mL_200, mL_336, mL_576, mL_768, mL_800, mL_999, mL_4095, mL_4096, mL_m1, nI_leI, nI_ltI, nI_eq, nI_clamp, nI_add, pk_mul, nI_nu, bI_eq0, bI_eq1, bo_ft, Bool.true_eq_false, Bool.false_eq_true, pu_of, pu_of24, pu_onward, pu_frq, if_true, if_false, true_or, or_true, false_or, or_false, and_true, true_and, and_false, false_and, not_true_eq_false, not_false_eq_true, if_neg, if_pos, F1_runLaidBy, sB, e2, e3']
  · refine fr_trans (fr_u (fr_u (fr_u (fr_u fr_rfl ?_) ?_) ?_) ?_) (fr_trans (fr_mono f2 (fun k i j q => ?_)) (fr_mono f3 (fun k i j q => Or.inr q)))
    · exact Or.inl (by unfold S_r1; omega)
    · exact Or.inl (by unfold S_r1; omega)
    · exact Or.inl (by unfold S_r1; omega)
    · exact Or.inl (by unfold S_r1; omega)
    · exact Or.inl (by unfold S_ts Fp_K at q; unfold S_r1; omega)
end
