section
/-! step: count -/
theorem sw_o {a : Int32} {x : sr_Rs} {f : Nat → sr_Rs} (h : a < 0 ∨ nI 17 ≤ a) : sr_sw 0 16 a x f = x := by
  by_cases h0 : a < 0
  · have h1 : a.toInt < 0 := Int32.lt_iff_toInt_lt.mp h0
    unfold sr_sw
    rw [if_pos (Or.inl h1)]
  · obtain ⟨j, hj, rfl⟩ := nI_of h0
    have hle : 17 ≤ j := (nI_leI (by omega) hj).mp (h.resolve_left h0)
    exact sw_out hj (Or.inr (by omega))
theorem q_c0 {i : Nat} (hi : i + 4 ≤ 2048) {t : sr_t} {s : rg_T} {w : st_T} (X : J i t s w) : ∃ v : Int32, (∃ t1, F10_count (nI 0) t = some (.inl (some (sr_i v)), t1) ∧ frI Sc t t1) ∧ ∀ t', J i t' s w → frI Sc t t' → ∃ t2, F11_count (nI 0) t' = some (.inl (some (sr_i v)), t2) ∧ fr Sr t' t2 := by
  obtain ⟨O, C, K, nb, sp, R, kp, L, W⟩ := id X
  have hN := O.1.1
  have h := C.1.1.1
  refine ⟨nI (rg_N s), ⟨t, ?_, fun _ _ _ _ => rfl⟩, fun t' X' ft => ?_⟩
  · simp (disch := omega) only [pv_lt, pu_ck, pv_bI, pv_bV, pu_bR, pv_bL, pv_nt, pu_us, pu_un, mL_0, mL_1, mL_2, mL_3, mL_4, mL_5, mL_6, mL_7, mL_8, mL_9, mL_10, mL_11, mL_12, mL_13, mL_14, mL_15, mL_16, mL_23, mL_24, mL_32, mL_48, mL_64, mL_99, mL_100, mL_200, mL_336, mL_576, mL_768, mL_800, mL_999, mL_4095, mL_4096, mL_m1, nI_leI, nI_ltI, nI_eq, nI_clamp, nI_add, pk_mul, nI_nu, bI_eq0, bI_eq1, bo_ft, Bool.true_eq_false, Bool.false_eq_true, pu_of, pu_of24, pu_onward, pu_frq, if_true, if_false, true_or, or_true, false_or, or_false, and_true, true_and, and_false, false_and, not_true_eq_false, not_false_eq_true, if_neg, if_pos, F10_count, sw_0, h]
  · have h := X'.2.2.2.2.2.1.1.1.1
    refine ⟨sr_u t' 11 0 0 (nI 0), ?_, Sr_0⟩
    simp (disch := omega) only [pv_lt, pu_ck, pv_bI, pv_bV, pu_bR, pv_bL, pv_nt, pu_us, pu_un, mL_0, mL_1, mL_2, mL_3, mL_4, mL_5, mL_6, mL_7, mL_8, mL_9, mL_10, mL_11, mL_12, mL_13, mL_14, mL_15, mL_16, mL_23, mL_24, mL_32, mL_48, mL_64, mL_99, mL_100, mL_200, mL_336, mL_576, mL_768, mL_800, mL_999, mL_4095, mL_4096, mL_m1, nI_leI, nI_ltI, nI_eq, nI_clamp, nI_add, pk_mul, nI_nu, bI_eq0, bI_eq1, bo_ft, Bool.true_eq_false, Bool.false_eq_true, pu_of, pu_of24, pu_onward, pu_frq, if_true, if_false, true_or, or_true, false_or, or_false, and_true, true_and, and_false, false_and, not_true_eq_false, not_false_eq_true, if_neg, if_pos, F11_count, sw_0, h]
theorem q_c1 {i : Nat} (hi : i + 4 ≤ 2048) {t : sr_t} {s : rg_T} {w : st_T} (X : J i t s w) : ∃ v : Int32, (∃ t1, F10_count (nI 1) t = some (.inl (some (sr_i v)), t1) ∧ frI Sc t t1) ∧ ∀ t', J i t' s w → frI Sc t t' → ∃ t2, F11_count (nI 1) t' = some (.inl (some (sr_i v)), t2) ∧ fr Sr t' t2 := by
  obtain ⟨O, C, K, nb, sp, R, kp, L, W⟩ := id X
  have hN := O.1.1
  have h := K.1
  refine ⟨nI (rg_up s), ⟨t, ?_, fun _ _ _ _ => rfl⟩, fun t' X' ft => ?_⟩
  · simp (disch := omega) only [pv_lt, pu_ck, pv_bI, pv_bV, pu_bR, pv_bL, pv_nt, pu_us, pu_un, mL_0, mL_1, mL_2, mL_3, mL_4, mL_5, mL_6, mL_7, mL_8, mL_9, mL_10, mL_11, mL_12, mL_13, mL_14, mL_15, mL_16, mL_23, mL_24, mL_32, mL_48, mL_64, mL_99, mL_100, mL_200, mL_336, mL_576, mL_768, mL_800, mL_999, mL_4095, mL_4096, mL_m1, nI_leI, nI_ltI, nI_eq, nI_clamp, nI_add, pk_mul, nI_nu, bI_eq0, bI_eq1, bo_ft, Bool.true_eq_false, Bool.false_eq_true, pu_of, pu_of24, pu_onward, pu_frq, if_true, if_false, true_or, or_true, false_or, or_false, and_true, true_and, and_false, false_and, not_true_eq_false, not_false_eq_true, if_neg, if_pos, F10_count, sw_0, h]
  · have h : F11_ups (sr_u t' 11 0 0 (nI 0)) = some (.inl (some (sr_i (nI (rg_up s)))), sr_u t' 11 0 0 (nI 0)) := pu_ups (J_thr (v := nI 0) X').2.2.2.2.2.1.1 O.1
    refine ⟨sr_u t' 11 0 0 (nI 0), ?_, Sr_0⟩
    simp (disch := omega) only [pv_lt, pu_ck, pv_bI, pv_bV, pu_bR, pv_bL, pv_nt, pu_us, pu_un, mL_0, mL_1, mL_2, mL_3, mL_4, mL_5, mL_6, mL_7, mL_8, mL_9, mL_10, mL_11, mL_12, mL_13, mL_14, mL_15, mL_16, mL_23, mL_24, mL_32, mL_48, mL_64, mL_99, mL_100, mL_200, mL_336, mL_576, mL_768, mL_800, mL_999, mL_4095, mL_4096, mL_m1, nI_leI, nI_ltI, nI_eq, nI_clamp, nI_add, pk_mul, nI_nu, bI_eq0, bI_eq1, bo_ft, Bool.true_eq_false, Bool.false_eq_true, pu_of, pu_of24, pu_onward, pu_frq, if_true, if_false, true_or, or_true, false_or, or_false, and_true, true_and, and_false, false_and, not_true_eq_false, not_false_eq_true, if_neg, if_pos, F11_count, sw_0, h]
theorem q_c2 {i : Nat} (hi : i + 4 ≤ 2048) {t : sr_t} {s : rg_T} {w : st_T} (X : J i t s w) : ∃ v : Int32, (∃ t1, F10_count (nI 2) t = some (.inl (some (sr_i v)), t1) ∧ frI Sc t t1) ∧ ∀ t', J i t' s w → frI Sc t t' → ∃ t2, F11_count (nI 2) t' = some (.inl (some (sr_i v)), t2) ∧ fr Sr t' t2 := by
  obtain ⟨O, C, K, nb, sp, R, kp, L, W⟩ := id X
  have hN := O.1.1
  have h := C.1.1.2.1
  refine ⟨nI (2 ^ rg_b s), ⟨t, ?_, fun _ _ _ _ => rfl⟩, fun t' X' ft => ?_⟩
  · simp (disch := omega) only [pv_lt, pu_ck, pv_bI, pv_bV, pu_bR, pv_bL, pv_nt, pu_us, pu_un, mL_0, mL_1, mL_2, mL_3, mL_4, mL_5, mL_6, mL_7, mL_8, mL_9, mL_10, mL_11, mL_12, mL_13, mL_14, mL_15, mL_16, mL_23, mL_24, mL_32, mL_48, mL_64, mL_99, mL_100, mL_200, mL_336, mL_576, mL_768, mL_800, mL_999, mL_4095, mL_4096, mL_m1, nI_leI, nI_ltI, nI_eq, nI_clamp, nI_add, pk_mul, nI_nu, bI_eq0, bI_eq1, bo_ft, Bool.true_eq_false, Bool.false_eq_true, pu_of, pu_of24, pu_onward, pu_frq, if_true, if_false, true_or, or_true, false_or, or_false, and_true, true_and, and_false, false_and, not_true_eq_false, not_false_eq_true, if_neg, if_pos, F10_count, sw_0, h]
  · have h := X'.2.2.2.2.2.1.1.1.2.1
    refine ⟨sr_u t' 11 0 0 (nI 0), ?_, Sr_0⟩
    simp (disch := omega) only [pv_lt, pu_ck, pv_bI, pv_bV, pu_bR, pv_bL, pv_nt, pu_us, pu_un, mL_0, mL_1, mL_2, mL_3, mL_4, mL_5, mL_6, mL_7, mL_8, mL_9, mL_10, mL_11, mL_12, mL_13, mL_14, mL_15, mL_16, mL_23, mL_24, mL_32, mL_48, mL_64, mL_99, mL_100, mL_200, mL_336, mL_576, mL_768, mL_800, mL_999, mL_4095, mL_4096, mL_m1, nI_leI, nI_ltI, nI_eq, nI_clamp, nI_add, pk_mul, nI_nu, bI_eq0, bI_eq1, bo_ft, Bool.true_eq_false, Bool.false_eq_true, pu_of, pu_of24, pu_onward, pu_frq, if_true, if_false, true_or, or_true, false_or, or_false, and_true, true_and, and_false, false_and, not_true_eq_false, not_false_eq_true, if_neg, if_pos, F11_count, sw_0, h]
theorem q_c3 {i : Nat} (hi : i + 4 ≤ 2048) {t : sr_t} {s : rg_T} {w : st_T} (X : J i t s w) : ∃ v : Int32, (∃ t1, F10_count (nI 3) t = some (.inl (some (sr_i v)), t1) ∧ frI Sc t t1) ∧ ∀ t', J i t' s w → frI Sc t t' → ∃ t2, F11_count (nI 3) t' = some (.inl (some (sr_i v)), t2) ∧ fr Sr t' t2 := by
  obtain ⟨O, C, K, nb, sp, R, kp, L, W⟩ := id X
  have hN := O.1.1
  have h := C.1.1.2.2.2.2
  refine ⟨nI (rg_d s), ⟨t, ?_, fun _ _ _ _ => rfl⟩, fun t' X' ft => ?_⟩
  · simp (disch := omega) only [pv_lt, pu_ck, pv_bI, pv_bV, pu_bR, pv_bL, pv_nt, pu_us, pu_un, mL_0, mL_1, mL_2, mL_3, mL_4, mL_5, mL_6, mL_7, mL_8, mL_9, mL_10, mL_11, mL_12, mL_13, mL_14, mL_15, mL_16, mL_23, mL_24, mL_32, mL_48, mL_64, mL_99, mL_100, mL_200, mL_336, mL_576, mL_768, mL_800, mL_999, mL_4095, mL_4096, mL_m1, nI_leI, nI_ltI, nI_eq, nI_clamp, nI_add, pk_mul, nI_nu, bI_eq0, bI_eq1, bo_ft, Bool.true_eq_false, Bool.false_eq_true, pu_of, pu_of24, pu_onward, pu_frq, if_true, if_false, true_or, or_true, false_or, or_false, and_true, true_and, and_false, false_and, not_true_eq_false, not_false_eq_true, if_neg, if_pos, F10_count, sw_0, h]
  · have h := X'.2.2.2.2.2.1.1.1.2.2
    refine ⟨sr_u t' 11 0 0 (nI 0), ?_, Sr_0⟩
    simp (disch := omega) only [pv_lt, pu_ck, pv_bI, pv_bV, pu_bR, pv_bL, pv_nt, pu_us, pu_un, mL_0, mL_1, mL_2, mL_3, mL_4, mL_5, mL_6, mL_7, mL_8, mL_9, mL_10, mL_11, mL_12, mL_13, mL_14, mL_15, mL_16, mL_23, mL_24, mL_32, mL_48, mL_64, mL_99, mL_100, mL_200, mL_336, mL_576, mL_768, mL_800, mL_999, mL_4095, mL_4096, mL_m1, nI_leI, nI_ltI, nI_eq, nI_clamp, nI_add, pk_mul, nI_nu, bI_eq0, bI_eq1, bo_ft, Bool.true_eq_false, Bool.false_eq_true, pu_of, pu_of24, pu_onward, pu_frq, if_true, if_false, true_or, or_true, false_or, or_false, and_true, true_and, and_false, false_and, not_true_eq_false, not_false_eq_true, if_neg, if_pos, F11_count, sw_0, h]
theorem q_c4 {i : Nat} (hi : i + 4 ≤ 2048) {t : sr_t} {s : rg_T} {w : st_T} (X : J i t s w) : ∃ v : Int32, (∃ t1, F10_count (nI 4) t = some (.inl (some (sr_i v)), t1) ∧ frI Sc t t1) ∧ ∀ t', J i t' s w → frI Sc t t' → ∃ t2, F11_count (nI 4) t' = some (.inl (some (sr_i v)), t2) ∧ fr Sr t' t2 := by
  obtain ⟨O, C, K, nb, sp, R, kp, L, W⟩ := id X
  have hN := O.1.1
  have h := C.1.1.2.2.2.1
  refine ⟨nI (12 / rg_b s), ⟨t, ?_, fun _ _ _ _ => rfl⟩, fun t' X' ft => ?_⟩
  · simp (disch := omega) only [pv_lt, pu_ck, pv_bI, pv_bV, pu_bR, pv_bL, pv_nt, pu_us, pu_un, mL_0, mL_1, mL_2, mL_3, mL_4, mL_5, mL_6, mL_7, mL_8, mL_9, mL_10, mL_11, mL_12, mL_13, mL_14, mL_15, mL_16, mL_23, mL_24, mL_32, mL_48, mL_64, mL_99, mL_100, mL_200, mL_336, mL_576, mL_768, mL_800, mL_999, mL_4095, mL_4096, mL_m1, nI_leI, nI_ltI, nI_eq, nI_clamp, nI_add, pk_mul, nI_nu, bI_eq0, bI_eq1, bo_ft, Bool.true_eq_false, Bool.false_eq_true, pu_of, pu_of24, pu_onward, pu_frq, if_true, if_false, true_or, or_true, false_or, or_false, and_true, true_and, and_false, false_and, not_true_eq_false, not_false_eq_true, if_neg, if_pos, F10_count, sw_0, h]
  · have h := pu_lettersR (J_thr (v := nI 0) X').2.2.2.2.2.1.1.1.2.1 O.1
    refine ⟨sr_u t' 11 0 0 (nI 0), ?_, Sr_0⟩
    simp (disch := omega) only [pv_lt, pu_ck, pv_bI, pv_bV, pu_bR, pv_bL, pv_nt, pu_us, pu_un, mL_0, mL_1, mL_2, mL_3, mL_4, mL_5, mL_6, mL_7, mL_8, mL_9, mL_10, mL_11, mL_12, mL_13, mL_14, mL_15, mL_16, mL_23, mL_24, mL_32, mL_48, mL_64, mL_99, mL_100, mL_200, mL_336, mL_576, mL_768, mL_800, mL_999, mL_4095, mL_4096, mL_m1, nI_leI, nI_ltI, nI_eq, nI_clamp, nI_add, pk_mul, nI_nu, bI_eq0, bI_eq1, bo_ft, Bool.true_eq_false, Bool.false_eq_true, pu_of, pu_of24, pu_onward, pu_frq, if_true, if_false, true_or, or_true, false_or, or_false, and_true, true_and, and_false, false_and, not_true_eq_false, not_false_eq_true, if_neg, if_pos, F11_count, sw_0, h]
theorem q_c5 {i : Nat} (hi : i + 4 ≤ 2048) {t : sr_t} {s : rg_T} {w : st_T} (X : J i t s w) : ∃ v : Int32, (∃ t1, F10_count (nI 5) t = some (.inl (some (sr_i v)), t1) ∧ frI Sc t t1) ∧ ∀ t', J i t' s w → frI Sc t t' → ∃ t2, F11_count (nI 5) t' = some (.inl (some (sr_i v)), t2) ∧ fr Sr t' t2 := by
  obtain ⟨O, C, K, nb, sp, R, kp, L, W⟩ := id X
  have hN := O.1.1
  obtain ⟨t1, h, f1⟩ := pc_width C O
  refine ⟨nu (wd s (rg_N s)), ⟨t1, ?_, fun k i j q => f1.2 k i j (fun e => q (by unfold S_17 at e; unfold Sc; omega))⟩, fun t' X' ft => ?_⟩
  · simp (disch := omega) only [pv_lt, pu_ck, pv_bI, pv_bV, pu_bR, pv_bL, pv_nt, pu_us, pu_un, mL_0, mL_1, mL_2, mL_3, mL_4, mL_5, mL_6, mL_7, mL_8, mL_9, mL_10, mL_11, mL_12, mL_13, mL_14, mL_15, mL_16, mL_23, mL_24, mL_32, mL_48, mL_64, mL_99, mL_100, mL_200, mL_336, mL_576, mL_768, mL_800, mL_999, mL_4095, mL_4096, mL_m1, nI_leI, nI_ltI, nI_eq, nI_clamp, nI_add, pk_mul, nI_nu, bI_eq0, bI_eq1, bo_ft, Bool.true_eq_false, Bool.false_eq_true, pu_of, pu_of24, pu_onward, pu_frq, if_true, if_false, true_or, or_true, false_or, or_false, and_true, true_and, and_false, false_and, not_true_eq_false, not_false_eq_true, if_neg, if_pos, F10_count, sw_0, h]
  · obtain ⟨t2, h, f2⟩ := pr_width (J_thr (v := nI 0) X').2.2.2.2.2.1 O
    refine ⟨t2, ?_, (Sr_q (fr_mono f2 (fun k i j q => by unfold S_bf at q; unfold Sr0; omega))).2⟩
    simp (disch := omega) only [pv_lt, pu_ck, pv_bI, pv_bV, pu_bR, pv_bL, pv_nt, pu_us, pu_un, mL_0, mL_1, mL_2, mL_3, mL_4, mL_5, mL_6, mL_7, mL_8, mL_9, mL_10, mL_11, mL_12, mL_13, mL_14, mL_15, mL_16, mL_23, mL_24, mL_32, mL_48, mL_64, mL_99, mL_100, mL_200, mL_336, mL_576, mL_768, mL_800, mL_999, mL_4095, mL_4096, mL_m1, nI_leI, nI_ltI, nI_eq, nI_clamp, nI_add, pk_mul, nI_nu, bI_eq0, bI_eq1, bo_ft, Bool.true_eq_false, Bool.false_eq_true, pu_of, pu_of24, pu_onward, pu_frq, if_true, if_false, true_or, or_true, false_or, or_false, and_true, true_and, and_false, false_and, not_true_eq_false, not_false_eq_true, if_neg, if_pos, F11_count, sw_0, h]
theorem q_c6 {i : Nat} (hi : i + 4 ≤ 2048) {t : sr_t} {s : rg_T} {w : st_T} (X : J i t s w) : ∃ v : Int32, (∃ t1, F10_count (nI 6) t = some (.inl (some (sr_i v)), t1) ∧ frI Sc t t1) ∧ ∀ t', J i t' s w → frI Sc t t' → ∃ t2, F11_count (nI 6) t' = some (.inl (some (sr_i v)), t2) ∧ fr Sr t' t2 := by
  obtain ⟨O, C, K, nb, sp, R, kp, L, W⟩ := id X
  have hN := O.1.1
  obtain ⟨t1, h, f1⟩ := pu_staleAllC C O (by omega)
  refine ⟨nI (rg_slA s), ⟨t1, ?_, fun k i j q => f1.2 k i j (fun e => q (by unfold S_tab at e; unfold Sc; omega))⟩, fun t' X' ft => ?_⟩
  · simp (disch := omega) only [pv_lt, pu_ck, pv_bI, pv_bV, pu_bR, pv_bL, pv_nt, pu_us, pu_un, mL_0, mL_1, mL_2, mL_3, mL_4, mL_5, mL_6, mL_7, mL_8, mL_9, mL_10, mL_11, mL_12, mL_13, mL_14, mL_15, mL_16, mL_23, mL_24, mL_32, mL_48, mL_64, mL_99, mL_100, mL_200, mL_336, mL_576, mL_768, mL_800, mL_999, mL_4095, mL_4096, mL_m1, nI_leI, nI_ltI, nI_eq, nI_clamp, nI_add, pk_mul, nI_nu, bI_eq0, bI_eq1, bo_ft, Bool.true_eq_false, Bool.false_eq_true, pu_of, pu_of24, pu_onward, pu_frq, if_true, if_false, true_or, or_true, false_or, or_false, and_true, true_and, and_false, false_and, not_true_eq_false, not_false_eq_true, if_neg, if_pos, F10_count, sw_0, h]
  · obtain ⟨t2, h, f2⟩ := pu_staleAllR (J_thr (v := nI 0) X').2.2.2.2.2.1 O
    refine ⟨t2, ?_, (Sr_q (fr_mono f2 (fun k i j q => by unfold S_k at q; unfold Sr0; omega))).2⟩
    simp (disch := omega) only [pv_lt, pu_ck, pv_bI, pv_bV, pu_bR, pv_bL, pv_nt, pu_us, pu_un, mL_0, mL_1, mL_2, mL_3, mL_4, mL_5, mL_6, mL_7, mL_8, mL_9, mL_10, mL_11, mL_12, mL_13, mL_14, mL_15, mL_16, mL_23, mL_24, mL_32, mL_48, mL_64, mL_99, mL_100, mL_200, mL_336, mL_576, mL_768, mL_800, mL_999, mL_4095, mL_4096, mL_m1, nI_leI, nI_ltI, nI_eq, nI_clamp, nI_add, pk_mul, nI_nu, bI_eq0, bI_eq1, bo_ft, Bool.true_eq_false, Bool.false_eq_true, pu_of, pu_of24, pu_onward, pu_frq, if_true, if_false, true_or, or_true, false_or, or_false, and_true, true_and, and_false, false_and, not_true_eq_false, not_false_eq_true, if_neg, if_pos, F11_count, sw_0, h]
theorem q_c7 {i : Nat} (hi : i + 4 ≤ 2048) {t : sr_t} {s : rg_T} {w : st_T} (X : J i t s w) : ∃ v : Int32, (∃ t1, F10_count (nI 7) t = some (.inl (some (sr_i v)), t1) ∧ frI Sc t t1) ∧ ∀ t', J i t' s w → frI Sc t t' → ∃ t2, F11_count (nI 7) t' = some (.inl (some (sr_i v)), t2) ∧ fr Sr t' t2 := by
  obtain ⟨O, C, K, nb, sp, R, kp, L, W⟩ := id X
  have hN := O.1.1
  have h := pc_loaded C K O
  have ml := mo_le (u := rg_u s) (v := lv s) (n := rg_N s) hN
  have h0 := C.1.2.1.1 _ ml
  refine ⟨nu (mo (rg_u s) (lv s) (rg_N s)).1, ⟨t, ?_, fun _ _ _ _ => rfl⟩, fun t' X' ft => ?_⟩
  · simp (disch := omega) only [pv_lt, pu_ck, pv_bI, pv_bV, pu_bR, pv_bL, pv_nt, pu_us, pu_un, mL_0, mL_1, mL_2, mL_3, mL_4, mL_5, mL_6, mL_7, mL_8, mL_9, mL_10, mL_11, mL_12, mL_13, mL_14, mL_15, mL_16, mL_23, mL_24, mL_32, mL_48, mL_64, mL_99, mL_100, mL_200, mL_336, mL_576, mL_768, mL_800, mL_999, mL_4095, mL_4096, mL_m1, nI_leI, nI_ltI, nI_eq, nI_clamp, nI_add, pk_mul, nI_nu, bI_eq0, bI_eq1, bo_ft, Bool.true_eq_false, Bool.false_eq_true, pu_of, pu_of24, pu_onward, pu_frq, if_true, if_false, true_or, or_true, false_or, or_false, and_true, true_and, and_false, false_and, not_true_eq_false, not_false_eq_true, if_neg, if_pos, F10_count, sw_0, h, h0]
  · have h : F11_mostOf (nI 0) (sr_u t' 11 0 0 (nI 0)) = _ := pr_loaded (J_thr (v := nI 0) X').2.2.2.2.2.1.1 O
    refine ⟨sr_u t' 11 0 0 (nI 0), ?_, Sr_0⟩
    simp (disch := omega) only [pv_lt, pu_ck, pv_bI, pv_bV, pu_bR, pv_bL, pv_nt, pu_us, pu_un, mL_0, mL_1, mL_2, mL_3, mL_4, mL_5, mL_6, mL_7, mL_8, mL_9, mL_10, mL_11, mL_12, mL_13, mL_14, mL_15, mL_16, mL_23, mL_24, mL_32, mL_48, mL_64, mL_99, mL_100, mL_200, mL_336, mL_576, mL_768, mL_800, mL_999, mL_4095, mL_4096, mL_m1, nI_leI, nI_ltI, nI_eq, nI_clamp, nI_add, pk_mul, nI_nu, bI_eq0, bI_eq1, bo_ft, Bool.true_eq_false, Bool.false_eq_true, pu_of, pu_of24, pu_onward, pu_frq, if_true, if_false, true_or, or_true, false_or, or_false, and_true, true_and, and_false, false_and, not_true_eq_false, not_false_eq_true, if_neg, if_pos, F11_count, sw_0, h]
theorem q_c8 {i : Nat} (hi : i + 4 ≤ 2048) {t : sr_t} {s : rg_T} {w : st_T} (X : J i t s w) : ∃ v : Int32, (∃ t1, F10_count (nI 8) t = some (.inl (some (sr_i v)), t1) ∧ frI Sc t t1) ∧ ∀ t', J i t' s w → frI Sc t t' → ∃ t2, F11_count (nI 8) t' = some (.inl (some (sr_i v)), t2) ∧ fr Sr t' t2 := by
  obtain ⟨O, C, K, nb, sp, R, kp, L, W⟩ := id X
  have hN := O.1.1
  obtain ⟨t1, h, f1⟩ := pc_mostH X
  refine ⟨nu (mo (rg_u s) (hm s) (rg_N s)).1, ⟨t1, ?_, frI_of f1⟩, fun t' X' ft => ?_⟩
  · simp (disch := omega) only [pv_lt, pu_ck, pv_bI, pv_bV, pu_bR, pv_bL, pv_nt, pu_us, pu_un, mL_0, mL_1, mL_2, mL_3, mL_4, mL_5, mL_6, mL_7, mL_8, mL_9, mL_10, mL_11, mL_12, mL_13, mL_14, mL_15, mL_16, mL_23, mL_24, mL_32, mL_48, mL_64, mL_99, mL_100, mL_200, mL_336, mL_576, mL_768, mL_800, mL_999, mL_4095, mL_4096, mL_m1, nI_leI, nI_ltI, nI_eq, nI_clamp, nI_add, pk_mul, nI_nu, bI_eq0, bI_eq1, bo_ft, Bool.true_eq_false, Bool.false_eq_true, pu_of, pu_of24, pu_onward, pu_frq, if_true, if_false, true_or, or_true, false_or, or_false, and_true, true_and, and_false, false_and, not_true_eq_false, not_false_eq_true, if_neg, if_pos, F10_count, sw_0, h]
  · obtain ⟨t2, h, f2⟩ := pr_mostH (J_thr (v := nI 0) X')
    refine ⟨t2, ?_, (Sr_q f2).2⟩
    simp (disch := omega) only [pv_lt, pu_ck, pv_bI, pv_bV, pu_bR, pv_bL, pv_nt, pu_us, pu_un, mL_0, mL_1, mL_2, mL_3, mL_4, mL_5, mL_6, mL_7, mL_8, mL_9, mL_10, mL_11, mL_12, mL_13, mL_14, mL_15, mL_16, mL_23, mL_24, mL_32, mL_48, mL_64, mL_99, mL_100, mL_200, mL_336, mL_576, mL_768, mL_800, mL_999, mL_4095, mL_4096, mL_m1, nI_leI, nI_ltI, nI_eq, nI_clamp, nI_add, pk_mul, nI_nu, bI_eq0, bI_eq1, bo_ft, Bool.true_eq_false, Bool.false_eq_true, pu_of, pu_of24, pu_onward, pu_frq, if_true, if_false, true_or, or_true, false_or, or_false, and_true, true_and, and_false, false_and, not_true_eq_false, not_false_eq_true, if_neg, if_pos, F11_count, sw_0, h]
theorem q_c9 {i : Nat} (hi : i + 4 ≤ 2048) {t : sr_t} {s : rg_T} {w : st_T} (X : J i t s w) : ∃ v : Int32, (∃ t1, F10_count (nI 9) t = some (.inl (some (sr_i v)), t1) ∧ frI Sc t t1) ∧ ∀ t', J i t' s w → frI Sc t t' → ∃ t2, F11_count (nI 9) t' = some (.inl (some (sr_i v)), t2) ∧ fr Sr t' t2 := by
  obtain ⟨O, C, K, nb, sp, R, kp, L, W⟩ := id X
  have hN := O.1.1
  have h := pc_mostL C O
  refine ⟨nI (mo (rg_u s) (lkN s) (rg_N s)).2, ⟨t, ?_, fun _ _ _ _ => rfl⟩, fun t' X' ft => ?_⟩
  · simp (disch := omega) only [pv_lt, pu_ck, pv_bI, pv_bV, pu_bR, pv_bL, pv_nt, pu_us, pu_un, mL_0, mL_1, mL_2, mL_3, mL_4, mL_5, mL_6, mL_7, mL_8, mL_9, mL_10, mL_11, mL_12, mL_13, mL_14, mL_15, mL_16, mL_23, mL_24, mL_32, mL_48, mL_64, mL_99, mL_100, mL_200, mL_336, mL_576, mL_768, mL_800, mL_999, mL_4095, mL_4096, mL_m1, nI_leI, nI_ltI, nI_eq, nI_clamp, nI_add, pk_mul, nI_nu, bI_eq0, bI_eq1, bo_ft, Bool.true_eq_false, Bool.false_eq_true, pu_of, pu_of24, pu_onward, pu_frq, if_true, if_false, true_or, or_true, false_or, or_false, and_true, true_and, and_false, false_and, not_true_eq_false, not_false_eq_true, if_neg, if_pos, F10_count, sw_0, h]
  · have h := pr_mostL (J_thr (v := nI 0) X').2.2.2.2.2.1 O
    refine ⟨sr_u t' 11 0 0 (nI 0), ?_, Sr_0⟩
    simp (disch := omega) only [pv_lt, pu_ck, pv_bI, pv_bV, pu_bR, pv_bL, pv_nt, pu_us, pu_un, mL_0, mL_1, mL_2, mL_3, mL_4, mL_5, mL_6, mL_7, mL_8, mL_9, mL_10, mL_11, mL_12, mL_13, mL_14, mL_15, mL_16, mL_23, mL_24, mL_32, mL_48, mL_64, mL_99, mL_100, mL_200, mL_336, mL_576, mL_768, mL_800, mL_999, mL_4095, mL_4096, mL_m1, nI_leI, nI_ltI, nI_eq, nI_clamp, nI_add, pk_mul, nI_nu, bI_eq0, bI_eq1, bo_ft, Bool.true_eq_false, Bool.false_eq_true, pu_of, pu_of24, pu_onward, pu_frq, if_true, if_false, true_or, or_true, false_or, or_false, and_true, true_and, and_false, false_and, not_true_eq_false, not_false_eq_true, if_neg, if_pos, F11_count, sw_0, h]
theorem q_c10 {i : Nat} (hi : i + 4 ≤ 2048) {t : sr_t} {s : rg_T} {w : st_T} (X : J i t s w) : ∃ v : Int32, (∃ t1, F10_count (nI 10) t = some (.inl (some (sr_i v)), t1) ∧ frI Sc t t1) ∧ ∀ t', J i t' s w → frI Sc t t' → ∃ t2, F11_count (nI 10) t' = some (.inl (some (sr_i v)), t2) ∧ fr Sr t' t2 := by
  obtain ⟨O, C, K, nb, sp, R, kp, L, W⟩ := id X
  have hN := O.1.1
  obtain ⟨t1, h, f1⟩ := pc_first X
  refine ⟨nu (mo (rg_u s) (fv s) (rg_N s)).1, ⟨t1, ?_, frI_of f1⟩, fun t' X' ft => ?_⟩
  · simp (disch := omega) only [pv_lt, pu_ck, pv_bI, pv_bV, pu_bR, pv_bL, pv_nt, pu_us, pu_un, mL_0, mL_1, mL_2, mL_3, mL_4, mL_5, mL_6, mL_7, mL_8, mL_9, mL_10, mL_11, mL_12, mL_13, mL_14, mL_15, mL_16, mL_23, mL_24, mL_32, mL_48, mL_64, mL_99, mL_100, mL_200, mL_336, mL_576, mL_768, mL_800, mL_999, mL_4095, mL_4096, mL_m1, nI_leI, nI_ltI, nI_eq, nI_clamp, nI_add, pk_mul, nI_nu, bI_eq0, bI_eq1, bo_ft, Bool.true_eq_false, Bool.false_eq_true, pu_of, pu_of24, pu_onward, pu_frq, if_true, if_false, true_or, or_true, false_or, or_false, and_true, true_and, and_false, false_and, not_true_eq_false, not_false_eq_true, if_neg, if_pos, F10_count, sw_0, h]
  · obtain ⟨t2, h, f2⟩ := pr_first (J_thr (v := nI 0) X')
    refine ⟨t2, ?_, (Sr_q f2).2⟩
    simp (disch := omega) only [pv_lt, pu_ck, pv_bI, pv_bV, pu_bR, pv_bL, pv_nt, pu_us, pu_un, mL_0, mL_1, mL_2, mL_3, mL_4, mL_5, mL_6, mL_7, mL_8, mL_9, mL_10, mL_11, mL_12, mL_13, mL_14, mL_15, mL_16, mL_23, mL_24, mL_32, mL_48, mL_64, mL_99, mL_100, mL_200, mL_336, mL_576, mL_768, mL_800, mL_999, mL_4095, mL_4096, mL_m1, nI_leI, nI_ltI, nI_eq, nI_clamp, nI_add, pk_mul, nI_nu, bI_eq0, bI_eq1, bo_ft, Bool.true_eq_false, Bool.false_eq_true, pu_of, pu_of24, pu_onward, pu_frq, if_true, if_false, true_or, or_true, false_or, or_false, and_true, true_and, and_false, false_and, not_true_eq_false, not_false_eq_true, if_neg, if_pos, F11_count, sw_0, h]
theorem q_c11 {i : Nat} (hi : i + 4 ≤ 2048) {t : sr_t} {s : rg_T} {w : st_T} (X : J i t s w) : ∃ v : Int32, (∃ t1, F10_count (nI 11) t = some (.inl (some (sr_i v)), t1) ∧ frI Sc t t1) ∧ ∀ t', J i t' s w → frI Sc t t' → ∃ t2, F11_count (nI 11) t' = some (.inl (some (sr_i v)), t2) ∧ fr Sr t' t2 := by
  obtain ⟨O, C, K, nb, sp, R, kp, L, W⟩ := id X
  have hN := O.1.1
  have h := W.2.1.1
  refine ⟨nI w.1.1, ⟨t, ?_, fun _ _ _ _ => rfl⟩, fun t' X' ft => ?_⟩
  · simp (disch := omega) only [pv_lt, pu_ck, pv_bI, pv_bV, pu_bR, pv_bL, pv_nt, pu_us, pu_un, mL_0, mL_1, mL_2, mL_3, mL_4, mL_5, mL_6, mL_7, mL_8, mL_9, mL_10, mL_11, mL_12, mL_13, mL_14, mL_15, mL_16, mL_23, mL_24, mL_32, mL_48, mL_64, mL_99, mL_100, mL_200, mL_336, mL_576, mL_768, mL_800, mL_999, mL_4095, mL_4096, mL_m1, nI_leI, nI_ltI, nI_eq, nI_clamp, nI_add, pk_mul, nI_nu, bI_eq0, bI_eq1, bo_ft, Bool.true_eq_false, Bool.false_eq_true, pu_of, pu_of24, pu_onward, pu_frq, if_true, if_false, true_or, or_true, false_or, or_false, and_true, true_and, and_false, false_and, not_true_eq_false, not_false_eq_true, if_neg, if_pos, F10_count, sw_0, h]
  · have h := X'.2.2.2.2.2.2.2.2.2.2.1.1
    refine ⟨sr_u t' 11 0 0 (nI 0), ?_, Sr_0⟩
    simp (disch := omega) only [pv_lt, pu_ck, pv_bI, pv_bV, pu_bR, pv_bL, pv_nt, pu_us, pu_un, mL_0, mL_1, mL_2, mL_3, mL_4, mL_5, mL_6, mL_7, mL_8, mL_9, mL_10, mL_11, mL_12, mL_13, mL_14, mL_15, mL_16, mL_23, mL_24, mL_32, mL_48, mL_64, mL_99, mL_100, mL_200, mL_336, mL_576, mL_768, mL_800, mL_999, mL_4095, mL_4096, mL_m1, nI_leI, nI_ltI, nI_eq, nI_clamp, nI_add, pk_mul, nI_nu, bI_eq0, bI_eq1, bo_ft, Bool.true_eq_false, Bool.false_eq_true, pu_of, pu_of24, pu_onward, pu_frq, if_true, if_false, true_or, or_true, false_or, or_false, and_true, true_and, and_false, false_and, not_true_eq_false, not_false_eq_true, if_neg, if_pos, F11_count, sw_0, h]
theorem q_c12 {i : Nat} (hi : i + 4 ≤ 2048) {t : sr_t} {s : rg_T} {w : st_T} (X : J i t s w) : ∃ v : Int32, (∃ t1, F10_count (nI 12) t = some (.inl (some (sr_i v)), t1) ∧ frI Sc t t1) ∧ ∀ t', J i t' s w → frI Sc t t' → ∃ t2, F11_count (nI 12) t' = some (.inl (some (sr_i v)), t2) ∧ fr Sr t' t2 := by
  obtain ⟨O, C, K, nb, sp, R, kp, L, W⟩ := id X
  have hN := O.1.1
  have h := pc_missing X (by omega)
  refine ⟨nI (sm (lo w s) w.1.1), ⟨t, ?_, fun _ _ _ _ => rfl⟩, fun t' X' ft => ?_⟩
  · simp (disch := omega) only [pv_lt, pu_ck, pv_bI, pv_bV, pu_bR, pv_bL, pv_nt, pu_us, pu_un, mL_0, mL_1, mL_2, mL_3, mL_4, mL_5, mL_6, mL_7, mL_8, mL_9, mL_10, mL_11, mL_12, mL_13, mL_14, mL_15, mL_16, mL_23, mL_24, mL_32, mL_48, mL_64, mL_99, mL_100, mL_200, mL_336, mL_576, mL_768, mL_800, mL_999, mL_4095, mL_4096, mL_m1, nI_leI, nI_ltI, nI_eq, nI_clamp, nI_add, pk_mul, nI_nu, bI_eq0, bI_eq1, bo_ft, Bool.true_eq_false, Bool.false_eq_true, pu_of, pu_of24, pu_onward, pu_frq, if_true, if_false, true_or, or_true, false_or, or_false, and_true, true_and, and_false, false_and, not_true_eq_false, not_false_eq_true, if_neg, if_pos, F10_count, sw_0, h]
  · have h := pr_lost (J_thr (v := nI 0) X') (by omega)
    refine ⟨sr_u t' 11 0 0 (nI 0), ?_, Sr_0⟩
    simp (disch := omega) only [pv_lt, pu_ck, pv_bI, pv_bV, pu_bR, pv_bL, pv_nt, pu_us, pu_un, mL_0, mL_1, mL_2, mL_3, mL_4, mL_5, mL_6, mL_7, mL_8, mL_9, mL_10, mL_11, mL_12, mL_13, mL_14, mL_15, mL_16, mL_23, mL_24, mL_32, mL_48, mL_64, mL_99, mL_100, mL_200, mL_336, mL_576, mL_768, mL_800, mL_999, mL_4095, mL_4096, mL_m1, nI_leI, nI_ltI, nI_eq, nI_clamp, nI_add, pk_mul, nI_nu, bI_eq0, bI_eq1, bo_ft, Bool.true_eq_false, Bool.false_eq_true, pu_of, pu_of24, pu_onward, pu_frq, if_true, if_false, true_or, or_true, false_or, or_false, and_true, true_and, and_false, false_and, not_true_eq_false, not_false_eq_true, if_neg, if_pos, F11_count, sw_0, h]
theorem q_c13 {i : Nat} (hi : i + 4 ≤ 2048) {t : sr_t} {s : rg_T} {w : st_T} (X : J i t s w) : ∃ v : Int32, (∃ t1, F10_count (nI 13) t = some (.inl (some (sr_i v)), t1) ∧ frI Sc t t1) ∧ ∀ t', J i t' s w → frI Sc t t' → ∃ t2, F11_count (nI 13) t' = some (.inl (some (sr_i v)), t2) ∧ fr Sr t' t2 := by
  obtain ⟨O, C, K, nb, sp, R, kp, L, W⟩ := id X
  have hN := O.1.1
  have h := W.2.1.2.1
  refine ⟨nI w.1.2.1, ⟨t, ?_, fun _ _ _ _ => rfl⟩, fun t' X' ft => ?_⟩
  · simp (disch := omega) only [pv_lt, pu_ck, pv_bI, pv_bV, pu_bR, pv_bL, pv_nt, pu_us, pu_un, mL_0, mL_1, mL_2, mL_3, mL_4, mL_5, mL_6, mL_7, mL_8, mL_9, mL_10, mL_11, mL_12, mL_13, mL_14, mL_15, mL_16, mL_23, mL_24, mL_32, mL_48, mL_64, mL_99, mL_100, mL_200, mL_336, mL_576, mL_768, mL_800, mL_999, mL_4095, mL_4096, mL_m1, nI_leI, nI_ltI, nI_eq, nI_clamp, nI_add, pk_mul, nI_nu, bI_eq0, bI_eq1, bo_ft, Bool.true_eq_false, Bool.false_eq_true, pu_of, pu_of24, pu_onward, pu_frq, if_true, if_false, true_or, or_true, false_or, or_false, and_true, true_and, and_false, false_and, not_true_eq_false, not_false_eq_true, if_neg, if_pos, F10_count, sw_0, h]
  · have h := X'.2.2.2.2.2.2.2.2.2.2.1.2.1
    refine ⟨sr_u t' 11 0 0 (nI 0), ?_, Sr_0⟩
    simp (disch := omega) only [pv_lt, pu_ck, pv_bI, pv_bV, pu_bR, pv_bL, pv_nt, pu_us, pu_un, mL_0, mL_1, mL_2, mL_3, mL_4, mL_5, mL_6, mL_7, mL_8, mL_9, mL_10, mL_11, mL_12, mL_13, mL_14, mL_15, mL_16, mL_23, mL_24, mL_32, mL_48, mL_64, mL_99, mL_100, mL_200, mL_336, mL_576, mL_768, mL_800, mL_999, mL_4095, mL_4096, mL_m1, nI_leI, nI_ltI, nI_eq, nI_clamp, nI_add, pk_mul, nI_nu, bI_eq0, bI_eq1, bo_ft, Bool.true_eq_false, Bool.false_eq_true, pu_of, pu_of24, pu_onward, pu_frq, if_true, if_false, true_or, or_true, false_or, or_false, and_true, true_and, and_false, false_and, not_true_eq_false, not_false_eq_true, if_neg, if_pos, F11_count, sw_0, h]
theorem q_c14 {i : Nat} (hi : i + 4 ≤ 2048) {t : sr_t} {s : rg_T} {w : st_T} (X : J i t s w) : ∃ v : Int32, (∃ t1, F10_count (nI 14) t = some (.inl (some (sr_i v)), t1) ∧ frI Sc t t1) ∧ ∀ t', J i t' s w → frI Sc t t' → ∃ t2, F11_count (nI 14) t' = some (.inl (some (sr_i v)), t2) ∧ fr Sr t' t2 := by
  obtain ⟨O, C, K, nb, sp, R, kp, L, W⟩ := id X
  have hN := O.1.1
  have h := pc_gap C K O
  refine ⟨nI (gp s), ⟨t, ?_, fun _ _ _ _ => rfl⟩, fun t' X' ft => ?_⟩
  · simp (disch := omega) only [pv_lt, pu_ck, pv_bI, pv_bV, pu_bR, pv_bL, pv_nt, pu_us, pu_un, mL_0, mL_1, mL_2, mL_3, mL_4, mL_5, mL_6, mL_7, mL_8, mL_9, mL_10, mL_11, mL_12, mL_13, mL_14, mL_15, mL_16, mL_23, mL_24, mL_32, mL_48, mL_64, mL_99, mL_100, mL_200, mL_336, mL_576, mL_768, mL_800, mL_999, mL_4095, mL_4096, mL_m1, nI_leI, nI_ltI, nI_eq, nI_clamp, nI_add, pk_mul, nI_nu, bI_eq0, bI_eq1, bo_ft, Bool.true_eq_false, Bool.false_eq_true, pu_of, pu_of24, pu_onward, pu_frq, if_true, if_false, true_or, or_true, false_or, or_false, and_true, true_and, and_false, false_and, not_true_eq_false, not_false_eq_true, if_neg, if_pos, F10_count, sw_0, h]
  · have h := pr_gap (J_thr (v := nI 0) X').2.2.2.2.2.1.1 O
    refine ⟨sr_u t' 11 0 0 (nI 0), ?_, Sr_0⟩
    simp (disch := omega) only [pv_lt, pu_ck, pv_bI, pv_bV, pu_bR, pv_bL, pv_nt, pu_us, pu_un, mL_0, mL_1, mL_2, mL_3, mL_4, mL_5, mL_6, mL_7, mL_8, mL_9, mL_10, mL_11, mL_12, mL_13, mL_14, mL_15, mL_16, mL_23, mL_24, mL_32, mL_48, mL_64, mL_99, mL_100, mL_200, mL_336, mL_576, mL_768, mL_800, mL_999, mL_4095, mL_4096, mL_m1, nI_leI, nI_ltI, nI_eq, nI_clamp, nI_add, pk_mul, nI_nu, bI_eq0, bI_eq1, bo_ft, Bool.true_eq_false, Bool.false_eq_true, pu_of, pu_of24, pu_onward, pu_frq, if_true, if_false, true_or, or_true, false_or, or_false, and_true, true_and, and_false, false_and, not_true_eq_false, not_false_eq_true, if_neg, if_pos, F11_count, sw_0, h]
theorem q_c15 {i : Nat} (hi : i + 4 ≤ 2048) {t : sr_t} {s : rg_T} {w : st_T} (X : J i t s w) : ∃ v : Int32, (∃ t1, F10_count (nI 15) t = some (.inl (some (sr_i v)), t1) ∧ frI Sc t t1) ∧ ∀ t', J i t' s w → frI Sc t t' → ∃ t2, F11_count (nI 15) t' = some (.inl (some (sr_i v)), t2) ∧ fr Sr t' t2 := by
  obtain ⟨O, C, K, nb, sp, R, kp, L, W⟩ := id X
  have hN := O.1.1
  have h := pc_split C K O
  refine ⟨spl s, ⟨t, ?_, fun _ _ _ _ => rfl⟩, fun t' X' ft => ?_⟩
  · simp (disch := omega) only [pv_lt, pu_ck, pv_bI, pv_bV, pu_bR, pv_bL, pv_nt, pu_us, pu_un, mL_0, mL_1, mL_2, mL_3, mL_4, mL_5, mL_6, mL_7, mL_8, mL_9, mL_10, mL_11, mL_12, mL_13, mL_14, mL_15, mL_16, mL_23, mL_24, mL_32, mL_48, mL_64, mL_99, mL_100, mL_200, mL_336, mL_576, mL_768, mL_800, mL_999, mL_4095, mL_4096, mL_m1, nI_leI, nI_ltI, nI_eq, nI_clamp, nI_add, pk_mul, nI_nu, bI_eq0, bI_eq1, bo_ft, Bool.true_eq_false, Bool.false_eq_true, pu_of, pu_of24, pu_onward, pu_frq, if_true, if_false, true_or, or_true, false_or, or_false, and_true, true_and, and_false, false_and, not_true_eq_false, not_false_eq_true, if_neg, if_pos, F10_count, sw_0, h]
  · have h := pr_split (J_thr (v := nI 0) X').2.2.2.2.2.1.1 O
    refine ⟨sr_u t' 11 0 0 (nI 0), ?_, Sr_0⟩
    simp (disch := omega) only [pv_lt, pu_ck, pv_bI, pv_bV, pu_bR, pv_bL, pv_nt, pu_us, pu_un, mL_0, mL_1, mL_2, mL_3, mL_4, mL_5, mL_6, mL_7, mL_8, mL_9, mL_10, mL_11, mL_12, mL_13, mL_14, mL_15, mL_16, mL_23, mL_24, mL_32, mL_48, mL_64, mL_99, mL_100, mL_200, mL_336, mL_576, mL_768, mL_800, mL_999, mL_4095, mL_4096, mL_m1, nI_leI, nI_ltI, nI_eq, nI_clamp, nI_add, pk_mul, nI_nu, bI_eq0, bI_eq1, bo_ft, Bool.true_eq_false, Bool.false_eq_true, pu_of, pu_of24, pu_onward, pu_frq, if_true, if_false, true_or, or_true, false_or, or_false, and_true, true_and, and_false, false_and, not_true_eq_false, not_false_eq_true, if_neg, if_pos, F11_count, sw_0, h]
theorem q_c16 {i : Nat} (hi : i + 4 ≤ 2048) {t : sr_t} {s : rg_T} {w : st_T} (X : J i t s w) : ∃ v : Int32, (∃ t1, F10_count (nI 16) t = some (.inl (some (sr_i v)), t1) ∧ frI Sc t t1) ∧ ∀ t', J i t' s w → frI Sc t t' → ∃ t2, F11_count (nI 16) t' = some (.inl (some (sr_i v)), t2) ∧ fr Sr t' t2 := by
  obtain ⟨O, C, K, nb, sp, R, kp, L, W⟩ := id X
  have hN := O.1.1
  obtain ⟨t1, h, f1⟩ := pc_busiest X
  refine ⟨nu (mo (rg_u s) (tv s) (rg_N s)).1, ⟨t1, ?_, frI_of f1⟩, fun t' X' ft => ?_⟩
  · simp (disch := omega) only [pv_lt, pu_ck, pv_bI, pv_bV, pu_bR, pv_bL, pv_nt, pu_us, pu_un, mL_0, mL_1, mL_2, mL_3, mL_4, mL_5, mL_6, mL_7, mL_8, mL_9, mL_10, mL_11, mL_12, mL_13, mL_14, mL_15, mL_16, mL_23, mL_24, mL_32, mL_48, mL_64, mL_99, mL_100, mL_200, mL_336, mL_576, mL_768, mL_800, mL_999, mL_4095, mL_4096, mL_m1, nI_leI, nI_ltI, nI_eq, nI_clamp, nI_add, pk_mul, nI_nu, bI_eq0, bI_eq1, bo_ft, Bool.true_eq_false, Bool.false_eq_true, pu_of, pu_of24, pu_onward, pu_frq, if_true, if_false, true_or, or_true, false_or, or_false, and_true, true_and, and_false, false_and, not_true_eq_false, not_false_eq_true, if_neg, if_pos, F10_count, sw_0, h]
  · obtain ⟨t2, h, f2⟩ := pr_busiest (J_thr (v := nI 0) X')
    refine ⟨t2, ?_, (Sr_q f2).2⟩
    simp (disch := omega) only [pv_lt, pu_ck, pv_bI, pv_bV, pu_bR, pv_bL, pv_nt, pu_us, pu_un, mL_0, mL_1, mL_2, mL_3, mL_4, mL_5, mL_6, mL_7, mL_8, mL_9, mL_10, mL_11, mL_12, mL_13, mL_14, mL_15, mL_16, mL_23, mL_24, mL_32, mL_48, mL_64, mL_99, mL_100, mL_200, mL_336, mL_576, mL_768, mL_800, mL_999, mL_4095, mL_4096, mL_m1, nI_leI, nI_ltI, nI_eq, nI_clamp, nI_add, pk_mul, nI_nu, bI_eq0, bI_eq1, bo_ft, Bool.true_eq_false, Bool.false_eq_true, pu_of, pu_of24, pu_onward, pu_frq, if_true, if_false, true_or, or_true, false_or, or_false, and_true, true_and, and_false, false_and, not_true_eq_false, not_false_eq_true, if_neg, if_pos, F11_count, sw_0, h]
theorem s_count {i : Nat} (hi : i + 4 ≤ 2048) (a : Int32) : sr_ok2 (sr_Inv i) (sr_Inv (i + 4)) (fun t => F10_count a t) (fun t => F11_count a t) := by
  refine ok2_qf hi (F := F10_count a) (G := F11_count a) (fun t s w X => ?_)
  have out : (a < 0 ∨ nI 17 ≤ a) → ∃ v : Int32, (∃ t1, F10_count a t = some (.inl (some (sr_i v)), t1) ∧ frI Sc t t1) ∧ ∀ t', J i t' s w → frI Sc t t' → ∃ t2, F11_count a t' = some (.inl (some (sr_i v)), t2) ∧ fr Sr t' t2 := by
    intro h
    refine ⟨nu 24, ⟨t, ?_, fun _ _ _ _ => rfl⟩, fun t' X' ft => ⟨sr_u t' 11 0 0 (nI 0), ?_, Sr_0⟩⟩
    · unfold F10_count
      rw [sw_o h]
      rfl
    · unfold F11_count
      rw [pv_lt, sw_o h]
      rfl
  rcases pk_ix a (n := 17) (by omega) with h | h | ⟨j, hj, rfl⟩
  · exact out (Or.inl h)
  · exact out (Or.inr h)
  · have hj : j = 0 ∨ j = 1 ∨ j = 2 ∨ j = 3 ∨ j = 4 ∨ j = 5 ∨ j = 6 ∨ j = 7 ∨ j = 8 ∨ j = 9 ∨ j = 10 ∨ j = 11 ∨ j = 12 ∨ j = 13 ∨ j = 14 ∨ j = 15 ∨ j = 16 := by omega
    rcases hj with rfl | rfl | rfl | rfl | rfl | rfl | rfl | rfl | rfl | rfl | rfl | rfl | rfl | rfl | rfl | rfl | rfl
    · exact q_c0 hi X
    · exact q_c1 hi X
    · exact q_c2 hi X
    · exact q_c3 hi X
    · exact q_c4 hi X
    · exact q_c5 hi X
    · exact q_c6 hi X
    · exact q_c7 hi X
    · exact q_c8 hi X
    · exact q_c9 hi X
    · exact q_c10 hi X
    · exact q_c11 hi X
    · exact q_c12 hi X
    · exact q_c13 hi X
    · exact q_c14 hi X
    · exact q_c15 hi X
    · exact q_c16 hi X
end
