section
set_option maxHeartbeats 4000000 in
theorem pr_samples {t : sr_t} {s : rg_T} {best : Bool} (R : rg_RN t s) (O : rg_ok s) (H22 : t.1 11 0 22 = nI 0) : ∃ t', F11_samples (bI best) t = some (.inl none, t') ∧ sr_I' t' s best (64 * rg_N s) ∧ fr S_sr' t t' := by
  have hN := O.1.1
  refine rs_via fun Q hQ => ?_
  obtain ⟨T, hT⟩ : ∃ T, T = (sr_u (sr_u (sr_u (sr_u (sr_u (sr_u (sr_u (sr_u t 11 0 40 (nI 0)) 11 0 41 (nI 0)) 11 0 42 (nI 0)) 11 0 43 (nI 0)) 11 0 44 (nI 0)) 11 0 45 (nI 0)) 11 0 46 (nI 0)) 11 0 47 (nI 0)) := ⟨_, rfl⟩
  have fF : fr S_sr' t T := by
    rw [hT]
    refine fr_u (fr_u (fr_u (fr_u (fr_u (fr_u (fr_u (fr_u fr_rfl ?_) ?_) ?_) ?_) ?_) ?_) ?_) ?_ <;> (unfold S_sr'; omega)
  have c : ∀ j, 40 ≤ j → j ≤ 47 → T.1 11 0 j = nI 0 := by
    intro j h1 h2
    rw [hT]
    have hj : j = 40 ∨ j = 41 ∨ j = 42 ∨ j = 43 ∨ j = 44 ∨ j = 45 ∨ j = 46 ∨ j = 47 := by omega
    rcases hj with rfl | rfl | rfl | rfl | rfl | rfl | rfl | rfl
    all_goals simp (disch := omega) only [pv_lt, pu_ck, pv_bI, pv_bV, pu_bR, pv_bL, pv_nt, pu_us, pu_un, mL_0, mL_1, mL_2, mL_3, mL_4, mL_5, mL_6, mL_7, mL_8, mL_9, mL_10, mL_11, mL_12, mL_13, mL_14, mL_15, mL_16, mL_23, mL_24, mL_32, mL_48, mL_64, mL_99, mL_100, mL_200, mL_336, mL_576, mL_768, mL_800, mL_999, mL_4095, mL_4096, mL_m1, nI_leI, nI_ltI, nI_eq, nI_clamp, nI_add, pk_mul, nI_nu, bI_eq0, bI_eq1, bo_ft, Bool.true_eq_false, Bool.false_eq_true, pu_of, pu_of24, pu_onward, pu_frq, if_true, if_false, true_or, or_true, false_or, or_false, and_true, true_and, and_false, false_and, not_true_eq_false, not_false_eq_true, if_neg, if_pos]
  simp (disch := omega) only [pv_lt, pu_ck, pv_bI, pv_bV, pu_bR, pv_bL, pv_nt, pu_us, pu_un, mL_0, mL_1, mL_2, mL_3, mL_4, mL_5, mL_6, mL_7, mL_8, mL_9, mL_10, mL_11, mL_12, mL_13, mL_14, mL_15, mL_16, mL_23, mL_24, mL_32, mL_48, mL_64, mL_99, mL_100, mL_200, mL_336, mL_576, mL_768, mL_800, mL_999, mL_4095, mL_4096, mL_m1, nI_leI, nI_ltI, nI_eq, nI_clamp, nI_add, pk_mul, nI_nu, bI_eq0, bI_eq1, bo_ft, Bool.true_eq_false, Bool.false_eq_true, pu_of, pu_of24, pu_onward, pu_frq, if_true, if_false, true_or, or_true, false_or, or_false, and_true, true_and, and_false, false_and, not_true_eq_false, not_false_eq_true, if_neg, if_pos, F11_samples]
  rw [← hT]
  refine rs_loop (N := 24) (L := fun f k t' => f11_samples_42 (bI best) (f11_samples_61 (bI best)) f (nI k) t') (fun k t' => (∀ v, v < k → t'.1 42 0 v = nI 0) ∧ fr (S_f 42) T t') ?_ ?_ (by unfold sr_fu; omega) ⟨fun v hv => by omega, fr_rfl⟩
  · rintro k g t' hk ⟨p1, p2⟩
    left
    refine ⟨sr_u t' 42 0 k (nI 0), ⟨fun v hv => ?_, fr_u p2 ⟨rfl, rfl⟩⟩, ?_⟩
    · by_cases e : v = k
      · rw [e, pu_us]
      · rw [pu_un (by omega)]; exact p1 v (by omega)
    · show f11_samples_42 (bI best) (f11_samples_61 (bI best)) (g + 1) (nI k) t' = f11_samples_42 (bI best) (f11_samples_61 (bI best)) g (nI (k + 1)) _
      simp (disch := omega) only [pv_lt, pu_ck, pv_bI, pv_bV, pu_bR, pv_bL, pv_nt, pu_us, pu_un, mL_0, mL_1, mL_2, mL_3, mL_4, mL_5, mL_6, mL_7, mL_8, mL_9, mL_10, mL_11, mL_12, mL_13, mL_14, mL_15, mL_16, mL_23, mL_24, mL_32, mL_48, mL_64, mL_99, mL_100, mL_200, mL_336, mL_576, mL_768, mL_800, mL_999, mL_4095, mL_4096, mL_m1, nI_leI, nI_ltI, nI_eq, nI_clamp, nI_add, pk_mul, nI_nu, bI_eq0, bI_eq1, bo_ft, Bool.true_eq_false, Bool.false_eq_true, pu_of, pu_of24, pu_onward, pu_frq, if_true, if_false, true_or, or_true, false_or, or_false, and_true, true_and, and_false, false_and, not_true_eq_false, not_false_eq_true, if_neg, if_pos, f11_samples_42, pu_ixN']
  · rintro g t1 ⟨p1, p2⟩
    show rs_to _ (f11_samples_42 (bI best) (f11_samples_61 (bI best)) (g + 1) (nI 24) t1)
    simp (disch := omega) only [pv_lt, pu_ck, pv_bI, pv_bV, pu_bR, pv_bL, pv_nt, pu_us, pu_un, mL_0, mL_1, mL_2, mL_3, mL_4, mL_5, mL_6, mL_7, mL_8, mL_9, mL_10, mL_11, mL_12, mL_13, mL_14, mL_15, mL_16, mL_23, mL_24, mL_32, mL_48, mL_64, mL_99, mL_100, mL_200, mL_336, mL_576, mL_768, mL_800, mL_999, mL_4095, mL_4096, mL_m1, nI_leI, nI_ltI, nI_eq, nI_clamp, nI_add, pk_mul, nI_nu, bI_eq0, bI_eq1, bo_ft, Bool.true_eq_false, Bool.false_eq_true, pu_of, pu_of24, pu_onward, pu_frq, if_true, if_false, true_or, or_true, false_or, or_false, and_true, true_and, and_false, false_and, not_true_eq_false, not_false_eq_true, if_neg, if_pos, f11_samples_42, f11_samples_61]
    refine rs_loop (N := 576) (L := fun f k t' => f11_samples_63 (bI best) (f11_samples_83 (bI best)) f (nI k) t') (fun k t' => (∀ v, v < k → t'.1 36 0 v = nI 0) ∧ fr (S_f 36) t1 t') ?_ ?_ (by unfold sr_fu; omega) ⟨fun v hv => by omega, fr_rfl⟩
    · rintro k g t' hk ⟨q1, q2⟩
      left
      refine ⟨sr_u t' 36 0 k (nI 0), ⟨fun v hv => ?_, fr_u q2 ⟨rfl, rfl⟩⟩, ?_⟩
      · by_cases e : v = k
        · rw [e, pu_us]
        · rw [pu_un (by omega)]; exact q1 v (by omega)
      · show f11_samples_63 (bI best) (f11_samples_83 (bI best)) (g + 1) (nI k) t' = f11_samples_63 (bI best) (f11_samples_83 (bI best)) g (nI (k + 1)) _
        simp (disch := omega) only [pv_lt, pu_ck, pv_bI, pv_bV, pu_bR, pv_bL, pv_nt, pu_us, pu_un, mL_0, mL_1, mL_2, mL_3, mL_4, mL_5, mL_6, mL_7, mL_8, mL_9, mL_10, mL_11, mL_12, mL_13, mL_14, mL_15, mL_16, mL_23, mL_24, mL_32, mL_48, mL_64, mL_99, mL_100, mL_200, mL_336, mL_576, mL_768, mL_800, mL_999, mL_4095, mL_4096, mL_m1, nI_leI, nI_ltI, nI_eq, nI_clamp, nI_add, pk_mul, nI_nu, bI_eq0, bI_eq1, bo_ft, Bool.true_eq_false, Bool.false_eq_true, pu_of, pu_of24, pu_onward, pu_frq, if_true, if_false, true_or, or_true, false_or, or_false, and_true, true_and, and_false, false_and, not_true_eq_false, not_false_eq_true, if_neg, if_pos, f11_samples_63, pu_ixN']
    · rintro g2 t2 ⟨q1, q2⟩
      show rs_to _ (f11_samples_63 (bI best) (f11_samples_83 (bI best)) (g2 + 1) (nI 576) t2)
      have f2 : fr S_sr' t t2 := fr_trans fF (fr_trans (fr_mono p2 (fun k i j q => by unfold S_f at q; unfold S_sr'; omega)) (fr_mono q2 (fun k i j q => by unfold S_f at q; unfold S_sr'; omega)))
      have gg : ∀ j, 40 ≤ j → j ≤ 47 → t2.1 11 0 j = nI 0 := fun j h1 h2 => by rw [q2.2 _ _ _ (by unfold S_f; omega), p2.2 _ _ _ (by unfold S_f; omega)]; exact c j h1 h2
      have I0 : sr_I' t2 s best 0 := by
        refine ⟨⟨gg 40 (by omega) (by omega), gg 41 (by omega) (by omega), gg 42 (by omega) (by omega), gg 43 (by omega) (by omega), gg 44 (by omega) (by omega), gg 45 (by omega) (by omega), gg 46 (by omega) (by omega), gg 47 (by omega) (by omega)⟩, fun v hv => ?_, fun a b ha hb => ?_⟩
        · rw [q2.2 _ _ _ (by unfold S_f; omega)]; exact p1 v (by omega)
        · exact q1 _ (by omega)
      simp (disch := omega) only [pv_lt, pu_ck, pv_bI, pv_bV, pu_bR, pv_bL, pv_nt, pu_us, pu_un, mL_0, mL_1, mL_2, mL_3, mL_4, mL_5, mL_6, mL_7, mL_8, mL_9, mL_10, mL_11, mL_12, mL_13, mL_14, mL_15, mL_16, mL_23, mL_24, mL_32, mL_48, mL_64, mL_99, mL_100, mL_200, mL_336, mL_576, mL_768, mL_800, mL_999, mL_4095, mL_4096, mL_m1, nI_leI, nI_ltI, nI_eq, nI_clamp, nI_add, pk_mul, nI_nu, bI_eq0, bI_eq1, bo_ft, Bool.true_eq_false, Bool.false_eq_true, pu_of, pu_of24, pu_onward, pu_frq, if_true, if_false, true_or, or_true, false_or, or_false, and_true, true_and, and_false, false_and, not_true_eq_false, not_false_eq_true, if_neg, if_pos, f11_samples_63, f11_samples_83]
      refine rs_loop (N := 64 * rg_N s) (L := fun f x t' => f11_samples_85 (bI best) (f11_samples_131 (bI best)) f (nI x) t') (fun x t' => sr_I' t' s best x ∧ fr S_sr' t t') ?_ ?_ (by unfold sr_fu; omega) ⟨I0, f2⟩
      · rintro x g3 t3 hx ⟨r1, r2⟩
        have R3 := rg_RN_fr O r2 (fun k i j q => by unfold Fp_R at q; unfold S_sr'; omega) R
        have h22 : t3.1 11 0 22 = nI 0 := by rw [r2.2 _ _ _ (by unfold S_sr'; omega)]; exact H22
        have h1 := (rg_RN_hd R3).1
        have hn : x / 64 < rg_N s := by omega
        have up := (rg_RN_nd R3 hn).2.1
        have hd : nI x / nI 64 = nI (x / 64) := pk_div (by omega) (by omega) (by omega)
        have hm : nI x - nI (x / 64 * 64) = nI (x % 64) := by rw [pk_sub (by omega)]; congr 1; omega
        have hx' : 64 * (x / 64) + x % 64 = x := by omega
        left
        by_cases hu : rg_u s (x / 64) = true
        · obtain ⟨t4, e4, I4, f4⟩ := pr_sampled (best := best) R3 O hn hu (show x % 64 < 64 by omega) h22 (by rw [hx']; exact r1)
          rw [hx'] at I4
          rw [hu] at up
          have bt : bI true = nI 1 := rfl
          refine ⟨t4, ⟨I4, fr_trans r2 f4⟩, ?_⟩
          show f11_samples_85 (bI best) (f11_samples_131 (bI best)) (g3 + 1) (nI x) t3 = f11_samples_85 (bI best) (f11_samples_131 (bI best)) g3 (nI (x + 1)) t4
          simp (disch := omega) only [pv_lt, pu_ck, pv_bI, pv_bV, pu_bR, pv_bL, pv_nt, pu_us, pu_un, mL_0, mL_1, mL_2, mL_3, mL_4, mL_5, mL_6, mL_7, mL_8, mL_9, mL_10, mL_11, mL_12, mL_13, mL_14, mL_15, mL_16, mL_23, mL_24, mL_32, mL_48, mL_64, mL_99, mL_100, mL_200, mL_336, mL_576, mL_768, mL_800, mL_999, mL_4095, mL_4096, mL_m1, nI_leI, nI_ltI, nI_eq, nI_clamp, nI_add, pk_mul, nI_nu, bI_eq0, bI_eq1, bo_ft, Bool.true_eq_false, Bool.false_eq_true, pu_of, pu_of24, pu_onward, pu_frq, if_true, if_false, true_or, or_true, false_or, or_false, and_true, true_and, and_false, false_and, not_true_eq_false, not_false_eq_true, if_neg, if_pos, f11_samples_85, f11_samples_125, h1, hd, up, bt, hm, e4, pu_ixN']
        · rw [show rg_u s (x / 64) = false by simpa using hu] at up
          have bf : ¬ bI false = nI 1 := by decide
          have z : ∀ f : Nat → Nat → Nat, sv s f x = 0 := fun f => if_neg hu
          refine ⟨t3, ⟨?_, r2⟩, ?_⟩
          · obtain ⟨⟨y0, y1, y2, y3, y4, y5, y6, y7⟩, yv, yx⟩ := r1
            refine ⟨⟨?_, ?_, ?_, ?_, ?_, ?_, ?_, ?_⟩, fun v hv => ?_, fun a b ha hb => ?_⟩
            · rw [sS_s, z]; exact y0
            · rw [sS_s, z]; exact y1
            · rw [sS_s, z]; exact y2
            · rw [sS_s, z]; exact y3
            · rw [sS_s, z]; exact y4
            · rw [sS_s, z]; exact y5
            · rw [sM_s, z, if_neg (Nat.not_lt_zero _)]; exact y6
            · rw [sM_s, z, if_neg (Nat.not_lt_zero _)]; exact y7
            · rw [sS_s, z]; exact yv v hv
            · rw [sS_s, z]; exact yx a b ha hb
          · show f11_samples_85 (bI best) (f11_samples_131 (bI best)) (g3 + 1) (nI x) t3 = f11_samples_85 (bI best) (f11_samples_131 (bI best)) g3 (nI (x + 1)) t3
            simp (disch := omega) only [pv_lt, pu_ck, pv_bI, pv_bV, pu_bR, pv_bL, pv_nt, pu_us, pu_un, mL_0, mL_1, mL_2, mL_3, mL_4, mL_5, mL_6, mL_7, mL_8, mL_9, mL_10, mL_11, mL_12, mL_13, mL_14, mL_15, mL_16, mL_23, mL_24, mL_32, mL_48, mL_64, mL_99, mL_100, mL_200, mL_336, mL_576, mL_768, mL_800, mL_999, mL_4095, mL_4096, mL_m1, nI_leI, nI_ltI, nI_eq, nI_clamp, nI_add, pk_mul, nI_nu, bI_eq0, bI_eq1, bo_ft, Bool.true_eq_false, Bool.false_eq_true, pu_of, pu_of24, pu_onward, pu_frq, if_true, if_false, true_or, or_true, false_or, or_false, and_true, true_and, and_false, false_and, not_true_eq_false, not_false_eq_true, if_neg, if_pos, f11_samples_85, f11_samples_125, h1, hd, up, bf, pu_ixN']
      · rintro g3 t3 ⟨r1, r2⟩
        have R3 := rg_RN_fr O r2 (fun k i j q => by unfold Fp_R at q; unfold S_sr'; omega) R
        have h1 := (rg_RN_hd R3).1
        show rs_to _ (f11_samples_85 (bI best) (f11_samples_131 (bI best)) (g3 + 1) (nI (64 * rg_N s)) t3)
        simp (disch := omega) only [pv_lt, pu_ck, pv_bI, pv_bV, pu_bR, pv_bL, pv_nt, pu_us, pu_un, mL_0, mL_1, mL_2, mL_3, mL_4, mL_5, mL_6, mL_7, mL_8, mL_9, mL_10, mL_11, mL_12, mL_13, mL_14, mL_15, mL_16, mL_23, mL_24, mL_32, mL_48, mL_64, mL_99, mL_100, mL_200, mL_336, mL_576, mL_768, mL_800, mL_999, mL_4095, mL_4096, mL_m1, nI_leI, nI_ltI, nI_eq, nI_clamp, nI_add, pk_mul, nI_nu, bI_eq0, bI_eq1, bo_ft, Bool.true_eq_false, Bool.false_eq_true, pu_of, pu_of24, pu_onward, pu_frq, if_true, if_false, true_or, or_true, false_or, or_false, and_true, true_and, and_false, false_and, not_true_eq_false, not_false_eq_true, if_neg, if_pos, f11_samples_85, f11_samples_131, h1]
        exact rs_ret (hQ _ ⟨r1, r2⟩)
end
