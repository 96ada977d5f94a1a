section
/-! steps: nearest, quickest, start, ideal, detour -/
theorem mL_M : (100000000 : Int32) = nI 100000000 := by decide
set_option maxHeartbeats 2000000 in
theorem pr_least {i : Nat} {t : sr_t} {s : rg_T} {w : st_T} {key : Nat} {tm : Bool} (X : J i t s w) (hkey : key < 4096) : ∃ t1, F11_leastFor (nI key) (bI tm) t = some (.inl (some (sr_i (nu (rg_ba s key tm (rg_N s))))), t1) ∧ fr Sr0 t t1 := by
  have O := X.1
  have hN := O.1.1
  refine rs_via fun Q hQ => ?_
  have h0 : F11_leastFor (nI key) (bI tm) t = f11_leastFor_10 (nI key) (bI tm) (f11_leastFor_83 (nI key) (bI tm)) sr_fu (nu (rg_ba s key tm 0)) (nI (rg_bl 100000000 s key tm 0)) (nI 0) t := by
    unfold F11_leastFor
    rw [mL_M]
    rfl
  rw [h0]
  refine rs_loop (N := rg_N s) (L := fun f n t' => f11_leastFor_10 (nI key) (bI tm) (f11_leastFor_83 (nI key) (bI tm)) f (nu (rg_ba s key tm n)) (nI (rg_bl 100000000 s key tm n)) (nI n) t') (fun n t' => fr Sr0 t t') ?_ ?_ (by unfold sr_fu; omega) fr_rfl
  · intro n g t' hn p
    have X' := J_r X p
    have h3 := X'.2.2.2.2.2.1.1.1.1
    have hup := (X'.2.2.2.2.2.1.1.2 n hn).2.1
    have cs := rg_ba_c (key := key) (tm := tm) O n (by omega)
    have e1 : rg_ba s key tm (n + 1) = if rg_ur s key n = true ∧ (rg_ba s key tm n = 24 ∨ rg_pr s key tm n < rg_pr s key tm (rg_ba s key tm n)) then n else rg_ba s key tm n := rfl
    left
    by_cases hu : rg_u s n = true
    · obtain ⟨t1, h1, h13, h19, f1⟩ := pr_takes (key := key) X' hn hu hkey
      have pl := rg_pr_le (key := key) (tm := tm) O hn hu
      rw [hu] at hup
      have bt : ¬ bI true = nI 0 := by decide
      refine ⟨t1, fr_trans p f1, ?_⟩
      show f11_leastFor_10 (nI key) (bI tm) (f11_leastFor_83 (nI key) (bI tm)) (g + 1) _ _ (nI n) t' = f11_leastFor_10 (nI key) (bI tm) (f11_leastFor_83 (nI key) (bI tm)) g (nu (rg_ba s key tm (n + 1))) (nI (rg_bl 100000000 s key tm (n + 1))) (nI (n + 1)) t1
      cases hr : lk_r s key true n with
      | false =>
        have tk0 : lk_tk s key n = 0 := by unfold lk_tk; rw [hr]; rfl
        have e2 : rg_ba s key tm (n + 1) = rg_ba s key tm n := by
          rw [e1, if_neg]
          intro q
          have := q.1
          unfold rg_ur at this
          rw [hr, Bool.and_false] at this
          exact absurd this (by decide)
        have e3 : rg_bl 100000000 s key tm (n + 1) = rg_bl 100000000 s key tm n := by unfold rg_bl; rw [e2]
        rw [tk0, ix_0] at h1
        rw [e2, e3]
        simp (disch := omega) only [pv_lt, pu_ck, pv_bI, pv_bV, pu_bR, pv_bL, pv_nt, pu_us, pu_un, mL_0, mL_1, mL_2, mL_3, mL_4, mL_5, mL_6, mL_7, mL_8, mL_9, mL_10, mL_11, mL_12, mL_13, mL_14, mL_15, mL_16, mL_23, mL_24, mL_32, mL_48, mL_64, mL_99, mL_100, mL_200, mL_336, mL_576, mL_768, mL_800, mL_999, mL_4095, mL_4096, mL_m1, nI_leI, nI_ltI, nI_eq, nI_clamp, nI_add, pk_mul, nI_nu, bI_eq0, bI_eq1, bo_ft, Bool.true_eq_false, Bool.false_eq_true, pu_of, pu_of24, pu_onward, pu_frq, if_true, if_false, true_or, or_true, false_or, or_false, and_true, true_and, and_false, false_and, not_true_eq_false, not_false_eq_true, if_neg, if_pos, f11_leastFor_10, f11_leastFor_77, h3, hup, bt, h1, pu_ixN']
      | true =>
        have tk1 : lk_tk s key n = lk_hp s key true n (lk_n s key true n) + 1 := by unfold lk_tk; rw [hr]; rfl
        have hle := lk_tk_le (s := s) (key := key) (n := n)
        rw [tk1, ix_s] at h1
        rw [tk1] at hle
        have ur : rg_ur s key n = true := by unfold rg_ur; rw [hu, hr]; rfl
        have hz : (nI n < nI 0) = False := eq_false (nI_pos (by omega))
        have step : f11_leastFor_10 (nI key) (bI tm) (f11_leastFor_83 (nI key) (bI tm)) (g + 1) (nu (rg_ba s key tm n)) (nI (rg_bl 100000000 s key tm n)) (nI n) t' = (if nI (rg_pr s key tm n) < nI (rg_bl 100000000 s key tm n) then f11_leastFor_10 (nI key) (bI tm) (f11_leastFor_83 (nI key) (bI tm)) g (nI n) (nI (rg_pr s key tm n)) (nI (n + 1)) t1 else f11_leastFor_10 (nI key) (bI tm) (f11_leastFor_83 (nI key) (bI tm)) g (nu (rg_ba s key tm n)) (nI (rg_bl 100000000 s key tm n)) (nI (n + 1)) t1) := by
          cases tm with
          | false =>
            have bf : bI false = nI 0 := rfl
            have ep : rg_pr s key false n = lk_hp s key true n (lk_n s key true n) := if_neg (by decide)
            rw [ep]
            conv => lhs; unfold f11_leastFor_10
            simp (disch := omega) only [if_true, if_false, mL_0, mL_1, mL_m1, nI_leI, if_neg, if_pos, f11_leastFor_58, f11_leastFor_77, h3, hup, bt, bf, h1, h13, pv_bI, nI_add, nI_nu, hz, false_or, nI_clamp]
          | true =>
            have ep : rg_pr s key true n = lk_tm s key true n (lk_n s key true n) := if_pos rfl
            rw [ep]
            conv => lhs; unfold f11_leastFor_10
            simp (disch := omega) only [if_true, if_false, mL_0, mL_1, mL_m1, nI_leI, if_neg, if_pos, f11_leastFor_58, f11_leastFor_77, h3, hup, bt, h1, h19, pv_bI, nI_add, nI_nu, hz, false_or, nI_clamp]
        rw [step]
        rcases cs with c24 | ⟨c1, c2⟩
        · have e2 : rg_ba s key tm (n + 1) = n := by rw [e1, if_pos ⟨ur, Or.inl c24⟩]
          have e3 : rg_bl 100000000 s key tm (n + 1) = rg_pr s key tm n := by unfold rg_bl; rw [e2, if_neg (by omega)]
          have bl : rg_bl 100000000 s key tm n = 100000000 := if_pos c24
          rw [bl, if_pos (nI_lt (by omega) (by omega)), e2, e3, nu_lt (by omega)]
        · have bl : rg_bl 100000000 s key tm n = rg_pr s key tm (rg_ba s key tm n) := if_neg (by omega)
          rw [bl]
          by_cases hlt : rg_pr s key tm n < rg_pr s key tm (rg_ba s key tm n)
          · have e2 : rg_ba s key tm (n + 1) = n := by rw [e1, if_pos ⟨ur, Or.inr hlt⟩]
            have e3 : rg_bl 100000000 s key tm (n + 1) = rg_pr s key tm n := by unfold rg_bl; rw [e2, if_neg (by omega)]
            rw [if_pos (nI_lt hlt (by omega)), e2, e3, nu_lt (by omega)]
          · have e2 : rg_ba s key tm (n + 1) = rg_ba s key tm n := by
              rw [e1, if_neg]
              rintro ⟨_, q | q⟩
              · omega
              · exact hlt q
            have e3 : rg_bl 100000000 s key tm (n + 1) = rg_pr s key tm (rg_ba s key tm n) := by unfold rg_bl; rw [e2, if_neg (by omega)]
            rw [if_neg (nI_nlt (by omega) (by omega)), e2, e3]
    · rw [show rg_u s n = false by simpa using hu] at hup
      have bf : bI false = nI 0 := rfl
      have e2 : rg_ba s key tm (n + 1) = rg_ba s key tm n := by
        rw [e1, if_neg]
        intro q
        have := q.1
        unfold rg_ur at this
        rw [Bool.and_eq_true] at this
        exact hu this.1
      have e3 : rg_bl 100000000 s key tm (n + 1) = rg_bl 100000000 s key tm n := by unfold rg_bl; rw [e2]
      refine ⟨t', p, ?_⟩
      show f11_leastFor_10 (nI key) (bI tm) (f11_leastFor_83 (nI key) (bI tm)) (g + 1) _ _ (nI n) t' = f11_leastFor_10 (nI key) (bI tm) (f11_leastFor_83 (nI key) (bI tm)) g (nu (rg_ba s key tm (n + 1))) (nI (rg_bl 100000000 s key tm (n + 1))) (nI (n + 1)) t'
      rw [e2, e3]
      simp (disch := omega) only [pv_lt, pu_ck, pv_bI, pv_bV, pu_bR, pv_bL, pv_nt, pu_us, pu_un, mL_0, mL_1, mL_2, mL_3, mL_4, mL_5, mL_6, mL_7, mL_8, mL_9, mL_10, mL_11, mL_12, mL_13, mL_14, mL_15, mL_16, mL_23, mL_24, mL_32, mL_48, mL_64, mL_99, mL_100, mL_200, mL_336, mL_576, mL_768, mL_800, mL_999, mL_4095, mL_4096, mL_m1, nI_leI, nI_ltI, nI_eq, nI_clamp, nI_add, pk_mul, nI_nu, bI_eq0, bI_eq1, bo_ft, Bool.true_eq_false, Bool.false_eq_true, pu_of, pu_of24, pu_onward, pu_frq, if_true, if_false, true_or, or_true, false_or, or_false, and_true, true_and, and_false, false_and, not_true_eq_false, not_false_eq_true, if_neg, if_pos, f11_leastFor_10, f11_leastFor_77, h3, hup, bf, pu_ixN']
  · intro g t' p
    have h3 := (J_r X p).2.2.2.2.2.1.1.1.1
    show rs_to _ (f11_leastFor_10 (nI key) (bI tm) (f11_leastFor_83 (nI key) (bI tm)) (g + 1) (nu (rg_ba s key tm (rg_N s))) (nI (rg_bl 100000000 s key tm (rg_N s))) (nI (rg_N s)) t')
    simp (disch := omega) only [pv_lt, pu_ck, pv_bI, pv_bV, pu_bR, pv_bL, pv_nt, pu_us, pu_un, mL_0, mL_1, mL_2, mL_3, mL_4, mL_5, mL_6, mL_7, mL_8, mL_9, mL_10, mL_11, mL_12, mL_13, mL_14, mL_15, mL_16, mL_23, mL_24, mL_32, mL_48, mL_64, mL_99, mL_100, mL_200, mL_336, mL_576, mL_768, mL_800, mL_999, mL_4095, mL_4096, mL_m1, nI_leI, nI_ltI, nI_eq, nI_clamp, nI_add, pk_mul, nI_nu, bI_eq0, bI_eq1, bo_ft, Bool.true_eq_false, Bool.false_eq_true, pu_of, pu_of24, pu_onward, pu_frq, if_true, if_false, true_or, or_true, false_or, or_false, and_true, true_and, and_false, false_and, not_true_eq_false, not_false_eq_true, if_neg, if_pos, f11_leastFor_10, f11_leastFor_83, h3]
    exact rs_ret (hQ _ p)
theorem s_nearest {i : Nat} (hi : i + 4 ≤ 2048) (a : Int32) : sr_ok3 (sr_Inv i) (sr_Inv (i + 4)) (fun t => FL_nearest_23 a t) (fun t => F11_nearest a t) := by
  refine ok3_qf hi (F := F10_nearest a) (G := F11_nearest a) (hc := hcL_nearest_23) (fun t s w X => ?_)
  rcases a_place a with ha | ⟨q, hq, rfl⟩
  · right
    have nP := nP_no (t := t) ha
    have iP := iP_no (t := t) ha
    refine ⟨0, nI 1, nI 0, sr_u t 11 0 0 (nI 1), ?_, rfl, by decide, ?_, pu_us, Sr_0⟩
    · simp (disch := omega) only [pv_lt, pu_ck, pv_bI, pv_bV, pu_bR, pv_bL, pv_nt, pu_us, pu_un, mL_0, mL_1, mL_2, mL_3, mL_4, mL_5, mL_6, mL_7, mL_8, mL_9, mL_10, mL_11, mL_12, mL_13, mL_14, mL_15, mL_16, mL_23, mL_24, mL_32, mL_48, mL_64, mL_99, mL_100, mL_200, mL_336, mL_576, mL_768, mL_800, mL_999, mL_4095, mL_4096, mL_m1, nI_leI, nI_ltI, nI_eq, nI_clamp, nI_add, pk_mul, nI_nu, bI_eq0, bI_eq1, bo_ft, Bool.true_eq_false, Bool.false_eq_true, pu_of, pu_of24, pu_onward, pu_frq, if_true, if_false, true_or, or_true, false_or, or_false, and_true, true_and, and_false, false_and, not_true_eq_false, not_false_eq_true, if_neg, if_pos, F10_nearest, nP, bVr]
    · simp (disch := omega) only [pv_lt, pu_ck, pv_bI, pv_bV, pu_bR, pv_bL, pv_nt, pu_us, pu_un, mL_0, mL_1, mL_2, mL_3, mL_4, mL_5, mL_6, mL_7, mL_8, mL_9, mL_10, mL_11, mL_12, mL_13, mL_14, mL_15, mL_16, mL_23, mL_24, mL_32, mL_48, mL_64, mL_99, mL_100, mL_200, mL_336, mL_576, mL_768, mL_800, mL_999, mL_4095, mL_4096, mL_m1, nI_leI, nI_ltI, nI_eq, nI_clamp, nI_add, pk_mul, nI_nu, bI_eq0, bI_eq1, bo_ft, Bool.true_eq_false, Bool.false_eq_true, pu_of, pu_of24, pu_onward, pu_frq, if_true, if_false, true_or, or_true, false_or, or_false, and_true, true_and, and_false, false_and, not_true_eq_false, not_false_eq_true, if_neg, if_pos, F11_nearest, f11_nearest_13, f11_nearest_33, iP]
  · left
    have nP := nP_ok (t := t) hq
    obtain ⟨t1, e1, f1⟩ := pc_best (tm := false) X hq
    have e1' : F10_bestToAsk (nI q) (nI 0) t = some (.inl (some (sr_i (nu (rg_ba s q false (rg_N s))))), t1) := e1
    refine ⟨nu (rg_ba s q false (rg_N s)), ⟨t1, ?_, frI_of f1⟩, fun t' X' ft => ?_⟩
    · simp (disch := omega) only [pv_lt, pu_ck, pv_bI, pv_bV, pu_bR, pv_bL, pv_nt, pu_us, pu_un, mL_0, mL_1, mL_2, mL_3, mL_4, mL_5, mL_6, mL_7, mL_8, mL_9, mL_10, mL_11, mL_12, mL_13, mL_14, mL_15, mL_16, mL_23, mL_24, mL_32, mL_48, mL_64, mL_99, mL_100, mL_200, mL_336, mL_576, mL_768, mL_800, mL_999, mL_4095, mL_4096, mL_m1, nI_leI, nI_ltI, nI_eq, nI_clamp, nI_add, pk_mul, nI_nu, bI_eq0, bI_eq1, bo_ft, Bool.true_eq_false, Bool.false_eq_true, pu_of, pu_of24, pu_onward, pu_frq, if_true, if_false, true_or, or_true, false_or, or_false, and_true, true_and, and_false, false_and, not_true_eq_false, not_false_eq_true, if_neg, if_pos, F10_nearest, nP, e1']
    · obtain ⟨t2, e2, f2⟩ := pr_least (tm := false) (J_thr (v := nI 0) X') hq
      have e2' : F11_leastFor (nI q) (nI 0) (sr_u t' 11 0 0 (nI 0)) = some (.inl (some (sr_i (nu (rg_ba s q false (rg_N s))))), t2) := e2
      have iP := iP_ok (t := t') hq
      refine ⟨t2, ?_, (Sr_q f2).1, (Sr_q f2).2⟩
      simp (disch := omega) only [pv_lt, pu_ck, pv_bI, pv_bV, pu_bR, pv_bL, pv_nt, pu_us, pu_un, mL_0, mL_1, mL_2, mL_3, mL_4, mL_5, mL_6, mL_7, mL_8, mL_9, mL_10, mL_11, mL_12, mL_13, mL_14, mL_15, mL_16, mL_23, mL_24, mL_32, mL_48, mL_64, mL_99, mL_100, mL_200, mL_336, mL_576, mL_768, mL_800, mL_999, mL_4095, mL_4096, mL_m1, nI_leI, nI_ltI, nI_eq, nI_clamp, nI_add, pk_mul, nI_nu, bI_eq0, bI_eq1, bo_ft, Bool.true_eq_false, Bool.false_eq_true, pu_of, pu_of24, pu_onward, pu_frq, if_true, if_false, true_or, or_true, false_or, or_false, and_true, true_and, and_false, false_and, not_true_eq_false, not_false_eq_true, if_neg, if_pos, F11_nearest, f11_nearest_13, f11_nearest_33, iP, e2']
theorem s_quickest {i : Nat} (hi : i + 4 ≤ 2048) (a : Int32) : sr_ok3 (sr_Inv i) (sr_Inv (i + 4)) (fun t => FL_quickest_23 a t) (fun t => F11_quickest a t) := by
  refine ok3_qf hi (F := F10_quickest a) (G := F11_quickest a) (hc := hcL_quickest_23) (fun t s w X => ?_)
  rcases a_place a with ha | ⟨q, hq, rfl⟩
  · right
    have nP := nP_no (t := t) ha
    have iP := iP_no (t := t) ha
    refine ⟨0, nI 1, nI 0, sr_u t 11 0 0 (nI 1), ?_, rfl, by decide, ?_, pu_us, Sr_0⟩
    · simp (disch := omega) only [pv_lt, pu_ck, pv_bI, pv_bV, pu_bR, pv_bL, pv_nt, pu_us, pu_un, mL_0, mL_1, mL_2, mL_3, mL_4, mL_5, mL_6, mL_7, mL_8, mL_9, mL_10, mL_11, mL_12, mL_13, mL_14, mL_15, mL_16, mL_23, mL_24, mL_32, mL_48, mL_64, mL_99, mL_100, mL_200, mL_336, mL_576, mL_768, mL_800, mL_999, mL_4095, mL_4096, mL_m1, nI_leI, nI_ltI, nI_eq, nI_clamp, nI_add, pk_mul, nI_nu, bI_eq0, bI_eq1, bo_ft, Bool.true_eq_false, Bool.false_eq_true, pu_of, pu_of24, pu_onward, pu_frq, if_true, if_false, true_or, or_true, false_or, or_false, and_true, true_and, and_false, false_and, not_true_eq_false, not_false_eq_true, if_neg, if_pos, F10_quickest, nP, bVr]
    · simp (disch := omega) only [pv_lt, pu_ck, pv_bI, pv_bV, pu_bR, pv_bL, pv_nt, pu_us, pu_un, mL_0, mL_1, mL_2, mL_3, mL_4, mL_5, mL_6, mL_7, mL_8, mL_9, mL_10, mL_11, mL_12, mL_13, mL_14, mL_15, mL_16, mL_23, mL_24, mL_32, mL_48, mL_64, mL_99, mL_100, mL_200, mL_336, mL_576, mL_768, mL_800, mL_999, mL_4095, mL_4096, mL_m1, nI_leI, nI_ltI, nI_eq, nI_clamp, nI_add, pk_mul, nI_nu, bI_eq0, bI_eq1, bo_ft, Bool.true_eq_false, Bool.false_eq_true, pu_of, pu_of24, pu_onward, pu_frq, if_true, if_false, true_or, or_true, false_or, or_false, and_true, true_and, and_false, false_and, not_true_eq_false, not_false_eq_true, if_neg, if_pos, F11_quickest, f11_quickest_13, f11_quickest_33, iP]
  · left
    have nP := nP_ok (t := t) hq
    obtain ⟨t1, e1, f1⟩ := pc_best (tm := true) X hq
    have e1' : F10_bestToAsk (nI q) (nI 1) t = some (.inl (some (sr_i (nu (rg_ba s q true (rg_N s))))), t1) := e1
    refine ⟨nu (rg_ba s q true (rg_N s)), ⟨t1, ?_, frI_of f1⟩, fun t' X' ft => ?_⟩
    · simp (disch := omega) only [pv_lt, pu_ck, pv_bI, pv_bV, pu_bR, pv_bL, pv_nt, pu_us, pu_un, mL_0, mL_1, mL_2, mL_3, mL_4, mL_5, mL_6, mL_7, mL_8, mL_9, mL_10, mL_11, mL_12, mL_13, mL_14, mL_15, mL_16, mL_23, mL_24, mL_32, mL_48, mL_64, mL_99, mL_100, mL_200, mL_336, mL_576, mL_768, mL_800, mL_999, mL_4095, mL_4096, mL_m1, nI_leI, nI_ltI, nI_eq, nI_clamp, nI_add, pk_mul, nI_nu, bI_eq0, bI_eq1, bo_ft, Bool.true_eq_false, Bool.false_eq_true, pu_of, pu_of24, pu_onward, pu_frq, if_true, if_false, true_or, or_true, false_or, or_false, and_true, true_and, and_false, false_and, not_true_eq_false, not_false_eq_true, if_neg, if_pos, F10_quickest, nP, e1']
    · obtain ⟨t2, e2, f2⟩ := pr_least (tm := true) (J_thr (v := nI 0) X') hq
      have e2' : F11_leastFor (nI q) (nI 1) (sr_u t' 11 0 0 (nI 0)) = some (.inl (some (sr_i (nu (rg_ba s q true (rg_N s))))), t2) := e2
      have iP := iP_ok (t := t') hq
      refine ⟨t2, ?_, (Sr_q f2).1, (Sr_q f2).2⟩
      simp (disch := omega) only [pv_lt, pu_ck, pv_bI, pv_bV, pu_bR, pv_bL, pv_nt, pu_us, pu_un, mL_0, mL_1, mL_2, mL_3, mL_4, mL_5, mL_6, mL_7, mL_8, mL_9, mL_10, mL_11, mL_12, mL_13, mL_14, mL_15, mL_16, mL_23, mL_24, mL_32, mL_48, mL_64, mL_99, mL_100, mL_200, mL_336, mL_576, mL_768, mL_800, mL_999, mL_4095, mL_4096, mL_m1, nI_leI, nI_ltI, nI_eq, nI_clamp, nI_add, pk_mul, nI_nu, bI_eq0, bI_eq1, bo_ft, Bool.true_eq_false, Bool.false_eq_true, pu_of, pu_of24, pu_onward, pu_frq, if_true, if_false, true_or, or_true, false_or, or_false, and_true, true_and, and_false, false_and, not_true_eq_false, not_false_eq_true, if_neg, if_pos, F11_quickest, f11_quickest_13, f11_quickest_33, iP, e2']
/-! where one may start -/
def rg_cs (s : rg_T) (n : Nat) : Bool := rg_u s n && rg_nx s n != 24
theorem nS_no {t : sr_t} {s : rg_T} {n q : Nat} (C : rg_C t 0 s) (K : rg_K t 0 s) (O : rg_ok s) (hn : n < rg_N s) (hq : q < 4096) (h : rg_cs s n = false) : F10_needStart (nI n) (nI q) t = some (.inr 1, t) := by
  have hN := O.1.1
  have n1 := nN_ok C O hn
  have nP := nP_ok (t := t) hq
  have k5 := (K.2 n hn).1
  have e : rg_kx s n = 24 := by
    unfold rg_kx
    unfold rg_cs at h
    by_cases hu : rg_u s n = true
    · rw [if_pos hu]
      rw [hu, Bool.true_and] at h
      simpa using h
    · rw [if_neg hu]
  rw [e] at k5
  simp (disch := omega) only [pv_lt, pu_ck, pv_bI, pv_bV, pu_bR, pv_bL, pv_nt, pu_us, pu_un, mL_0, mL_1, mL_2, mL_3, mL_4, mL_5, mL_6, mL_7, mL_8, mL_9, mL_10, mL_11, mL_12, mL_13, mL_14, mL_15, mL_16, mL_23, mL_24, mL_32, mL_48, mL_64, mL_99, mL_100, mL_200, mL_336, mL_576, mL_768, mL_800, mL_999, mL_4095, mL_4096, mL_m1, nI_leI, nI_ltI, nI_eq, nI_clamp, nI_add, pk_mul, nI_nu, bI_eq0, bI_eq1, bo_ft, Bool.true_eq_false, Bool.false_eq_true, pu_of, pu_of24, pu_onward, pu_frq, if_true, if_false, true_or, or_true, false_or, or_false, and_true, true_and, and_false, false_and, not_true_eq_false, not_false_eq_true, if_neg, if_pos, F10_needStart, n1, nP, k5]
theorem nS_ok {t : sr_t} {s : rg_T} {n q : Nat} (C : rg_C t 0 s) (K : rg_K t 0 s) (O : rg_ok s) (hn : n < rg_N s) (hq : q < 4096) (h : rg_cs s n = true) : F10_needStart (nI n) (nI q) t = some (.inl none, t) := by
  have hN := O.1.1
  have n1 := nN_ok C O hn
  have nP := nP_ok (t := t) hq
  have k5 := (K.2 n hn).1
  unfold rg_cs at h
  rw [Bool.and_eq_true, bne_iff_ne] at h
  rw [rg_kx, if_pos h.1] at k5
  have ne : ¬ nu (rg_nx s n) = nu 24 := fun q => h.2 ((nu_eq24 (rg_nx_le O hn)).mp q)
  simp (disch := omega) only [pv_lt, pu_ck, pv_bI, pv_bV, pu_bR, pv_bL, pv_nt, pu_us, pu_un, mL_0, mL_1, mL_2, mL_3, mL_4, mL_5, mL_6, mL_7, mL_8, mL_9, mL_10, mL_11, mL_12, mL_13, mL_14, mL_15, mL_16, mL_23, mL_24, mL_32, mL_48, mL_64, mL_99, mL_100, mL_200, mL_336, mL_576, mL_768, mL_800, mL_999, mL_4095, mL_4096, mL_m1, nI_leI, nI_ltI, nI_eq, nI_clamp, nI_add, pk_mul, nI_nu, bI_eq0, bI_eq1, bo_ft, Bool.true_eq_false, Bool.false_eq_true, pu_of, pu_of24, pu_onward, pu_frq, if_true, if_false, true_or, or_true, false_or, or_false, and_true, true_and, and_false, false_and, not_true_eq_false, not_false_eq_true, if_neg, if_pos, F10_needStart, n1, nP, k5, ne]
theorem wS {t : sr_t} {s : rg_T} {n q : Nat} (R : rg_R t s) (O : rg_ok s) (hn : n < rg_N s) (hq : q < 4096) : F11_wrongStart (nI n) (nI q) t = some (.inl (some (sr_i (nI (if rg_cs s n = true then 0 else 3)))), t) := by
  have hN := O.1.1
  have i1 := iN_ok R.1 O.1 hn
  have i2 := iP_ok (t := t) hq
  have u25 := (R.1.2 n hn).2.1
  have nx := pu_nextOf (rg_RN_of R O) O hn
  unfold rg_cs
  cases hu : rg_u s n with
  | false =>
    rw [hu] at u25
    have bf : bI false = nI 0 := rfl
    rw [Bool.false_and, if_neg (by decide)]
    simp (disch := omega) only [pv_lt, pu_ck, pv_bI, pv_bV, pu_bR, pv_bL, pv_nt, pu_us, pu_un, mL_0, mL_1, mL_2, mL_3, mL_4, mL_5, mL_6, mL_7, mL_8, mL_9, mL_10, mL_11, mL_12, mL_13, mL_14, mL_15, mL_16, mL_23, mL_24, mL_32, mL_48, mL_64, mL_99, mL_100, mL_200, mL_336, mL_576, mL_768, mL_800, mL_999, mL_4095, mL_4096, mL_m1, nI_leI, nI_ltI, nI_eq, nI_clamp, nI_add, pk_mul, nI_nu, bI_eq0, bI_eq1, bo_ft, Bool.true_eq_false, Bool.false_eq_true, pu_of, pu_of24, pu_onward, pu_frq, if_true, if_false, true_or, or_true, false_or, or_false, and_true, true_and, and_false, false_and, not_true_eq_false, not_false_eq_true, if_neg, if_pos, F11_wrongStart, f11_wrongStart_41, f11_wrongStart_46, i1, i2, u25, bf, pu_ixN']
  | true =>
    rw [hu] at u25
    have bt : ¬ bI true = nI 0 := by decide
    rw [Bool.true_and]
    by_cases hx : rg_nx s n = 24
    · rw [hx] at nx
      rw [hx, if_neg (by decide)]
      simp (disch := omega) only [pv_lt, pu_ck, pv_bI, pv_bV, pu_bR, pv_bL, pv_nt, pu_us, pu_un, mL_0, mL_1, mL_2, mL_3, mL_4, mL_5, mL_6, mL_7, mL_8, mL_9, mL_10, mL_11, mL_12, mL_13, mL_14, mL_15, mL_16, mL_23, mL_24, mL_32, mL_48, mL_64, mL_99, mL_100, mL_200, mL_336, mL_576, mL_768, mL_800, mL_999, mL_4095, mL_4096, mL_m1, nI_leI, nI_ltI, nI_eq, nI_clamp, nI_add, pk_mul, nI_nu, bI_eq0, bI_eq1, bo_ft, Bool.true_eq_false, Bool.false_eq_true, pu_of, pu_of24, pu_onward, pu_frq, if_true, if_false, true_or, or_true, false_or, or_false, and_true, true_and, and_false, false_and, not_true_eq_false, not_false_eq_true, if_neg, if_pos, F11_wrongStart, f11_wrongStart_41, f11_wrongStart_46, i1, i2, u25, bt, pu_ixN', nx]
    · have ne : ¬ nu (rg_nx s n) = nu 24 := fun q => hx ((nu_eq24 (rg_nx_le O hn)).mp q)
      rw [if_pos (bne_iff_ne.mpr hx)]
      simp (disch := omega) only [pv_lt, pu_ck, pv_bI, pv_bV, pu_bR, pv_bL, pv_nt, pu_us, pu_un, mL_0, mL_1, mL_2, mL_3, mL_4, mL_5, mL_6, mL_7, mL_8, mL_9, mL_10, mL_11, mL_12, mL_13, mL_14, mL_15, mL_16, mL_23, mL_24, mL_32, mL_48, mL_64, mL_99, mL_100, mL_200, mL_336, mL_576, mL_768, mL_800, mL_999, mL_4095, mL_4096, mL_m1, nI_leI, nI_ltI, nI_eq, nI_clamp, nI_add, pk_mul, nI_nu, bI_eq0, bI_eq1, bo_ft, Bool.true_eq_false, Bool.false_eq_true, pu_of, pu_of24, pu_onward, pu_frq, if_true, if_false, true_or, or_true, false_or, or_false, and_true, true_and, and_false, false_and, not_true_eq_false, not_false_eq_true, if_neg, if_pos, F11_wrongStart, f11_wrongStart_41, f11_wrongStart_46, i1, i2, u25, bt, pu_ixN', nx, ne]
theorem s_start {i : Nat} (hi : i + 4 ≤ 2048) (a b : Int32) : sr_ok3 (sr_Inv i) (sr_Inv (i + 4)) (fun t => FL_start_23 a b t) (fun t => F11_start a b t) := by
  refine ok3_qf hi (F := F10_start a b) (G := F11_start a b) (hc := hcL_start_23) (fun t s w X => ?_)
  obtain ⟨O, C, K, nb, sp, R, kp, L, W⟩ := id X
  have hN := O.1.1
  rcases a_node a hN with ha | ⟨n, hn, rfl⟩
  · right
    have n1 := nN_no C ha
    have i1 := iN_no R.1 O.1 ha
    refine ⟨2, nI 1, nI 0, sr_u t 11 0 0 (nI 1), ?_, rfl, by decide, ?_, pu_us, Sr_0⟩
    · simp (disch := omega) only [pv_lt, pu_ck, pv_bI, pv_bV, pu_bR, pv_bL, pv_nt, pu_us, pu_un, mL_0, mL_1, mL_2, mL_3, mL_4, mL_5, mL_6, mL_7, mL_8, mL_9, mL_10, mL_11, mL_12, mL_13, mL_14, mL_15, mL_16, mL_23, mL_24, mL_32, mL_48, mL_64, mL_99, mL_100, mL_200, mL_336, mL_576, mL_768, mL_800, mL_999, mL_4095, mL_4096, mL_m1, nI_leI, nI_ltI, nI_eq, nI_clamp, nI_add, pk_mul, nI_nu, bI_eq0, bI_eq1, bo_ft, Bool.true_eq_false, Bool.false_eq_true, pu_of, pu_of24, pu_onward, pu_frq, if_true, if_false, true_or, or_true, false_or, or_false, and_true, true_and, and_false, false_and, not_true_eq_false, not_false_eq_true, if_neg, if_pos, F10_start, F10_needStart, n1, bVr]
    · simp (disch := omega) only [pv_lt, pu_ck, pv_bI, pv_bV, pu_bR, pv_bL, pv_nt, pu_us, pu_un, mL_0, mL_1, mL_2, mL_3, mL_4, mL_5, mL_6, mL_7, mL_8, mL_9, mL_10, mL_11, mL_12, mL_13, mL_14, mL_15, mL_16, mL_23, mL_24, mL_32, mL_48, mL_64, mL_99, mL_100, mL_200, mL_336, mL_576, mL_768, mL_800, mL_999, mL_4095, mL_4096, mL_m1, nI_leI, nI_ltI, nI_eq, nI_clamp, nI_add, pk_mul, nI_nu, bI_eq0, bI_eq1, bo_ft, Bool.true_eq_false, Bool.false_eq_true, pu_of, pu_of24, pu_onward, pu_frq, if_true, if_false, true_or, or_true, false_or, or_false, and_true, true_and, and_false, false_and, not_true_eq_false, not_false_eq_true, if_neg, if_pos, F11_start, F11_wrongStart, f11_wrongStart_46, i1]
  · have n1 := nN_ok C O hn
    have i1 := iN_ok R.1 O.1 hn
    rcases a_place b with hb | ⟨q, hq, rfl⟩
    · right
      have nP := nP_no (t := t) hb
      have iP := iP_no (t := t) hb
      refine ⟨0, nI 2, nI 0, sr_u t 11 0 0 (nI 2), ?_, rfl, by decide, ?_, pu_us, Sr_0⟩
      · simp (disch := omega) only [pv_lt, pu_ck, pv_bI, pv_bV, pu_bR, pv_bL, pv_nt, pu_us, pu_un, mL_0, mL_1, mL_2, mL_3, mL_4, mL_5, mL_6, mL_7, mL_8, mL_9, mL_10, mL_11, mL_12, mL_13, mL_14, mL_15, mL_16, mL_23, mL_24, mL_32, mL_48, mL_64, mL_99, mL_100, mL_200, mL_336, mL_576, mL_768, mL_800, mL_999, mL_4095, mL_4096, mL_m1, nI_leI, nI_ltI, nI_eq, nI_clamp, nI_add, pk_mul, nI_nu, bI_eq0, bI_eq1, bo_ft, Bool.true_eq_false, Bool.false_eq_true, pu_of, pu_of24, pu_onward, pu_frq, if_true, if_false, true_or, or_true, false_or, or_false, and_true, true_and, and_false, false_and, not_true_eq_false, not_false_eq_true, if_neg, if_pos, F10_start, F10_needStart, n1, nP, bVr]
      · simp (disch := omega) only [pv_lt, pu_ck, pv_bI, pv_bV, pu_bR, pv_bL, pv_nt, pu_us, pu_un, mL_0, mL_1, mL_2, mL_3, mL_4, mL_5, mL_6, mL_7, mL_8, mL_9, mL_10, mL_11, mL_12, mL_13, mL_14, mL_15, mL_16, mL_23, mL_24, mL_32, mL_48, mL_64, mL_99, mL_100, mL_200, mL_336, mL_576, mL_768, mL_800, mL_999, mL_4095, mL_4096, mL_m1, nI_leI, nI_ltI, nI_eq, nI_clamp, nI_add, pk_mul, nI_nu, bI_eq0, bI_eq1, bo_ft, Bool.true_eq_false, Bool.false_eq_true, pu_of, pu_of24, pu_onward, pu_frq, if_true, if_false, true_or, or_true, false_or, or_false, and_true, true_and, and_false, false_and, not_true_eq_false, not_false_eq_true, if_neg, if_pos, F11_start, F11_wrongStart, f11_wrongStart_46, i1, iP]
    · cases hcs : rg_cs s n with
      | false =>
        right
        have nS := nS_no C K O hn hq hcs
        have ws := wS R O hn hq
        rw [hcs, if_neg (by decide)] at ws
        refine ⟨1, nI 3, nI 0, sr_u t 11 0 0 (nI 3), ?_, rfl, by decide, ?_, pu_us, Sr_0⟩
        · simp (disch := omega) only [pv_lt, pu_ck, pv_bI, pv_bV, pu_bR, pv_bL, pv_nt, pu_us, pu_un, mL_0, mL_1, mL_2, mL_3, mL_4, mL_5, mL_6, mL_7, mL_8, mL_9, mL_10, mL_11, mL_12, mL_13, mL_14, mL_15, mL_16, mL_23, mL_24, mL_32, mL_48, mL_64, mL_99, mL_100, mL_200, mL_336, mL_576, mL_768, mL_800, mL_999, mL_4095, mL_4096, mL_m1, nI_leI, nI_ltI, nI_eq, nI_clamp, nI_add, pk_mul, nI_nu, bI_eq0, bI_eq1, bo_ft, Bool.true_eq_false, Bool.false_eq_true, pu_of, pu_of24, pu_onward, pu_frq, if_true, if_false, true_or, or_true, false_or, or_false, and_true, true_and, and_false, false_and, not_true_eq_false, not_false_eq_true, if_neg, if_pos, F10_start, nS, bVr]
        · simp (disch := omega) only [pv_lt, pu_ck, pv_bI, pv_bV, pu_bR, pv_bL, pv_nt, pu_us, pu_un, mL_0, mL_1, mL_2, mL_3, mL_4, mL_5, mL_6, mL_7, mL_8, mL_9, mL_10, mL_11, mL_12, mL_13, mL_14, mL_15, mL_16, mL_23, mL_24, mL_32, mL_48, mL_64, mL_99, mL_100, mL_200, mL_336, mL_576, mL_768, mL_800, mL_999, mL_4095, mL_4096, mL_m1, nI_leI, nI_ltI, nI_eq, nI_clamp, nI_add, pk_mul, nI_nu, bI_eq0, bI_eq1, bo_ft, Bool.true_eq_false, Bool.false_eq_true, pu_of, pu_of24, pu_onward, pu_frq, if_true, if_false, true_or, or_true, false_or, or_false, and_true, true_and, and_false, false_and, not_true_eq_false, not_false_eq_true, if_neg, if_pos, F11_start, ws]
      | true =>
        left
        have nS := nS_ok C K O hn hq hcs
        have hu : rg_u s n = true := by unfold rg_cs at hcs; rw [Bool.and_eq_true] at hcs; exact hcs.1
        obtain ⟨t1, e1, I1, _, _, _, f1⟩ := pu_setOut (i0 := 1) (best := true) C K O (by omega) hn hu hq
        have e1' : F8_setOut 1 0 (25 * 0 + n) (nI q) (nI 1) t = some (.inl none, t1) := e1
        have h4 := I1.2.1.1
        refine ⟨nI (lk_he s q true n 0), ⟨t1, ?_, frI_of (fr_mono f1 (fun k i j q => by unfold S_tp at q; unfold Sc; omega))⟩, fun t' X' ft => ?_⟩
        · simp (disch := omega) only [pv_lt, pu_ck, pv_bI, pv_bV, pu_bR, pv_bL, pv_nt, pu_us, pu_un, mL_0, mL_1, mL_2, mL_3, mL_4, mL_5, mL_6, mL_7, mL_8, mL_9, mL_10, mL_11, mL_12, mL_13, mL_14, mL_15, mL_16, mL_23, mL_24, mL_32, mL_48, mL_64, mL_99, mL_100, mL_200, mL_336, mL_576, mL_768, mL_800, mL_999, mL_4095, mL_4096, mL_m1, nI_leI, nI_ltI, nI_eq, nI_clamp, nI_add, pk_mul, nI_nu, bI_eq0, bI_eq1, bo_ft, Bool.true_eq_false, Bool.false_eq_true, pu_of, pu_of24, pu_onward, pu_frq, if_true, if_false, true_or, or_true, false_or, or_false, and_true, true_and, and_false, false_and, not_true_eq_false, not_false_eq_true, if_neg, if_pos, F10_start, nS, e1', h4]
        · have ws := wS X'.2.2.2.2.2.1 O hn hq
          rw [hcs, if_pos rfl] at ws
          have f0 : fr Sr0 (sr_u t' 11 0 0 (nI 0)) (sr_u (sr_u t' 11 0 0 (nI 0)) 11 0 10 (nI n)) := fr_u fr_rfl (by unfold Sr0; omega)
          have X1 := J_r (J_thr (v := nI 0) X') f0
          obtain ⟨t2, e2, h11, h12, f2⟩ := pu_startR (best := true) (rg_RN_of X1.2.2.2.2.2.1 O) O hn hq pu_us
          have e2' : F11_starts (nI q) (nI 1) (sr_u (sr_u t' 11 0 0 (nI 0)) 11 0 10 (nI n)) = some (.inl none, t2) := e2
          have f3 : fr Sr0 (sr_u t' 11 0 0 (nI 0)) t2 := fr_trans f0 (fr_mono f2 (fun k i j q => by unfold S_sr at q; unfold Sr0; omega))
          have h11' : t2.1 11 0 11 = nI (lk_he s q true n 0) := h11
          refine ⟨t2, ?_, (Sr_q f3).1, (Sr_q f3).2⟩
          simp (disch := omega) only [pv_lt, pu_ck, pv_bI, pv_bV, pu_bR, pv_bL, pv_nt, pu_us, pu_un, mL_0, mL_1, mL_2, mL_3, mL_4, mL_5, mL_6, mL_7, mL_8, mL_9, mL_10, mL_11, mL_12, mL_13, mL_14, mL_15, mL_16, mL_23, mL_24, mL_32, mL_48, mL_64, mL_99, mL_100, mL_200, mL_336, mL_576, mL_768, mL_800, mL_999, mL_4095, mL_4096, mL_m1, nI_leI, nI_ltI, nI_eq, nI_clamp, nI_add, pk_mul, nI_nu, bI_eq0, bI_eq1, bo_ft, Bool.true_eq_false, Bool.false_eq_true, pu_of, pu_of24, pu_onward, pu_frq, if_true, if_false, true_or, or_true, false_or, or_false, and_true, true_and, and_false, false_and, not_true_eq_false, not_false_eq_true, if_neg, if_pos, F11_start, ws, e2', h11']
/-! ideal -/
def il (s : rg_T) (key n : Nat) : Nat → Nat × Nat × Nat
  | 0 => ((rg_sta s key true n).1, n, 0)
  | j + 1 => (rg_sh (rg_b s) (il s key n j).1 (rg_lt (rg_b s) key (12 / rg_b s - ((rg_sta s key true n).2 - j))), rg_lb s (rg_sh (rg_b s) (il s key n j).1 (rg_lt (rg_b s) key (12 / rg_b s - ((rg_sta s key true n).2 - j)))), (il s key n j).2.2 + if rg_lb s (rg_sh (rg_b s) (il s key n j).1 (rg_lt (rg_b s) key (12 / rg_b s - ((rg_sta s key true n).2 - j)))) = (il s key n j).2.1 then 0 else 1)
theorem il_s {s : rg_T} {key n j : Nat} : il s key n (j + 1) = (rg_sh (rg_b s) (il s key n j).1 (rg_lt (rg_b s) key (12 / rg_b s - ((rg_sta s key true n).2 - j))), rg_lb s (rg_sh (rg_b s) (il s key n j).1 (rg_lt (rg_b s) key (12 / rg_b s - ((rg_sta s key true n).2 - j)))), (il s key n j).2.2 + if rg_lb s (rg_sh (rg_b s) (il s key n j).1 (rg_lt (rg_b s) key (12 / rg_b s - ((rg_sta s key true n).2 - j)))) = (il s key n j).2.1 then 0 else 1) := rfl
theorem il_ok {s : rg_T} {key n : Nat} (O : rg_ok s) (hn : n < rg_N s) (hu : rg_u s n = true) : ∀ j, (il s key n j).1 < 4096 ∧ (il s key n j).2.1 < rg_N s ∧ (il s key n j).2.2 ≤ j := by
  intro j
  induction j with
  | zero => exact ⟨(rg_sta_lt O.1 hn).1, hn, Nat.le_refl _⟩
  | succ j ih =>
    rw [il_s]
    refine ⟨rg_sh_lt, (rg_lb_up O.1 hn hu).1, ?_⟩
    have := ih.2.2
    show _ + _ ≤ _
    split <;> omega
def rg_il (s : rg_T) (key n : Nat) : Nat := (il s key n (rg_sta s key true n).2).2.2 + if rg_ff s key = (il s key n (rg_sta s key true n).2).2.1 then 0 else 1
set_option maxHeartbeats 2000000 in
theorem pc_ideal {i : Nat} {t : sr_t} {s : rg_T} {w : st_T} {n key : Nat} (X : J i t s w) (hn : n < rg_N s) (hu : rg_u s n = true) (hkey : key < 4096) : ∃ t1, F8_idealHops 1 0 (25 * 0 + n) (nI key) t = some (.inl (some (sr_i (nI (rg_il s key n)))), t1) ∧ fr Sc t t1 := by
  obtain ⟨O, C, K, nb, sp, R, kp, L, W⟩ := id X
  have hN := O.1.1
  obtain ⟨b1, b4⟩ := O.1.2.1
  have hL := pu_Lpos b1 b4
  have p16 := pu_pow16 b4
  have l0 := (rg_sta_lt (key := key) (best := true) O.1 hn).2
  obtain ⟨t1, e1, I1, _, _, _, f1⟩ := pu_setOut (i0 := 1) (best := true) C K O (by omega) hn hu hkey
  have e1' : F8_setOut 1 0 (25 * 0 + n) (nI key) (nI 1) t = some (.inl none, t1) := e1
  obtain ⟨⟨H0, H1, _, _⟩, ⟨H4, H5, _⟩, _⟩ := I1
  refine rs_via fun Q hQ => ?_
  simp (disch := omega) only [pv_lt, pu_ck, pv_bI, pv_bV, pu_bR, pv_bL, pv_nt, pu_us, pu_un, mL_0, mL_1, mL_2, mL_3, mL_4, mL_5, mL_6, mL_7, mL_8, mL_9, mL_10, mL_11, mL_12, mL_13, mL_14, mL_15, mL_16, mL_23, mL_24, mL_32, mL_48, mL_64, mL_99, mL_100, mL_200, mL_336, mL_576, mL_768, mL_800, mL_999, mL_4095, mL_4096, mL_m1, nI_leI, nI_ltI, nI_eq, nI_clamp, nI_add, pk_mul, nI_nu, bI_eq0, bI_eq1, bo_ft, Bool.true_eq_false, Bool.false_eq_true, pu_of, pu_of24, pu_onward, pu_frq, if_true, if_false, true_or, or_true, false_or, or_false, and_true, true_and, and_false, false_and, not_true_eq_false, not_false_eq_true, if_neg, if_pos, F8_idealHops, e1']
  refine rs_loop (N := (rg_sta s key true n).2) (L := fun f j t' => f8_idealHops_14 1 0 (25 * 0 + n) (nI key) (f8_idealHops_69 1 0 (25 * 0 + n) (nI key)) f (nI (il s key n j).2.2) (25 * 0 + (il s key n j).2.1) t') (fun j t' => (t'.1 8 1 0 = nI 0 ∧ t'.1 8 1 1 = nI key ∧ t'.1 8 1 4 = nI (il s key n j).1 ∧ t'.1 8 1 5 = nI ((rg_sta s key true n).2 - j)) ∧ fr (S_tp 1) t t') ?_ ?_ (by unfold sr_fu; omega) ⟨⟨H0, H1, H4, H5⟩, f1⟩
  · rintro j g t' hj ⟨⟨q0, q1, q4, q5⟩, p⟩
    have C' := rg_C_fr hN p (fun k i j q => by unfold Fp_C at q; unfold S_tp; omega) C
    obtain ⟨i1, i2, i3⟩ := il_ok (key := key) O hn hu j
    have l7 := C'.1.1.2.2.2.1
    have le := pu_letterC (k := 12 / rg_b s - ((rg_sta s key true n).2 - j)) C'.1.1 O.1 hkey (by omega)
    have lel := rg_lt_lt (b := rg_b s) (q := key) (k := 12 / rg_b s - ((rg_sta s key true n).2 - j))
    have sh := pu_shiftC C'.1.1 O.1 i1 (show rg_lt (rg_b s) key (12 / rg_b s - ((rg_sta s key true n).2 - j)) < 16 by omega)
    have ls : nI (12 / rg_b s) - nI ((rg_sta s key true n).2 - j) = nI (12 / rg_b s - ((rg_sta s key true n).2 - j)) := pk_sub (by omega)
    have so : F8_shiftedOnce 1 t' = some (.inl (some (sr_i (nI (rg_sh (rg_b s) (il s key n j).1 (rg_lt (rg_b s) key (12 / rg_b s - ((rg_sta s key true n).2 - j))))))), t') := by
      simp (disch := omega) only [pv_lt, pu_ck, pv_bI, pv_bV, pu_bR, pv_bL, pv_nt, pu_us, pu_un, mL_0, mL_1, mL_2, mL_3, mL_4, mL_5, mL_6, mL_7, mL_8, mL_9, mL_10, mL_11, mL_12, mL_13, mL_14, mL_15, mL_16, mL_23, mL_24, mL_32, mL_48, mL_64, mL_99, mL_100, mL_200, mL_336, mL_576, mL_768, mL_800, mL_999, mL_4095, mL_4096, mL_m1, nI_leI, nI_ltI, nI_eq, nI_clamp, nI_add, pk_mul, nI_nu, bI_eq0, bI_eq1, bo_ft, Bool.true_eq_false, Bool.false_eq_true, pu_of, pu_of24, pu_onward, pu_frq, if_true, if_false, true_or, or_true, false_or, or_false, and_true, true_and, and_false, false_and, not_true_eq_false, not_false_eq_true, if_neg, if_pos, F8_shiftedOnce, q0, q1, q4, q5, l7, ls, le, sh]
    have shl := rg_sh_lt (b := rg_b s) (q := (il s key n j).1) (c := rg_lt (rg_b s) key (12 / rg_b s - ((rg_sta s key true n).2 - j)))
    have f2 : fr (S_tp 1) t (sr_u t' 8 1 4 (nI (rg_sh (rg_b s) (il s key n j).1 (rg_lt (rg_b s) key (12 / rg_b s - ((rg_sta s key true n).2 - j)))))) := fr_u p (by unfold S_tp; omega)
    have C2 := rg_C_fr hN f2 (fun k i j q => by unfold Fp_C at q; unfold S_tp; omega) C
    have lb := pu_lastBack (a0 := nI (rg_sh (rg_b s) (il s key n j).1 (rg_lt (rg_b s) key (12 / rg_b s - ((rg_sta s key true n).2 - j))))) C2.1 O.1 (by omega) (pu_qn (by omega))
    rw [Nat.mod_eq_of_lt shl] at lb
    have lbl := (rg_lb_up (q := rg_sh (rg_b s) (il s key n j).1 (rg_lt (rg_b s) key (12 / rg_b s - ((rg_sta s key true n).2 - j)))) O.1 hn hu).1
    have l1 : nI ((rg_sta s key true n).2 - j) - nI 1 = nI ((rg_sta s key true n).2 - (j + 1)) := by rw [pk_sub (by omega)]; rfl
    left
    refine ⟨sr_u (sr_u t' 8 1 4 (nI (rg_sh (rg_b s) (il s key n j).1 (rg_lt (rg_b s) key (12 / rg_b s - ((rg_sta s key true n).2 - j)))))) 8 1 5 (nI ((rg_sta s key true n).2 - (j + 1))), ⟨⟨?_, ?_, ?_, ?_⟩, fr_u f2 (by unfold S_tp; omega)⟩, ?_⟩
    · rw [pu_un (by omega), pu_un (by omega)]; exact q0
    · rw [pu_un (by omega), pu_un (by omega)]; exact q1
    · rw [pu_un (by omega), pu_us]; rfl
    · rw [pu_us]
    · show f8_idealHops_14 1 0 (25 * 0 + n) (nI key) (f8_idealHops_69 1 0 (25 * 0 + n) (nI key)) (g + 1) (nI (il s key n j).2.2) (25 * 0 + (il s key n j).2.1) t' = f8_idealHops_14 1 0 (25 * 0 + n) (nI key) (f8_idealHops_69 1 0 (25 * 0 + n) (nI key)) g (nI (il s key n (j + 1)).2.2) (25 * 0 + (il s key n (j + 1)).2.1) _
      rw [il_s]
      by_cases e : rg_lb s (rg_sh (rg_b s) (il s key n j).1 (rg_lt (rg_b s) key (12 / rg_b s - ((rg_sta s key true n).2 - j)))) = (il s key n j).2.1
      · rw [if_pos e]
        simp (disch := omega) only [pv_lt, pu_ck, pv_bI, pv_bV, pu_bR, pv_bL, pv_nt, pu_us, pu_un, mL_0, mL_1, mL_2, mL_3, mL_4, mL_5, mL_6, mL_7, mL_8, mL_9, mL_10, mL_11, mL_12, mL_13, mL_14, mL_15, mL_16, mL_23, mL_24, mL_32, mL_48, mL_64, mL_99, mL_100, mL_200, mL_336, mL_576, mL_768, mL_800, mL_999, mL_4095, mL_4096, mL_m1, nI_leI, nI_ltI, nI_eq, nI_clamp, nI_add, pk_mul, nI_nu, bI_eq0, bI_eq1, bo_ft, Bool.true_eq_false, Bool.false_eq_true, pu_of, pu_of24, pu_onward, pu_frq, if_true, if_false, true_or, or_true, false_or, or_false, and_true, true_and, and_false, false_and, not_true_eq_false, not_false_eq_true, if_neg, if_pos, f8_idealHops_14, f8_idealHops_52, q5, so, q0, lb, e, l1, Nat.add_zero]
      · rw [if_neg e]
        simp (disch := omega) only [pv_lt, pu_ck, pv_bI, pv_bV, pu_bR, pv_bL, pv_nt, pu_us, pu_un, mL_0, mL_1, mL_2, mL_3, mL_4, mL_5, mL_6, mL_7, mL_8, mL_9, mL_10, mL_11, mL_12, mL_13, mL_14, mL_15, mL_16, mL_23, mL_24, mL_32, mL_48, mL_64, mL_99, mL_100, mL_200, mL_336, mL_576, mL_768, mL_800, mL_999, mL_4095, mL_4096, mL_m1, nI_leI, nI_ltI, nI_eq, nI_clamp, nI_add, pk_mul, nI_nu, bI_eq0, bI_eq1, bo_ft, Bool.true_eq_false, Bool.false_eq_true, pu_of, pu_of24, pu_onward, pu_frq, if_true, if_false, true_or, or_true, false_or, or_false, and_true, true_and, and_false, false_and, not_true_eq_false, not_false_eq_true, if_neg, if_pos, f8_idealHops_14, f8_idealHops_52, q5, so, q0, lb, e, l1]
  · rintro g t' ⟨⟨q0, q1, q4, q5⟩, p⟩
    rw [Nat.sub_self] at q5
    have C' := rg_C_fr hN p (fun k i j q => by unfold Fp_C at q; unfold S_tp; omega) C
    have K' := rg_K_fr hN p (fun k i j q => by unfold Fp_K at q; unfold S_tp; omega) K
    obtain ⟨i1, i2, i3⟩ := il_ok (key := key) O hn hu (rg_sta s key true n).2
    have ow := pu_ownsC C' K' O i2 hkey
    rw [rg_ow_ff O.1 i2 hkey] at ow
    have fin : fr Sc t t' := fr_mono p (fun k i j q => by unfold S_tp at q; unfold Sc; omega)
    show rs_to _ (f8_idealHops_14 1 0 (25 * 0 + n) (nI key) (f8_idealHops_69 1 0 (25 * 0 + n) (nI key)) (g + 1) (nI (il s key n (rg_sta s key true n).2).2.2) (25 * 0 + (il s key n (rg_sta s key true n).2).2.1) t')
    unfold rg_il at hQ
    by_cases e : rg_ff s key = (il s key n (rg_sta s key true n).2).2.1
    · rw [decide_eq_true e] at ow
      rw [if_pos e, Nat.add_zero] at hQ
      have bt : ¬ bI true = nI 0 := by decide
      simp (disch := omega) only [pv_lt, pu_ck, pv_bI, pv_bV, pu_bR, pv_bL, pv_nt, pu_us, pu_un, mL_0, mL_1, mL_2, mL_3, mL_4, mL_5, mL_6, mL_7, mL_8, mL_9, mL_10, mL_11, mL_12, mL_13, mL_14, mL_15, mL_16, mL_23, mL_24, mL_32, mL_48, mL_64, mL_99, mL_100, mL_200, mL_336, mL_576, mL_768, mL_800, mL_999, mL_4095, mL_4096, mL_m1, nI_leI, nI_ltI, nI_eq, nI_clamp, nI_add, pk_mul, nI_nu, bI_eq0, bI_eq1, bo_ft, Bool.true_eq_false, Bool.false_eq_true, pu_of, pu_of24, pu_onward, pu_frq, if_true, if_false, true_or, or_true, false_or, or_false, and_true, true_and, and_false, false_and, not_true_eq_false, not_false_eq_true, if_neg, if_pos, f8_idealHops_14, f8_idealHops_69, f8_idealHops_90, q5, q1, ow, bt]
      exact rs_ret (hQ _ fin)
    · rw [decide_eq_false e] at ow
      rw [if_neg e] at hQ
      have bf : bI false = nI 0 := rfl
      simp (disch := omega) only [pv_lt, pu_ck, pv_bI, pv_bV, pu_bR, pv_bL, pv_nt, pu_us, pu_un, mL_0, mL_1, mL_2, mL_3, mL_4, mL_5, mL_6, mL_7, mL_8, mL_9, mL_10, mL_11, mL_12, mL_13, mL_14, mL_15, mL_16, mL_23, mL_24, mL_32, mL_48, mL_64, mL_99, mL_100, mL_200, mL_336, mL_576, mL_768, mL_800, mL_999, mL_4095, mL_4096, mL_m1, nI_leI, nI_ltI, nI_eq, nI_clamp, nI_add, pk_mul, nI_nu, bI_eq0, bI_eq1, bo_ft, Bool.true_eq_false, Bool.false_eq_true, pu_of, pu_of24, pu_onward, pu_frq, if_true, if_false, true_or, or_true, false_or, or_false, and_true, true_and, and_false, false_and, not_true_eq_false, not_false_eq_true, if_neg, if_pos, f8_idealHops_14, f8_idealHops_69, f8_idealHops_90, q5, q1, ow, bf]
      exact rs_ret (hQ _ fin)
set_option maxHeartbeats 2000000 in
theorem pr_ideal {i : Nat} {t : sr_t} {s : rg_T} {w : st_T} {n key : Nat} (X : J i t s w) (hn : n < rg_N s) (hu : rg_u s n = true) (hkey : key < 4096) : ∃ t1, F11_idealOf (nI n) (nI key) t = some (.inl (some (sr_i (nI (rg_il s key n)))), t1) ∧ fr Sr0 t t1 := by
  have O := X.1
  have hN := O.1.1
  obtain ⟨b1, b4⟩ := O.1.2.1
  have hL := pu_Lpos b1 b4
  have p16 := pu_pow16 b4
  have l0 := (rg_sta_lt (key := key) (best := true) O.1 hn).2
  have f0 : fr Sr0 t (sr_u t 11 0 10 (nI n)) := fr_u fr_rfl (by unfold Sr0; omega)
  obtain ⟨t1, e1, h11, h12, f1⟩ := pu_startR (best := true) (rg_RN_of (J_r X f0).2.2.2.2.2.1 O) O hn hkey pu_us
  have e1' : F11_starts (nI key) (nI 1) (sr_u t 11 0 10 (nI n)) = some (.inl none, t1) := e1
  have f1' : fr Sr0 t t1 := fr_trans f0 (fr_mono f1 (fun k i j q => by unfold S_sr at q; unfold Sr0; omega))
  refine rs_via fun Q hQ => ?_
  simp (disch := omega) only [pv_lt, pu_ck, pv_bI, pv_bV, pu_bR, pv_bL, pv_nt, pu_us, pu_un, mL_0, mL_1, mL_2, mL_3, mL_4, mL_5, mL_6, mL_7, mL_8, mL_9, mL_10, mL_11, mL_12, mL_13, mL_14, mL_15, mL_16, mL_23, mL_24, mL_32, mL_48, mL_64, mL_99, mL_100, mL_200, mL_336, mL_576, mL_768, mL_800, mL_999, mL_4095, mL_4096, mL_m1, nI_leI, nI_ltI, nI_eq, nI_clamp, nI_add, pk_mul, nI_nu, bI_eq0, bI_eq1, bo_ft, Bool.true_eq_false, Bool.false_eq_true, pu_of, pu_of24, pu_onward, pu_frq, if_true, if_false, true_or, or_true, false_or, or_false, and_true, true_and, and_false, false_and, not_true_eq_false, not_false_eq_true, if_neg, if_pos, F11_idealOf, e1']
  refine rs_loop (N := (rg_sta s key true n).2) (L := fun f j t' => f11_idealOf_16 (nI n) (nI key) (f11_idealOf_97 (nI n) (nI key)) f (nI (il s key n j).2.2) (nI (il s key n j).2.1) t') (fun j t' => (t'.1 11 0 11 = nI (il s key n j).1 ∧ t'.1 11 0 12 = nI ((rg_sta s key true n).2 - j)) ∧ fr Sr0 t t') ?_ ?_ (by unfold sr_fu; omega) ⟨⟨h11, h12⟩, f1'⟩
  · rintro j g t' hj ⟨⟨q4, q5⟩, p⟩
    have X' := J_r X p
    have R' := X'.2.2.2.2.2.1
    obtain ⟨i1, i2, i3⟩ := il_ok (key := key) O hn hu j
    have hb := R'.1.1.2.1
    have ll := pu_lettersR hb O.1
    have le := pu_letterR (k := 12 / rg_b s - ((rg_sta s key true n).2 - j)) hb O.1 hkey (by omega)
    have lel := rg_lt_lt (b := rg_b s) (q := key) (k := 12 / rg_b s - ((rg_sta s key true n).2 - j))
    have hqb := rg_qb i1 b4
    have ls : nI (12 / rg_b s) - nI ((rg_sta s key true n).2 - j) = nI (12 / rg_b s - ((rg_sta s key true n).2 - j)) := pk_sub (by omega)
    have shE : ((il s key n j).1 * 2 ^ rg_b s + rg_lt (rg_b s) key (12 / rg_b s - ((rg_sta s key true n).2 - j))) % 4096 = rg_sh (rg_b s) (il s key n j).1 (rg_lt (rg_b s) key (12 / rg_b s - ((rg_sta s key true n).2 - j))) := rfl
    have shl := rg_sh_lt (b := rg_b s) (q := (il s key n j).1) (c := rg_lt (rg_b s) key (12 / rg_b s - ((rg_sta s key true n).2 - j)))
    have l1 : nI ((rg_sta s key true n).2 - j) - nI 1 = nI ((rg_sta s key true n).2 - (j + 1)) := by rw [pk_sub (by omega)]; rfl
    have f2 : fr Sr0 t (sr_u (sr_u t' 11 0 11 (nI (rg_sh (rg_b s) (il s key n j).1 (rg_lt (rg_b s) key (12 / rg_b s - ((rg_sta s key true n).2 - j)))))) 11 0 12 (nI ((rg_sta s key true n).2 - (j + 1)))) := fr_u (fr_u p (by unfold Sr0; omega)) (by unfold Sr0; omega)
    have ho := pn_hostOf (rg_RN_of (J_r X f2).2.2.2.2.2.1 O) O.1 shl
    have lbl := (rg_lb_up (q := rg_sh (rg_b s) (il s key n j).1 (rg_lt (rg_b s) key (12 / rg_b s - ((rg_sta s key true n).2 - j)))) O.1 hn hu).1
    rw [nu_lt (by omega)] at ho
    left
    refine ⟨_, ⟨⟨?_, ?_⟩, f2⟩, ?_⟩
    · rw [pu_un (by omega), pu_us]; rfl
    · rw [pu_us]
    · show f11_idealOf_16 (nI n) (nI key) (f11_idealOf_97 (nI n) (nI key)) (g + 1) (nI (il s key n j).2.2) (nI (il s key n j).2.1) t' = f11_idealOf_16 (nI n) (nI key) (f11_idealOf_97 (nI n) (nI key)) g (nI (il s key n (j + 1)).2.2) (nI (il s key n (j + 1)).2.1) _
      rw [il_s]
      by_cases e : rg_lb s (rg_sh (rg_b s) (il s key n j).1 (rg_lt (rg_b s) key (12 / rg_b s - ((rg_sta s key true n).2 - j)))) = (il s key n j).2.1
      · rw [if_pos e]
        simp (disch := omega) only [pv_lt, pu_ck, pv_bI, pv_bV, pu_bR, pv_bL, pv_nt, pu_us, pu_un, mL_0, mL_1, mL_2, mL_3, mL_4, mL_5, mL_6, mL_7, mL_8, mL_9, mL_10, mL_11, mL_12, mL_13, mL_14, mL_15, mL_16, mL_23, mL_24, mL_32, mL_48, mL_64, mL_99, mL_100, mL_200, mL_336, mL_576, mL_768, mL_800, mL_999, mL_4095, mL_4096, mL_m1, nI_leI, nI_ltI, nI_eq, nI_clamp, nI_add, pk_mul, nI_nu, bI_eq0, bI_eq1, bo_ft, Bool.true_eq_false, Bool.false_eq_true, pu_of, pu_of24, pu_onward, pu_frq, if_true, if_false, true_or, or_true, false_or, or_false, and_true, true_and, and_false, false_and, not_true_eq_false, not_false_eq_true, if_neg, if_pos, f11_idealOf_16, f11_idealOf_88, q4, q5, hb, ll, ls, le, pk_rem96, shE, l1, ho, e, Nat.add_zero]
      · rw [if_neg e]
        simp (disch := omega) only [pv_lt, pu_ck, pv_bI, pv_bV, pu_bR, pv_bL, pv_nt, pu_us, pu_un, mL_0, mL_1, mL_2, mL_3, mL_4, mL_5, mL_6, mL_7, mL_8, mL_9, mL_10, mL_11, mL_12, mL_13, mL_14, mL_15, mL_16, mL_23, mL_24, mL_32, mL_48, mL_64, mL_99, mL_100, mL_200, mL_336, mL_576, mL_768, mL_800, mL_999, mL_4095, mL_4096, mL_m1, nI_leI, nI_ltI, nI_eq, nI_clamp, nI_add, pk_mul, nI_nu, bI_eq0, bI_eq1, bo_ft, Bool.true_eq_false, Bool.false_eq_true, pu_of, pu_of24, pu_onward, pu_frq, if_true, if_false, true_or, or_true, false_or, or_false, and_true, true_and, and_false, false_and, not_true_eq_false, not_false_eq_true, if_neg, if_pos, f11_idealOf_16, f11_idealOf_88, q4, q5, hb, ll, ls, le, pk_rem96, shE, l1, ho, e]
  · rintro g t' ⟨⟨q4, q5⟩, p⟩
    rw [Nat.sub_self] at q5
    have R' := (J_r X p).2.2.2.2.2.1
    obtain ⟨i1, i2, i3⟩ := il_ok (key := key) O hn hu (rg_sta s key true n).2
    have uf := pn_upFrom1 (rg_RN_of R' O) O.1 hkey
    have ffl := (rg_ff_up (q := key) O.1 hn hu).1
    rw [nu_lt (by omega)] at uf
    show rs_to _ (f11_idealOf_16 (nI n) (nI key) (f11_idealOf_97 (nI n) (nI key)) (g + 1) (nI (il s key n (rg_sta s key true n).2).2.2) (nI (il s key n (rg_sta s key true n).2).2.1) t')
    unfold rg_il at hQ
    by_cases e : rg_ff s key = (il s key n (rg_sta s key true n).2).2.1
    · rw [if_pos e] at hQ
      rw [e] at uf
      simp (disch := omega) only [pv_lt, pu_ck, pv_bI, pv_bV, pu_bR, pv_bL, pv_nt, pu_us, pu_un, mL_0, mL_1, mL_2, mL_3, mL_4, mL_5, mL_6, mL_7, mL_8, mL_9, mL_10, mL_11, mL_12, mL_13, mL_14, mL_15, mL_16, mL_23, mL_24, mL_32, mL_48, mL_64, mL_99, mL_100, mL_200, mL_336, mL_576, mL_768, mL_800, mL_999, mL_4095, mL_4096, mL_m1, nI_leI, nI_ltI, nI_eq, nI_clamp, nI_add, pk_mul, nI_nu, bI_eq0, bI_eq1, bo_ft, Bool.true_eq_false, Bool.false_eq_true, pu_of, pu_of24, pu_onward, pu_frq, if_true, if_false, true_or, or_true, false_or, or_false, and_true, true_and, and_false, false_and, not_true_eq_false, not_false_eq_true, if_neg, if_pos, f11_idealOf_16, f11_idealOf_97, f11_idealOf_114, q5, uf]
      exact rs_ret (hQ _ p)
    · rw [if_neg e] at hQ
      have e' : ¬ (il s key n (rg_sta s key true n).2).2.1 = rg_ff s key := fun q => e q.symm
      simp (disch := omega) only [pv_lt, pu_ck, pv_bI, pv_bV, pu_bR, pv_bL, pv_nt, pu_us, pu_un, mL_0, mL_1, mL_2, mL_3, mL_4, mL_5, mL_6, mL_7, mL_8, mL_9, mL_10, mL_11, mL_12, mL_13, mL_14, mL_15, mL_16, mL_23, mL_24, mL_32, mL_48, mL_64, mL_99, mL_100, mL_200, mL_336, mL_576, mL_768, mL_800, mL_999, mL_4095, mL_4096, mL_m1, nI_leI, nI_ltI, nI_eq, nI_clamp, nI_add, pk_mul, nI_nu, bI_eq0, bI_eq1, bo_ft, Bool.true_eq_false, Bool.false_eq_true, pu_of, pu_of24, pu_onward, pu_frq, if_true, if_false, true_or, or_true, false_or, or_false, and_true, true_and, and_false, false_and, not_true_eq_false, not_false_eq_true, if_neg, if_pos, f11_idealOf_16, f11_idealOf_97, f11_idealOf_114, q5, uf, e']
      exact rs_ret (hQ _ p)
end
