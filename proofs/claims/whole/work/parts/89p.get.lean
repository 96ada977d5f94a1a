section
theorem pc_endY {t t1 : sr_t} {n q e : Nat} (hn : n < 24) (he : e < 24) (h : F8_travel 0 0 (25 * 0 + n) (nI q) (nI 1) t = some (.inl (some (sr_i (cI e))), t1)) : F10_endOfLookup (nI n) (nI q) t = some (.inl (some (sr_r 2 (25 * 0 + e))), t1) := by
  rw [cI_lt he] at h
  simp (disch := omega) only [pv_lt, pu_ck, pv_bI, pv_bV, pu_bR, pv_bL, pv_nt, pu_us, pu_un, mL_0, mL_1, mL_2, mL_3, mL_4, mL_5, mL_6, mL_7, mL_8, mL_9, mL_10, mL_11, mL_12, mL_13, mL_14, mL_15, mL_16, mL_23, mL_24, mL_32, mL_48, mL_64, mL_99, mL_100, mL_200, mL_336, mL_576, mL_768, mL_800, mL_999, mL_4095, mL_4096, mL_m1, nI_leI, nI_ltI, nI_eq, nI_clamp, nI_add, pk_mul, nI_nu, bI_eq0, bI_eq1, bo_ft, Bool.true_eq_false, Bool.false_eq_true, pu_of, pu_of24, pu_onward, pu_frq, if_true, if_false, true_or, or_true, false_or, or_false, and_true, true_and, and_false, false_and, not_true_eq_false, not_false_eq_true, if_neg, if_pos, F10_endOfLookup, h]
theorem pc_endN {t t1 : sr_t} {n q e : Nat} (hn : n < 24) (he : e = 26 ∨ e = 27) (h : F8_travel 0 0 (25 * 0 + n) (nI q) (nI 1) t = some (.inl (some (sr_i (cI e))), t1)) : F10_endOfLookup (nI n) (nI q) t = some (.inr 1, t1) := by
  have ng : ¬ nI 0 ≤ cI e := by rcases he with r | r <;> rw [r] <;> decide
  simp (disch := omega) only [pv_lt, pu_ck, pv_bI, pv_bV, pu_bR, pv_bL, pv_nt, pu_us, pu_un, mL_0, mL_1, mL_2, mL_3, mL_4, mL_5, mL_6, mL_7, mL_8, mL_9, mL_10, mL_11, mL_12, mL_13, mL_14, mL_15, mL_16, mL_23, mL_24, mL_32, mL_48, mL_64, mL_99, mL_100, mL_200, mL_336, mL_576, mL_768, mL_800, mL_999, mL_4095, mL_4096, mL_m1, nI_leI, nI_ltI, nI_eq, nI_clamp, nI_add, pk_mul, nI_nu, bI_eq0, bI_eq1, bo_ft, Bool.true_eq_false, Bool.false_eq_true, pu_of, pu_of24, pu_onward, pu_frq, if_true, if_false, true_or, or_true, false_or, or_false, and_true, true_and, and_false, false_and, not_true_eq_false, not_false_eq_true, if_neg, if_pos, F10_endOfLookup, h, ng]
theorem s_get {i : Nat} (hi : i + 4 ≤ 2048) (a b : Int32) : sr_ok3 (sr_Inv i) (sr_Inv (i + 4)) (fun t => FL_get_23 a b t) (fun t => F11_get a b t) := by
  refine ok3_m hi (F := F10_get a b) (G := F11_get a b) (hc := hcL_get_23) (fun t s w X => ?_)
  obtain ⟨O, C, K, nb, sp, R, kp, L, W⟩ := id X
  have hN := O.1.1
  rcases a_node a hN with ha | ⟨n, hn, rfl⟩
  · right
    have n1 := nN_no C ha
    have wl := pu_wrongLookN (b := b) R.1 O.1 ha
    refine ⟨2, nI 1, nI 0, t, sr_u t 11 0 0 (nI 1), s, w, ?_, rfl, by decide, ?_, pu_us, J_mono (J_thr X)⟩
    · simp (disch := omega) only [pv_lt, pu_ck, pv_bI, pv_bV, pu_bR, pv_bL, pv_nt, pu_us, pu_un, mL_0, mL_1, mL_2, mL_3, mL_4, mL_5, mL_6, mL_7, mL_8, mL_9, mL_10, mL_11, mL_12, mL_13, mL_14, mL_15, mL_16, mL_23, mL_24, mL_32, mL_48, mL_64, mL_99, mL_100, mL_200, mL_336, mL_576, mL_768, mL_800, mL_999, mL_4095, mL_4096, mL_m1, nI_leI, nI_ltI, nI_eq, nI_clamp, nI_add, pk_mul, nI_nu, bI_eq0, bI_eq1, bo_ft, Bool.true_eq_false, Bool.false_eq_true, pu_of, pu_of24, pu_onward, pu_frq, if_true, if_false, true_or, or_true, false_or, or_false, and_true, true_and, and_false, false_and, not_true_eq_false, not_false_eq_true, if_neg, if_pos, F10_get, n1, bVr]
    · simp (disch := omega) only [pv_lt, pu_ck, pv_bI, pv_bV, pu_bR, pv_bL, pv_nt, pu_us, pu_un, mL_0, mL_1, mL_2, mL_3, mL_4, mL_5, mL_6, mL_7, mL_8, mL_9, mL_10, mL_11, mL_12, mL_13, mL_14, mL_15, mL_16, mL_23, mL_24, mL_32, mL_48, mL_64, mL_99, mL_100, mL_200, mL_336, mL_576, mL_768, mL_800, mL_999, mL_4095, mL_4096, mL_m1, nI_leI, nI_ltI, nI_eq, nI_clamp, nI_add, pk_mul, nI_nu, bI_eq0, bI_eq1, bo_ft, Bool.true_eq_false, Bool.false_eq_true, pu_of, pu_of24, pu_onward, pu_frq, if_true, if_false, true_or, or_true, false_or, or_false, and_true, true_and, and_false, false_and, not_true_eq_false, not_false_eq_true, if_neg, if_pos, F11_get, wl]
  · have n1 := nN_ok C O hn
    rcases a_place b with hb | ⟨q, hq, rfl⟩
    · right
      have nP := nP_no (t := t) hb
      have wl := pu_wrongLookP R.1 O.1 hn hb
      refine ⟨0, nI 2, nI 0, t, sr_u t 11 0 0 (nI 2), s, w, ?_, rfl, by decide, ?_, pu_us, J_mono (J_thr X)⟩
      · simp (disch := omega) only [pv_lt, pu_ck, pv_bI, pv_bV, pu_bR, pv_bL, pv_nt, pu_us, pu_un, mL_0, mL_1, mL_2, mL_3, mL_4, mL_5, mL_6, mL_7, mL_8, mL_9, mL_10, mL_11, mL_12, mL_13, mL_14, mL_15, mL_16, mL_23, mL_24, mL_32, mL_48, mL_64, mL_99, mL_100, mL_200, mL_336, mL_576, mL_768, mL_800, mL_999, mL_4095, mL_4096, mL_m1, nI_leI, nI_ltI, nI_eq, nI_clamp, nI_add, pk_mul, nI_nu, bI_eq0, bI_eq1, bo_ft, Bool.true_eq_false, Bool.false_eq_true, pu_of, pu_of24, pu_onward, pu_frq, if_true, if_false, true_or, or_true, false_or, or_false, and_true, true_and, and_false, false_and, not_true_eq_false, not_false_eq_true, if_neg, if_pos, F10_get, n1, nP, bVr]
      · simp (disch := omega) only [pv_lt, pu_ck, pv_bI, pv_bV, pu_bR, pv_bL, pv_nt, pu_us, pu_un, mL_0, mL_1, mL_2, mL_3, mL_4, mL_5, mL_6, mL_7, mL_8, mL_9, mL_10, mL_11, mL_12, mL_13, mL_14, mL_15, mL_16, mL_23, mL_24, mL_32, mL_48, mL_64, mL_99, mL_100, mL_200, mL_336, mL_576, mL_768, mL_800, mL_999, mL_4095, mL_4096, mL_m1, nI_leI, nI_ltI, nI_eq, nI_clamp, nI_add, pk_mul, nI_nu, bI_eq0, bI_eq1, bo_ft, Bool.true_eq_false, Bool.false_eq_true, pu_of, pu_of24, pu_onward, pu_frq, if_true, if_false, true_or, or_true, false_or, or_false, and_true, true_and, and_false, false_and, not_true_eq_false, not_false_eq_true, if_neg, if_pos, F11_get, wl]
    · have nP := nP_ok (t := t) hq
      have wl := pu_wrongLook R.1 O.1 hn hq
      by_cases hu : rg_u s n = true
      · have nU := nU_ok C O hn hu
        obtain ⟨t1, e1, f1, C1, W1, R1, ref⟩ := lk_pair X hn hu hq
        rcases lk_e_cases (key := q) (best := true) O hn hu with he | he
        · left
          have x1 := pc_endY (by omega) (by omega) e1
          generalize lk_e s q true n = e at *
          rw [cI_lt (by omega)] at ref
          have main : ∃ v : Int32, F6_tellAt 0 (25 * 0 + e) (nI q) t1 = some (.inl (some (sr_i v)), t1) ∧ ∀ t', J i t' s w → f11_get_37 (nI n) (nI q) (nI e) (nI 0) t' = some (.inl (some (sr_i v)), sr_u t' 11 0 0 (nI 0)) := by
            have hp := W.1.2.1
            rcases kn_of w q with ⟨k, k1, k2, k3⟩ | hno
            · have hk32 : k < 32 := by have := W.1.1; omega
              refine ⟨_, pc_tell (v := w.2.2.2.2 k) (x := w.2.2.2.1 k) C1 O he (by omega) (fun m hm => ?_) (pc_entryY W1 k1 k2 k3), fun t' X' => ?_⟩
              · obtain ⟨v1, v2, v3, v4, v5, v6, v7⟩ := W1.2.2.2.2.1 k hk32 m hm
                exact ⟨v4, by omega, fun _ => ⟨v3, v2⟩⟩
              · have X2 := J_thr (v := nI 0) X'
                have H : hk_R (sr_u t' 11 0 0 (nI 0)) k (w.2.2.2.2 k) (w.2.2.2.1 k) := fun m hm => by
                  obtain ⟨v1, v2, v3, v4, v5, v6, v7⟩ := X2.2.2.2.2.2.2.2.2.2.2.2.2.1 k hk32 m hm
                  exact ⟨v6, by omega, v5, v2⟩
                have ek := pr_knownY X2.2.2.2.2.2.2.2.2 k1 k2 k3
                have ev := pr_value H hk32 (n := e) (by omega)
                have et := pr_tell (a := nI n) (b := nI q) X2.2.2.2.2.2.1 O he hk32 H
                have g0 : gl (w.2.2.2.2 k) (w.2.2.2.1 k) s e 0 = vo (w.2.2.2.2 k) (w.2.2.2.1 k) e := rfl
                rw [g0] at et
                have nk := nI_nm (a := k) (by omega)
                simp (disch := omega) only [pv_lt, pu_ck, pv_bI, pv_bV, pu_bR, pv_bL, pv_nt, pu_us, pu_un, mL_0, mL_1, mL_2, mL_3, mL_4, mL_5, mL_6, mL_7, mL_8, mL_9, mL_10, mL_11, mL_12, mL_13, mL_14, mL_15, mL_16, mL_23, mL_24, mL_32, mL_48, mL_64, mL_99, mL_100, mL_200, mL_336, mL_576, mL_768, mL_800, mL_999, mL_4095, mL_4096, mL_m1, nI_leI, nI_ltI, nI_eq, nI_clamp, nI_add, pk_mul, nI_nu, bI_eq0, bI_eq1, bo_ft, Bool.true_eq_false, Bool.false_eq_true, pu_of, pu_of24, pu_onward, pu_frq, if_true, if_false, true_or, or_true, false_or, or_false, and_true, true_and, and_false, false_and, not_true_eq_false, not_false_eq_true, if_neg, if_pos, f11_get_37, ek, nk, ev, et]
            · refine ⟨_, pc_tell (k := 32) (v := fun _ => 0) (x := fun _ => 0) C1 O he (by omega) (fun m hm => ⟨W1.2.2.2.2.2.1 m hm, by show 0 < 2 ^ 31; omega, fun h => absurd rfl h⟩) (pc_entryN W1 hq hno), fun t' X' => ?_⟩
              have X2 := J_thr (v := nI 0) X'
              have ek := pr_knownN X2.2.2.2.2.2.2.2.2 hq hno
              have g0 : ∀ j, gl (fun _ => 0) (fun _ => 0) s e j = nu 24 := by
                intro j
                induction j with
                | zero => exact vo_n rfl
                | succ j ih => rw [gl_s, if_pos ih, vo_n rfl]; split <;> rfl
              rw [g0]
              simp (disch := omega) only [pv_lt, pu_ck, pv_bI, pv_bV, pu_bR, pv_bL, pv_nt, pu_us, pu_un, mL_0, mL_1, mL_2, mL_3, mL_4, mL_5, mL_6, mL_7, mL_8, mL_9, mL_10, mL_11, mL_12, mL_13, mL_14, mL_15, mL_16, mL_23, mL_24, mL_32, mL_48, mL_64, mL_99, mL_100, mL_200, mL_336, mL_576, mL_768, mL_800, mL_999, mL_4095, mL_4096, mL_m1, nI_leI, nI_ltI, nI_eq, nI_clamp, nI_add, pk_mul, nI_nu, bI_eq0, bI_eq1, bo_ft, Bool.true_eq_false, Bool.false_eq_true, pu_of, pu_of24, pu_onward, pu_frq, if_true, if_false, true_or, or_true, false_or, or_false, and_true, true_and, and_false, false_and, not_true_eq_false, not_false_eq_true, if_neg, if_pos, f11_get_37, ek]
          obtain ⟨v, m1, m2⟩ := main
          refine ⟨v, t1, ?_, fun T hT => ?_⟩
          · simp (disch := omega) only [pv_lt, pu_ck, pv_bI, pv_bV, pu_bR, pv_bL, pv_nt, pu_us, pu_un, mL_0, mL_1, mL_2, mL_3, mL_4, mL_5, mL_6, mL_7, mL_8, mL_9, mL_10, mL_11, mL_12, mL_13, mL_14, mL_15, mL_16, mL_23, mL_24, mL_32, mL_48, mL_64, mL_99, mL_100, mL_200, mL_336, mL_576, mL_768, mL_800, mL_999, mL_4095, mL_4096, mL_m1, nI_leI, nI_ltI, nI_eq, nI_clamp, nI_add, pk_mul, nI_nu, bI_eq0, bI_eq1, bo_ft, Bool.true_eq_false, Bool.false_eq_true, pu_of, pu_of24, pu_onward, pu_frq, if_true, if_false, true_or, or_true, false_or, or_false, and_true, true_and, and_false, false_and, not_true_eq_false, not_false_eq_true, if_neg, if_pos, F10_get, n1, nP, nU, x1, m1]
          · obtain ⟨t3, e3, l3, f3, J3⟩ := ref T (fun k i j _ => by rw [hT])
            have RT : rg_R T s := rg_R_fI (S := fun _ _ _ => False) O (fun k i j _ => by rw [hT]) (fun _ _ _ _ h => h) R1
            have wl := pu_wrongLook RT.1 O.1 hn hq
            rw [if_pos hu] at wl
            have W3 : st_I i t3 (rg_N s) w := st_I_fr f3 (fun k i j q q' => by unfold S_ll at q'; omega) (st_I_fr (S := fun _ _ _ => False) (t := t1) (fun k i j _ => by rw [hT]) (fun _ _ _ _ h => h) W1)
            have X3 : J i t3 s w := J_of J3 W3
            have m3 := m2 t3 X3
            refine ⟨sr_u t3 11 0 0 (nI 0), s, w, ?_, pu_us, l3, J_mono (J_thr X3)⟩
            simp (disch := omega) only [pv_lt, pu_ck, pv_bI, pv_bV, pu_bR, pv_bL, pv_nt, pu_us, pu_un, mL_0, mL_1, mL_2, mL_3, mL_4, mL_5, mL_6, mL_7, mL_8, mL_9, mL_10, mL_11, mL_12, mL_13, mL_14, mL_15, mL_16, mL_23, mL_24, mL_32, mL_48, mL_64, mL_99, mL_100, mL_200, mL_336, mL_576, mL_768, mL_800, mL_999, mL_4095, mL_4096, mL_m1, nI_leI, nI_ltI, nI_eq, nI_clamp, nI_add, pk_mul, nI_nu, bI_eq0, bI_eq1, bo_ft, Bool.true_eq_false, Bool.false_eq_true, pu_of, pu_of24, pu_onward, pu_frq, if_true, if_false, true_or, or_true, false_or, or_false, and_true, true_and, and_false, false_and, not_true_eq_false, not_false_eq_true, if_neg, if_pos, F11_get, wl, e3, m3]
        · right
          have x1 := pc_endN (by omega) he e1
          obtain ⟨t3, e3, l3, f3, J3⟩ := ref t1 (fun k i j _ => rfl)
          have ng : ¬ nI 0 ≤ cI (lk_e s q true n) := by rcases he with r | r <;> rw [r] <;> decide
          have wl := pu_wrongLook R1.1 O.1 hn hq
          rw [if_pos hu] at wl
          have W3 : st_I i t3 (rg_N s) w := st_I_fr f3 (fun k i j q q' => by unfold S_ll at q'; omega) W1
          have X3 : J i t3 s w := J_of J3 W3
          refine ⟨1, nI 3, nI 0, t1, sr_u t3 11 0 0 (nI 3), s, w, ?_, rfl, by decide, ?_, pu_us, J_mono (J_thr X3)⟩
          · simp (disch := omega) only [pv_lt, pu_ck, pv_bI, pv_bV, pu_bR, pv_bL, pv_nt, pu_us, pu_un, mL_0, mL_1, mL_2, mL_3, mL_4, mL_5, mL_6, mL_7, mL_8, mL_9, mL_10, mL_11, mL_12, mL_13, mL_14, mL_15, mL_16, mL_23, mL_24, mL_32, mL_48, mL_64, mL_99, mL_100, mL_200, mL_336, mL_576, mL_768, mL_800, mL_999, mL_4095, mL_4096, mL_m1, nI_leI, nI_ltI, nI_eq, nI_clamp, nI_add, pk_mul, nI_nu, bI_eq0, bI_eq1, bo_ft, Bool.true_eq_false, Bool.false_eq_true, pu_of, pu_of24, pu_onward, pu_frq, if_true, if_false, true_or, or_true, false_or, or_false, and_true, true_and, and_false, false_and, not_true_eq_false, not_false_eq_true, if_neg, if_pos, F10_get, n1, nP, nU, x1, bRr]
          · simp (disch := omega) only [pv_lt, pu_ck, pv_bI, pv_bV, pu_bR, pv_bL, pv_nt, pu_us, pu_un, mL_0, mL_1, mL_2, mL_3, mL_4, mL_5, mL_6, mL_7, mL_8, mL_9, mL_10, mL_11, mL_12, mL_13, mL_14, mL_15, mL_16, mL_23, mL_24, mL_32, mL_48, mL_64, mL_99, mL_100, mL_200, mL_336, mL_576, mL_768, mL_800, mL_999, mL_4095, mL_4096, mL_m1, nI_leI, nI_ltI, nI_eq, nI_clamp, nI_add, pk_mul, nI_nu, bI_eq0, bI_eq1, bo_ft, Bool.true_eq_false, Bool.false_eq_true, pu_of, pu_of24, pu_onward, pu_frq, if_true, if_false, true_or, or_true, false_or, or_false, and_true, true_and, and_false, false_and, not_true_eq_false, not_false_eq_true, if_neg, if_pos, F11_get, f11_get_37, wl, e3, ng]
      · right
        have hu' : rg_u s n = false := by simpa using hu
        have nU := nU_no C O hn hu'
        rw [if_neg hu] at wl
        refine ⟨1, nI 3, nI 0, t, sr_u t 11 0 0 (nI 3), s, w, ?_, rfl, by decide, ?_, pu_us, J_mono (J_thr X)⟩
        · simp (disch := omega) only [pv_lt, pu_ck, pv_bI, pv_bV, pu_bR, pv_bL, pv_nt, pu_us, pu_un, mL_0, mL_1, mL_2, mL_3, mL_4, mL_5, mL_6, mL_7, mL_8, mL_9, mL_10, mL_11, mL_12, mL_13, mL_14, mL_15, mL_16, mL_23, mL_24, mL_32, mL_48, mL_64, mL_99, mL_100, mL_200, mL_336, mL_576, mL_768, mL_800, mL_999, mL_4095, mL_4096, mL_m1, nI_leI, nI_ltI, nI_eq, nI_clamp, nI_add, pk_mul, nI_nu, bI_eq0, bI_eq1, bo_ft, Bool.true_eq_false, Bool.false_eq_true, pu_of, pu_of24, pu_onward, pu_frq, if_true, if_false, true_or, or_true, false_or, or_false, and_true, true_and, and_false, false_and, not_true_eq_false, not_false_eq_true, if_neg, if_pos, F10_get, n1, nP, nU, bVr]
        · simp (disch := omega) only [pv_lt, pu_ck, pv_bI, pv_bV, pu_bR, pv_bL, pv_nt, pu_us, pu_un, mL_0, mL_1, mL_2, mL_3, mL_4, mL_5, mL_6, mL_7, mL_8, mL_9, mL_10, mL_11, mL_12, mL_13, mL_14, mL_15, mL_16, mL_23, mL_24, mL_32, mL_48, mL_64, mL_99, mL_100, mL_200, mL_336, mL_576, mL_768, mL_800, mL_999, mL_4095, mL_4096, mL_m1, nI_leI, nI_ltI, nI_eq, nI_clamp, nI_add, pk_mul, nI_nu, bI_eq0, bI_eq1, bo_ft, Bool.true_eq_false, Bool.false_eq_true, pu_of, pu_of24, pu_onward, pu_frq, if_true, if_false, true_or, or_true, false_or, or_false, and_true, true_and, and_false, false_and, not_true_eq_false, not_false_eq_true, if_neg, if_pos, F11_get, wl]
end
