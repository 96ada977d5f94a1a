section
/-! steps: ideal, detour; bits -/
theorem s_ideal {i : Nat} (hi : i + 4 ≤ 2048) (a b : Int32) : sr_ok3 (sr_Inv i) (sr_Inv (i + 4)) (fun t => FL_ideal_23 a b t) (fun t => F11_ideal a b t) := by
  refine ok3_qf hi (F := F10_ideal a b) (G := F11_ideal a b) (hc := hcL_ideal_23) (fun t s w X => ?_)
  obtain ⟨O, C, K, nb, sp, R, kp, L, W⟩ := id X
  have hN := O.1.1
  rcases a_node a hN with ha | ⟨n, hn, rfl⟩
  · right
    have n1 := nN_no C ha
    have i1 := iN_no R.1 O.1 ha
    refine ⟨2, nI 1, nI 0, sr_u t 11 0 0 (nI 1), ?_, rfl, by decide, ?_, pu_us, Sr_0⟩
    · simp (disch := omega) only [pv_lt, pu_ck, pv_bI, pv_bV, pu_bR, pv_bL, pv_nt, pu_us, pu_un, mL_0, mL_1, mL_2, mL_3, mL_4, mL_5, mL_6, mL_7, mL_8, mL_9, mL_10, mL_11, mL_12, mL_13, mL_14, mL_15, mL_16, mL_23, mL_24, mL_32, mL_48, mL_64, mL_99, mL_100, mL_200, mL_336, mL_576, mL_768, mL_800, mL_999, mL_4095, mL_4096, mL_m1, nI_leI, nI_ltI, nI_eq, nI_clamp, nI_add, pk_mul, nI_nu, bI_eq0, bI_eq1, bo_ft, Bool.true_eq_false, Bool.false_eq_true, pu_of, pu_of24, pu_onward, pu_frq, if_true, if_false, true_or, or_true, false_or, or_false, and_true, true_and, and_false, false_and, not_true_eq_false, not_false_eq_true, if_neg, if_pos, F10_ideal, F10_needStart, n1, bVr]
    · simp (disch := omega) only [pv_lt, pu_ck, pv_bI, pv_bV, pu_bR, pv_bL, pv_nt, pu_us, pu_un, mL_0, mL_1, mL_2, mL_3, mL_4, mL_5, mL_6, mL_7, mL_8, mL_9, mL_10, mL_11, mL_12, mL_13, mL_14, mL_15, mL_16, mL_23, mL_24, mL_32, mL_48, mL_64, mL_99, mL_100, mL_200, mL_336, mL_576, mL_768, mL_800, mL_999, mL_4095, mL_4096, mL_m1, nI_leI, nI_ltI, nI_eq, nI_clamp, nI_add, pk_mul, nI_nu, bI_eq0, bI_eq1, bo_ft, Bool.true_eq_false, Bool.false_eq_true, pu_of, pu_of24, pu_onward, pu_frq, if_true, if_false, true_or, or_true, false_or, or_false, and_true, true_and, and_false, false_and, not_true_eq_false, not_false_eq_true, if_neg, if_pos, F11_ideal, f11_ideal_27, F11_wrongStart, f11_wrongStart_46, i1]
  · have n1 := nN_ok C O hn
    have i1 := iN_ok R.1 O.1 hn
    rcases a_place b with hb | ⟨q, hq, rfl⟩
    · right
      have nP := nP_no (t := t) hb
      have iP := iP_no (t := t) hb
      refine ⟨0, nI 2, nI 0, sr_u t 11 0 0 (nI 2), ?_, rfl, by decide, ?_, pu_us, Sr_0⟩
      · simp (disch := omega) only [pv_lt, pu_ck, pv_bI, pv_bV, pu_bR, pv_bL, pv_nt, pu_us, pu_un, mL_0, mL_1, mL_2, mL_3, mL_4, mL_5, mL_6, mL_7, mL_8, mL_9, mL_10, mL_11, mL_12, mL_13, mL_14, mL_15, mL_16, mL_23, mL_24, mL_32, mL_48, mL_64, mL_99, mL_100, mL_200, mL_336, mL_576, mL_768, mL_800, mL_999, mL_4095, mL_4096, mL_m1, nI_leI, nI_ltI, nI_eq, nI_clamp, nI_add, pk_mul, nI_nu, bI_eq0, bI_eq1, bo_ft, Bool.true_eq_false, Bool.false_eq_true, pu_of, pu_of24, pu_onward, pu_frq, if_true, if_false, true_or, or_true, false_or, or_false, and_true, true_and, and_false, false_and, not_true_eq_false, not_false_eq_true, if_neg, if_pos, F10_ideal, F10_needStart, n1, nP, bVr]
      · simp (disch := omega) only [pv_lt, pu_ck, pv_bI, pv_bV, pu_bR, pv_bL, pv_nt, pu_us, pu_un, mL_0, mL_1, mL_2, mL_3, mL_4, mL_5, mL_6, mL_7, mL_8, mL_9, mL_10, mL_11, mL_12, mL_13, mL_14, mL_15, mL_16, mL_23, mL_24, mL_32, mL_48, mL_64, mL_99, mL_100, mL_200, mL_336, mL_576, mL_768, mL_800, mL_999, mL_4095, mL_4096, mL_m1, nI_leI, nI_ltI, nI_eq, nI_clamp, nI_add, pk_mul, nI_nu, bI_eq0, bI_eq1, bo_ft, Bool.true_eq_false, Bool.false_eq_true, pu_of, pu_of24, pu_onward, pu_frq, if_true, if_false, true_or, or_true, false_or, or_false, and_true, true_and, and_false, false_and, not_true_eq_false, not_false_eq_true, if_neg, if_pos, F11_ideal, f11_ideal_27, F11_wrongStart, f11_wrongStart_46, i1, iP]
    · cases hcs : rg_cs s n with
      | false =>
        right
        have nS := nS_no C K O hn hq hcs
        have ws := wS R O hn hq
        rw [hcs, if_neg (by decide)] at ws
        refine ⟨1, nI 3, nI 0, sr_u t 11 0 0 (nI 3), ?_, rfl, by decide, ?_, pu_us, Sr_0⟩
        · simp (disch := omega) only [pv_lt, pu_ck, pv_bI, pv_bV, pu_bR, pv_bL, pv_nt, pu_us, pu_un, mL_0, mL_1, mL_2, mL_3, mL_4, mL_5, mL_6, mL_7, mL_8, mL_9, mL_10, mL_11, mL_12, mL_13, mL_14, mL_15, mL_16, mL_23, mL_24, mL_32, mL_48, mL_64, mL_99, mL_100, mL_200, mL_336, mL_576, mL_768, mL_800, mL_999, mL_4095, mL_4096, mL_m1, nI_leI, nI_ltI, nI_eq, nI_clamp, nI_add, pk_mul, nI_nu, bI_eq0, bI_eq1, bo_ft, Bool.true_eq_false, Bool.false_eq_true, pu_of, pu_of24, pu_onward, pu_frq, if_true, if_false, true_or, or_true, false_or, or_false, and_true, true_and, and_false, false_and, not_true_eq_false, not_false_eq_true, if_neg, if_pos, F10_ideal, nS, bVr]
        · simp (disch := omega) only [pv_lt, pu_ck, pv_bI, pv_bV, pu_bR, pv_bL, pv_nt, pu_us, pu_un, mL_0, mL_1, mL_2, mL_3, mL_4, mL_5, mL_6, mL_7, mL_8, mL_9, mL_10, mL_11, mL_12, mL_13, mL_14, mL_15, mL_16, mL_23, mL_24, mL_32, mL_48, mL_64, mL_99, mL_100, mL_200, mL_336, mL_576, mL_768, mL_800, mL_999, mL_4095, mL_4096, mL_m1, nI_leI, nI_ltI, nI_eq, nI_clamp, nI_add, pk_mul, nI_nu, bI_eq0, bI_eq1, bo_ft, Bool.true_eq_false, Bool.false_eq_true, pu_of, pu_of24, pu_onward, pu_frq, if_true, if_false, true_or, or_true, false_or, or_false, and_true, true_and, and_false, false_and, not_true_eq_false, not_false_eq_true, if_neg, if_pos, F11_ideal, f11_ideal_27, ws]
      | true =>
        left
        have nS := nS_ok C K O hn hq hcs
        have hu : rg_u s n = true := by unfold rg_cs at hcs; rw [Bool.and_eq_true] at hcs; exact hcs.1
        obtain ⟨t1, e1, f1⟩ := pc_ideal (key := q) X hn hu hq
        refine ⟨nI (rg_il s q n), ⟨t1, ?_, frI_of f1⟩, fun t' X' ft => ?_⟩
        · simp (disch := omega) only [pv_lt, pu_ck, pv_bI, pv_bV, pu_bR, pv_bL, pv_nt, pu_us, pu_un, mL_0, mL_1, mL_2, mL_3, mL_4, mL_5, mL_6, mL_7, mL_8, mL_9, mL_10, mL_11, mL_12, mL_13, mL_14, mL_15, mL_16, mL_23, mL_24, mL_32, mL_48, mL_64, mL_99, mL_100, mL_200, mL_336, mL_576, mL_768, mL_800, mL_999, mL_4095, mL_4096, mL_m1, nI_leI, nI_ltI, nI_eq, nI_clamp, nI_add, pk_mul, nI_nu, bI_eq0, bI_eq1, bo_ft, Bool.true_eq_false, Bool.false_eq_true, pu_of, pu_of24, pu_onward, pu_frq, if_true, if_false, true_or, or_true, false_or, or_false, and_true, true_and, and_false, false_and, not_true_eq_false, not_false_eq_true, if_neg, if_pos, F10_ideal, nS, e1]
        · have ws := wS X'.2.2.2.2.2.1 O hn hq
          rw [hcs, if_pos rfl] at ws
          obtain ⟨t2, e2, f2⟩ := pr_ideal (key := q) (J_thr (v := nI 0) X') hn hu hq
          refine ⟨t2, ?_, (Sr_q f2).1, (Sr_q f2).2⟩
          simp (disch := omega) only [pv_lt, pu_ck, pv_bI, pv_bV, pu_bR, pv_bL, pv_nt, pu_us, pu_un, mL_0, mL_1, mL_2, mL_3, mL_4, mL_5, mL_6, mL_7, mL_8, mL_9, mL_10, mL_11, mL_12, mL_13, mL_14, mL_15, mL_16, mL_23, mL_24, mL_32, mL_48, mL_64, mL_99, mL_100, mL_200, mL_336, mL_576, mL_768, mL_800, mL_999, mL_4095, mL_4096, mL_m1, nI_leI, nI_ltI, nI_eq, nI_clamp, nI_add, pk_mul, nI_nu, bI_eq0, bI_eq1, bo_ft, Bool.true_eq_false, Bool.false_eq_true, pu_of, pu_of24, pu_onward, pu_frq, if_true, if_false, true_or, or_true, false_or, or_false, and_true, true_and, and_false, false_and, not_true_eq_false, not_false_eq_true, if_neg, if_pos, F11_ideal, f11_ideal_27, ws, e2]
def rg_dt (s : rg_T) (key : Nat) : Nat → Int32
  | 0 => nI 0
  | n + 1 => if rg_ur s key n = true then rg_dt s key n + (nI (lk_hp s key true n (lk_n s key true n)) - nI (rg_il s key n)) else rg_dt s key n
theorem rg_dt_s {s : rg_T} {key n : Nat} : rg_dt s key (n + 1) = if rg_ur s key n = true then rg_dt s key n + (nI (lk_hp s key true n (lk_n s key true n)) - nI (rg_il s key n)) else rg_dt s key n := rfl
theorem s_detour {i : Nat} (hi : i + 4 ≤ 2048) (a : Int32) : sr_ok3 (sr_Inv i) (sr_Inv (i + 4)) (fun t => FL_detour_23 a t) (fun t => F11_detour a t) := by
  refine ok3_qf hi (F := F10_detour a) (G := F11_detour a) (hc := hcL_detour_23) (fun t s w X => ?_)
  have O := X.1
  have hN := O.1.1
  rcases a_place a with ha | ⟨q, hq, rfl⟩
  · right
    have nP := nP_no (t := t) ha
    have iP := iP_no (t := t) ha
    refine ⟨0, nI 1, nI 0, sr_u t 11 0 0 (nI 1), ?_, rfl, by decide, ?_, pu_us, Sr_0⟩
    · simp (disch := omega) only [pv_lt, pu_ck, pv_bI, pv_bV, pu_bR, pv_bL, pv_nt, pu_us, pu_un, mL_0, mL_1, mL_2, mL_3, mL_4, mL_5, mL_6, mL_7, mL_8, mL_9, mL_10, mL_11, mL_12, mL_13, mL_14, mL_15, mL_16, mL_23, mL_24, mL_32, mL_48, mL_64, mL_99, mL_100, mL_200, mL_336, mL_576, mL_768, mL_800, mL_999, mL_4095, mL_4096, mL_m1, nI_leI, nI_ltI, nI_eq, nI_clamp, nI_add, pk_mul, nI_nu, bI_eq0, bI_eq1, bo_ft, Bool.true_eq_false, Bool.false_eq_true, pu_of, pu_of24, pu_onward, pu_frq, if_true, if_false, true_or, or_true, false_or, or_false, and_true, true_and, and_false, false_and, not_true_eq_false, not_false_eq_true, if_neg, if_pos, F10_detour, nP, bVr]
    · simp (disch := omega) only [pv_lt, pu_ck, pv_bI, pv_bV, pu_bR, pv_bL, pv_nt, pu_us, pu_un, mL_0, mL_1, mL_2, mL_3, mL_4, mL_5, mL_6, mL_7, mL_8, mL_9, mL_10, mL_11, mL_12, mL_13, mL_14, mL_15, mL_16, mL_23, mL_24, mL_32, mL_48, mL_64, mL_99, mL_100, mL_200, mL_336, mL_576, mL_768, mL_800, mL_999, mL_4095, mL_4096, mL_m1, nI_leI, nI_ltI, nI_eq, nI_clamp, nI_add, pk_mul, nI_nu, bI_eq0, bI_eq1, bo_ft, Bool.true_eq_false, Bool.false_eq_true, pu_of, pu_of24, pu_onward, pu_frq, if_true, if_false, true_or, or_true, false_or, or_false, and_true, true_and, and_false, false_and, not_true_eq_false, not_false_eq_true, if_neg, if_pos, F11_detour, f11_detour_13, iP]
  · left
    have nP := nP_ok (t := t) hq
    have tkf : ∀ n, rg_u s n = true → lk_r s q true n = false → lk_tk s q n = 0 ∧ rg_ur s q n = false := fun n hu hr => ⟨by unfold lk_tk; rw [hr]; rfl, by unfold rg_ur; rw [hr, Bool.and_false]⟩
    have tkt : ∀ n, rg_u s n = true → lk_r s q true n = true → lk_tk s q n = lk_hp s q true n (lk_n s q true n) + 1 ∧ rg_ur s q n = true := fun n hu hr => ⟨by unfold lk_tk; rw [hr]; rfl, by unfold rg_ur; rw [hu, hr]; rfl⟩
    have cls : ∃ t1, F10_detour (nI q) t = some (.inl (some (sr_i (rg_dt s q (rg_N s)))), t1) ∧ fr Sc t t1 := by
      refine rs_via fun Q hQ => ?_
      simp (disch := omega) only [pv_lt, pu_ck, pv_bI, pv_bV, pu_bR, pv_bL, pv_nt, pu_us, pu_un, mL_0, mL_1, mL_2, mL_3, mL_4, mL_5, mL_6, mL_7, mL_8, mL_9, mL_10, mL_11, mL_12, mL_13, mL_14, mL_15, mL_16, mL_23, mL_24, mL_32, mL_48, mL_64, mL_99, mL_100, mL_200, mL_336, mL_576, mL_768, mL_800, mL_999, mL_4095, mL_4096, mL_m1, nI_leI, nI_ltI, nI_eq, nI_clamp, nI_add, pk_mul, nI_nu, bI_eq0, bI_eq1, bo_ft, Bool.true_eq_false, Bool.false_eq_true, pu_of, pu_of24, pu_onward, pu_frq, if_true, if_false, true_or, or_true, false_or, or_false, and_true, true_and, and_false, false_and, not_true_eq_false, not_false_eq_true, if_neg, if_pos, F10_detour, nP]
      refine rs_loop (N := rg_N s) (L := fun f n t' => f10_detour_8 (nI q) (f10_detour_82 (nI q)) f (rg_dt s q n) (nI n) t') (fun n t' => fr Sc t t') ?_ ?_ (by unfold sr_fu; omega) fr_rfl
      · intro n g t' hn p
        have X' := J_c X p
        have h3 := X'.2.1.1.1.1
        have hup := (X'.2.1.1.2.2 n hn).2.1
        left
        by_cases hu : rg_u s n = true
        · obtain ⟨t1, h1, _, f1⟩ := pc_hops (key := q) X' hn hu hq
          rw [hu] at hup
          have bt : ¬ bI true = nI 0 := by decide
          cases hr : lk_r s q true n with
          | false =>
            obtain ⟨k1, k2⟩ := tkf n hu hr
            rw [k1, ix_0] at h1
            refine ⟨t1, fr_trans p f1, ?_⟩
            show f10_detour_8 (nI q) (f10_detour_82 (nI q)) (g + 1) (rg_dt s q n) (nI n) t' = f10_detour_8 (nI q) (f10_detour_82 (nI q)) g (rg_dt s q (n + 1)) (nI (n + 1)) t1
            rw [rg_dt_s, k2, if_neg (by decide)]
            simp (disch := omega) only [pv_lt, pu_ck, pv_bI, pv_bV, pu_bR, pv_bL, pv_nt, pu_us, pu_un, mL_0, mL_1, mL_2, mL_3, mL_4, mL_5, mL_6, mL_7, mL_8, mL_9, mL_10, mL_11, mL_12, mL_13, mL_14, mL_15, mL_16, mL_23, mL_24, mL_32, mL_48, mL_64, mL_99, mL_100, mL_200, mL_336, mL_576, mL_768, mL_800, mL_999, mL_4095, mL_4096, mL_m1, nI_leI, nI_ltI, nI_eq, nI_clamp, nI_add, pk_mul, nI_nu, bI_eq0, bI_eq1, bo_ft, Bool.true_eq_false, Bool.false_eq_true, pu_of, pu_of24, pu_onward, pu_frq, if_true, if_false, true_or, or_true, false_or, or_false, and_true, true_and, and_false, false_and, not_true_eq_false, not_false_eq_true, if_neg, if_pos, f10_detour_8, f10_detour_48, f10_detour_76, h3, hup, bt, h1]
          | true =>
            obtain ⟨k1, k2⟩ := tkt n hu hr
            have hle := lk_tk_le (s := s) (key := q) (n := n)
            rw [k1] at hle
            rw [k1, ix_s] at h1
            obtain ⟨t2, h2, f2⟩ := pc_ideal (key := q) (J_c X' f1) hn hu hq
            refine ⟨t2, fr_trans p (fr_trans f1 f2), ?_⟩
            show f10_detour_8 (nI q) (f10_detour_82 (nI q)) (g + 1) (rg_dt s q n) (nI n) t' = f10_detour_8 (nI q) (f10_detour_82 (nI q)) g (rg_dt s q (n + 1)) (nI (n + 1)) t2
            rw [rg_dt_s, if_pos k2]
            simp (disch := omega) only [pv_lt, pu_ck, pv_bI, pv_bV, pu_bR, pv_bL, pv_nt, pu_us, pu_un, mL_0, mL_1, mL_2, mL_3, mL_4, mL_5, mL_6, mL_7, mL_8, mL_9, mL_10, mL_11, mL_12, mL_13, mL_14, mL_15, mL_16, mL_23, mL_24, mL_32, mL_48, mL_64, mL_99, mL_100, mL_200, mL_336, mL_576, mL_768, mL_800, mL_999, mL_4095, mL_4096, mL_m1, nI_leI, nI_ltI, nI_eq, nI_clamp, nI_add, pk_mul, nI_nu, bI_eq0, bI_eq1, bo_ft, Bool.true_eq_false, Bool.false_eq_true, pu_of, pu_of24, pu_onward, pu_frq, if_true, if_false, true_or, or_true, false_or, or_false, and_true, true_and, and_false, false_and, not_true_eq_false, not_false_eq_true, if_neg, if_pos, f10_detour_8, f10_detour_48, f10_detour_76, h3, hup, bt, h1, h2]
        · have hu' : rg_u s n = false := by simpa using hu
          rw [hu'] at hup
          have bf : bI false = nI 0 := rfl
          refine ⟨t', p, ?_⟩
          show f10_detour_8 (nI q) (f10_detour_82 (nI q)) (g + 1) (rg_dt s q n) (nI n) t' = f10_detour_8 (nI q) (f10_detour_82 (nI q)) g (rg_dt s q (n + 1)) (nI (n + 1)) t'
          have k2 : ¬ rg_ur s q n = true := by unfold rg_ur; rw [hu', Bool.false_and]; decide
          rw [rg_dt_s, if_neg k2]
          simp (disch := omega) only [pv_lt, pu_ck, pv_bI, pv_bV, pu_bR, pv_bL, pv_nt, pu_us, pu_un, mL_0, mL_1, mL_2, mL_3, mL_4, mL_5, mL_6, mL_7, mL_8, mL_9, mL_10, mL_11, mL_12, mL_13, mL_14, mL_15, mL_16, mL_23, mL_24, mL_32, mL_48, mL_64, mL_99, mL_100, mL_200, mL_336, mL_576, mL_768, mL_800, mL_999, mL_4095, mL_4096, mL_m1, nI_leI, nI_ltI, nI_eq, nI_clamp, nI_add, pk_mul, nI_nu, bI_eq0, bI_eq1, bo_ft, Bool.true_eq_false, Bool.false_eq_true, pu_of, pu_of24, pu_onward, pu_frq, if_true, if_false, true_or, or_true, false_or, or_false, and_true, true_and, and_false, false_and, not_true_eq_false, not_false_eq_true, if_neg, if_pos, f10_detour_8, f10_detour_48, f10_detour_76, h3, hup, bf]
      · intro g t' p
        have h3 := (J_c X p).2.1.1.1.1
        show rs_to _ (f10_detour_8 (nI q) (f10_detour_82 (nI q)) (g + 1) (rg_dt s q (rg_N s)) (nI (rg_N s)) t')
        simp (disch := omega) only [pv_lt, pu_ck, pv_bI, pv_bV, pu_bR, pv_bL, pv_nt, pu_us, pu_un, mL_0, mL_1, mL_2, mL_3, mL_4, mL_5, mL_6, mL_7, mL_8, mL_9, mL_10, mL_11, mL_12, mL_13, mL_14, mL_15, mL_16, mL_23, mL_24, mL_32, mL_48, mL_64, mL_99, mL_100, mL_200, mL_336, mL_576, mL_768, mL_800, mL_999, mL_4095, mL_4096, mL_m1, nI_leI, nI_ltI, nI_eq, nI_clamp, nI_add, pk_mul, nI_nu, bI_eq0, bI_eq1, bo_ft, Bool.true_eq_false, Bool.false_eq_true, pu_of, pu_of24, pu_onward, pu_frq, if_true, if_false, true_or, or_true, false_or, or_false, and_true, true_and, and_false, false_and, not_true_eq_false, not_false_eq_true, if_neg, if_pos, f10_detour_8, f10_detour_82, h3]
        exact rs_ret (hQ _ p)
    obtain ⟨t1, e1, f1⟩ := cls
    refine ⟨rg_dt s q (rg_N s), ⟨t1, e1, frI_of f1⟩, fun t' X' ft => ?_⟩
    have ref : ∃ t2, F11_detour (nI q) t' = some (.inl (some (sr_i (rg_dt s q (rg_N s)))), t2) ∧ fr Sr0 (sr_u t' 11 0 0 (nI 0)) t2 := by
      have X0 := J_thr (v := nI 0) X'
      have iP := iP_ok (t := t') hq
      refine rs_via fun Q hQ => ?_
      simp (disch := omega) only [pv_lt, pu_ck, pv_bI, pv_bV, pu_bR, pv_bL, pv_nt, pu_us, pu_un, mL_0, mL_1, mL_2, mL_3, mL_4, mL_5, mL_6, mL_7, mL_8, mL_9, mL_10, mL_11, mL_12, mL_13, mL_14, mL_15, mL_16, mL_23, mL_24, mL_32, mL_48, mL_64, mL_99, mL_100, mL_200, mL_336, mL_576, mL_768, mL_800, mL_999, mL_4095, mL_4096, mL_m1, nI_leI, nI_ltI, nI_eq, nI_clamp, nI_add, pk_mul, nI_nu, bI_eq0, bI_eq1, bo_ft, Bool.true_eq_false, Bool.false_eq_true, pu_of, pu_of24, pu_onward, pu_frq, if_true, if_false, true_or, or_true, false_or, or_false, and_true, true_and, and_false, false_and, not_true_eq_false, not_false_eq_true, if_neg, if_pos, F11_detour, f11_detour_13, iP]
      refine rs_loop (N := rg_N s) (L := fun f n t2 => f11_detour_29 (nI q) (f11_detour_83 (nI q)) f (rg_dt s q n) (nI n) t2) (fun n t2 => fr Sr0 (sr_u t' 11 0 0 (nI 0)) t2) ?_ ?_ (by unfold sr_fu; omega) fr_rfl
      · intro n g t2 hn p
        have X2 := J_r X0 p
        have h3 := X2.2.2.2.2.2.1.1.1.1
        have hup := (X2.2.2.2.2.2.1.1.2 n hn).2.1
        left
        by_cases hu : rg_u s n = true
        · obtain ⟨t3, h1, _, _, f3⟩ := pr_takes (key := q) X2 hn hu hq
          rw [hu] at hup
          have bt : bI true = nI 1 := rfl
          cases hr : lk_r s q true n with
          | false =>
            obtain ⟨k1, k2⟩ := tkf n hu hr
            rw [k1, ix_0] at h1
            refine ⟨t3, fr_trans p f3, ?_⟩
            show f11_detour_29 (nI q) (f11_detour_83 (nI q)) (g + 1) (rg_dt s q n) (nI n) t2 = f11_detour_29 (nI q) (f11_detour_83 (nI q)) g (rg_dt s q (n + 1)) (nI (n + 1)) t3
            rw [rg_dt_s, k2, if_neg (by decide)]
            simp (disch := omega) only [pv_lt, pu_ck, pv_bI, pv_bV, pu_bR, pv_bL, pv_nt, pu_us, pu_un, mL_0, mL_1, mL_2, mL_3, mL_4, mL_5, mL_6, mL_7, mL_8, mL_9, mL_10, mL_11, mL_12, mL_13, mL_14, mL_15, mL_16, mL_23, mL_24, mL_32, mL_48, mL_64, mL_99, mL_100, mL_200, mL_336, mL_576, mL_768, mL_800, mL_999, mL_4095, mL_4096, mL_m1, nI_leI, nI_ltI, nI_eq, nI_clamp, nI_add, pk_mul, nI_nu, bI_eq0, bI_eq1, bo_ft, Bool.true_eq_false, Bool.false_eq_true, pu_of, pu_of24, pu_onward, pu_frq, if_true, if_false, true_or, or_true, false_or, or_false, and_true, true_and, and_false, false_and, not_true_eq_false, not_false_eq_true, if_neg, if_pos, f11_detour_29, f11_detour_57, f11_detour_77, h3, hup, bt, h1, pu_ixN']
          | true =>
            obtain ⟨k1, k2⟩ := tkt n hu hr
            have hle := lk_tk_le (s := s) (key := q) (n := n)
            rw [k1] at hle
            rw [k1, ix_s] at h1
            obtain ⟨t4, h2, f4⟩ := pr_ideal (key := q) (J_r X2 f3) hn hu hq
            refine ⟨t4, fr_trans p (fr_trans f3 f4), ?_⟩
            show f11_detour_29 (nI q) (f11_detour_83 (nI q)) (g + 1) (rg_dt s q n) (nI n) t2 = f11_detour_29 (nI q) (f11_detour_83 (nI q)) g (rg_dt s q (n + 1)) (nI (n + 1)) t4
            rw [rg_dt_s, if_pos k2]
            simp (disch := omega) only [pv_lt, pu_ck, pv_bI, pv_bV, pu_bR, pv_bL, pv_nt, pu_us, pu_un, mL_0, mL_1, mL_2, mL_3, mL_4, mL_5, mL_6, mL_7, mL_8, mL_9, mL_10, mL_11, mL_12, mL_13, mL_14, mL_15, mL_16, mL_23, mL_24, mL_32, mL_48, mL_64, mL_99, mL_100, mL_200, mL_336, mL_576, mL_768, mL_800, mL_999, mL_4095, mL_4096, mL_m1, nI_leI, nI_ltI, nI_eq, nI_clamp, nI_add, pk_mul, nI_nu, bI_eq0, bI_eq1, bo_ft, Bool.true_eq_false, Bool.false_eq_true, pu_of, pu_of24, pu_onward, pu_frq, if_true, if_false, true_or, or_true, false_or, or_false, and_true, true_and, and_false, false_and, not_true_eq_false, not_false_eq_true, if_neg, if_pos, f11_detour_29, f11_detour_57, f11_detour_77, h3, hup, bt, h1, h2, pu_ixN']
        · have hu' : rg_u s n = false := by simpa using hu
          rw [hu'] at hup
          have bf : ¬ bI false = nI 1 := by decide
          refine ⟨t2, p, ?_⟩
          show f11_detour_29 (nI q) (f11_detour_83 (nI q)) (g + 1) (rg_dt s q n) (nI n) t2 = f11_detour_29 (nI q) (f11_detour_83 (nI q)) g (rg_dt s q (n + 1)) (nI (n + 1)) t2
          have k2 : ¬ rg_ur s q n = true := by unfold rg_ur; rw [hu', Bool.false_and]; decide
          rw [rg_dt_s, if_neg k2]
          simp (disch := omega) only [pv_lt, pu_ck, pv_bI, pv_bV, pu_bR, pv_bL, pv_nt, pu_us, pu_un, mL_0, mL_1, mL_2, mL_3, mL_4, mL_5, mL_6, mL_7, mL_8, mL_9, mL_10, mL_11, mL_12, mL_13, mL_14, mL_15, mL_16, mL_23, mL_24, mL_32, mL_48, mL_64, mL_99, mL_100, mL_200, mL_336, mL_576, mL_768, mL_800, mL_999, mL_4095, mL_4096, mL_m1, nI_leI, nI_ltI, nI_eq, nI_clamp, nI_add, pk_mul, nI_nu, bI_eq0, bI_eq1, bo_ft, Bool.true_eq_false, Bool.false_eq_true, pu_of, pu_of24, pu_onward, pu_frq, if_true, if_false, true_or, or_true, false_or, or_false, and_true, true_and, and_false, false_and, not_true_eq_false, not_false_eq_true, if_neg, if_pos, f11_detour_29, f11_detour_57, f11_detour_77, h3, hup, bf, pu_ixN']
      · intro g t2 p
        have h3 := (J_r X0 p).2.2.2.2.2.1.1.1.1
        show rs_to _ (f11_detour_29 (nI q) (f11_detour_83 (nI q)) (g + 1) (rg_dt s q (rg_N s)) (nI (rg_N s)) t2)
        simp (disch := omega) only [pv_lt, pu_ck, pv_bI, pv_bV, pu_bR, pv_bL, pv_nt, pu_us, pu_un, mL_0, mL_1, mL_2, mL_3, mL_4, mL_5, mL_6, mL_7, mL_8, mL_9, mL_10, mL_11, mL_12, mL_13, mL_14, mL_15, mL_16, mL_23, mL_24, mL_32, mL_48, mL_64, mL_99, mL_100, mL_200, mL_336, mL_576, mL_768, mL_800, mL_999, mL_4095, mL_4096, mL_m1, nI_leI, nI_ltI, nI_eq, nI_clamp, nI_add, pk_mul, nI_nu, bI_eq0, bI_eq1, bo_ft, Bool.true_eq_false, Bool.false_eq_true, pu_of, pu_of24, pu_onward, pu_frq, if_true, if_false, true_or, or_true, false_or, or_false, and_true, true_and, and_false, false_and, not_true_eq_false, not_false_eq_true, if_neg, if_pos, f11_detour_29, f11_detour_83, h3]
        exact rs_ret (hQ _ p)
    obtain ⟨t2, g1, g2⟩ := ref
    exact ⟨t2, g1, (Sr_q g2).1, (Sr_q g2).2⟩
/-! bits of an int -/
def bs (x : Int32) (m : Nat) : Bool := x.toBitVec.getLsbD m
def ob (k : Nat) : Int32 := 1 <<< (nI k &&& 31)
theorem ob_f {k : Nat} : nI 1 <<< (nI k &&& 31) = ob k := rfl
theorem bs_or {x y : Int32} {m : Nat} : bs (x ||| y) m = (bs x m || bs y m) := by
  unfold bs
  rw [Int32.toBitVec_or, BitVec.getLsbD_or]
theorem bs_and {x y : Int32} {m : Nat} : bs (x &&& y) m = (bs x m && bs y m) := by
  unfold bs
  rw [Int32.toBitVec_and, BitVec.getLsbD_and]
theorem bs_0 {m : Nat} : bs (nI 0) m = false := by
  unfold bs
  exact BitVec.getLsbD_zero
theorem bs_not {x : Int32} {m : Nat} (h : m < 32) : bs (x ^^^ nu 24) m = !bs x m := by
  unfold bs
  rw [Int32.toBitVec_xor, BitVec.getLsbD_xor]
  have e : (nu 24).toBitVec.getLsbD m = true := (by decide +kernel : ∀ y : Fin 32, (nu 24).toBitVec.getLsbD y.val = true) ⟨m, h⟩
  rw [e, Bool.xor_true]
theorem bs_ob {k m : Nat} (hk : k < 32) (hm : m < 32) : bs (ob k) m = decide (m = k) := (by decide +kernel : ∀ x y : Fin 32, bs (ob x.val) y.val = decide (y.val = x.val)) ⟨k, hk⟩ ⟨m, hm⟩
theorem bs_ext {x y : Int32} (h : ∀ m, m < 32 → bs x m = bs y m) : x = y := by
  apply Int32.toBitVec_inj.mp
  exact BitVec.eq_of_getLsbD_eq h
theorem bs_hit {x : Int32} {k : Nat} (hk : k < 32) : x &&& ob k = nI 0 ↔ bs x k = false := by
  constructor
  · intro e
    have : bs (x &&& ob k) k = false := by rw [e]; exact bs_0
    rw [bs_and, bs_ob hk hk, decide_eq_true rfl, Bool.and_true] at this
    exact this
  · intro e
    refine bs_ext (fun m hm => ?_)
    rw [bs_and, bs_ob hk hm, bs_0]
    by_cases h : m = k
    · rw [h, e]; rfl
    · rw [decide_eq_false h, Bool.and_false]
theorem pu_bit {t : sr_t} {k : Nat} : F10_bit (nI k) t = some (.inl (some (sr_i (ob k))), t) := rfl
theorem pu_hasBit {t : sr_t} {x : Int32} {k : Nat} (hk : k < 32) : F10_hasBit x (nI k) t = some (.inl (some (sr_i (bI (bs x k)))), t) := by
  unfold F10_hasBit
  rw [pu_bit, pv_bI]
  cases h : bs x k with
  | false =>
    have e : x &&& ob k = 0 := (bs_hit hk).mpr h
    rw [if_pos e]
    rfl
  | true =>
    have e : ¬ x &&& ob k = 0 := fun q => by
      have := (bs_hit hk).mp q
      rw [h] at this
      exact absurd this (by decide)
    rw [if_neg e]
    rfl
end
