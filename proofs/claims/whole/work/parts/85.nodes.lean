section
/-! steps: down, up, mend, mendAll, join -/
theorem pu_laysNow {t : sr_t} {s : rg_T} {n : Nat} (R : rg_RB t s) (O : rg_okB s) (hn : n < rg_N s) (hu : rg_u s n = true) (hT : ∀ m, m < rg_N s → m ≠ n → rg_rt t 27 (14 * m) (rg_t s m) ∧ rg_tok (rg_N s) (rg_t s m)) : ∃ t', F11_laysNow (nI n) t = some (.inl none, t') ∧ rg_R t' (rg_st s n (rg_lay s (rg_b s) (rg_d s) n)) ∧ fr (S_rt 27 (14 * n)) t t' := by
  have hN := O.1
  obtain ⟨t1, e1, e2, e3⟩ := pu_lays27 (a := 14 * n) R O hn hu O.2.1.2 O.2.2.1.2 (by omega)
  have h7 := R.1.2.1
  have h8 := R.1.2.2
  refine ⟨t1, ?_, ⟨?_, fun m hm => ?_⟩, e3⟩
  · simp (disch := omega) only [pv_lt, pu_ck, pv_bI, pv_bV, pu_bR, pv_bL, pv_nt, pu_us, pu_un, mL_0, mL_1, mL_2, mL_3, mL_4, mL_5, mL_6, mL_7, mL_8, mL_9, mL_10, mL_11, mL_12, mL_13, mL_14, mL_15, mL_16, mL_23, mL_24, mL_32, mL_48, mL_64, mL_99, mL_100, mL_200, mL_336, mL_576, mL_768, mL_800, mL_999, mL_4095, mL_4096, mL_m1, nI_leI, nI_ltI, nI_eq, nI_clamp, nI_add, pk_mul, nI_nu, bI_eq0, bI_eq1, bo_ft, Bool.true_eq_false, Bool.false_eq_true, pu_of, pu_of24, pu_onward, pu_frq, if_true, if_false, true_or, or_true, false_or, or_false, and_true, true_and, and_false, false_and, not_true_eq_false, not_false_eq_true, if_neg, if_pos, F11_laysNow, h7, h8, e1]
  · exact rg_RB_fr (s := s) e3 (fun k i j q hk => by unfold S_rt; omega) R
  · show rg_rt t1 27 (14 * m) (if m = n then rg_lay s (rg_b s) (rg_d s) n else rg_t s m)
    by_cases e : m = n
    · rw [if_pos e, e]; exact e2
    · rw [if_neg e]
      obtain ⟨q1, q2⟩ := hT m hm e
      exact rg_rt_fr (fun j h1 h2 => e3.2 _ _ _ (by unfold S_rt; omega)) q2.2.1 q2.2.2.2.2.1 q1
theorem rg_R_su {t : sr_t} {s : rg_T} {m : Nat} {b : Bool} {v : Int32} (R : rg_R t s) : rg_R (sr_u (sr_u t 11 0 0 v) 25 0 m (bI b)) (rg_su s m b) := by
  obtain ⟨⟨⟨h1, h2, h3⟩, nd⟩, tb⟩ := R
  refine ⟨⟨⟨?_, ?_, ?_⟩, fun n hn => ⟨?_, ?_, ?_⟩⟩, fun n hn => ?_⟩
  · rw [pu_un (by omega), pu_un (by omega)]; exact h1
  · rw [pu_un (by omega), pu_un (by omega)]; exact h2
  · rw [pu_un (by omega), pu_un (by omega)]; exact h3
  · rw [pu_un (by omega), pu_un (by omega)]; exact (nd n hn).1
  · show _ = bI (if n = m then b else rg_u s n)
    by_cases e : n = m
    · rw [if_pos e, e, pu_us]
    · rw [if_neg e, pu_un (by omega), pu_un (by omega)]; exact (nd n hn).2.1
  · rw [pu_un (by omega), pu_un (by omega)]; exact (nd n hn).2.2
  · obtain ⟨q1, q2, q3, q4, q5⟩ := tb n hn
    refine ⟨?_, ?_, ?_, fun j hj => ?_, fun j hj => ?_⟩
    · rw [pu_un (by omega), pu_un (by omega)]; exact q1
    · rw [pu_un (by omega), pu_un (by omega)]; exact q2
    · rw [pu_un (by omega), pu_un (by omega)]; exact q3
    · rw [pu_un (by omega), pu_un (by omega)]; exact q4 j hj
    · rw [pu_un (by omega), pu_un (by omega)]; exact q5 j hj
/-- the reference's share of what down, up, mend may change -/
def S_rm (k i j : Nat) : Prop := (k = 11 ∧ i = 0 ∧ j = 0) ∨ k = 25 ∨ k = 27 ∨ k = 41
theorem s_down {i : Nat} (hi : i + 4 ≤ 2048) (a : Int32) : sr_ok3 (sr_Inv i) (sr_Inv (i + 4)) (fun t => FL_down_23 a t) (fun t => F11_down a t) := by
  refine ok3_m hi (F := F10_down a) (G := F11_down a) (hc := hcL_down_23) (fun t s w X => ?_)
  obtain ⟨O, C, K, nb, sp, R, kp, L, W⟩ := id X
  have hN := O.1.1
  rcases a_node a hN with ha | ⟨n, hn, rfl⟩
  · right
    have n1 := nN_no C ha
    have i1 := iN_no R.1 O.1 ha
    refine ⟨2, nI 1, nI 0, t, sr_u t 11 0 0 (nI 1), s, w, ?_, rfl, by decide, ?_, pu_us, J_mono (J_thr X)⟩
    · simp (disch := omega) only [pv_lt, pu_ck, pv_bI, pv_bV, pu_bR, pv_bL, pv_nt, pu_us, pu_un, mL_0, mL_1, mL_2, mL_3, mL_4, mL_5, mL_6, mL_7, mL_8, mL_9, mL_10, mL_11, mL_12, mL_13, mL_14, mL_15, mL_16, mL_23, mL_24, mL_32, mL_48, mL_64, mL_99, mL_100, mL_200, mL_336, mL_576, mL_768, mL_800, mL_999, mL_4095, mL_4096, mL_m1, nI_leI, nI_ltI, nI_eq, nI_clamp, nI_add, pk_mul, nI_nu, bI_eq0, bI_eq1, bo_ft, Bool.true_eq_false, Bool.false_eq_true, pu_of, pu_of24, pu_onward, pu_frq, if_true, if_false, true_or, or_true, false_or, or_false, and_true, true_and, and_false, false_and, not_true_eq_false, not_false_eq_true, if_neg, if_pos, F10_down, n1, bVr]
    · simp (disch := omega) only [pv_lt, pu_ck, pv_bI, pv_bV, pu_bR, pv_bL, pv_nt, pu_us, pu_un, mL_0, mL_1, mL_2, mL_3, mL_4, mL_5, mL_6, mL_7, mL_8, mL_9, mL_10, mL_11, mL_12, mL_13, mL_14, mL_15, mL_16, mL_23, mL_24, mL_32, mL_48, mL_64, mL_99, mL_100, mL_200, mL_336, mL_576, mL_768, mL_800, mL_999, mL_4095, mL_4096, mL_m1, nI_leI, nI_ltI, nI_eq, nI_clamp, nI_add, pk_mul, nI_nu, bI_eq0, bI_eq1, bo_ft, Bool.true_eq_false, Bool.false_eq_true, pu_of, pu_of24, pu_onward, pu_frq, if_true, if_false, true_or, or_true, false_or, or_false, and_true, true_and, and_false, false_and, not_true_eq_false, not_false_eq_true, if_neg, if_pos, F11_down, f11_down_27, i1]
  · have n1 := nN_ok C O hn
    have i1 := iN_ok R.1 O.1 hn
    have u25 := (R.1.2 n hn).2.1
    by_cases hu : rg_u s n = true
    · left
      obtain ⟨t1, e1, c1, k1, f1⟩ := pu_takeDown C O (by omega) hn
      have nU := nU_ok C O hn hu
      have h4 := k1.1
      refine ⟨nI (rg_up (rg_su s n false)), t1, ?_, fun T hT => ?_⟩
      · simp (disch := omega) only [pv_lt, pu_ck, pv_bI, pv_bV, pu_bR, pv_bL, pv_nt, pu_us, pu_un, mL_0, mL_1, mL_2, mL_3, mL_4, mL_5, mL_6, mL_7, mL_8, mL_9, mL_10, mL_11, mL_12, mL_13, mL_14, mL_15, mL_16, mL_23, mL_24, mL_32, mL_48, mL_64, mL_99, mL_100, mL_200, mL_336, mL_576, mL_768, mL_800, mL_999, mL_4095, mL_4096, mL_m1, nI_leI, nI_ltI, nI_eq, nI_clamp, nI_add, pk_mul, nI_nu, bI_eq0, bI_eq1, bo_ft, Bool.true_eq_false, Bool.false_eq_true, pu_of, pu_of24, pu_onward, pu_frq, if_true, if_false, true_or, or_true, false_or, or_false, and_true, true_and, and_false, false_and, not_true_eq_false, not_false_eq_true, if_neg, if_pos, F10_down, n1, nU, e1, h4]
      · have fT : frI (S_td 0 n) t T := fun k i j q => by rw [hT]; exact f1.2 k i j q
        have RT : rg_R T s := rg_R_fI O fT (fun k i j q => by unfold Fp_R at q; unfold S_td Fp_K; omega) R
        have R2 := rg_R_su (m := n) (b := false) (v := nI 0) RT
        have ups := pu_ups R2.1 O.1
        have i1 := iN_ok RT.1 O.1 hn
        have u25 := (RT.1.2 n hn).2.1
        rw [hu] at u25
        have bt : ¬ bI true = nI 0 := by decide
        have ups' : F11_ups (sr_u (sr_u T 11 0 0 (nI 0)) 25 0 n (nI 0)) = some (.inl (some (sr_i (nI (rg_up (rg_su s n false))))), (sr_u (sr_u T 11 0 0 (nI 0)) 25 0 n (nI 0))) := ups
        have f2 : frI S_rm T (sr_u (sr_u T 11 0 0 (nI 0)) 25 0 n (nI 0)) := fun k i j q => by
          rw [pu_un (fun e => q (by unfold S_rm; omega)), pu_un (fun e => q (by unfold S_rm; omega))]
        refine ⟨sr_u (sr_u T 11 0 0 (nI 0)) 25 0 n (nI 0), rg_su s n false, w, ?_, ?_, rfl, ?_⟩
        · simp (disch := omega) only [pv_lt, pu_ck, pv_bI, pv_bV, pu_bR, pv_bL, pv_nt, pu_us, pu_un, mL_0, mL_1, mL_2, mL_3, mL_4, mL_5, mL_6, mL_7, mL_8, mL_9, mL_10, mL_11, mL_12, mL_13, mL_14, mL_15, mL_16, mL_23, mL_24, mL_32, mL_48, mL_64, mL_99, mL_100, mL_200, mL_336, mL_576, mL_768, mL_800, mL_999, mL_4095, mL_4096, mL_m1, nI_leI, nI_ltI, nI_eq, nI_clamp, nI_add, pk_mul, nI_nu, bI_eq0, bI_eq1, bo_ft, Bool.true_eq_false, Bool.false_eq_true, pu_of, pu_of24, pu_onward, pu_frq, if_true, if_false, true_or, or_true, false_or, or_false, and_true, true_and, and_false, false_and, not_true_eq_false, not_false_eq_true, if_neg, if_pos, F11_down, f11_down_27, i1, u25, bt, pu_ixN', ups']
        · rw [pu_un (by omega), pu_us]
        · have CT : rg_C T 0 (rg_su s n false) := rg_C_fI (S := fun _ _ _ => False) hN (fun k i j _ => by rw [hT]) (fun _ _ _ _ h => h) c1
          have KT : rg_K T 0 (rg_su s n false) := rg_K_fI (S := fun _ _ _ => False) hN (fun k i j _ => by rw [hT]) (fun _ _ _ _ h => h) k1
          refine J_rest (S := fun k i j => S_td 0 n k i j ∨ S_rm k i j) X (frI_trans (frI_mono fT (fun k i j q => Or.inl q)) (frI_mono f2 (fun k i j q => Or.inr q))) rfl (fun k i j q => by unfold S_td S_rm Fp_K at q; omega) (rg_ok_su O) ?_ ?_ R2
          · exact rg_C_fI hN f2 (fun k i j q => by unfold Fp_C at q; unfold S_rm; omega) CT
          · exact rg_K_fI hN f2 (fun k i j q => by unfold Fp_K at q; unfold S_rm; omega) KT
    · right
      have hu' : rg_u s n = false := by simpa using hu
      have nU := nU_no C O hn hu'
      rw [hu'] at u25
      have bf : bI false = nI 0 := rfl
      refine ⟨1, nI 2, nI 0, t, sr_u t 11 0 0 (nI 2), s, w, ?_, rfl, by decide, ?_, pu_us, J_mono (J_thr X)⟩
      · simp (disch := omega) only [pv_lt, pu_ck, pv_bI, pv_bV, pu_bR, pv_bL, pv_nt, pu_us, pu_un, mL_0, mL_1, mL_2, mL_3, mL_4, mL_5, mL_6, mL_7, mL_8, mL_9, mL_10, mL_11, mL_12, mL_13, mL_14, mL_15, mL_16, mL_23, mL_24, mL_32, mL_48, mL_64, mL_99, mL_100, mL_200, mL_336, mL_576, mL_768, mL_800, mL_999, mL_4095, mL_4096, mL_m1, nI_leI, nI_ltI, nI_eq, nI_clamp, nI_add, pk_mul, nI_nu, bI_eq0, bI_eq1, bo_ft, Bool.true_eq_false, Bool.false_eq_true, pu_of, pu_of24, pu_onward, pu_frq, if_true, if_false, true_or, or_true, false_or, or_false, and_true, true_and, and_false, false_and, not_true_eq_false, not_false_eq_true, if_neg, if_pos, F10_down, n1, nU, bVr]
      · simp (disch := omega) only [pv_lt, pu_ck, pv_bI, pv_bV, pu_bR, pv_bL, pv_nt, pu_us, pu_un, mL_0, mL_1, mL_2, mL_3, mL_4, mL_5, mL_6, mL_7, mL_8, mL_9, mL_10, mL_11, mL_12, mL_13, mL_14, mL_15, mL_16, mL_23, mL_24, mL_32, mL_48, mL_64, mL_99, mL_100, mL_200, mL_336, mL_576, mL_768, mL_800, mL_999, mL_4095, mL_4096, mL_m1, nI_leI, nI_ltI, nI_eq, nI_clamp, nI_add, pk_mul, nI_nu, bI_eq0, bI_eq1, bo_ft, Bool.true_eq_false, Bool.false_eq_true, pu_of, pu_of24, pu_onward, pu_frq, if_true, if_false, true_or, or_true, false_or, or_false, and_true, true_and, and_false, false_and, not_true_eq_false, not_false_eq_true, if_neg, if_pos, F11_down, f11_down_27, i1, u25, bf, pu_ixN']
theorem s_up {i : Nat} (hi : i + 4 ≤ 2048) (a : Int32) : sr_ok3 (sr_Inv i) (sr_Inv (i + 4)) (fun t => FL_up_23 a t) (fun t => F11_up a t) := by
  refine ok3_m hi (F := F10_up a) (G := F11_up a) (hc := hcL_up_23) (fun t s w X => ?_)
  obtain ⟨O, C, K, nb, sp, R, kp, L, W⟩ := id X
  have hN := O.1.1
  rcases a_node a hN with ha | ⟨n, hn, rfl⟩
  · right
    have n1 := nN_no C ha
    have i1 := iN_no R.1 O.1 ha
    refine ⟨2, nI 1, nI 0, t, sr_u t 11 0 0 (nI 1), s, w, ?_, rfl, by decide, ?_, pu_us, J_mono (J_thr X)⟩
    · simp (disch := omega) only [pv_lt, pu_ck, pv_bI, pv_bV, pu_bR, pv_bL, pv_nt, pu_us, pu_un, mL_0, mL_1, mL_2, mL_3, mL_4, mL_5, mL_6, mL_7, mL_8, mL_9, mL_10, mL_11, mL_12, mL_13, mL_14, mL_15, mL_16, mL_23, mL_24, mL_32, mL_48, mL_64, mL_99, mL_100, mL_200, mL_336, mL_576, mL_768, mL_800, mL_999, mL_4095, mL_4096, mL_m1, nI_leI, nI_ltI, nI_eq, nI_clamp, nI_add, pk_mul, nI_nu, bI_eq0, bI_eq1, bo_ft, Bool.true_eq_false, Bool.false_eq_true, pu_of, pu_of24, pu_onward, pu_frq, if_true, if_false, true_or, or_true, false_or, or_false, and_true, true_and, and_false, false_and, not_true_eq_false, not_false_eq_true, if_neg, if_pos, F10_up, n1, bVr]
    · simp (disch := omega) only [pv_lt, pu_ck, pv_bI, pv_bV, pu_bR, pv_bL, pv_nt, pu_us, pu_un, mL_0, mL_1, mL_2, mL_3, mL_4, mL_5, mL_6, mL_7, mL_8, mL_9, mL_10, mL_11, mL_12, mL_13, mL_14, mL_15, mL_16, mL_23, mL_24, mL_32, mL_48, mL_64, mL_99, mL_100, mL_200, mL_336, mL_576, mL_768, mL_800, mL_999, mL_4095, mL_4096, mL_m1, nI_leI, nI_ltI, nI_eq, nI_clamp, nI_add, pk_mul, nI_nu, bI_eq0, bI_eq1, bo_ft, Bool.true_eq_false, Bool.false_eq_true, pu_of, pu_of24, pu_onward, pu_frq, if_true, if_false, true_or, or_true, false_or, or_false, and_true, true_and, and_false, false_and, not_true_eq_false, not_false_eq_true, if_neg, if_pos, F11_up, f11_up_28, i1]
  · have n1 := nN_ok C O hn
    have i1 := iN_ok R.1 O.1 hn
    have u25 := (R.1.2 n hn).2.1
    have u2 := (C.1.2.2 n hn).2.1
    by_cases hu : rg_u s n = true
    · right
      rw [hu] at u25 u2
      have bt : ¬ bI true = nI 0 := by decide
      have bt1 : bI true = nI 1 := rfl
      refine ⟨1, nI 2, nI 0, t, sr_u t 11 0 0 (nI 2), s, w, ?_, rfl, by decide, ?_, pu_us, J_mono (J_thr X)⟩
      · simp (disch := omega) only [pv_lt, pu_ck, pv_bI, pv_bV, pu_bR, pv_bL, pv_nt, pu_us, pu_un, mL_0, mL_1, mL_2, mL_3, mL_4, mL_5, mL_6, mL_7, mL_8, mL_9, mL_10, mL_11, mL_12, mL_13, mL_14, mL_15, mL_16, mL_23, mL_24, mL_32, mL_48, mL_64, mL_99, mL_100, mL_200, mL_336, mL_576, mL_768, mL_800, mL_999, mL_4095, mL_4096, mL_m1, nI_leI, nI_ltI, nI_eq, nI_clamp, nI_add, pk_mul, nI_nu, bI_eq0, bI_eq1, bo_ft, Bool.true_eq_false, Bool.false_eq_true, pu_of, pu_of24, pu_onward, pu_frq, if_true, if_false, true_or, or_true, false_or, or_false, and_true, true_and, and_false, false_and, not_true_eq_false, not_false_eq_true, if_neg, if_pos, F10_up, n1, u2, bt]
      · simp (disch := omega) only [pv_lt, pu_ck, pv_bI, pv_bV, pu_bR, pv_bL, pv_nt, pu_us, pu_un, mL_0, mL_1, mL_2, mL_3, mL_4, mL_5, mL_6, mL_7, mL_8, mL_9, mL_10, mL_11, mL_12, mL_13, mL_14, mL_15, mL_16, mL_23, mL_24, mL_32, mL_48, mL_64, mL_99, mL_100, mL_200, mL_336, mL_576, mL_768, mL_800, mL_999, mL_4095, mL_4096, mL_m1, nI_leI, nI_ltI, nI_eq, nI_clamp, nI_add, pk_mul, nI_nu, bI_eq0, bI_eq1, bo_ft, Bool.true_eq_false, Bool.false_eq_true, pu_of, pu_of24, pu_onward, pu_frq, if_true, if_false, true_or, or_true, false_or, or_false, and_true, true_and, and_false, false_and, not_true_eq_false, not_false_eq_true, if_neg, if_pos, F11_up, f11_up_28, i1, u25, bt1, pu_ixN']
    · left
      have hu' : rg_u s n = false := by simpa using hu
      rw [hu'] at u25 u2
      have bf : bI false = nI 0 := rfl
      have bf1 : ¬ bI false = nI 1 := by decide
      have Cs := rg_C_su (v := true) hN hn C
      have us : rg_u (rg_su s n true) n = true := if_pos rfl
      obtain ⟨t1, e1, c1, k1, o1, f1⟩ := pu_bringUp (s := rg_su s n true) (n := n) (t := t) Cs.1 (fun m hm _ => ⟨C.2 m hm, O.2 m hm⟩) O.1 (by omega) hn us
      have h4 := k1.1
      refine ⟨nI (rg_up (rg_su s n true)), t1, ?_, fun T hT => ?_⟩
      · simp (disch := omega) only [pv_lt, pu_ck, pv_bI, pv_bV, pu_bR, pv_bL, pv_nt, pu_us, pu_un, mL_0, mL_1, mL_2, mL_3, mL_4, mL_5, mL_6, mL_7, mL_8, mL_9, mL_10, mL_11, mL_12, mL_13, mL_14, mL_15, mL_16, mL_23, mL_24, mL_32, mL_48, mL_64, mL_99, mL_100, mL_200, mL_336, mL_576, mL_768, mL_800, mL_999, mL_4095, mL_4096, mL_m1, nI_leI, nI_ltI, nI_eq, nI_clamp, nI_add, pk_mul, nI_nu, bI_eq0, bI_eq1, bo_ft, Bool.true_eq_false, Bool.false_eq_true, pu_of, pu_of24, pu_onward, pu_frq, if_true, if_false, true_or, or_true, false_or, or_false, and_true, true_and, and_false, false_and, not_true_eq_false, not_false_eq_true, if_neg, if_pos, F10_up, n1, u2, bf, e1, h4]
        rfl
      · have fT : frI (S_bu 0 n) t T := fun k i j q => by rw [hT]; exact f1.2 k i j q
        have RT : rg_R T s := rg_R_fI O fT (fun k i j q => by unfold Fp_R at q; unfold S_bu S_tab Fp_K; omega) R
        have R2 := rg_R_su (m := n) (b := true) (v := nI 0) RT
        obtain ⟨t3, e3, r3, f3⟩ := pu_laysNow R2.1 O.1 hn us (fun m hm _ => ⟨R2.2 m hm, O.2 m hm⟩)
        have e3' : F11_laysNow (nI n) (sr_u (sr_u T 11 0 0 (nI 0)) 25 0 n (nI 1)) = some (.inl none, t3) := e3
        have ups := pu_ups r3.1 o1.1
        have ups' : F11_ups t3 = some (.inl (some (sr_i (nI (rg_up (rg_su s n true))))), t3) := ups
        have i1 := iN_ok RT.1 O.1 hn
        have u25 := (RT.1.2 n hn).2.1
        rw [hu'] at u25
        have f2 : frI S_rm T t3 := fun k i j q => by
          rw [f3.2 _ _ _ (fun e => q (by unfold S_rt at e; unfold S_rm; omega)), pu_un (fun e => q (by unfold S_rm; omega)), pu_un (fun e => q (by unfold S_rm; omega))]
        refine ⟨t3, rg_st (rg_su s n true) n (rg_lay (rg_su s n true) (rg_b s) (rg_d s) n), w, ?_, ?_, ?_, ?_⟩
        · simp (disch := omega) only [pv_lt, pu_ck, pv_bI, pv_bV, pu_bR, pv_bL, pv_nt, pu_us, pu_un, mL_0, mL_1, mL_2, mL_3, mL_4, mL_5, mL_6, mL_7, mL_8, mL_9, mL_10, mL_11, mL_12, mL_13, mL_14, mL_15, mL_16, mL_23, mL_24, mL_32, mL_48, mL_64, mL_99, mL_100, mL_200, mL_336, mL_576, mL_768, mL_800, mL_999, mL_4095, mL_4096, mL_m1, nI_leI, nI_ltI, nI_eq, nI_clamp, nI_add, pk_mul, nI_nu, bI_eq0, bI_eq1, bo_ft, Bool.true_eq_false, Bool.false_eq_true, pu_of, pu_of24, pu_onward, pu_frq, if_true, if_false, true_or, or_true, false_or, or_false, and_true, true_and, and_false, false_and, not_true_eq_false, not_false_eq_true, if_neg, if_pos, F11_up, f11_up_28, i1, u25, bf1, pu_ixN', e3', ups']
        · rw [f3.2 _ _ _ (by unfold S_rt; omega), pu_un (by omega), pu_us]
        · exact f3.1
        · have CT : rg_C T 0 (rg_st (rg_su s n true) n (rg_lay (rg_su s n true) (rg_b s) (rg_d s) n)) := rg_C_fI (S := fun _ _ _ => False) hN (fun k i j _ => by rw [hT]) (fun _ _ _ _ h => h) c1
          have KT : rg_K T 0 (rg_st (rg_su s n true) n (rg_lay (rg_su s n true) (rg_b s) (rg_d s) n)) := rg_K_fI (S := fun _ _ _ => False) hN (fun k i j _ => by rw [hT]) (fun _ _ _ _ h => h) k1
          refine J_rest (S := fun k i j => S_bu 0 n k i j ∨ S_rm k i j) X (frI_trans (frI_mono fT (fun k i j q => Or.inl q)) (frI_mono f2 (fun k i j q => Or.inr q))) rfl (fun k i j q => by unfold S_bu S_tab S_rm Fp_K at q; omega) o1 ?_ ?_ r3
          · exact rg_C_fI hN f2 (fun k i j q => by unfold Fp_C at q; unfold S_rm; omega) CT
          · exact rg_K_fI hN f2 (fun k i j q => by unfold Fp_K at q; unfold S_rm; omega) KT
theorem pu_wrongUp {t : sr_t} {s : rg_T} {n : Nat} (R : rg_RB t s) (O : rg_okB s) (hn : n < rg_N s) : F11_wrongUp (nI n) t = some (.inl (some (sr_i (nI (if rg_u s n = true then 0 else 2)))), t) := by
  have hN := O.1
  have i1 := iN_ok R O hn
  have u25 := (R.2 n hn).2.1
  cases hu : rg_u s n with
  | true =>
    rw [hu] at u25
    have bt : ¬ bI true = nI 0 := by decide
    rw [if_pos rfl]
    simp (disch := omega) only [pv_lt, pu_ck, pv_bI, pv_bV, pu_bR, pv_bL, pv_nt, pu_us, pu_un, mL_0, mL_1, mL_2, mL_3, mL_4, mL_5, mL_6, mL_7, mL_8, mL_9, mL_10, mL_11, mL_12, mL_13, mL_14, mL_15, mL_16, mL_23, mL_24, mL_32, mL_48, mL_64, mL_99, mL_100, mL_200, mL_336, mL_576, mL_768, mL_800, mL_999, mL_4095, mL_4096, mL_m1, nI_leI, nI_ltI, nI_eq, nI_clamp, nI_add, pk_mul, nI_nu, bI_eq0, bI_eq1, bo_ft, Bool.true_eq_false, Bool.false_eq_true, pu_of, pu_of24, pu_onward, pu_frq, if_true, if_false, true_or, or_true, false_or, or_false, and_true, true_and, and_false, false_and, not_true_eq_false, not_false_eq_true, if_neg, if_pos, F11_wrongUp, f11_wrongUp_26, i1, u25, bt, pu_ixN']
  | false =>
    rw [hu] at u25
    have bf : bI false = nI 0 := rfl
    rw [if_neg (by decide)]
    simp (disch := omega) only [pv_lt, pu_ck, pv_bI, pv_bV, pu_bR, pv_bL, pv_nt, pu_us, pu_un, mL_0, mL_1, mL_2, mL_3, mL_4, mL_5, mL_6, mL_7, mL_8, mL_9, mL_10, mL_11, mL_12, mL_13, mL_14, mL_15, mL_16, mL_23, mL_24, mL_32, mL_48, mL_64, mL_99, mL_100, mL_200, mL_336, mL_576, mL_768, mL_800, mL_999, mL_4095, mL_4096, mL_m1, nI_leI, nI_ltI, nI_eq, nI_clamp, nI_add, pk_mul, nI_nu, bI_eq0, bI_eq1, bo_ft, Bool.true_eq_false, Bool.false_eq_true, pu_of, pu_of24, pu_onward, pu_frq, if_true, if_false, true_or, or_true, false_or, or_false, and_true, true_and, and_false, false_and, not_true_eq_false, not_false_eq_true, if_neg, if_pos, F11_wrongUp, f11_wrongUp_26, i1, u25, bf, pu_ixN']
theorem s_mend {i : Nat} (hi : i + 4 ≤ 2048) (a : Int32) : sr_ok3 (sr_Inv i) (sr_Inv (i + 4)) (fun t => FL_mend_23 a t) (fun t => F11_mend a t) := by
  refine ok3_m hi (F := F10_mend a) (G := F11_mend a) (hc := hcL_mend_23) (fun t s w X => ?_)
  obtain ⟨O, C, K, nb, sp, R, kp, L, W⟩ := id X
  have hN := O.1.1
  rcases a_node a hN with ha | ⟨n, hn, rfl⟩
  · right
    have n1 := nN_no C ha
    have i1 := iN_no R.1 O.1 ha
    refine ⟨2, nI 1, nI 0, t, sr_u t 11 0 0 (nI 1), s, w, ?_, rfl, by decide, ?_, pu_us, J_mono (J_thr X)⟩
    · simp (disch := omega) only [pv_lt, pu_ck, pv_bI, pv_bV, pu_bR, pv_bL, pv_nt, pu_us, pu_un, mL_0, mL_1, mL_2, mL_3, mL_4, mL_5, mL_6, mL_7, mL_8, mL_9, mL_10, mL_11, mL_12, mL_13, mL_14, mL_15, mL_16, mL_23, mL_24, mL_32, mL_48, mL_64, mL_99, mL_100, mL_200, mL_336, mL_576, mL_768, mL_800, mL_999, mL_4095, mL_4096, mL_m1, nI_leI, nI_ltI, nI_eq, nI_clamp, nI_add, pk_mul, nI_nu, bI_eq0, bI_eq1, bo_ft, Bool.true_eq_false, Bool.false_eq_true, pu_of, pu_of24, pu_onward, pu_frq, if_true, if_false, true_or, or_true, false_or, or_false, and_true, true_and, and_false, false_and, not_true_eq_false, not_false_eq_true, if_neg, if_pos, F10_mend, n1, bVr]
    · simp (disch := omega) only [pv_lt, pu_ck, pv_bI, pv_bV, pu_bR, pv_bL, pv_nt, pu_us, pu_un, mL_0, mL_1, mL_2, mL_3, mL_4, mL_5, mL_6, mL_7, mL_8, mL_9, mL_10, mL_11, mL_12, mL_13, mL_14, mL_15, mL_16, mL_23, mL_24, mL_32, mL_48, mL_64, mL_99, mL_100, mL_200, mL_336, mL_576, mL_768, mL_800, mL_999, mL_4095, mL_4096, mL_m1, nI_leI, nI_ltI, nI_eq, nI_clamp, nI_add, pk_mul, nI_nu, bI_eq0, bI_eq1, bo_ft, Bool.true_eq_false, Bool.false_eq_true, pu_of, pu_of24, pu_onward, pu_frq, if_true, if_false, true_or, or_true, false_or, or_false, and_true, true_and, and_false, false_and, not_true_eq_false, not_false_eq_true, if_neg, if_pos, F11_mend, F11_wrongUp, f11_wrongUp_26, i1]
  · have n1 := nN_ok C O hn
    have wu := pu_wrongUp R.1 O.1 hn
    by_cases hu : rg_u s n = true
    · left
      have nU := nU_ok C O hn hu
      obtain ⟨t1, e1, f1⟩ := pu_staleC C O (by omega) hn hu
      have C1 := rg_C_fr hN f1 (fun k i j q => by unfold Fp_C at q; unfold S_tab; omega) C
      obtain ⟨t2, e2, c2, k2, o2, f2⟩ := pu_layAgain C1.1 (fun m hm _ => ⟨C1.2 m hm, O.2 m hm⟩) O.1 (by omega) hn hu
      refine ⟨nI (rg_sl s n), t2, ?_, fun T hT => ?_⟩
      · simp (disch := omega) only [pv_lt, pu_ck, pv_bI, pv_bV, pu_bR, pv_bL, pv_nt, pu_us, pu_un, mL_0, mL_1, mL_2, mL_3, mL_4, mL_5, mL_6, mL_7, mL_8, mL_9, mL_10, mL_11, mL_12, mL_13, mL_14, mL_15, mL_16, mL_23, mL_24, mL_32, mL_48, mL_64, mL_99, mL_100, mL_200, mL_336, mL_576, mL_768, mL_800, mL_999, mL_4095, mL_4096, mL_m1, nI_leI, nI_ltI, nI_eq, nI_clamp, nI_add, pk_mul, nI_nu, bI_eq0, bI_eq1, bo_ft, Bool.true_eq_false, Bool.false_eq_true, pu_of, pu_of24, pu_onward, pu_frq, if_true, if_false, true_or, or_true, false_or, or_false, and_true, true_and, and_false, false_and, not_true_eq_false, not_false_eq_true, if_neg, if_pos, F10_mend, n1, nU, e1, e2]
      · have fT : frI (fun k i j => S_tab 50 k i j ∨ S_tab (25 * 0 + n) k i j ∨ Fp_K 0 k i j) t T := fun k i j q => by
          rw [hT, f2.2 k i j (fun e => q (Or.inr e)), f1.2 k i j (fun e => q (Or.inl e))]
        have RT : rg_R T s := rg_R_fI O fT (fun k i j q => by unfold Fp_R at q; unfold S_tab Fp_K; omega) R
        have R2 : rg_R (sr_u T 11 0 0 (nI 0)) s := rg_R_fr O Sr_0 (fun k i j q => by unfold Fp_R at q; unfold Sr; omega) RT
        obtain ⟨t3, e3, f3⟩ := pu_staleR R2 O hn hu
        have R3 : rg_R t3 s := rg_R_fr O f3 (fun k i j q => by unfold Fp_R at q; unfold S_k; omega) R2
        obtain ⟨t4, e4, r4, f4⟩ := pu_laysNow R3.1 O.1 hn hu (fun m hm _ => ⟨R3.2 m hm, O.2 m hm⟩)
        have wu := pu_wrongUp RT.1 O.1 hn
        rw [if_pos hu] at wu
        have fR : frI S_rm T t4 := fun k i j q => by
          rw [f4.2 _ _ _ (fun e => q (by unfold S_rt at e; unfold S_rm; omega)), f3.2 _ _ _ (fun e => q (by unfold S_k at e; unfold S_rm; omega)), pu_un (fun e => q (by unfold S_rm; omega))]
        refine ⟨t4, rg_st s n (rg_lay s (rg_b s) (rg_d s) n), w, ?_, ?_, ?_, ?_⟩
        · simp (disch := omega) only [pv_lt, pu_ck, pv_bI, pv_bV, pu_bR, pv_bL, pv_nt, pu_us, pu_un, mL_0, mL_1, mL_2, mL_3, mL_4, mL_5, mL_6, mL_7, mL_8, mL_9, mL_10, mL_11, mL_12, mL_13, mL_14, mL_15, mL_16, mL_23, mL_24, mL_32, mL_48, mL_64, mL_99, mL_100, mL_200, mL_336, mL_576, mL_768, mL_800, mL_999, mL_4095, mL_4096, mL_m1, nI_leI, nI_ltI, nI_eq, nI_clamp, nI_add, pk_mul, nI_nu, bI_eq0, bI_eq1, bo_ft, Bool.true_eq_false, Bool.false_eq_true, pu_of, pu_of24, pu_onward, pu_frq, if_true, if_false, true_or, or_true, false_or, or_false, and_true, true_and, and_false, false_and, not_true_eq_false, not_false_eq_true, if_neg, if_pos, F11_mend, wu, e3, e4]
        · rw [f4.2 _ _ _ (by unfold S_rt; omega), f3.2 _ _ _ (by unfold S_k; omega), pu_us]
        · rw [f4.1, f3.1]; rfl
        · have CT : rg_C T 0 (rg_st s n (rg_lay s (rg_b s) (rg_d s) n)) := rg_C_fI (S := fun _ _ _ => False) hN (fun k i j _ => by rw [hT]) (fun _ _ _ _ h => h) c2
          have KT : rg_K T 0 (rg_st s n (rg_lay s (rg_b s) (rg_d s) n)) := rg_K_fI (S := fun _ _ _ => False) hN (fun k i j _ => by rw [hT]) (fun _ _ _ _ h => h) k2
          refine J_rest (S := fun k i j => (S_tab 50 k i j ∨ S_tab (25 * 0 + n) k i j ∨ Fp_K 0 k i j) ∨ S_rm k i j) X (frI_trans (frI_mono fT (fun k i j q => Or.inl q)) (frI_mono fR (fun k i j q => Or.inr q))) rfl (fun k i j q => by unfold S_tab S_rm Fp_K at q; omega) o2 ?_ ?_ r4
          · exact rg_C_fI hN fR (fun k i j q => by unfold Fp_C at q; unfold S_rm; omega) CT
          · exact rg_K_fI hN fR (fun k i j q => by unfold Fp_K at q; unfold S_rm; omega) KT
    · right
      have hu' : rg_u s n = false := by simpa using hu
      have nU := nU_no C O hn hu'
      rw [if_neg hu] at wu
      refine ⟨1, nI 2, nI 0, t, sr_u t 11 0 0 (nI 2), s, w, ?_, rfl, by decide, ?_, pu_us, J_mono (J_thr X)⟩
      · simp (disch := omega) only [pv_lt, pu_ck, pv_bI, pv_bV, pu_bR, pv_bL, pv_nt, pu_us, pu_un, mL_0, mL_1, mL_2, mL_3, mL_4, mL_5, mL_6, mL_7, mL_8, mL_9, mL_10, mL_11, mL_12, mL_13, mL_14, mL_15, mL_16, mL_23, mL_24, mL_32, mL_48, mL_64, mL_99, mL_100, mL_200, mL_336, mL_576, mL_768, mL_800, mL_999, mL_4095, mL_4096, mL_m1, nI_leI, nI_ltI, nI_eq, nI_clamp, nI_add, pk_mul, nI_nu, bI_eq0, bI_eq1, bo_ft, Bool.true_eq_false, Bool.false_eq_true, pu_of, pu_of24, pu_onward, pu_frq, if_true, if_false, true_or, or_true, false_or, or_false, and_true, true_and, and_false, false_and, not_true_eq_false, not_false_eq_true, if_neg, if_pos, F10_mend, n1, nU, bVr]
      · simp (disch := omega) only [pv_lt, pu_ck, pv_bI, pv_bV, pu_bR, pv_bL, pv_nt, pu_us, pu_un, mL_0, mL_1, mL_2, mL_3, mL_4, mL_5, mL_6, mL_7, mL_8, mL_9, mL_10, mL_11, mL_12, mL_13, mL_14, mL_15, mL_16, mL_23, mL_24, mL_32, mL_48, mL_64, mL_99, mL_100, mL_200, mL_336, mL_576, mL_768, mL_800, mL_999, mL_4095, mL_4096, mL_m1, nI_leI, nI_ltI, nI_eq, nI_clamp, nI_add, pk_mul, nI_nu, bI_eq0, bI_eq1, bo_ft, Bool.true_eq_false, Bool.false_eq_true, pu_of, pu_of24, pu_onward, pu_frq, if_true, if_false, true_or, or_true, false_or, or_false, and_true, true_and, and_false, false_and, not_true_eq_false, not_false_eq_true, if_neg, if_pos, F11_mend, wu]
theorem s_mendAll {i : Nat} (hi : i + 4 ≤ 2048) : sr_ok2 (sr_Inv i) (sr_Inv (i + 4)) (fun t => F10_mendAll t) (fun t => F11_mendAll t) := by
  rintro t ⟨_, s, w, X⟩
  obtain ⟨O, C, K, nb, sp, R, kp, L, W⟩ := id X
  have hN := O.1.1
  obtain ⟨t1, e1, f1⟩ := pu_staleAllC C O (r := 0) (by omega)
  have C1 := rg_C_fr hN f1 (fun k i j q => by unfold Fp_C at q; unfold S_tab; omega) C
  obtain ⟨t2, e2, c2, k2, f2⟩ := pu_layAll C1 O (by omega)
  have fT : frI (fun k i j => S_tab 50 k i j ∨ S_ts 0 k i j ∨ Fp_K 0 k i j) t t2 := fun k i j q => by
    rw [f2.2 k i j (fun e => q (Or.inr e)), f1.2 k i j (fun e => q (Or.inl e))]
  have R2 : rg_R t2 s := rg_R_fI O fT (fun k i j q => by unfold Fp_R at q; unfold S_tab S_ts Fp_K; omega) R
  have R3 : rg_R (sr_u t2 11 0 0 (nI 0)) s := rg_R_fr O Sr_0 (fun k i j q => by unfold Fp_R at q; unfold Sr; omega) R2
  obtain ⟨t3, e3, f3⟩ := pu_staleAllR R3 O
  have R4 : rg_R t3 s := rg_R_fr O f3 (fun k i j q => by unfold Fp_R at q; unfold S_k; omega) R3
  have main : ∃ t4, F11_mendAll t2 = some (.inl (some (sr_i (nI (rg_slA s)))), t4) ∧ rg_R t4 (rg_la s (rg_b s) (rg_d s)) ∧ fr (S_k 27) t3 t4 := by
    refine rs_via fun Q hQ => ?_
    simp (disch := omega) only [pv_lt, pu_ck, pv_bI, pv_bV, pu_bR, pv_bL, pv_nt, pu_us, pu_un, mL_0, mL_1, mL_2, mL_3, mL_4, mL_5, mL_6, mL_7, mL_8, mL_9, mL_10, mL_11, mL_12, mL_13, mL_14, mL_15, mL_16, mL_23, mL_24, mL_32, mL_48, mL_64, mL_99, mL_100, mL_200, mL_336, mL_576, mL_768, mL_800, mL_999, mL_4095, mL_4096, mL_m1, nI_leI, nI_ltI, nI_eq, nI_clamp, nI_add, pk_mul, nI_nu, bI_eq0, bI_eq1, bo_ft, Bool.true_eq_false, Bool.false_eq_true, pu_of, pu_of24, pu_onward, pu_frq, if_true, if_false, true_or, or_true, false_or, or_false, and_true, true_and, and_false, false_and, not_true_eq_false, not_false_eq_true, if_neg, if_pos, F11_mendAll, e3]
    refine rs_loop (N := rg_N s) (L := fun f n t' => f11_mendAll_12 f11_mendAll_41 f (nI (rg_slA s)) (nI n) t') (fun n t' => rg_RB t' s ∧ (∀ m, m < rg_N s → rg_rt t' 27 (14 * m) (if m < n then rg_t (rg_la s (rg_b s) (rg_d s)) m else rg_t s m)) ∧ fr (S_k 27) t3 t') ?_ ?_ (by unfold sr_fu; omega) ⟨R4.1, fun m hm => by rw [if_neg (by omega)]; exact R4.2 m hm, fr_rfl⟩
    · rintro n g t' hn ⟨p1, p2, p3⟩
      have hN' := p1.1.1
      have hup := (p1.2 n hn).2.1
      have h7 := p1.1.2.1
      have h8 := p1.1.2.2
      have okT : ∀ m, m < rg_N s → rg_tok (rg_N s) (if m < n then rg_t (rg_la s (rg_b s) (rg_d s)) m else rg_t s m) := fun m hm => by
        split
        · exact (rg_ok_la O O.1.2.1.2 O.1.2.2.1.1 O.1.2.2.1.2).2 m hm
        · exact O.2 m hm
      left
      by_cases hu : rg_u s n = true
      · obtain ⟨t4, g1, g2, g3⟩ := pu_lays27 (a := 14 * n) p1 O.1 hn hu O.1.2.1.2 O.1.2.2.1.2 (by omega)
        rw [hu] at hup
        have bt : bI true = nI 1 := rfl
        refine ⟨t4, ⟨rg_RB_fr g3 (fun k i j q hk => by unfold S_rt; omega) p1, fun m hm => ?_, fr_trans p3 (fr_mono g3 (fun k i j q => q.1))⟩, ?_⟩
        · by_cases e : m = n
          · rw [if_pos (by omega), e]
            show rg_rt t4 27 (14 * n) (if rg_u s n = true then rg_lay s (rg_b s) (rg_d s) n else rg_t s n)
            rw [if_pos hu]; exact g2
          · have q := p2 m hm
            have okm := okT m hm
            have ee : (if m < n + 1 then rg_t (rg_la s (rg_b s) (rg_d s)) m else rg_t s m) = (if m < n then rg_t (rg_la s (rg_b s) (rg_d s)) m else rg_t s m) := by
              by_cases h : m < n
              · rw [if_pos h, if_pos (by omega)]
              · rw [if_neg h, if_neg (by omega)]
            rw [ee]
            exact rg_rt_fr (fun j h1 h2 => g3.2 _ _ _ (by unfold S_rt; omega)) okm.2.1 okm.2.2.2.2.1 q
        · show f11_mendAll_12 f11_mendAll_41 (g + 1) (nI (rg_slA s)) (nI n) t' = f11_mendAll_12 f11_mendAll_41 g (nI (rg_slA s)) (nI (n + 1)) t4
          simp (disch := omega) only [pv_lt, pu_ck, pv_bI, pv_bV, pu_bR, pv_bL, pv_nt, pu_us, pu_un, mL_0, mL_1, mL_2, mL_3, mL_4, mL_5, mL_6, mL_7, mL_8, mL_9, mL_10, mL_11, mL_12, mL_13, mL_14, mL_15, mL_16, mL_23, mL_24, mL_32, mL_48, mL_64, mL_99, mL_100, mL_200, mL_336, mL_576, mL_768, mL_800, mL_999, mL_4095, mL_4096, mL_m1, nI_leI, nI_ltI, nI_eq, nI_clamp, nI_add, pk_mul, nI_nu, bI_eq0, bI_eq1, bo_ft, Bool.true_eq_false, Bool.false_eq_true, pu_of, pu_of24, pu_onward, pu_frq, if_true, if_false, true_or, or_true, false_or, or_false, and_true, true_and, and_false, false_and, not_true_eq_false, not_false_eq_true, if_neg, if_pos, f11_mendAll_12, f11_mendAll_35, F11_laysNow, hN', hup, bt, h7, h8, g1, pu_ixN']
      · have hu' : rg_u s n = false := by simpa using hu
        rw [hu'] at hup
        have bf : ¬ bI false = nI 1 := by decide
        refine ⟨t', ⟨p1, fun m hm => ?_, p3⟩, ?_⟩
        · by_cases e : m = n
          · have q := p2 m hm
            rw [if_neg (by omega)] at q
            rw [if_pos (by omega), e]
            show rg_rt t' 27 (14 * n) (if rg_u s n = true then rg_lay s (rg_b s) (rg_d s) n else rg_t s n)
            rw [if_neg hu, ← e]; exact q
          · have q := p2 m hm
            have ee : (if m < n + 1 then rg_t (rg_la s (rg_b s) (rg_d s)) m else rg_t s m) = (if m < n then rg_t (rg_la s (rg_b s) (rg_d s)) m else rg_t s m) := by
              by_cases h : m < n
              · rw [if_pos h, if_pos (by omega)]
              · rw [if_neg h, if_neg (by omega)]
            rw [ee]
            exact q
        · show f11_mendAll_12 f11_mendAll_41 (g + 1) (nI (rg_slA s)) (nI n) t' = f11_mendAll_12 f11_mendAll_41 g (nI (rg_slA s)) (nI (n + 1)) t'
          simp (disch := omega) only [pv_lt, pu_ck, pv_bI, pv_bV, pu_bR, pv_bL, pv_nt, pu_us, pu_un, mL_0, mL_1, mL_2, mL_3, mL_4, mL_5, mL_6, mL_7, mL_8, mL_9, mL_10, mL_11, mL_12, mL_13, mL_14, mL_15, mL_16, mL_23, mL_24, mL_32, mL_48, mL_64, mL_99, mL_100, mL_200, mL_336, mL_576, mL_768, mL_800, mL_999, mL_4095, mL_4096, mL_m1, nI_leI, nI_ltI, nI_eq, nI_clamp, nI_add, pk_mul, nI_nu, bI_eq0, bI_eq1, bo_ft, Bool.true_eq_false, Bool.false_eq_true, pu_of, pu_of24, pu_onward, pu_frq, if_true, if_false, true_or, or_true, false_or, or_false, and_true, true_and, and_false, false_and, not_true_eq_false, not_false_eq_true, if_neg, if_pos, f11_mendAll_12, f11_mendAll_35, hN', hup, bf, pu_ixN']
    · rintro g t' ⟨p1, p2, p3⟩
      have hN' := p1.1.1
      show rs_to _ (f11_mendAll_12 f11_mendAll_41 (g + 1) (nI (rg_slA s)) (nI (rg_N s)) t')
      simp (disch := omega) only [pv_lt, pu_ck, pv_bI, pv_bV, pu_bR, pv_bL, pv_nt, pu_us, pu_un, mL_0, mL_1, mL_2, mL_3, mL_4, mL_5, mL_6, mL_7, mL_8, mL_9, mL_10, mL_11, mL_12, mL_13, mL_14, mL_15, mL_16, mL_23, mL_24, mL_32, mL_48, mL_64, mL_99, mL_100, mL_200, mL_336, mL_576, mL_768, mL_800, mL_999, mL_4095, mL_4096, mL_m1, nI_leI, nI_ltI, nI_eq, nI_clamp, nI_add, pk_mul, nI_nu, bI_eq0, bI_eq1, bo_ft, Bool.true_eq_false, Bool.false_eq_true, pu_of, pu_of24, pu_onward, pu_frq, if_true, if_false, true_or, or_true, false_or, or_false, and_true, true_and, and_false, false_and, not_true_eq_false, not_false_eq_true, if_neg, if_pos, f11_mendAll_12, f11_mendAll_41, hN']
      refine rs_ret (hQ _ ⟨⟨p1, fun m hm => ?_⟩, p3⟩)
      have q := p2 m hm
      rw [if_pos (show m < rg_N s from hm)] at q
      exact q
  obtain ⟨t4, g1, g2, g3⟩ := main
  have fR : frI S_rm t2 t4 := fun k i j q => by
    rw [g3.2 _ _ _ (fun e => q (by unfold S_k at e; unfold S_rm; omega)), f3.2 _ _ _ (fun e => q (by unfold S_k at e; unfold S_rm; omega)), pu_un (fun e => q (by unfold S_rm; omega))]
  refine ⟨nI (rg_slA s), t2, nI (rg_slA s), t4, ?_, g1, rfl, hi, rg_la s (rg_b s) (rg_d s), w, ?_⟩
  · show F10_mendAll t = _
    simp (disch := omega) only [pv_lt, pu_ck, pv_bI, pv_bV, pu_bR, pv_bL, pv_nt, pu_us, pu_un, mL_0, mL_1, mL_2, mL_3, mL_4, mL_5, mL_6, mL_7, mL_8, mL_9, mL_10, mL_11, mL_12, mL_13, mL_14, mL_15, mL_16, mL_23, mL_24, mL_32, mL_48, mL_64, mL_99, mL_100, mL_200, mL_336, mL_576, mL_768, mL_800, mL_999, mL_4095, mL_4096, mL_m1, nI_leI, nI_ltI, nI_eq, nI_clamp, nI_add, pk_mul, nI_nu, bI_eq0, bI_eq1, bo_ft, Bool.true_eq_false, Bool.false_eq_true, pu_of, pu_of24, pu_onward, pu_frq, if_true, if_false, true_or, or_true, false_or, or_false, and_true, true_and, and_false, false_and, not_true_eq_false, not_false_eq_true, if_neg, if_pos, F10_mendAll, e1, e2]
  · refine J_rest (S := fun k i j => (S_tab 50 k i j ∨ S_ts 0 k i j ∨ Fp_K 0 k i j) ∨ S_rm k i j) X (frI_trans (frI_mono fT (fun k i j q => Or.inl q)) (frI_mono fR (fun k i j q => Or.inr q))) rfl (fun k i j q => by unfold S_tab S_ts S_rm Fp_K at q; omega) (rg_ok_la O O.1.2.1.2 O.1.2.2.1.1 O.1.2.2.1.2) ?_ ?_ g2
    · exact rg_C_fI hN fR (fun k i j q => by unfold Fp_C at q; unfold S_rm; omega) c2
    · exact rg_K_fI hN fR (fun k i j q => by unfold Fp_K at q; unfold S_rm; omega) k2
end
