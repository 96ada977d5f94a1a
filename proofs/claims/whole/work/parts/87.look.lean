section
/-! steps: lookup, latest, step, why, link -/
theorem la_make {t1 t2 : sr_t} {s : rg_T} {key n : Nat} {best : Bool} (O : rg_ok s) (hn : n < rg_N s) (hu : rg_u s n = true) (D : tp_D t1 0 0 s key best n) (R : la_R t2 s key best n) (h : ∀ k j, (k = 8 ∨ k = 14) → t2.1 k 0 j = t1.1 k 0 j) (h4 : ∀ k j, (k = 4 ∨ k = 12) → t2.1 k 104 j = t1.1 k 104 j) : la_I t2 := by
  have hN := O.1.1
  have oe := lk_ok (key := key) (best := best) O hn hu (lk_n s key best n) (Nat.le_refl _)
  have k200 := lk_n_le (s := s) (key := key) (n := n) (best := best)
  obtain ⟨⟨⟨H0, H1, H2, H3⟩, ⟨H4, H5, H8⟩, ⟨H9, H10, H11, H12, H13⟩, Hr⟩, H7, H14, Hrow⟩ := D
  obtain ⟨⟨r0, r1, r2, r3, r4, r5, r6, r7, r8⟩, r28, rr, r30, rw', _⟩ := R
  refine ⟨⟨?_, ?_, ?_, ?_, ?_, ?_⟩, ⟨lk_r s key best n, ?_, r4⟩, ⟨lk_at s key best n (lk_n s key best n), by omega, ?_, ?_⟩, ⟨lk_n s key best n, k200, ?_, r5, r28, fun j hj => ⟨?_, ?_, ?_, ?_⟩⟩, ⟨lk_wm s key best n, ?_, ?_, r30, fun j hj => ?_⟩⟩
  · rw [h _ _ (Or.inl rfl), H9, r0]
  · rw [h _ _ (Or.inl rfl), H10, r1]
  · rw [h _ _ (Or.inl rfl), H11, r2]
  · rw [h _ _ (Or.inl rfl), H12, r3]
  · rw [h _ _ (Or.inl rfl), H13, r8]
  · rw [h _ _ (Or.inl rfl), H14, r6]
  · rw [h _ _ (Or.inl rfl)]; exact H7
  · rw [h _ _ (Or.inl rfl), H3, show 25 * 0 + lk_at s key best n (lk_n s key best n) = lk_at s key best n (lk_n s key best n) by omega]
  · rw [nu_lt (by omega)]; exact r7
  · rw [h _ _ (Or.inl rfl)]; exact H8
  · rw [h _ _ (Or.inr rfl), (Hr j hj).1, (rr j hj).1]
  · rw [h _ _ (Or.inr rfl), (Hr j hj).2.1, (rr j hj).2.1]
  · rw [h _ _ (Or.inr rfl), (Hr j hj).2.2.1, (rr j hj).2.2.1]
  · rw [h _ _ (Or.inr rfl), (Hr j hj).2.2.2, (rr j hj).2.2.2]
  · unfold lk_wm
    have := (O.2 _ oe.1).2.1
    split <;> omega
  · rw [h4 _ _ (Or.inl rfl)]; exact Hrow.1
  · rw [h4 _ _ (Or.inr rfl), rw' j hj]; exact Hrow.2 j hj
/-- the state behind a lookup that is the latest then -/
theorem J_look {i : Nat} {t t1 t2 : sr_t} {s : rg_T} {w : st_T} {key n : Nat} {best : Bool} {S : Nat → Nat → Nat → Prop} (X : J i t s w) (hn : n < rg_N s) (hu : rg_u s n = true) (f1 : frI (S_tp 0) t t1) (D : tp_D t1 0 0 s key best n) (R : la_R t2 s key best n) (f2 : frI S t1 t2) (hS : ∀ k i j, S k i j → (k = 11 ∧ i = 0 ∧ ((10 ≤ j ∧ j ≤ 19) ∨ j = 0 ∨ j = 22 ∨ j = 28 ∨ j = 30)) ∨ (29 ≤ k ∧ k ≤ 36)) : J i t2 s w := by
  obtain ⟨O, C, K, nb, sp, Rr, kp, L, W⟩ := X
  have hN := O.1.1
  have f : frI (fun k i j => S_tp 0 k i j ∨ (k = 11 ∧ i = 0 ∧ ((10 ≤ j ∧ j ≤ 19) ∨ j = 0 ∨ j = 22 ∨ j = 28 ∨ j = 30)) ∨ (29 ≤ k ∧ k ≤ 36)) t t2 := frI_trans (frI_mono f1 (fun k i j q => Or.inl q)) (frI_mono f2 (fun k i j q => Or.inr (hS k i j q)))
  refine ⟨O, rg_C_fI hN f (fun k i j q q' => by unfold Fp_C at q; unfold S_tp at q'; omega) C, rg_K_fI hN f (fun k i j q q' => by unfold Fp_K at q; unfold S_tp at q'; omega) K, rg_nob_fI f (fun i j _ _ _ q' => by unfold S_tp at q'; omega) nb, fun m h1 h2 => ?_, rg_R_fI O f (fun k i j q q' => by unfold Fp_R at q; unfold S_tp at q'; omega) Rr, R.2.2.2.2.2, la_make O hn hu D R (fun k j h => f2 _ _ _ (fun q => by have := hS _ _ _ q; omega)) (fun k j h => f2 _ _ _ (fun q => by have := hS _ _ _ q; omega)), st_I_fr f (fun k i j q q' => by unfold S_tp at q'; omega) W⟩
  rw [f _ _ _ (fun q' => by unfold S_tp at q'; omega)]; exact sp m h1 h2
theorem pu_wrongLook {t : sr_t} {s : rg_T} {n q : Nat} (R : rg_RB t s) (O : rg_okB s) (hn : n < rg_N s) (hq : q < 4096) : F11_wrongLook (nI n) (nI q) t = some (.inl (some (sr_i (nI (if rg_u s n = true then 0 else 3)))), t) := by
  have hN := O.1
  have i1 := iN_ok R O hn
  have i2 := iP_ok (t := t) hq
  have u25 := (R.2 n hn).2.1
  cases hu : rg_u s n with
  | true =>
    rw [hu] at u25
    have bt : ¬ bI true = nI 0 := by decide
    rw [if_pos rfl]
    simp (disch := omega) only [pv_lt, pu_ck, pv_bI, pv_bV, pu_bR, pv_bL, pv_nt, pu_us, pu_un, mL_0, mL_1, mL_2, mL_3, mL_4, mL_5, mL_6, mL_7, mL_8, mL_9, mL_10, mL_11, mL_12, mL_13, mL_14, mL_15, mL_16, mL_23, mL_24, mL_32, mL_48, mL_64, mL_99, mL_100, mL_200, mL_336, mL_576, mL_768, mL_800, mL_999, mL_4095, mL_4096, mL_m1, nI_leI, nI_ltI, nI_eq, nI_clamp, nI_add, pk_mul, nI_nu, bI_eq0, bI_eq1, bo_ft, Bool.true_eq_false, Bool.false_eq_true, pu_of, pu_of24, pu_onward, pu_frq, if_true, if_false, true_or, or_true, false_or, or_false, and_true, true_and, and_false, false_and, not_true_eq_false, not_false_eq_true, if_neg, if_pos, F11_wrongLook, f11_wrongLook_37, i1, i2, u25, bt, pu_ixN']
  | false =>
    rw [hu] at u25
    have bf : bI false = nI 0 := rfl
    rw [if_neg (by decide)]
    simp (disch := omega) only [pv_lt, pu_ck, pv_bI, pv_bV, pu_bR, pv_bL, pv_nt, pu_us, pu_un, mL_0, mL_1, mL_2, mL_3, mL_4, mL_5, mL_6, mL_7, mL_8, mL_9, mL_10, mL_11, mL_12, mL_13, mL_14, mL_15, mL_16, mL_23, mL_24, mL_32, mL_48, mL_64, mL_99, mL_100, mL_200, mL_336, mL_576, mL_768, mL_800, mL_999, mL_4095, mL_4096, mL_m1, nI_leI, nI_ltI, nI_eq, nI_clamp, nI_add, pk_mul, nI_nu, bI_eq0, bI_eq1, bo_ft, Bool.true_eq_false, Bool.false_eq_true, pu_of, pu_of24, pu_onward, pu_frq, if_true, if_false, true_or, or_true, false_or, or_false, and_true, true_and, and_false, false_and, not_true_eq_false, not_false_eq_true, if_neg, if_pos, F11_wrongLook, f11_wrongLook_37, i1, i2, u25, bf, pu_ixN']
theorem pu_wrongLookN {t : sr_t} {s : rg_T} {a b : Int32} (R : rg_RB t s) (O : rg_okB s) (ha : a < 0 ∨ nI (rg_N s) ≤ a) : F11_wrongLook a b t = some (.inl (some (sr_i (nI 1))), t) := by
  have i1 := iN_no R O ha
  simp (disch := omega) only [pv_lt, pu_ck, pv_bI, pv_bV, pu_bR, pv_bL, pv_nt, pu_us, pu_un, mL_0, mL_1, mL_2, mL_3, mL_4, mL_5, mL_6, mL_7, mL_8, mL_9, mL_10, mL_11, mL_12, mL_13, mL_14, mL_15, mL_16, mL_23, mL_24, mL_32, mL_48, mL_64, mL_99, mL_100, mL_200, mL_336, mL_576, mL_768, mL_800, mL_999, mL_4095, mL_4096, mL_m1, nI_leI, nI_ltI, nI_eq, nI_clamp, nI_add, pk_mul, nI_nu, bI_eq0, bI_eq1, bo_ft, Bool.true_eq_false, Bool.false_eq_true, pu_of, pu_of24, pu_onward, pu_frq, if_true, if_false, true_or, or_true, false_or, or_false, and_true, true_and, and_false, false_and, not_true_eq_false, not_false_eq_true, if_neg, if_pos, F11_wrongLook, f11_wrongLook_37, i1]
theorem pu_wrongLookP {t : sr_t} {s : rg_T} {n : Nat} {b : Int32} (R : rg_RB t s) (O : rg_okB s) (hn : n < rg_N s) (hb : b < 0 ∨ nI 4096 ≤ b) : F11_wrongLook (nI n) b t = some (.inl (some (sr_i (nI 2))), t) := by
  have i1 := iN_ok R O hn
  have i2 := iP_no (t := t) hb
  simp (disch := omega) only [pv_lt, pu_ck, pv_bI, pv_bV, pu_bR, pv_bL, pv_nt, pu_us, pu_un, mL_0, mL_1, mL_2, mL_3, mL_4, mL_5, mL_6, mL_7, mL_8, mL_9, mL_10, mL_11, mL_12, mL_13, mL_14, mL_15, mL_16, mL_23, mL_24, mL_32, mL_48, mL_64, mL_99, mL_100, mL_200, mL_336, mL_576, mL_768, mL_800, mL_999, mL_4095, mL_4096, mL_m1, nI_leI, nI_ltI, nI_eq, nI_clamp, nI_add, pk_mul, nI_nu, bI_eq0, bI_eq1, bo_ft, Bool.true_eq_false, Bool.false_eq_true, pu_of, pu_of24, pu_onward, pu_frq, if_true, if_false, true_or, or_true, false_or, or_false, and_true, true_and, and_false, false_and, not_true_eq_false, not_false_eq_true, if_neg, if_pos, F11_wrongLook, f11_wrongLook_37, i1, i2]
theorem s_lookup {i : Nat} (hi : i + 4 ≤ 2048) (a b : Int32) (best : Bool) : sr_ok3 (sr_Inv i) (sr_Inv (i + 4)) (fun t => FL_lookup_23 a b (bI best) t) (fun t => F11_lookup a b (bI best) t) := by
  refine ok3_m hi (F := F10_lookup a b (bI best)) (G := F11_lookup a b (bI best)) (hc := hcL_lookup_23) (fun t s w X => ?_)
  obtain ⟨O, C, K, nb, sp, R, kp, L, W⟩ := id X
  have hN := O.1.1
  rcases a_node a hN with ha | ⟨n, hn, rfl⟩
  · right
    have n1 := nN_no C ha
    have wl := pu_wrongLookN (b := b) R.1 O.1 ha
    refine ⟨2, nI 1, nI 0, t, sr_u t 11 0 0 (nI 1), s, w, ?_, rfl, by decide, ?_, pu_us, J_mono (J_thr X)⟩
    · simp (disch := omega) only [pv_lt, pu_ck, pv_bI, pv_bV, pu_bR, pv_bL, pv_nt, pu_us, pu_un, mL_0, mL_1, mL_2, mL_3, mL_4, mL_5, mL_6, mL_7, mL_8, mL_9, mL_10, mL_11, mL_12, mL_13, mL_14, mL_15, mL_16, mL_23, mL_24, mL_32, mL_48, mL_64, mL_99, mL_100, mL_200, mL_336, mL_576, mL_768, mL_800, mL_999, mL_4095, mL_4096, mL_m1, nI_leI, nI_ltI, nI_eq, nI_clamp, nI_add, pk_mul, nI_nu, bI_eq0, bI_eq1, bo_ft, Bool.true_eq_false, Bool.false_eq_true, pu_of, pu_of24, pu_onward, pu_frq, if_true, if_false, true_or, or_true, false_or, or_false, and_true, true_and, and_false, false_and, not_true_eq_false, not_false_eq_true, if_neg, if_pos, F10_lookup, n1, bVr]
    · simp (disch := omega) only [pv_lt, pu_ck, pv_bI, pv_bV, pu_bR, pv_bL, pv_nt, pu_us, pu_un, mL_0, mL_1, mL_2, mL_3, mL_4, mL_5, mL_6, mL_7, mL_8, mL_9, mL_10, mL_11, mL_12, mL_13, mL_14, mL_15, mL_16, mL_23, mL_24, mL_32, mL_48, mL_64, mL_99, mL_100, mL_200, mL_336, mL_576, mL_768, mL_800, mL_999, mL_4095, mL_4096, mL_m1, nI_leI, nI_ltI, nI_eq, nI_clamp, nI_add, pk_mul, nI_nu, bI_eq0, bI_eq1, bo_ft, Bool.true_eq_false, Bool.false_eq_true, pu_of, pu_of24, pu_onward, pu_frq, if_true, if_false, true_or, or_true, false_or, or_false, and_true, true_and, and_false, false_and, not_true_eq_false, not_false_eq_true, if_neg, if_pos, F11_lookup, f11_lookup_28, wl]
  · have n1 := nN_ok C O hn
    rcases a_place b with hb | ⟨q, hq, rfl⟩
    · right
      have nP := nP_no (t := t) hb
      have wl := pu_wrongLookP R.1 O.1 hn hb
      refine ⟨0, nI 2, nI 0, t, sr_u t 11 0 0 (nI 2), s, w, ?_, rfl, by decide, ?_, pu_us, J_mono (J_thr X)⟩
      · simp (disch := omega) only [pv_lt, pu_ck, pv_bI, pv_bV, pu_bR, pv_bL, pv_nt, pu_us, pu_un, mL_0, mL_1, mL_2, mL_3, mL_4, mL_5, mL_6, mL_7, mL_8, mL_9, mL_10, mL_11, mL_12, mL_13, mL_14, mL_15, mL_16, mL_23, mL_24, mL_32, mL_48, mL_64, mL_99, mL_100, mL_200, mL_336, mL_576, mL_768, mL_800, mL_999, mL_4095, mL_4096, mL_m1, nI_leI, nI_ltI, nI_eq, nI_clamp, nI_add, pk_mul, nI_nu, bI_eq0, bI_eq1, bo_ft, Bool.true_eq_false, Bool.false_eq_true, pu_of, pu_of24, pu_onward, pu_frq, if_true, if_false, true_or, or_true, false_or, or_false, and_true, true_and, and_false, false_and, not_true_eq_false, not_false_eq_true, if_neg, if_pos, F10_lookup, n1, nP, bVr]
      · simp (disch := omega) only [pv_lt, pu_ck, pv_bI, pv_bV, pu_bR, pv_bL, pv_nt, pu_us, pu_un, mL_0, mL_1, mL_2, mL_3, mL_4, mL_5, mL_6, mL_7, mL_8, mL_9, mL_10, mL_11, mL_12, mL_13, mL_14, mL_15, mL_16, mL_23, mL_24, mL_32, mL_48, mL_64, mL_99, mL_100, mL_200, mL_336, mL_576, mL_768, mL_800, mL_999, mL_4095, mL_4096, mL_m1, nI_leI, nI_ltI, nI_eq, nI_clamp, nI_add, pk_mul, nI_nu, bI_eq0, bI_eq1, bo_ft, Bool.true_eq_false, Bool.false_eq_true, pu_of, pu_of24, pu_onward, pu_frq, if_true, if_false, true_or, or_true, false_or, or_false, and_true, true_and, and_false, false_and, not_true_eq_false, not_false_eq_true, if_neg, if_pos, F11_lookup, f11_lookup_28, wl]
    · have nP := nP_ok (t := t) hq
      have wl := pu_wrongLook R.1 O.1 hn hq
      by_cases hu : rg_u s n = true
      · left
        have nU := nU_ok C O hn hu
        obtain ⟨t1, e1, D, f1⟩ := pu_travel (i0 := 0) (best := best) C K O (by omega) (by omega) hn hu hq
        refine ⟨cI (lk_e s q best n), t1, ?_, fun T hT => ?_⟩
        · simp (disch := omega) only [pv_lt, pu_ck, pv_bI, pv_bV, pu_bR, pv_bL, pv_nt, pu_us, pu_un, mL_0, mL_1, mL_2, mL_3, mL_4, mL_5, mL_6, mL_7, mL_8, mL_9, mL_10, mL_11, mL_12, mL_13, mL_14, mL_15, mL_16, mL_23, mL_24, mL_32, mL_48, mL_64, mL_99, mL_100, mL_200, mL_336, mL_576, mL_768, mL_800, mL_999, mL_4095, mL_4096, mL_m1, nI_leI, nI_ltI, nI_eq, nI_clamp, nI_add, pk_mul, nI_nu, bI_eq0, bI_eq1, bo_ft, Bool.true_eq_false, Bool.false_eq_true, pu_of, pu_of24, pu_onward, pu_frq, if_true, if_false, true_or, or_true, false_or, or_false, and_true, true_and, and_false, false_and, not_true_eq_false, not_false_eq_true, if_neg, if_pos, F10_lookup, n1, nP, nU, e1]
        · have fT : frI (S_tp 0) t T := fun k i j h => by rw [hT]; exact f1.2 k i j h
          have RT : rg_R T s := rg_R_fI O fT (fun k i j h => by unfold Fp_R at h; unfold S_tp; omega) R
          have R0 : rg_R (sr_u T 11 0 0 (nI 0)) s := rg_R_fr O Sr_0 (fun k i j h => by unfold Fp_R at h; unfold Sr; omega) RT
          have wl := pu_wrongLook RT.1 O.1 hn hq
          rw [if_pos hu] at wl
          obtain ⟨t3, e3, L3, f3⟩ := pu_latestLook (best := best) (rg_RN_of R0 O) O hn hu hq
          have DT : tp_D T 0 0 s q best n := by
            have hT' : T = (t1.1, T.2) := by rw [← hT]
            rw [hT']
            exact D
          refine ⟨t3, s, w, ?_, ?_, f3.1, ?_⟩
          · simp (disch := omega) only [pv_lt, pu_ck, pv_bI, pv_bV, pu_bR, pv_bL, pv_nt, pu_us, pu_un, mL_0, mL_1, mL_2, mL_3, mL_4, mL_5, mL_6, mL_7, mL_8, mL_9, mL_10, mL_11, mL_12, mL_13, mL_14, mL_15, mL_16, mL_23, mL_24, mL_32, mL_48, mL_64, mL_99, mL_100, mL_200, mL_336, mL_576, mL_768, mL_800, mL_999, mL_4095, mL_4096, mL_m1, nI_leI, nI_ltI, nI_eq, nI_clamp, nI_add, pk_mul, nI_nu, bI_eq0, bI_eq1, bo_ft, Bool.true_eq_false, Bool.false_eq_true, pu_of, pu_of24, pu_onward, pu_frq, if_true, if_false, true_or, or_true, false_or, or_false, and_true, true_and, and_false, false_and, not_true_eq_false, not_false_eq_true, if_neg, if_pos, F11_lookup, f11_lookup_28, wl, e3]
          · rw [f3.2 _ _ _ (by unfold S_ll; omega), pu_us]
          · refine J_mono (J_look (S := fun k i j => (k = 11 ∧ i = 0 ∧ j = 0) ∨ S_ll k i j) X hn hu fT DT L3 ?_ (fun k i j h => by unfold S_ll at h; omega))
            exact fun k i j h => by rw [f3.2 _ _ _ (fun e => h (Or.inr e)), pu_un (fun e => h (Or.inl e))]
      · right
        have hu' : rg_u s n = false := by simpa using hu
        have nU := nU_no C O hn hu'
        rw [if_neg hu] at wl
        refine ⟨1, nI 3, nI 0, t, sr_u t 11 0 0 (nI 3), s, w, ?_, rfl, by decide, ?_, pu_us, J_mono (J_thr X)⟩
        · simp (disch := omega) only [pv_lt, pu_ck, pv_bI, pv_bV, pu_bR, pv_bL, pv_nt, pu_us, pu_un, mL_0, mL_1, mL_2, mL_3, mL_4, mL_5, mL_6, mL_7, mL_8, mL_9, mL_10, mL_11, mL_12, mL_13, mL_14, mL_15, mL_16, mL_23, mL_24, mL_32, mL_48, mL_64, mL_99, mL_100, mL_200, mL_336, mL_576, mL_768, mL_800, mL_999, mL_4095, mL_4096, mL_m1, nI_leI, nI_ltI, nI_eq, nI_clamp, nI_add, pk_mul, nI_nu, bI_eq0, bI_eq1, bo_ft, Bool.true_eq_false, Bool.false_eq_true, pu_of, pu_of24, pu_onward, pu_frq, if_true, if_false, true_or, or_true, false_or, or_false, and_true, true_and, and_false, false_and, not_true_eq_false, not_false_eq_true, if_neg, if_pos, F10_lookup, n1, nP, nU, bVr]
        · simp (disch := omega) only [pv_lt, pu_ck, pv_bI, pv_bV, pu_bR, pv_bL, pv_nt, pu_us, pu_un, mL_0, mL_1, mL_2, mL_3, mL_4, mL_5, mL_6, mL_7, mL_8, mL_9, mL_10, mL_11, mL_12, mL_13, mL_14, mL_15, mL_16, mL_23, mL_24, mL_32, mL_48, mL_64, mL_99, mL_100, mL_200, mL_336, mL_576, mL_768, mL_800, mL_999, mL_4095, mL_4096, mL_m1, nI_leI, nI_ltI, nI_eq, nI_clamp, nI_add, pk_mul, nI_nu, bI_eq0, bI_eq1, bo_ft, Bool.true_eq_false, Bool.false_eq_true, pu_of, pu_of24, pu_onward, pu_frq, if_true, if_false, true_or, or_true, false_or, or_false, and_true, true_and, and_false, false_and, not_true_eq_false, not_false_eq_true, if_neg, if_pos, F11_lookup, f11_lookup_28, wl]
theorem sw_in {lo hi : Int} {j : Nat} {x : sr_Rs} {f : Nat → sr_Rs} (h : j < 2 ^ 31) (h1 : lo ≤ (j : Int)) (h2 : (j : Int) ≤ hi) : sr_sw lo hi (nI j) x f = f ((j : Int) - lo).toNat := by
  unfold sr_sw
  rw [nI_toInt h, if_neg (by omega)]
theorem sw_out {lo hi : Int} {j : Nat} {x : sr_Rs} {f : Nat → sr_Rs} (h : j < 2 ^ 31) (h1 : (j : Int) < lo ∨ hi < (j : Int)) : sr_sw lo hi (nI j) x f = x := by
  unfold sr_sw
  rw [nI_toInt h, if_pos h1]
theorem nW_no {t : sr_t} {a : Int32} {m : Nat} (h : a < nI 0 ∨ nI m < a) : F10_needWhat a (nI m) t = some (.inr 3, t) := c_no (l := 0) (h := nI m) h
theorem nW_ok {t : sr_t} {j m : Nat} (h : j ≤ m) (hm : m < 2 ^ 31) : F10_needWhat (nI j) (nI m) t = some (.inl none, t) := by
  simp (disch := omega) only [pv_lt, pu_ck, pv_bI, pv_bV, pu_bR, pv_bL, pv_nt, pu_us, pu_un, mL_0, mL_1, mL_2, mL_3, mL_4, mL_5, mL_6, mL_7, mL_8, mL_9, mL_10, mL_11, mL_12, mL_13, mL_14, mL_15, mL_16, mL_23, mL_24, mL_32, mL_48, mL_64, mL_99, mL_100, mL_200, mL_336, mL_576, mL_768, mL_800, mL_999, mL_4095, mL_4096, mL_m1, nI_leI, nI_ltI, nI_eq, nI_clamp, nI_add, pk_mul, nI_nu, bI_eq0, bI_eq1, bo_ft, Bool.true_eq_false, Bool.false_eq_true, pu_of, pu_of24, pu_onward, pu_frq, if_true, if_false, true_or, or_true, false_or, or_false, and_true, true_and, and_false, false_and, not_true_eq_false, not_false_eq_true, if_neg, if_pos, F10_needWhat]
/-- what a pair of calls owes that only asks, of a heap that is as it was but for what may change -/
theorem ok3_qf {i : Nat} (hi : i + 4 ≤ 2048) {F G : sr_t → sr_Rs} {hc : Nat → Option Int32} (h : ∀ t s w, J i t s w → (∃ (v : Int32), (∃ t1, F t = some (.inl (some (sr_i v)), t1) ∧ frI Sc t t1) ∧ ∀ t', J i t' s w → frI Sc t t' → ∃ t2, G t' = some (.inl (some (sr_i v)), t2) ∧ t2.1 11 0 0 = nI 0 ∧ fr Sr t' t2) ∨ (∃ (z : Nat) (c v : Int32) (t2 : sr_t), F t = some (.inr z, t) ∧ hc z = some c ∧ c ≠ 0 ∧ G t = some (.inl (some (sr_i v)), t2) ∧ t2.1 11 0 0 = c ∧ fr Sr t t2)) : sr_ok3 (sr_Inv i) (sr_Inv (i + 4)) (fun t => wrap (F t) hc) G := by
  refine ok3_m hi (fun t s w X => ?_)
  rcases h t s w X with ⟨v, ⟨t1, e1, e2⟩, e3⟩ | ⟨z, c, v, t2, e1, e2, e3, e4, e5, e6⟩
  · left
    refine ⟨v, t1, e1, fun T hT => ?_⟩
    have fT : frI Sc t T := fun k i j q => by rw [hT]; exact e2 k i j q
    have X1 : J i T s w := J_fr (t := t) (frI_mono fT (fun k i j h => Or.inl h)) X
    obtain ⟨t2, g1, g2, g3⟩ := e3 T X1 fT
    exact ⟨t2, s, w, g1, g2, g3.1, J_mono (J_fr (frI_mono (frI_of g3) (fun k i j h => Or.inr h)) X1)⟩
  · right
    exact ⟨z, c, v, t, t2, s, w, e1, e2, e3, e4, e5, J_mono (J_fr (frI_mono (frI_of e6) (fun k i j h => Or.inr h)) X)⟩
theorem ok2_qf {i : Nat} (hi : i + 4 ≤ 2048) {F G : sr_t → sr_Rs} (h : ∀ t s w, J i t s w → ∃ (v : Int32), (∃ t1, F t = some (.inl (some (sr_i v)), t1) ∧ frI Sc t t1) ∧ ∀ t', J i t' s w → frI Sc t t' → ∃ t2, G t' = some (.inl (some (sr_i v)), t2) ∧ fr Sr t' t2) : sr_ok2 (sr_Inv i) (sr_Inv (i + 4)) F G := by
  rintro t ⟨_, s, w, X⟩
  obtain ⟨v, ⟨t1, e1, e2⟩, e3⟩ := h t s w X
  have X1 : J i t1 s w := J_fr (t := t) (frI_mono e2 (fun k i j h => Or.inl h)) X
  obtain ⟨t2, g1, g2⟩ := e3 t1 X1 e2
  exact ⟨v, t1, v, t2, e1, g1, rfl, hi, s, w, J_mono (J_fr (frI_mono (frI_of g2) (fun k i j h => Or.inr h)) X1)⟩
theorem frI_rfl {S : Nat → Nat → Nat → Prop} {t : sr_t} : frI S t t := fun _ _ _ _ => rfl
theorem sw_0 {hi : Int} {j : Nat} {x : sr_Rs} {f : Nat → sr_Rs} (h : j < 2 ^ 31) (h2 : (j : Int) ≤ hi) : sr_sw 0 hi (nI j) x f = f j := by
  rw [sw_in h (by omega) h2]
  congr 1
theorem s_latest {i : Nat} (hi : i + 4 ≤ 2048) (a : Int32) : sr_ok3 (sr_Inv i) (sr_Inv (i + 4)) (fun t => FL_latest_23 a t) (fun t => F11_latest a t) := by
  refine ok3_qf hi (F := F10_latest a) (G := F11_latest a) (hc := hcL_latest_23) (fun t s w X => ?_)
  rcases a_in a 0 8 (by omega) (by omega) with hb | ⟨j, _, j8, rfl⟩
  · right
    have nW := nW_no (t := t) (m := 8) hb
    have iD : F11_isIn a (nI 0) (nI 8) t = some (.inl (some (sr_i (nI 0))), t) := iIn_no hb
    refine ⟨3, nI 1, nI 0, sr_u t 11 0 0 (nI 1), ?_, rfl, by decide, ?_, pu_us, Sr_0⟩
    · simp (disch := omega) only [pv_lt, pu_ck, pv_bI, pv_bV, pu_bR, pv_bL, pv_nt, pu_us, pu_un, mL_0, mL_1, mL_2, mL_3, mL_4, mL_5, mL_6, mL_7, mL_8, mL_9, mL_10, mL_11, mL_12, mL_13, mL_14, mL_15, mL_16, mL_23, mL_24, mL_32, mL_48, mL_64, mL_99, mL_100, mL_200, mL_336, mL_576, mL_768, mL_800, mL_999, mL_4095, mL_4096, mL_m1, nI_leI, nI_ltI, nI_eq, nI_clamp, nI_add, pk_mul, nI_nu, bI_eq0, bI_eq1, bo_ft, Bool.true_eq_false, Bool.false_eq_true, pu_of, pu_of24, pu_onward, pu_frq, if_true, if_false, true_or, or_true, false_or, or_false, and_true, true_and, and_false, false_and, not_true_eq_false, not_false_eq_true, if_neg, if_pos, F10_latest, nW, bVr]
    · simp (disch := omega) only [pv_lt, pu_ck, pv_bI, pv_bV, pu_bR, pv_bL, pv_nt, pu_us, pu_un, mL_0, mL_1, mL_2, mL_3, mL_4, mL_5, mL_6, mL_7, mL_8, mL_9, mL_10, mL_11, mL_12, mL_13, mL_14, mL_15, mL_16, mL_23, mL_24, mL_32, mL_48, mL_64, mL_99, mL_100, mL_200, mL_336, mL_576, mL_768, mL_800, mL_999, mL_4095, mL_4096, mL_m1, nI_leI, nI_ltI, nI_eq, nI_clamp, nI_add, pk_mul, nI_nu, bI_eq0, bI_eq1, bo_ft, Bool.true_eq_false, Bool.false_eq_true, pu_of, pu_of24, pu_onward, pu_frq, if_true, if_false, true_or, or_true, false_or, or_false, and_true, true_and, and_false, false_and, not_true_eq_false, not_false_eq_true, if_neg, if_pos, F11_latest, f11_latest_16, f11_latest_36, iD]
  · left
    obtain ⟨O, C, K, nb, sp, R, kp, L, W⟩ := id X
    refine ⟨t.1 33 0 j, ⟨t, ?_, frI_rfl⟩, fun t' X' ft => ⟨sr_u t' 11 0 0 (nI 0), ?_, pu_us, Sr_0⟩⟩
    · obtain ⟨⟨h1, h2, h3, h4, h5, h6⟩, ⟨b, b1, b2⟩, ⟨e, e1, e2, e3⟩, ⟨st, s1, s2, s3, s4, s5⟩, _⟩ := id L
      have num := C.1.2.1.1 e e1
      rw [show 25 * 0 + e = e by omega] at num
      have hj : j = 0 ∨ j = 1 ∨ j = 2 ∨ j = 3 ∨ j = 4 ∨ j = 5 ∨ j = 6 ∨ j = 7 ∨ j = 8 := by omega
      rcases hj with rfl | rfl | rfl | rfl | rfl | rfl | rfl | rfl | rfl
      · have nW := nW_ok (t := t) (j := 0) (m := 8) (by omega) (by omega)
        simp (disch := omega) only [pv_lt, pu_ck, pv_bI, pv_bV, pu_bR, pv_bL, pv_nt, pu_us, pu_un, mL_0, mL_1, mL_2, mL_3, mL_4, mL_5, mL_6, mL_7, mL_8, mL_9, mL_10, mL_11, mL_12, mL_13, mL_14, mL_15, mL_16, mL_23, mL_24, mL_32, mL_48, mL_64, mL_99, mL_100, mL_200, mL_336, mL_576, mL_768, mL_800, mL_999, mL_4095, mL_4096, mL_m1, nI_leI, nI_ltI, nI_eq, nI_clamp, nI_add, pk_mul, nI_nu, bI_eq0, bI_eq1, bo_ft, Bool.true_eq_false, Bool.false_eq_true, pu_of, pu_of24, pu_onward, pu_frq, if_true, if_false, true_or, or_true, false_or, or_false, and_true, true_and, and_false, false_and, not_true_eq_false, not_false_eq_true, if_neg, if_pos, F10_latest, nW, sw_0, h1]
      · have nW := nW_ok (t := t) (j := 1) (m := 8) (by omega) (by omega)
        simp (disch := omega) only [pv_lt, pu_ck, pv_bI, pv_bV, pu_bR, pv_bL, pv_nt, pu_us, pu_un, mL_0, mL_1, mL_2, mL_3, mL_4, mL_5, mL_6, mL_7, mL_8, mL_9, mL_10, mL_11, mL_12, mL_13, mL_14, mL_15, mL_16, mL_23, mL_24, mL_32, mL_48, mL_64, mL_99, mL_100, mL_200, mL_336, mL_576, mL_768, mL_800, mL_999, mL_4095, mL_4096, mL_m1, nI_leI, nI_ltI, nI_eq, nI_clamp, nI_add, pk_mul, nI_nu, bI_eq0, bI_eq1, bo_ft, Bool.true_eq_false, Bool.false_eq_true, pu_of, pu_of24, pu_onward, pu_frq, if_true, if_false, true_or, or_true, false_or, or_false, and_true, true_and, and_false, false_and, not_true_eq_false, not_false_eq_true, if_neg, if_pos, F10_latest, nW, sw_0, h2]
      · have nW := nW_ok (t := t) (j := 2) (m := 8) (by omega) (by omega)
        simp (disch := omega) only [pv_lt, pu_ck, pv_bI, pv_bV, pu_bR, pv_bL, pv_nt, pu_us, pu_un, mL_0, mL_1, mL_2, mL_3, mL_4, mL_5, mL_6, mL_7, mL_8, mL_9, mL_10, mL_11, mL_12, mL_13, mL_14, mL_15, mL_16, mL_23, mL_24, mL_32, mL_48, mL_64, mL_99, mL_100, mL_200, mL_336, mL_576, mL_768, mL_800, mL_999, mL_4095, mL_4096, mL_m1, nI_leI, nI_ltI, nI_eq, nI_clamp, nI_add, pk_mul, nI_nu, bI_eq0, bI_eq1, bo_ft, Bool.true_eq_false, Bool.false_eq_true, pu_of, pu_of24, pu_onward, pu_frq, if_true, if_false, true_or, or_true, false_or, or_false, and_true, true_and, and_false, false_and, not_true_eq_false, not_false_eq_true, if_neg, if_pos, F10_latest, nW, sw_0, h3]
      · have nW := nW_ok (t := t) (j := 3) (m := 8) (by omega) (by omega)
        simp (disch := omega) only [pv_lt, pu_ck, pv_bI, pv_bV, pu_bR, pv_bL, pv_nt, pu_us, pu_un, mL_0, mL_1, mL_2, mL_3, mL_4, mL_5, mL_6, mL_7, mL_8, mL_9, mL_10, mL_11, mL_12, mL_13, mL_14, mL_15, mL_16, mL_23, mL_24, mL_32, mL_48, mL_64, mL_99, mL_100, mL_200, mL_336, mL_576, mL_768, mL_800, mL_999, mL_4095, mL_4096, mL_m1, nI_leI, nI_ltI, nI_eq, nI_clamp, nI_add, pk_mul, nI_nu, bI_eq0, bI_eq1, bo_ft, Bool.true_eq_false, Bool.false_eq_true, pu_of, pu_of24, pu_onward, pu_frq, if_true, if_false, true_or, or_true, false_or, or_false, and_true, true_and, and_false, false_and, not_true_eq_false, not_false_eq_true, if_neg, if_pos, F10_latest, nW, sw_0, h4]
      · have nW := nW_ok (t := t) (j := 4) (m := 8) (by omega) (by omega)
        cases b with
        | true =>
          have bt : bI true = nI 1 := rfl
          rw [bt] at b1 b2
          simp (disch := omega) only [pv_lt, pu_ck, pv_bI, pv_bV, pu_bR, pv_bL, pv_nt, pu_us, pu_un, mL_0, mL_1, mL_2, mL_3, mL_4, mL_5, mL_6, mL_7, mL_8, mL_9, mL_10, mL_11, mL_12, mL_13, mL_14, mL_15, mL_16, mL_23, mL_24, mL_32, mL_48, mL_64, mL_99, mL_100, mL_200, mL_336, mL_576, mL_768, mL_800, mL_999, mL_4095, mL_4096, mL_m1, nI_leI, nI_ltI, nI_eq, nI_clamp, nI_add, pk_mul, nI_nu, bI_eq0, bI_eq1, bo_ft, Bool.true_eq_false, Bool.false_eq_true, pu_of, pu_of24, pu_onward, pu_frq, if_true, if_false, true_or, or_true, false_or, or_false, and_true, true_and, and_false, false_and, not_true_eq_false, not_false_eq_true, if_neg, if_pos, F10_latest, f10_latest_99, nW, sw_0, b1, b2]
        | false =>
          have bf : bI false = nI 0 := rfl
          rw [bf] at b1 b2
          simp (disch := omega) only [pv_lt, pu_ck, pv_bI, pv_bV, pu_bR, pv_bL, pv_nt, pu_us, pu_un, mL_0, mL_1, mL_2, mL_3, mL_4, mL_5, mL_6, mL_7, mL_8, mL_9, mL_10, mL_11, mL_12, mL_13, mL_14, mL_15, mL_16, mL_23, mL_24, mL_32, mL_48, mL_64, mL_99, mL_100, mL_200, mL_336, mL_576, mL_768, mL_800, mL_999, mL_4095, mL_4096, mL_m1, nI_leI, nI_ltI, nI_eq, nI_clamp, nI_add, pk_mul, nI_nu, bI_eq0, bI_eq1, bo_ft, Bool.true_eq_false, Bool.false_eq_true, pu_of, pu_of24, pu_onward, pu_frq, if_true, if_false, true_or, or_true, false_or, or_false, and_true, true_and, and_false, false_and, not_true_eq_false, not_false_eq_true, if_neg, if_pos, F10_latest, f10_latest_99, nW, sw_0, b1, b2]
      · have nW := nW_ok (t := t) (j := 5) (m := 8) (by omega) (by omega)
        simp (disch := omega) only [pv_lt, pu_ck, pv_bI, pv_bV, pu_bR, pv_bL, pv_nt, pu_us, pu_un, mL_0, mL_1, mL_2, mL_3, mL_4, mL_5, mL_6, mL_7, mL_8, mL_9, mL_10, mL_11, mL_12, mL_13, mL_14, mL_15, mL_16, mL_23, mL_24, mL_32, mL_48, mL_64, mL_99, mL_100, mL_200, mL_336, mL_576, mL_768, mL_800, mL_999, mL_4095, mL_4096, mL_m1, nI_leI, nI_ltI, nI_eq, nI_clamp, nI_add, pk_mul, nI_nu, bI_eq0, bI_eq1, bo_ft, Bool.true_eq_false, Bool.false_eq_true, pu_of, pu_of24, pu_onward, pu_frq, if_true, if_false, true_or, or_true, false_or, or_false, and_true, true_and, and_false, false_and, not_true_eq_false, not_false_eq_true, if_neg, if_pos, F10_latest, nW, sw_0, s2, s3]
      · have nW := nW_ok (t := t) (j := 6) (m := 8) (by omega) (by omega)
        simp (disch := omega) only [pv_lt, pu_ck, pv_bI, pv_bV, pu_bR, pv_bL, pv_nt, pu_us, pu_un, mL_0, mL_1, mL_2, mL_3, mL_4, mL_5, mL_6, mL_7, mL_8, mL_9, mL_10, mL_11, mL_12, mL_13, mL_14, mL_15, mL_16, mL_23, mL_24, mL_32, mL_48, mL_64, mL_99, mL_100, mL_200, mL_336, mL_576, mL_768, mL_800, mL_999, mL_4095, mL_4096, mL_m1, nI_leI, nI_ltI, nI_eq, nI_clamp, nI_add, pk_mul, nI_nu, bI_eq0, bI_eq1, bo_ft, Bool.true_eq_false, Bool.false_eq_true, pu_of, pu_of24, pu_onward, pu_frq, if_true, if_false, true_or, or_true, false_or, or_false, and_true, true_and, and_false, false_and, not_true_eq_false, not_false_eq_true, if_neg, if_pos, F10_latest, nW, sw_0, h6]
      · have nW := nW_ok (t := t) (j := 7) (m := 8) (by omega) (by omega)
        simp (disch := omega) only [pv_lt, pu_ck, pv_bI, pv_bV, pu_bR, pv_bL, pv_nt, pu_us, pu_un, mL_0, mL_1, mL_2, mL_3, mL_4, mL_5, mL_6, mL_7, mL_8, mL_9, mL_10, mL_11, mL_12, mL_13, mL_14, mL_15, mL_16, mL_23, mL_24, mL_32, mL_48, mL_64, mL_99, mL_100, mL_200, mL_336, mL_576, mL_768, mL_800, mL_999, mL_4095, mL_4096, mL_m1, nI_leI, nI_ltI, nI_eq, nI_clamp, nI_add, pk_mul, nI_nu, bI_eq0, bI_eq1, bo_ft, Bool.true_eq_false, Bool.false_eq_true, pu_of, pu_of24, pu_onward, pu_frq, if_true, if_false, true_or, or_true, false_or, or_false, and_true, true_and, and_false, false_and, not_true_eq_false, not_false_eq_true, if_neg, if_pos, F10_latest, nW, sw_0, e2, e3, num]
      · have nW := nW_ok (t := t) (j := 8) (m := 8) (by omega) (by omega)
        simp (disch := omega) only [pv_lt, pu_ck, pv_bI, pv_bV, pu_bR, pv_bL, pv_nt, pu_us, pu_un, mL_0, mL_1, mL_2, mL_3, mL_4, mL_5, mL_6, mL_7, mL_8, mL_9, mL_10, mL_11, mL_12, mL_13, mL_14, mL_15, mL_16, mL_23, mL_24, mL_32, mL_48, mL_64, mL_99, mL_100, mL_200, mL_336, mL_576, mL_768, mL_800, mL_999, mL_4095, mL_4096, mL_m1, nI_leI, nI_ltI, nI_eq, nI_clamp, nI_add, pk_mul, nI_nu, bI_eq0, bI_eq1, bo_ft, Bool.true_eq_false, Bool.false_eq_true, pu_of, pu_of24, pu_onward, pu_frq, if_true, if_false, true_or, or_true, false_or, or_false, and_true, true_and, and_false, false_and, not_true_eq_false, not_false_eq_true, if_neg, if_pos, F10_latest, nW, sw_out, h5]
    · have iD := iIn_ok (t := t') (j := j) (l := 0) (h := 8) (by omega) j8 (by omega)
      have e := ft 33 0 j (by unfold Sc; omega)
      simp (disch := omega) only [pv_lt, pu_ck, pv_bI, pv_bV, pu_bR, pv_bL, pv_nt, pu_us, pu_un, mL_0, mL_1, mL_2, mL_3, mL_4, mL_5, mL_6, mL_7, mL_8, mL_9, mL_10, mL_11, mL_12, mL_13, mL_14, mL_15, mL_16, mL_23, mL_24, mL_32, mL_48, mL_64, mL_99, mL_100, mL_200, mL_336, mL_576, mL_768, mL_800, mL_999, mL_4095, mL_4096, mL_m1, nI_leI, nI_ltI, nI_eq, nI_clamp, nI_add, pk_mul, nI_nu, bI_eq0, bI_eq1, bo_ft, Bool.true_eq_false, Bool.false_eq_true, pu_of, pu_of24, pu_onward, pu_frq, if_true, if_false, true_or, or_true, false_or, or_false, and_true, true_and, and_false, false_and, not_true_eq_false, not_false_eq_true, if_neg, if_pos, F11_latest, f11_latest_16, f11_latest_36, iD, pu_ixN', e]
/-- an argument that is to be below a number -/
theorem a_bel (a : Int32) {m : Nat} (hm : m < 2 ^ 31) : (a < 0 ∨ nI m ≤ a) ∨ ∃ n, n < m ∧ a = nI n := by
  rcases pk_ix a hm with h | h | h
  · exact Or.inl (Or.inl h)
  · exact Or.inl (Or.inr h)
  · exact Or.inr h
theorem iIm_no {t : sr_t} {a : Int32} {m : Nat} (hm : m < 2 ^ 31) (h : a < 0 ∨ nI m ≤ a) : F11_isIn a (nI 0) (nI m - nI 1) t = some (.inl (some (sr_i (nI 0))), t) := by
  refine iIn_no ?_
  by_cases h0 : a < 0
  · exact Or.inl h0
  · right
    have h2 := h.resolve_left h0
    obtain ⟨j, hj, rfl⟩ := nI_of h0
    have hle : m ≤ j := (nI_leI hm hj).mp h2
    by_cases hz : m = 0
    · rw [hz]
      have : nI 0 - nI 1 < 0 := by decide
      exact Int32.lt_of_lt_of_le this (nI_pos' hj)
    · rw [pk_sub (by omega)]
      exact nI_lt (by omega) hj
theorem iIm_ok {t : sr_t} {j m : Nat} (hm : m < 2 ^ 31) (h : j < m) : F11_isIn (nI j) (nI 0) (nI m - nI 1) t = some (.inl (some (sr_i (nI 1))), t) := by
  rw [pk_sub (by omega)]
  exact iIn_ok (by omega) (by omega) (by omega)
theorem at_no {t : sr_t} {i m : Nat} {a : Int32} (h1 : t.1 4 i 1 = nI m) (h : a < 0 ∨ nI m ≤ a) : F4_at i a t = some (.inl (some (sr_i (nu 24))), t) := by
  unfold F4_at
  rw [h1]
  by_cases h0 : a < 0
  · rw [if_pos h0]; rfl
  · rw [if_neg h0, if_pos (h.resolve_left h0)]; rfl
theorem s_step {i : Nat} (hi : i + 4 ≤ 2048) (a b : Int32) : sr_ok3 (sr_Inv i) (sr_Inv (i + 4)) (fun t => FL_step_23 a b t) (fun t => F11_step a b t) := by
  refine ok3_qf hi (F := F10_step a b) (G := F11_step a b) (hc := hcL_step_23) (fun t s w X => ?_)
  rcases a_in b 0 3 (by omega) (by omega) with hb | ⟨c, _, c3, rfl⟩
  · right
    have nW := nW_no (t := t) (m := 3) hb
    have iD : F11_isIn b (nI 0) (nI 3) t = some (.inl (some (sr_i (nI 0))), t) := iIn_no hb
    refine ⟨3, nI 1, nI 0, sr_u t 11 0 0 (nI 1), ?_, rfl, by decide, ?_, pu_us, Sr_0⟩
    · simp (disch := omega) only [pv_lt, pu_ck, pv_bI, pv_bV, pu_bR, pv_bL, pv_nt, pu_us, pu_un, mL_0, mL_1, mL_2, mL_3, mL_4, mL_5, mL_6, mL_7, mL_8, mL_9, mL_10, mL_11, mL_12, mL_13, mL_14, mL_15, mL_16, mL_23, mL_24, mL_32, mL_48, mL_64, mL_99, mL_100, mL_200, mL_336, mL_576, mL_768, mL_800, mL_999, mL_4095, mL_4096, mL_m1, nI_leI, nI_ltI, nI_eq, nI_clamp, nI_add, pk_mul, nI_nu, bI_eq0, bI_eq1, bo_ft, Bool.true_eq_false, Bool.false_eq_true, pu_of, pu_of24, pu_onward, pu_frq, if_true, if_false, true_or, or_true, false_or, or_false, and_true, true_and, and_false, false_and, not_true_eq_false, not_false_eq_true, if_neg, if_pos, F10_step, nW, bVr]
    · simp (disch := omega) only [pv_lt, pu_ck, pv_bI, pv_bV, pu_bR, pv_bL, pv_nt, pu_us, pu_un, mL_0, mL_1, mL_2, mL_3, mL_4, mL_5, mL_6, mL_7, mL_8, mL_9, mL_10, mL_11, mL_12, mL_13, mL_14, mL_15, mL_16, mL_23, mL_24, mL_32, mL_48, mL_64, mL_99, mL_100, mL_200, mL_336, mL_576, mL_768, mL_800, mL_999, mL_4095, mL_4096, mL_m1, nI_leI, nI_ltI, nI_eq, nI_clamp, nI_add, pk_mul, nI_nu, bI_eq0, bI_eq1, bo_ft, Bool.true_eq_false, Bool.false_eq_true, pu_of, pu_of24, pu_onward, pu_frq, if_true, if_false, true_or, or_true, false_or, or_false, and_true, true_and, and_false, false_and, not_true_eq_false, not_false_eq_true, if_neg, if_pos, F11_step, f11_step_15, iD]
  · left
    obtain ⟨O, C, K, nb, sp, R, kp, L, W⟩ := id X
    obtain ⟨_, _, _, ⟨st, s1, s2, s3, s4, s5⟩, _⟩ := id L
    have nW := nW_ok (t := t) (j := c) (m := 3) c3 (by omega)
    rcases a_bel a (m := st) (by omega) with ha | ⟨k, hk, rfl⟩
    · have po : F8_partOfStep 0 a (nI c) t = some (.inl (some (sr_i (nu 24))), t) := by
        unfold F8_partOfStep
        rw [s2]
        by_cases h0 : a < 0
        · rw [if_pos h0]; rfl
        · rw [if_neg h0, if_pos (ha.resolve_left h0)]; rfl
      refine ⟨nu 24, ⟨t, ?_, frI_rfl⟩, fun t' X' ft => ⟨sr_u t' 11 0 0 (nI 0), ?_, pu_us, Sr_0⟩⟩
      · simp (disch := omega) only [pv_lt, pu_ck, pv_bI, pv_bV, pu_bR, pv_bL, pv_nt, pu_us, pu_un, mL_0, mL_1, mL_2, mL_3, mL_4, mL_5, mL_6, mL_7, mL_8, mL_9, mL_10, mL_11, mL_12, mL_13, mL_14, mL_15, mL_16, mL_23, mL_24, mL_32, mL_48, mL_64, mL_99, mL_100, mL_200, mL_336, mL_576, mL_768, mL_800, mL_999, mL_4095, mL_4096, mL_m1, nI_leI, nI_ltI, nI_eq, nI_clamp, nI_add, pk_mul, nI_nu, bI_eq0, bI_eq1, bo_ft, Bool.true_eq_false, Bool.false_eq_true, pu_of, pu_of24, pu_onward, pu_frq, if_true, if_false, true_or, or_true, false_or, or_false, and_true, true_and, and_false, false_and, not_true_eq_false, not_false_eq_true, if_neg, if_pos, F10_step, nW, po]
      · have iD := iIn_ok (t := t') (j := c) (l := 0) (h := 3) (by omega) c3 (by omega)
        have e28 : t'.1 11 0 28 = nI st := by rw [ft _ _ _ (by unfold Sc; omega)]; exact s4
        have iA := iIm_no (t := sr_u t' 11 0 0 (nI 0)) (m := st) (by omega) ha
        simp (disch := omega) only [pv_lt, pu_ck, pv_bI, pv_bV, pu_bR, pv_bL, pv_nt, pu_us, pu_un, mL_0, mL_1, mL_2, mL_3, mL_4, mL_5, mL_6, mL_7, mL_8, mL_9, mL_10, mL_11, mL_12, mL_13, mL_14, mL_15, mL_16, mL_23, mL_24, mL_32, mL_48, mL_64, mL_99, mL_100, mL_200, mL_336, mL_576, mL_768, mL_800, mL_999, mL_4095, mL_4096, mL_m1, nI_leI, nI_ltI, nI_eq, nI_clamp, nI_add, pk_mul, nI_nu, bI_eq0, bI_eq1, bo_ft, Bool.true_eq_false, Bool.false_eq_true, pu_of, pu_of24, pu_onward, pu_frq, if_true, if_false, true_or, or_true, false_or, or_false, and_true, true_and, and_false, false_and, not_true_eq_false, not_false_eq_true, if_neg, if_pos, F11_step, f11_step_15, iD, e28, iA]
    · have po : F8_partOfStep 0 (nI k) (nI c) t = some (.inl (some (sr_i (t.1 14 0 (4 * k + c)))), t) := by
        simp (disch := omega) only [pv_lt, pu_ck, pv_bI, pv_bV, pu_bR, pv_bL, pv_nt, pu_us, pu_un, mL_0, mL_1, mL_2, mL_3, mL_4, mL_5, mL_6, mL_7, mL_8, mL_9, mL_10, mL_11, mL_12, mL_13, mL_14, mL_15, mL_16, mL_23, mL_24, mL_32, mL_48, mL_64, mL_99, mL_100, mL_200, mL_336, mL_576, mL_768, mL_800, mL_999, mL_4095, mL_4096, mL_m1, nI_leI, nI_ltI, nI_eq, nI_clamp, nI_add, pk_mul, nI_nu, bI_eq0, bI_eq1, bo_ft, Bool.true_eq_false, Bool.false_eq_true, pu_of, pu_of24, pu_onward, pu_frq, if_true, if_false, true_or, or_true, false_or, or_false, and_true, true_and, and_false, false_and, not_true_eq_false, not_false_eq_true, if_neg, if_pos, F8_partOfStep, f8_partOfStep_48, s2]
      refine ⟨t.1 14 0 (4 * k + c), ⟨t, ?_, frI_rfl⟩, fun t' X' ft => ⟨sr_u t' 11 0 0 (nI 0), ?_, pu_us, Sr_0⟩⟩
      · simp (disch := omega) only [pv_lt, pu_ck, pv_bI, pv_bV, pu_bR, pv_bL, pv_nt, pu_us, pu_un, mL_0, mL_1, mL_2, mL_3, mL_4, mL_5, mL_6, mL_7, mL_8, mL_9, mL_10, mL_11, mL_12, mL_13, mL_14, mL_15, mL_16, mL_23, mL_24, mL_32, mL_48, mL_64, mL_99, mL_100, mL_200, mL_336, mL_576, mL_768, mL_800, mL_999, mL_4095, mL_4096, mL_m1, nI_leI, nI_ltI, nI_eq, nI_clamp, nI_add, pk_mul, nI_nu, bI_eq0, bI_eq1, bo_ft, Bool.true_eq_false, Bool.false_eq_true, pu_of, pu_of24, pu_onward, pu_frq, if_true, if_false, true_or, or_true, false_or, or_false, and_true, true_and, and_false, false_and, not_true_eq_false, not_false_eq_true, if_neg, if_pos, F10_step, nW, po]
      · have iD := iIn_ok (t := t') (j := c) (l := 0) (h := 3) (by omega) c3 (by omega)
        have e28 : t'.1 11 0 28 = nI st := by rw [ft _ _ _ (by unfold Sc; omega)]; exact s4
        have iA := iIm_ok (t := sr_u t' 11 0 0 (nI 0)) (m := st) (by omega) hk
        obtain ⟨q0, q1, q2, q3⟩ := s5 k hk
        have hc : c = 0 ∨ c = 1 ∨ c = 2 ∨ c = 3 := by omega
        rcases hc with rfl | rfl | rfl | rfl
        · have e := (ft 29 0 k (by unfold Sc; omega)).trans q0.symm
          simp (disch := omega) only [pv_lt, pu_ck, pv_bI, pv_bV, pu_bR, pv_bL, pv_nt, pu_us, pu_un, mL_0, mL_1, mL_2, mL_3, mL_4, mL_5, mL_6, mL_7, mL_8, mL_9, mL_10, mL_11, mL_12, mL_13, mL_14, mL_15, mL_16, mL_23, mL_24, mL_32, mL_48, mL_64, mL_99, mL_100, mL_200, mL_336, mL_576, mL_768, mL_800, mL_999, mL_4095, mL_4096, mL_m1, nI_leI, nI_ltI, nI_eq, nI_clamp, nI_add, pk_mul, nI_nu, bI_eq0, bI_eq1, bo_ft, Bool.true_eq_false, Bool.false_eq_true, pu_of, pu_of24, pu_onward, pu_frq, if_true, if_false, true_or, or_true, false_or, or_false, and_true, true_and, and_false, false_and, not_true_eq_false, not_false_eq_true, if_neg, if_pos, F11_step, f11_step_15, f11_step_90, iD, e28, iA, pu_ixN', e, Nat.add_zero]
        · have e := (ft 30 0 k (by unfold Sc; omega)).trans q1.symm
          simp (disch := omega) only [pv_lt, pu_ck, pv_bI, pv_bV, pu_bR, pv_bL, pv_nt, pu_us, pu_un, mL_0, mL_1, mL_2, mL_3, mL_4, mL_5, mL_6, mL_7, mL_8, mL_9, mL_10, mL_11, mL_12, mL_13, mL_14, mL_15, mL_16, mL_23, mL_24, mL_32, mL_48, mL_64, mL_99, mL_100, mL_200, mL_336, mL_576, mL_768, mL_800, mL_999, mL_4095, mL_4096, mL_m1, nI_leI, nI_ltI, nI_eq, nI_clamp, nI_add, pk_mul, nI_nu, bI_eq0, bI_eq1, bo_ft, Bool.true_eq_false, Bool.false_eq_true, pu_of, pu_of24, pu_onward, pu_frq, if_true, if_false, true_or, or_true, false_or, or_false, and_true, true_and, and_false, false_and, not_true_eq_false, not_false_eq_true, if_neg, if_pos, F11_step, f11_step_15, f11_step_90, iD, e28, iA, pu_ixN', e]
        · have e := (ft 31 0 k (by unfold Sc; omega)).trans q2.symm
          simp (disch := omega) only [pv_lt, pu_ck, pv_bI, pv_bV, pu_bR, pv_bL, pv_nt, pu_us, pu_un, mL_0, mL_1, mL_2, mL_3, mL_4, mL_5, mL_6, mL_7, mL_8, mL_9, mL_10, mL_11, mL_12, mL_13, mL_14, mL_15, mL_16, mL_23, mL_24, mL_32, mL_48, mL_64, mL_99, mL_100, mL_200, mL_336, mL_576, mL_768, mL_800, mL_999, mL_4095, mL_4096, mL_m1, nI_leI, nI_ltI, nI_eq, nI_clamp, nI_add, pk_mul, nI_nu, bI_eq0, bI_eq1, bo_ft, Bool.true_eq_false, Bool.false_eq_true, pu_of, pu_of24, pu_onward, pu_frq, if_true, if_false, true_or, or_true, false_or, or_false, and_true, true_and, and_false, false_and, not_true_eq_false, not_false_eq_true, if_neg, if_pos, F11_step, f11_step_15, f11_step_90, iD, e28, iA, pu_ixN', e]
        · have e := (ft 32 0 k (by unfold Sc; omega)).trans q3.symm
          simp (disch := omega) only [pv_lt, pu_ck, pv_bI, pv_bV, pu_bR, pv_bL, pv_nt, pu_us, pu_un, mL_0, mL_1, mL_2, mL_3, mL_4, mL_5, mL_6, mL_7, mL_8, mL_9, mL_10, mL_11, mL_12, mL_13, mL_14, mL_15, mL_16, mL_23, mL_24, mL_32, mL_48, mL_64, mL_99, mL_100, mL_200, mL_336, mL_576, mL_768, mL_800, mL_999, mL_4095, mL_4096, mL_m1, nI_leI, nI_ltI, nI_eq, nI_clamp, nI_add, pk_mul, nI_nu, bI_eq0, bI_eq1, bo_ft, Bool.true_eq_false, Bool.false_eq_true, pu_of, pu_of24, pu_onward, pu_frq, if_true, if_false, true_or, or_true, false_or, or_false, and_true, true_and, and_false, false_and, not_true_eq_false, not_false_eq_true, if_neg, if_pos, F11_step, f11_step_15, f11_step_90, iD, e28, iA, pu_ixN', e]
theorem s_why {i : Nat} (hi : i + 4 ≤ 2048) (a : Int32) : sr_ok2 (sr_Inv i) (sr_Inv (i + 4)) (fun t => F10_why a t) (fun t => F11_why a t) := by
  refine ok2_qf hi (fun t s w X => ?_)
  obtain ⟨O, C, K, nb, sp, R, kp, L, W⟩ := id X
  obtain ⟨_, _, _, _, ⟨wm, w1, w2, w3, w4⟩⟩ := id L
  rcases a_bel a (m := wm) (by omega) with ha | ⟨k, hk, rfl⟩
  · have at0 := at_no w2 ha
    refine ⟨nu 24, ⟨t, ?_, frI_rfl⟩, fun t' X' ft => ⟨sr_u t' 11 0 0 (nI 0), ?_, Sr_0⟩⟩
    · simp (disch := omega) only [pv_lt, pu_ck, pv_bI, pv_bV, pu_bR, pv_bL, pv_nt, pu_us, pu_un, mL_0, mL_1, mL_2, mL_3, mL_4, mL_5, mL_6, mL_7, mL_8, mL_9, mL_10, mL_11, mL_12, mL_13, mL_14, mL_15, mL_16, mL_23, mL_24, mL_32, mL_48, mL_64, mL_99, mL_100, mL_200, mL_336, mL_576, mL_768, mL_800, mL_999, mL_4095, mL_4096, mL_m1, nI_leI, nI_ltI, nI_eq, nI_clamp, nI_add, pk_mul, nI_nu, bI_eq0, bI_eq1, bo_ft, Bool.true_eq_false, Bool.false_eq_true, pu_of, pu_of24, pu_onward, pu_frq, if_true, if_false, true_or, or_true, false_or, or_false, and_true, true_and, and_false, false_and, not_true_eq_false, not_false_eq_true, if_neg, if_pos, F10_why, at0]
    · have e30 : t'.1 11 0 30 = nI wm := by rw [ft _ _ _ (by unfold Sc; omega)]; exact w3
      have iA := iIm_no (t := sr_u t' 11 0 0 (nI 0)) (m := wm) (by omega) ha
      simp (disch := omega) only [pv_lt, pu_ck, pv_bI, pv_bV, pu_bR, pv_bL, pv_nt, pu_us, pu_un, mL_0, mL_1, mL_2, mL_3, mL_4, mL_5, mL_6, mL_7, mL_8, mL_9, mL_10, mL_11, mL_12, mL_13, mL_14, mL_15, mL_16, mL_23, mL_24, mL_32, mL_48, mL_64, mL_99, mL_100, mL_200, mL_336, mL_576, mL_768, mL_800, mL_999, mL_4095, mL_4096, mL_m1, nI_leI, nI_ltI, nI_eq, nI_clamp, nI_add, pk_mul, nI_nu, bI_eq0, bI_eq1, bo_ft, Bool.true_eq_false, Bool.false_eq_true, pu_of, pu_of24, pu_onward, pu_frq, if_true, if_false, true_or, or_true, false_or, or_false, and_true, true_and, and_false, false_and, not_true_eq_false, not_false_eq_true, if_neg, if_pos, F11_why, f11_why_29, e30, iA]
  · refine ⟨t.1 12 104 k, ⟨t, ?_, frI_rfl⟩, fun t' X' ft => ⟨sr_u t' 11 0 0 (nI 0), ?_, Sr_0⟩⟩
    · simp (disch := omega) only [pv_lt, pu_ck, pv_bI, pv_bV, pu_bR, pv_bL, pv_nt, pu_us, pu_un, mL_0, mL_1, mL_2, mL_3, mL_4, mL_5, mL_6, mL_7, mL_8, mL_9, mL_10, mL_11, mL_12, mL_13, mL_14, mL_15, mL_16, mL_23, mL_24, mL_32, mL_48, mL_64, mL_99, mL_100, mL_200, mL_336, mL_576, mL_768, mL_800, mL_999, mL_4095, mL_4096, mL_m1, nI_leI, nI_ltI, nI_eq, nI_clamp, nI_add, pk_mul, nI_nu, bI_eq0, bI_eq1, bo_ft, Bool.true_eq_false, Bool.false_eq_true, pu_of, pu_of24, pu_onward, pu_frq, if_true, if_false, true_or, or_true, false_or, or_false, and_true, true_and, and_false, false_and, not_true_eq_false, not_false_eq_true, if_neg, if_pos, F10_why, F4_at, f4_at_31, w2]
    · have e30 : t'.1 11 0 30 = nI wm := by rw [ft _ _ _ (by unfold Sc; omega)]; exact w3
      have iA := iIm_ok (t := sr_u t' 11 0 0 (nI 0)) (m := wm) (by omega) hk
      have e := (ft 34 0 k (by unfold Sc; omega)).trans (w4 k hk).symm
      simp (disch := omega) only [pv_lt, pu_ck, pv_bI, pv_bV, pu_bR, pv_bL, pv_nt, pu_us, pu_un, mL_0, mL_1, mL_2, mL_3, mL_4, mL_5, mL_6, mL_7, mL_8, mL_9, mL_10, mL_11, mL_12, mL_13, mL_14, mL_15, mL_16, mL_23, mL_24, mL_32, mL_48, mL_64, mL_99, mL_100, mL_200, mL_336, mL_576, mL_768, mL_800, mL_999, mL_4095, mL_4096, mL_m1, nI_leI, nI_ltI, nI_eq, nI_clamp, nI_add, pk_mul, nI_nu, bI_eq0, bI_eq1, bo_ft, Bool.true_eq_false, Bool.false_eq_true, pu_of, pu_of24, pu_onward, pu_frq, if_true, if_false, true_or, or_true, false_or, or_false, and_true, true_and, and_false, false_and, not_true_eq_false, not_false_eq_true, if_neg, if_pos, F11_why, f11_why_29, e30, iA, pu_ixN', e]
theorem s_link {i : Nat} (hi : i + 4 ≤ 2048) (a b : Int32) (p : Bool) : sr_ok3 (sr_Inv i) (sr_Inv (i + 4)) (fun t => FL_link_23 a b (bI p) t) (fun t => F11_link a b (bI p) t) := by
  refine ok3_qf hi (F := F10_link a b (bI p)) (G := F11_link a b (bI p)) (hc := hcL_link_23) (fun t s w X => ?_)
  obtain ⟨O, C, K, nb, sp, R, kp, L, W⟩ := id X
  have hN := O.1.1
  rcases a_node a hN with ha | ⟨n, hn, rfl⟩
  · right
    have n1 := nN_no C ha
    have i1 := iN_no R.1 O.1 ha
    refine ⟨2, nI 1, nI 0, sr_u t 11 0 0 (nI 1), ?_, rfl, by decide, ?_, pu_us, Sr_0⟩
    · simp (disch := omega) only [pv_lt, pu_ck, pv_bI, pv_bV, pu_bR, pv_bL, pv_nt, pu_us, pu_un, mL_0, mL_1, mL_2, mL_3, mL_4, mL_5, mL_6, mL_7, mL_8, mL_9, mL_10, mL_11, mL_12, mL_13, mL_14, mL_15, mL_16, mL_23, mL_24, mL_32, mL_48, mL_64, mL_99, mL_100, mL_200, mL_336, mL_576, mL_768, mL_800, mL_999, mL_4095, mL_4096, mL_m1, nI_leI, nI_ltI, nI_eq, nI_clamp, nI_add, pk_mul, nI_nu, bI_eq0, bI_eq1, bo_ft, Bool.true_eq_false, Bool.false_eq_true, pu_of, pu_of24, pu_onward, pu_frq, if_true, if_false, true_or, or_true, false_or, or_false, and_true, true_and, and_false, false_and, not_true_eq_false, not_false_eq_true, if_neg, if_pos, F10_link, n1, bVr]
    · simp (disch := omega) only [pv_lt, pu_ck, pv_bI, pv_bV, pu_bR, pv_bL, pv_nt, pu_us, pu_un, mL_0, mL_1, mL_2, mL_3, mL_4, mL_5, mL_6, mL_7, mL_8, mL_9, mL_10, mL_11, mL_12, mL_13, mL_14, mL_15, mL_16, mL_23, mL_24, mL_32, mL_48, mL_64, mL_99, mL_100, mL_200, mL_336, mL_576, mL_768, mL_800, mL_999, mL_4095, mL_4096, mL_m1, nI_leI, nI_ltI, nI_eq, nI_clamp, nI_add, pk_mul, nI_nu, bI_eq0, bI_eq1, bo_ft, Bool.true_eq_false, Bool.false_eq_true, pu_of, pu_of24, pu_onward, pu_frq, if_true, if_false, true_or, or_true, false_or, or_false, and_true, true_and, and_false, false_and, not_true_eq_false, not_false_eq_true, if_neg, if_pos, F11_link, f11_link_14, i1]
  · left
    have n1 := nN_ok C O hn
    obtain ⟨o0, o1, o2, o3, o4, o5⟩ := O.2 n hn
    cases p with
    | false =>
      have bf : bI false = nI 0 := rfl
      have Rw := (C.2 n hn).2.1
      rcases a_bel b (m := rg_t s n 1) (by omega) with hb | ⟨k, hk, rfl⟩
      · have at0 := at_no Rw.1 hb
        refine ⟨nu 24, ⟨t, ?_, frI_rfl⟩, fun t' X' ft => ⟨sr_u t' 11 0 0 (nI 0), ?_, pu_us, Sr_0⟩⟩
        · simp (disch := omega) only [pv_lt, pu_ck, pv_bI, pv_bV, pu_bR, pv_bL, pv_nt, pu_us, pu_un, mL_0, mL_1, mL_2, mL_3, mL_4, mL_5, mL_6, mL_7, mL_8, mL_9, mL_10, mL_11, mL_12, mL_13, mL_14, mL_15, mL_16, mL_23, mL_24, mL_32, mL_48, mL_64, mL_99, mL_100, mL_200, mL_336, mL_576, mL_768, mL_800, mL_999, mL_4095, mL_4096, mL_m1, nI_leI, nI_ltI, nI_eq, nI_clamp, nI_add, pk_mul, nI_nu, bI_eq0, bI_eq1, bo_ft, Bool.true_eq_false, Bool.false_eq_true, pu_of, pu_of24, pu_onward, pu_frq, if_true, if_false, true_or, or_true, false_or, or_false, and_true, true_and, and_false, false_and, not_true_eq_false, not_false_eq_true, if_neg, if_pos, F10_link, f10_link_43, n1, bf, at0]
        · obtain ⟨_, _, _, _, _, R', _⟩ := id X'
          obtain ⟨_, _, _, _, _, R0, _⟩ := J_thr (v := nI 0) X'
          have i1 := iN_ok R'.1 O.1 hn
          have tb := pu_tb1 (rg_RN_of R0 O) O hn
          have iA := iIm_no (t := sr_u t' 11 0 0 (nI 0)) (m := rg_t s n 1) (by omega) hb
          simp (disch := omega) only [pv_lt, pu_ck, pv_bI, pv_bV, pu_bR, pv_bL, pv_nt, pu_us, pu_un, mL_0, mL_1, mL_2, mL_3, mL_4, mL_5, mL_6, mL_7, mL_8, mL_9, mL_10, mL_11, mL_12, mL_13, mL_14, mL_15, mL_16, mL_23, mL_24, mL_32, mL_48, mL_64, mL_99, mL_100, mL_200, mL_336, mL_576, mL_768, mL_800, mL_999, mL_4095, mL_4096, mL_m1, nI_leI, nI_ltI, nI_eq, nI_clamp, nI_add, pk_mul, nI_nu, bI_eq0, bI_eq1, bo_ft, Bool.true_eq_false, Bool.false_eq_true, pu_of, pu_of24, pu_onward, pu_frq, if_true, if_false, true_or, or_true, false_or, or_false, and_true, true_and, and_false, false_and, not_true_eq_false, not_false_eq_true, if_neg, if_pos, F11_link, f11_link_14, f11_link_39, f11_link_71, i1, bf, tb, iA]
      · have at0 := pu_at Rw (by omega) hk
        refine ⟨nI (rg_t s n (2 + k)), ⟨t, ?_, frI_rfl⟩, fun t' X' ft => ⟨sr_u t' 11 0 0 (nI 0), ?_, pu_us, Sr_0⟩⟩
        · simp (disch := omega) only [pv_lt, pu_ck, pv_bI, pv_bV, pu_bR, pv_bL, pv_nt, pu_us, pu_un, mL_0, mL_1, mL_2, mL_3, mL_4, mL_5, mL_6, mL_7, mL_8, mL_9, mL_10, mL_11, mL_12, mL_13, mL_14, mL_15, mL_16, mL_23, mL_24, mL_32, mL_48, mL_64, mL_99, mL_100, mL_200, mL_336, mL_576, mL_768, mL_800, mL_999, mL_4095, mL_4096, mL_m1, nI_leI, nI_ltI, nI_eq, nI_clamp, nI_add, pk_mul, nI_nu, bI_eq0, bI_eq1, bo_ft, Bool.true_eq_false, Bool.false_eq_true, pu_of, pu_of24, pu_onward, pu_frq, if_true, if_false, true_or, or_true, false_or, or_false, and_true, true_and, and_false, false_and, not_true_eq_false, not_false_eq_true, if_neg, if_pos, F10_link, f10_link_43, n1, bf, at0]
        · obtain ⟨_, _, _, _, _, R', _⟩ := id X'
          obtain ⟨_, _, _, _, _, R0, _⟩ := J_thr (v := nI 0) X'
          have i1 := iN_ok R'.1 O.1 hn
          have tb := pu_tb1 (rg_RN_of R0 O) O hn
          have tb2 := pu_tb2 (rg_RN_of R0 O) O hn hk
          have iA := iIm_ok (t := sr_u t' 11 0 0 (nI 0)) (m := rg_t s n 1) (by omega) hk
          simp (disch := omega) only [pv_lt, pu_ck, pv_bI, pv_bV, pu_bR, pv_bL, pv_nt, pu_us, pu_un, mL_0, mL_1, mL_2, mL_3, mL_4, mL_5, mL_6, mL_7, mL_8, mL_9, mL_10, mL_11, mL_12, mL_13, mL_14, mL_15, mL_16, mL_23, mL_24, mL_32, mL_48, mL_64, mL_99, mL_100, mL_200, mL_336, mL_576, mL_768, mL_800, mL_999, mL_4095, mL_4096, mL_m1, nI_leI, nI_ltI, nI_eq, nI_clamp, nI_add, pk_mul, nI_nu, bI_eq0, bI_eq1, bo_ft, Bool.true_eq_false, Bool.false_eq_true, pu_of, pu_of24, pu_onward, pu_frq, if_true, if_false, true_or, or_true, false_or, or_false, and_true, true_and, and_false, false_and, not_true_eq_false, not_false_eq_true, if_neg, if_pos, F11_link, f11_link_14, f11_link_39, f11_link_62, f11_link_71, i1, bf, tb, iA, tb2]
    | true =>
      have bt : ¬ bI true = nI 0 := by decide
      have Rw := (C.2 n hn).2.2
      rcases a_bel b (m := rg_t s n 5) (by omega) with hb | ⟨k, hk, rfl⟩
      · have at0 := at_no Rw.1 hb
        refine ⟨nu 24, ⟨t, ?_, frI_rfl⟩, fun t' X' ft => ⟨sr_u t' 11 0 0 (nI 0), ?_, pu_us, Sr_0⟩⟩
        · simp (disch := omega) only [pv_lt, pu_ck, pv_bI, pv_bV, pu_bR, pv_bL, pv_nt, pu_us, pu_un, mL_0, mL_1, mL_2, mL_3, mL_4, mL_5, mL_6, mL_7, mL_8, mL_9, mL_10, mL_11, mL_12, mL_13, mL_14, mL_15, mL_16, mL_23, mL_24, mL_32, mL_48, mL_64, mL_99, mL_100, mL_200, mL_336, mL_576, mL_768, mL_800, mL_999, mL_4095, mL_4096, mL_m1, nI_leI, nI_ltI, nI_eq, nI_clamp, nI_add, pk_mul, nI_nu, bI_eq0, bI_eq1, bo_ft, Bool.true_eq_false, Bool.false_eq_true, pu_of, pu_of24, pu_onward, pu_frq, if_true, if_false, true_or, or_true, false_or, or_false, and_true, true_and, and_false, false_and, not_true_eq_false, not_false_eq_true, if_neg, if_pos, F10_link, f10_link_43, n1, bt, at0]
        · obtain ⟨_, _, _, _, _, R', _⟩ := id X'
          obtain ⟨_, _, _, _, _, R0, _⟩ := J_thr (v := nI 0) X'
          have i1 := iN_ok R'.1 O.1 hn
          have tb := pu_tb5 (rg_RN_of R0 O) O hn
          have iA := iIm_no (t := sr_u t' 11 0 0 (nI 0)) (m := rg_t s n 5) (by omega) hb
          simp (disch := omega) only [pv_lt, pu_ck, pv_bI, pv_bV, pu_bR, pv_bL, pv_nt, pu_us, pu_un, mL_0, mL_1, mL_2, mL_3, mL_4, mL_5, mL_6, mL_7, mL_8, mL_9, mL_10, mL_11, mL_12, mL_13, mL_14, mL_15, mL_16, mL_23, mL_24, mL_32, mL_48, mL_64, mL_99, mL_100, mL_200, mL_336, mL_576, mL_768, mL_800, mL_999, mL_4095, mL_4096, mL_m1, nI_leI, nI_ltI, nI_eq, nI_clamp, nI_add, pk_mul, nI_nu, bI_eq0, bI_eq1, bo_ft, Bool.true_eq_false, Bool.false_eq_true, pu_of, pu_of24, pu_onward, pu_frq, if_true, if_false, true_or, or_true, false_or, or_false, and_true, true_and, and_false, false_and, not_true_eq_false, not_false_eq_true, if_neg, if_pos, F11_link, f11_link_14, f11_link_39, f11_link_71, i1, bt, tb, iA]
      · have at0 := pu_at Rw o4 hk
        refine ⟨nI (rg_t s n (6 + k)), ⟨t, ?_, frI_rfl⟩, fun t' X' ft => ⟨sr_u t' 11 0 0 (nI 0), ?_, pu_us, Sr_0⟩⟩
        · simp (disch := omega) only [pv_lt, pu_ck, pv_bI, pv_bV, pu_bR, pv_bL, pv_nt, pu_us, pu_un, mL_0, mL_1, mL_2, mL_3, mL_4, mL_5, mL_6, mL_7, mL_8, mL_9, mL_10, mL_11, mL_12, mL_13, mL_14, mL_15, mL_16, mL_23, mL_24, mL_32, mL_48, mL_64, mL_99, mL_100, mL_200, mL_336, mL_576, mL_768, mL_800, mL_999, mL_4095, mL_4096, mL_m1, nI_leI, nI_ltI, nI_eq, nI_clamp, nI_add, pk_mul, nI_nu, bI_eq0, bI_eq1, bo_ft, Bool.true_eq_false, Bool.false_eq_true, pu_of, pu_of24, pu_onward, pu_frq, if_true, if_false, true_or, or_true, false_or, or_false, and_true, true_and, and_false, false_and, not_true_eq_false, not_false_eq_true, if_neg, if_pos, F10_link, f10_link_43, n1, bt, at0]
        · obtain ⟨_, _, _, _, _, R', _⟩ := id X'
          obtain ⟨_, _, _, _, _, R0, _⟩ := J_thr (v := nI 0) X'
          have i1 := iN_ok R'.1 O.1 hn
          have tb := pu_tb5 (rg_RN_of R0 O) O hn
          have tb2 := pu_tb6 (rg_RN_of R0 O) O hn hk
          have iA := iIm_ok (t := sr_u t' 11 0 0 (nI 0)) (m := rg_t s n 5) (by omega) hk
          simp (disch := omega) only [pv_lt, pu_ck, pv_bI, pv_bV, pu_bR, pv_bL, pv_nt, pu_us, pu_un, mL_0, mL_1, mL_2, mL_3, mL_4, mL_5, mL_6, mL_7, mL_8, mL_9, mL_10, mL_11, mL_12, mL_13, mL_14, mL_15, mL_16, mL_23, mL_24, mL_32, mL_48, mL_64, mL_99, mL_100, mL_200, mL_336, mL_576, mL_768, mL_800, mL_999, mL_4095, mL_4096, mL_m1, nI_leI, nI_ltI, nI_eq, nI_clamp, nI_add, pk_mul, nI_nu, bI_eq0, bI_eq1, bo_ft, Bool.true_eq_false, Bool.false_eq_true, pu_of, pu_of24, pu_onward, pu_frq, if_true, if_false, true_or, or_true, false_or, or_false, and_true, true_and, and_false, false_and, not_true_eq_false, not_false_eq_true, if_neg, if_pos, F11_link, f11_link_14, f11_link_39, f11_link_62, f11_link_71, i1, bt, tb, iA, tb2]
end
