section
/-! step: far -/
theorem pr_spread {t : sr_t} {s : rg_T} {a : Nat} (R : rg_R t s) (O : rg_ok s) (ha : a < rg_N s) (hu : rg_u s a = true) : ∃ t', F11_spreads (nI a) t = some (.inl none, t') ∧ (∀ y, y < rg_N s → t'.1 43 0 y = nu (dst s a y)) ∧ fr S_bf t t' := by
  have hN := O.1.1
  have e1 : ∃ t1, ((∀ y, y < rg_N s → t1.1 43 0 y = nu (if y = a then 0 else 24)) ∧ fr S_bf t t1) ∧ f11_spreads_2 (nI a) (f11_spreads_32 (nI a)) sr_fu (nI 0) t = f11_spreads_32 (nI a) t1 := by
    refine pu_forR (N := rg_N s) (L := fun f n t' => f11_spreads_2 (nI a) (f11_spreads_32 (nI a)) f (nI n) t') (fin := fun t' => f11_spreads_32 (nI a) t') (P := fun n t' => (∀ y, y < n → t'.1 43 0 y = nu (if y = a then 0 else 24)) ∧ fr S_bf t t') ?_ ?_ (by unfold sr_fu; omega) ⟨fun y hy => by omega, fr_rfl⟩
    · rintro n g t' hn ⟨p1, p2⟩
      have R' : rg_R t' s := rg_R_fr O p2 (fun k i j q => by unfold Fp_R at q; unfold S_bf; omega) R
      have h3 := R'.1.1.1
      have fin : ∀ v : Int32, v = nu (if n = a then 0 else 24) → ((∀ m, m < n + 1 → (sr_u t' 43 0 n v).1 43 0 m = nu (if m = a then 0 else 24)) ∧ fr S_bf t (sr_u t' 43 0 n v)) := by
        rintro v rfl
        refine ⟨fun m hm => ?_, fr_u p2 (Or.inl rfl)⟩
        by_cases e : m = n
        · subst e; rw [pu_us]
        · rw [pu_un (by omega)]; exact p1 m (by omega)
      show ∃ t2, ((∀ m, m < n + 1 → t2.1 43 0 m = nu (if m = a then 0 else 24)) ∧ fr S_bf t t2) ∧ f11_spreads_2 (nI a) (f11_spreads_32 (nI a)) (g + 1) (nI n) t' = f11_spreads_2 (nI a) (f11_spreads_32 (nI a)) g (nI (n + 1)) t2
      by_cases e : n = a
      · refine ⟨sr_u t' 43 0 n (nI 0), fin _ (by rw [if_pos e]; rfl), ?_⟩
        simp (disch := omega) only [pv_lt, pu_ck, pv_bI, pv_bV, pu_bR, pv_bL, pv_nt, pu_us, pu_un, mL_0, mL_1, mL_2, mL_3, mL_4, mL_5, mL_6, mL_7, mL_8, mL_9, mL_10, mL_11, mL_12, mL_13, mL_14, mL_15, mL_16, mL_23, mL_24, mL_32, mL_48, mL_64, mL_99, mL_100, mL_200, mL_336, mL_576, mL_768, mL_800, mL_999, mL_4095, mL_4096, mL_m1, nI_leI, nI_ltI, nI_eq, nI_clamp, nI_add, pk_mul, nI_nu, bI_eq0, bI_eq1, bo_ft, Bool.true_eq_false, Bool.false_eq_true, pu_of, pu_of24, pu_onward, pu_frq, if_true, if_false, true_or, or_true, false_or, or_false, and_true, true_and, and_false, false_and, not_true_eq_false, not_false_eq_true, if_neg, if_pos, f11_spreads_2, f11_spreads_25, h3, pu_ixN']
      · refine ⟨sr_u t' 43 0 n (nu 24), fin _ (by rw [if_neg e]), ?_⟩
        simp (disch := omega) only [pv_lt, pu_ck, pv_bI, pv_bV, pu_bR, pv_bL, pv_nt, pu_us, pu_un, mL_0, mL_1, mL_2, mL_3, mL_4, mL_5, mL_6, mL_7, mL_8, mL_9, mL_10, mL_11, mL_12, mL_13, mL_14, mL_15, mL_16, mL_23, mL_24, mL_32, mL_48, mL_64, mL_99, mL_100, mL_200, mL_336, mL_576, mL_768, mL_800, mL_999, mL_4095, mL_4096, mL_m1, nI_leI, nI_ltI, nI_eq, nI_clamp, nI_add, pk_mul, nI_nu, bI_eq0, bI_eq1, bo_ft, Bool.true_eq_false, Bool.false_eq_true, pu_of, pu_of24, pu_onward, pu_frq, if_true, if_false, true_or, or_true, false_or, or_false, and_true, true_and, and_false, false_and, not_true_eq_false, not_false_eq_true, if_neg, if_pos, f11_spreads_2, f11_spreads_25, h3, pu_ixN']
    · rintro g t' ⟨p1, p2⟩
      have R' : rg_R t' s := rg_R_fr O p2 (fun k i j q => by unfold Fp_R at q; unfold S_bf; omega) R
      have h3 := R'.1.1.1
      show f11_spreads_2 (nI a) (f11_spreads_32 (nI a)) (g + 1) (nI (rg_N s)) t' = _
      simp (disch := omega) only [pv_lt, pu_ck, pv_bI, pv_bV, pu_bR, pv_bL, pv_nt, pu_us, pu_un, mL_0, mL_1, mL_2, mL_3, mL_4, mL_5, mL_6, mL_7, mL_8, mL_9, mL_10, mL_11, mL_12, mL_13, mL_14, mL_15, mL_16, mL_23, mL_24, mL_32, mL_48, mL_64, mL_99, mL_100, mL_200, mL_336, mL_576, mL_768, mL_800, mL_999, mL_4095, mL_4096, mL_m1, nI_leI, nI_ltI, nI_eq, nI_clamp, nI_add, pk_mul, nI_nu, bI_eq0, bI_eq1, bo_ft, Bool.true_eq_false, Bool.false_eq_true, pu_of, pu_of24, pu_onward, pu_frq, if_true, if_false, true_or, or_true, false_or, or_false, and_true, true_and, and_false, false_and, not_true_eq_false, not_false_eq_true, if_neg, if_pos, f11_spreads_2, h3]
  obtain ⟨t1, ⟨p1, p2⟩, e1⟩ := e1
  have e2 : f11_spreads_32 (nI a) t1 = f11_spreads_43 (nI a) (f11_spreads_139 (nI a)) sr_fu (nI 1) (nI 0) (sr_u t1 44 0 0 (nI a)) := rfl
  have st : F11_spreads (nI a) t = f11_spreads_43 (nI a) (f11_spreads_139 (nI a)) sr_fu (nI 1) (nI 0) (sr_u t1 44 0 0 (nI a)) := e1.trans e2
  rw [st]
  refine rs_via fun Q hQ => ?_
  have I0 : bf_I s a (fun _ => a) 1 (fun y => if y = a then 0 else 24) := by
    refine ⟨⟨by omega, ?_⟩, fun i hi => ⟨ha, hu, ?_⟩, fun y hy => ⟨?_, fun h => ⟨0, by omega, ?_⟩⟩, fun i j _ _ => Nat.le_refl _, fun y hy h => ?_, if_pos rfl⟩
    · refine (cu_one (m := a) ha (by simp) (fun n hn hne => by simp [hne])).symm
    · show (if a = a then 0 else 24) ≤ i
      rw [if_pos rfl]; omega
    · show (if y = a then 0 else 24) ≤ 24
      split <;> omega
    · have h' : (if y = a then 0 else 24) < 24 := h
      split at h'
      · rename_i e; exact e.symm
      · omega
    · have h' : (if y = a then 0 else 24) < 24 := h
      show bs (Se s a (if y = a then 0 else 24)) y = true
      split at h'
      · rename_i e
        rw [if_pos e, e]
        show bs (ob a) a = true
        rw [bs_ob (by omega) (by omega), decide_eq_true rfl]
      · omega
  have H0 : bf_H s t (fun _ => a) 1 (fun y => if y = a then 0 else 24) (sr_u t1 44 0 0 (nI a)) := by
    refine ⟨fun i hi => ?_, fun y hy => ?_, fr_u p2 (Or.inr rfl)⟩
    · rw [show i = 0 by omega, pu_us]
    · rw [pu_un (by omega)]; exact p1 y hy
  refine rs_loopA (α := bf_A) (N := rg_N s) (L := fun f h z => f11_spreads_43 (nI a) (f11_spreads_139 (nI a)) f (nI z.2.1) (nI h) z.2.2.2) (fun h z => bf_I s a z.1 z.2.1 z.2.2.1 ∧ h ≤ z.2.1 ∧ bf_P s z.1 z.2.2.1 h ∧ (h < z.2.1 → ∀ j, j < z.2.1 → z.2.2.1 (z.1 j) ≤ z.2.2.1 (z.1 h) + 1) ∧ bf_H s t z.1 z.2.1 z.2.2.1 z.2.2.2) ?_ ?_ (a := (fun _ => a, 1, fun y => if y = a then 0 else 24, sr_u t1 44 0 0 (nI a))) (by unfold sr_fu; omega) ⟨I0, by show 0 ≤ 1; omega, fun i hi => by omega, fun _ j hj => by show (if a = a then 0 else 24) ≤ (if a = a then 0 else 24) + 1; omega, H0⟩
  · rintro h g ⟨q, tl, d, t2⟩ hN' ⟨I, hle, P, mx, H⟩
    have I : bf_I s a q tl d := I
    have hle : h ≤ tl := hle
    have P : bf_P s q d h := P
    have mx : h < tl → ∀ j, j < tl → d (q j) ≤ d (q h) + 1 := mx
    have H : bf_H s t q tl d t2 := H
    have tlN := bf_tl I
    show (∃ z' : bf_A, (bf_I s a z'.1 z'.2.1 z'.2.2.1 ∧ h + 1 ≤ z'.2.1 ∧ bf_P s z'.1 z'.2.2.1 (h + 1) ∧ (h + 1 < z'.2.1 → ∀ j, j < z'.2.1 → z'.2.2.1 (z'.1 j) ≤ z'.2.2.1 (z'.1 (h + 1)) + 1) ∧ bf_H s t z'.1 z'.2.1 z'.2.2.1 z'.2.2.2) ∧ f11_spreads_43 (nI a) (f11_spreads_139 (nI a)) (g + 1) (nI tl) (nI h) t2 = f11_spreads_43 (nI a) (f11_spreads_139 (nI a)) g (nI z'.2.1) (nI (h + 1)) z'.2.2.2) ∨ rs_to Q (f11_spreads_43 (nI a) (f11_spreads_139 (nI a)) (g + 1) (nI tl) (nI h) t2)
    by_cases c : h < tl
    · left
      have R2 : rg_R t2 s := rg_R_fr O H.2.2 (fun k i j q => by unfold Fp_R at q; unfold S_bf; omega) R
      have xq := I.2.1 h c
      have e44 := H.1 h c
      have eu := pr_upLinks R2 O xq.1 xq.2.1
      obtain ⟨z', ⟨I', h', P', m', H'⟩, e⟩ := pr_ahead (b := nI a) (K := f11_spreads_133 (nI a) (f11_spreads_43 (nI a) (f11_spreads_139 (nI a)) g) (f11_spreads_139 (nI a))) (z := (q, tl, d, t2)) R O I c P (mx c) H
      refine ⟨z', ⟨I', h', P', fun c' j hj => ?_, H'⟩, ?_⟩
      · have a1 := m' j hj
        have a2 := I'.2.2.2.1 h (h + 1) (by omega) c'
        omega
      · have e' : f11_spreads_63 (nI a) (f11_spreads_133 (nI a) (f11_spreads_43 (nI a) (f11_spreads_139 (nI a)) g) (f11_spreads_139 (nI a))) sr_fu (nI tl) (nI h) (UL s (q h)) (nI 0) t2 = f11_spreads_43 (nI a) (f11_spreads_139 (nI a)) g (nI z'.2.1) (nI h + 1) z'.2.2.2 := e
        have e'' : nI h + 1 = nI (h + 1) := nI_add h 1
        rw [e''] at e'
        rw [← e']
        simp (disch := omega) only [pv_lt, pu_ck, pv_bI, pv_bV, pu_bR, pv_bL, pv_nt, pu_us, pu_un, mL_0, mL_1, mL_2, mL_3, mL_4, mL_5, mL_6, mL_7, mL_8, mL_9, mL_10, mL_11, mL_12, mL_13, mL_14, mL_15, mL_16, mL_23, mL_24, mL_32, mL_48, mL_64, mL_99, mL_100, mL_200, mL_336, mL_576, mL_768, mL_800, mL_999, mL_4095, mL_4096, mL_m1, nI_leI, nI_ltI, nI_eq, nI_clamp, nI_add, pk_mul, nI_nu, bI_eq0, bI_eq1, bo_ft, Bool.true_eq_false, Bool.false_eq_true, pu_of, pu_of24, pu_onward, pu_frq, if_true, if_false, true_or, or_true, false_or, or_false, and_true, true_and, and_false, false_and, not_true_eq_false, not_false_eq_true, if_neg, if_pos, f11_spreads_43, e44, eu, pu_ixN']
    · right
      have he : h = tl := by omega
      have f := bf_end O ha I (by rw [← he]; exact P)
      simp (disch := omega) only [pv_lt, pu_ck, pv_bI, pv_bV, pu_bR, pv_bL, pv_nt, pu_us, pu_un, mL_0, mL_1, mL_2, mL_3, mL_4, mL_5, mL_6, mL_7, mL_8, mL_9, mL_10, mL_11, mL_12, mL_13, mL_14, mL_15, mL_16, mL_23, mL_24, mL_32, mL_48, mL_64, mL_99, mL_100, mL_200, mL_336, mL_576, mL_768, mL_800, mL_999, mL_4095, mL_4096, mL_m1, nI_leI, nI_ltI, nI_eq, nI_clamp, nI_add, pk_mul, nI_nu, bI_eq0, bI_eq1, bo_ft, Bool.true_eq_false, Bool.false_eq_true, pu_of, pu_of24, pu_onward, pu_frq, if_true, if_false, true_or, or_true, false_or, or_false, and_true, true_and, and_false, false_and, not_true_eq_false, not_false_eq_true, if_neg, if_pos, f11_spreads_43, f11_spreads_139]
      exact rs_ret (hQ _ ⟨fun y hy => by rw [H.2.1 y hy, f y hy], H.2.2⟩)
  · rintro g ⟨q, tl, d, t2⟩ ⟨I, hle, P, mx, H⟩
    have I : bf_I s a q tl d := I
    have hle : rg_N s ≤ tl := hle
    have P : bf_P s q d (rg_N s) := P
    have H : bf_H s t q tl d t2 := H
    have tlN := bf_tl I
    show rs_to Q (f11_spreads_43 (nI a) (f11_spreads_139 (nI a)) (g + 1) (nI tl) (nI (rg_N s)) t2)
    have he : tl = rg_N s := by omega
    have f := bf_end O ha I (by rw [he]; exact P)
    simp (disch := omega) only [pv_lt, pu_ck, pv_bI, pv_bV, pu_bR, pv_bL, pv_nt, pu_us, pu_un, mL_0, mL_1, mL_2, mL_3, mL_4, mL_5, mL_6, mL_7, mL_8, mL_9, mL_10, mL_11, mL_12, mL_13, mL_14, mL_15, mL_16, mL_23, mL_24, mL_32, mL_48, mL_64, mL_99, mL_100, mL_200, mL_336, mL_576, mL_768, mL_800, mL_999, mL_4095, mL_4096, mL_m1, nI_leI, nI_ltI, nI_eq, nI_clamp, nI_add, pk_mul, nI_nu, bI_eq0, bI_eq1, bo_ft, Bool.true_eq_false, Bool.false_eq_true, pu_of, pu_of24, pu_onward, pu_frq, if_true, if_false, true_or, or_true, false_or, or_false, and_true, true_and, and_false, false_and, not_true_eq_false, not_false_eq_true, if_neg, if_pos, f11_spreads_43, f11_spreads_139]
    exact rs_ret (hQ _ ⟨fun y hy => by rw [H.2.1 y hy, f y hy], H.2.2⟩)
theorem s_far {i : Nat} (hi : i + 4 ≤ 2048) (a b : Int32) : sr_ok3 (sr_Inv i) (sr_Inv (i + 4)) (fun t => FL_far_23 a b t) (fun t => F11_far a b t) := by
  refine ok3_qf hi (F := F10_far a b) (G := F11_far a b) (hc := hcL_far_23) (fun t s w X => ?_)
  obtain ⟨O, C, K, nb, sp, R, kp, L, W⟩ := id X
  have hN := O.1.1
  have thr : ∀ {T : sr_t} {x y u : Int32}, u = nI 1 ∨ u = nI 2 → f11_far_44 x y u T = some (.inl (some (sr_i (nI 0))), sr_u T 11 0 0 u) := by
    intro T x y u hu
    rcases hu with rfl | rfl <;> simp (disch := omega) only [pv_lt, pu_ck, pv_bI, pv_bV, pu_bR, pv_bL, pv_nt, pu_us, pu_un, mL_0, mL_1, mL_2, mL_3, mL_4, mL_5, mL_6, mL_7, mL_8, mL_9, mL_10, mL_11, mL_12, mL_13, mL_14, mL_15, mL_16, mL_23, mL_24, mL_32, mL_48, mL_64, mL_99, mL_100, mL_200, mL_336, mL_576, mL_768, mL_800, mL_999, mL_4095, mL_4096, mL_m1, nI_leI, nI_ltI, nI_eq, nI_clamp, nI_add, pk_mul, nI_nu, bI_eq0, bI_eq1, bo_ft, Bool.true_eq_false, Bool.false_eq_true, pu_of, pu_of24, pu_onward, pu_frq, if_true, if_false, true_or, or_true, false_or, or_false, and_true, true_and, and_false, false_and, not_true_eq_false, not_false_eq_true, if_neg, if_pos, f11_far_44]
  rcases a_node a hN with ha | ⟨n, hn, rfl⟩
  · right
    have n1 := nN_no C ha
    have i1 := iN_no R.1 O.1 ha
    refine ⟨2, nI 1, nI 0, sr_u t 11 0 0 (nI 1), ?_, rfl, by decide, ?_, pu_us, Sr_0⟩
    · simp (disch := omega) only [pv_lt, pu_ck, pv_bI, pv_bV, pu_bR, pv_bL, pv_nt, pu_us, pu_un, mL_0, mL_1, mL_2, mL_3, mL_4, mL_5, mL_6, mL_7, mL_8, mL_9, mL_10, mL_11, mL_12, mL_13, mL_14, mL_15, mL_16, mL_23, mL_24, mL_32, mL_48, mL_64, mL_99, mL_100, mL_200, mL_336, mL_576, mL_768, mL_800, mL_999, mL_4095, mL_4096, mL_m1, nI_leI, nI_ltI, nI_eq, nI_clamp, nI_add, pk_mul, nI_nu, bI_eq0, bI_eq1, bo_ft, Bool.true_eq_false, Bool.false_eq_true, pu_of, pu_of24, pu_onward, pu_frq, if_true, if_false, true_or, or_true, false_or, or_false, and_true, true_and, and_false, false_and, not_true_eq_false, not_false_eq_true, if_neg, if_pos, F10_far, n1, bVr]
    · simp (disch := omega) only [pv_lt, pu_ck, pv_bI, pv_bV, pu_bR, pv_bL, pv_nt, pu_us, pu_un, mL_0, mL_1, mL_2, mL_3, mL_4, mL_5, mL_6, mL_7, mL_8, mL_9, mL_10, mL_11, mL_12, mL_13, mL_14, mL_15, mL_16, mL_23, mL_24, mL_32, mL_48, mL_64, mL_99, mL_100, mL_200, mL_336, mL_576, mL_768, mL_800, mL_999, mL_4095, mL_4096, mL_m1, nI_leI, nI_ltI, nI_eq, nI_clamp, nI_add, pk_mul, nI_nu, bI_eq0, bI_eq1, bo_ft, Bool.true_eq_false, Bool.false_eq_true, pu_of, pu_of24, pu_onward, pu_frq, if_true, if_false, true_or, or_true, false_or, or_false, and_true, true_and, and_false, false_and, not_true_eq_false, not_false_eq_true, if_neg, if_pos, F11_far, i1]
      exact thr (Or.inl rfl)
  · have n1 := nN_ok C O hn
    have i1 := iN_ok R.1 O.1 hn
    rcases a_node b hN with hb | ⟨m, hm, rfl⟩
    · right
      have n2 := nN_no C hb
      have i2 := iN_no R.1 O.1 hb
      refine ⟨2, nI 1, nI 0, sr_u t 11 0 0 (nI 1), ?_, rfl, by decide, ?_, pu_us, Sr_0⟩
      · simp (disch := omega) only [pv_lt, pu_ck, pv_bI, pv_bV, pu_bR, pv_bL, pv_nt, pu_us, pu_un, mL_0, mL_1, mL_2, mL_3, mL_4, mL_5, mL_6, mL_7, mL_8, mL_9, mL_10, mL_11, mL_12, mL_13, mL_14, mL_15, mL_16, mL_23, mL_24, mL_32, mL_48, mL_64, mL_99, mL_100, mL_200, mL_336, mL_576, mL_768, mL_800, mL_999, mL_4095, mL_4096, mL_m1, nI_leI, nI_ltI, nI_eq, nI_clamp, nI_add, pk_mul, nI_nu, bI_eq0, bI_eq1, bo_ft, Bool.true_eq_false, Bool.false_eq_true, pu_of, pu_of24, pu_onward, pu_frq, if_true, if_false, true_or, or_true, false_or, or_false, and_true, true_and, and_false, false_and, not_true_eq_false, not_false_eq_true, if_neg, if_pos, F10_far, n1, n2, bVr]
      · simp (disch := omega) only [pv_lt, pu_ck, pv_bI, pv_bV, pu_bR, pv_bL, pv_nt, pu_us, pu_un, mL_0, mL_1, mL_2, mL_3, mL_4, mL_5, mL_6, mL_7, mL_8, mL_9, mL_10, mL_11, mL_12, mL_13, mL_14, mL_15, mL_16, mL_23, mL_24, mL_32, mL_48, mL_64, mL_99, mL_100, mL_200, mL_336, mL_576, mL_768, mL_800, mL_999, mL_4095, mL_4096, mL_m1, nI_leI, nI_ltI, nI_eq, nI_clamp, nI_add, pk_mul, nI_nu, bI_eq0, bI_eq1, bo_ft, Bool.true_eq_false, Bool.false_eq_true, pu_of, pu_of24, pu_onward, pu_frq, if_true, if_false, true_or, or_true, false_or, or_false, and_true, true_and, and_false, false_and, not_true_eq_false, not_false_eq_true, if_neg, if_pos, F11_far, i1, i2]
        exact thr (Or.inl rfl)
    · have n2 := nN_ok C O hm
      have i2 := iN_ok R.1 O.1 hm
      have u1 := (R.1.2 n hn).2.1
      have u2 := (R.1.2 m hm).2.1
      cases hun : rg_u s n with
      | false =>
        right
        have nU := nU_no C O hn hun
        rw [hun, show bI false = nI 0 from rfl] at u1
        refine ⟨1, nI 2, nI 0, sr_u t 11 0 0 (nI 2), ?_, rfl, by decide, ?_, pu_us, Sr_0⟩
        · simp (disch := omega) only [pv_lt, pu_ck, pv_bI, pv_bV, pu_bR, pv_bL, pv_nt, pu_us, pu_un, mL_0, mL_1, mL_2, mL_3, mL_4, mL_5, mL_6, mL_7, mL_8, mL_9, mL_10, mL_11, mL_12, mL_13, mL_14, mL_15, mL_16, mL_23, mL_24, mL_32, mL_48, mL_64, mL_99, mL_100, mL_200, mL_336, mL_576, mL_768, mL_800, mL_999, mL_4095, mL_4096, mL_m1, nI_leI, nI_ltI, nI_eq, nI_clamp, nI_add, pk_mul, nI_nu, bI_eq0, bI_eq1, bo_ft, Bool.true_eq_false, Bool.false_eq_true, pu_of, pu_of24, pu_onward, pu_frq, if_true, if_false, true_or, or_true, false_or, or_false, and_true, true_and, and_false, false_and, not_true_eq_false, not_false_eq_true, if_neg, if_pos, F10_far, n1, n2, nU, bVr]
        · simp (disch := omega) only [pv_lt, pu_ck, pv_bI, pv_bV, pu_bR, pv_bL, pv_nt, pu_us, pu_un, mL_0, mL_1, mL_2, mL_3, mL_4, mL_5, mL_6, mL_7, mL_8, mL_9, mL_10, mL_11, mL_12, mL_13, mL_14, mL_15, mL_16, mL_23, mL_24, mL_32, mL_48, mL_64, mL_99, mL_100, mL_200, mL_336, mL_576, mL_768, mL_800, mL_999, mL_4095, mL_4096, mL_m1, nI_leI, nI_ltI, nI_eq, nI_clamp, nI_add, pk_mul, nI_nu, bI_eq0, bI_eq1, bo_ft, Bool.true_eq_false, Bool.false_eq_true, pu_of, pu_of24, pu_onward, pu_frq, if_true, if_false, true_or, or_true, false_or, or_false, and_true, true_and, and_false, false_and, not_true_eq_false, not_false_eq_true, if_neg, if_pos, F11_far, i1, i2, u1, pu_ixN']
          exact thr (Or.inr rfl)
      | true =>
        have nU := nU_ok C O hn hun
        rw [hun, show bI true = nI 1 from rfl] at u1
        cases hum : rg_u s m with
        | false =>
          right
          have nV := nU_no C O hm hum
          rw [hum, show bI false = nI 0 from rfl] at u2
          refine ⟨1, nI 2, nI 0, sr_u t 11 0 0 (nI 2), ?_, rfl, by decide, ?_, pu_us, Sr_0⟩
          · simp (disch := omega) only [pv_lt, pu_ck, pv_bI, pv_bV, pu_bR, pv_bL, pv_nt, pu_us, pu_un, mL_0, mL_1, mL_2, mL_3, mL_4, mL_5, mL_6, mL_7, mL_8, mL_9, mL_10, mL_11, mL_12, mL_13, mL_14, mL_15, mL_16, mL_23, mL_24, mL_32, mL_48, mL_64, mL_99, mL_100, mL_200, mL_336, mL_576, mL_768, mL_800, mL_999, mL_4095, mL_4096, mL_m1, nI_leI, nI_ltI, nI_eq, nI_clamp, nI_add, pk_mul, nI_nu, bI_eq0, bI_eq1, bo_ft, Bool.true_eq_false, Bool.false_eq_true, pu_of, pu_of24, pu_onward, pu_frq, if_true, if_false, true_or, or_true, false_or, or_false, and_true, true_and, and_false, false_and, not_true_eq_false, not_false_eq_true, if_neg, if_pos, F10_far, n1, n2, nU, nV, bVr]
          · simp (disch := omega) only [pv_lt, pu_ck, pv_bI, pv_bV, pu_bR, pv_bL, pv_nt, pu_us, pu_un, mL_0, mL_1, mL_2, mL_3, mL_4, mL_5, mL_6, mL_7, mL_8, mL_9, mL_10, mL_11, mL_12, mL_13, mL_14, mL_15, mL_16, mL_23, mL_24, mL_32, mL_48, mL_64, mL_99, mL_100, mL_200, mL_336, mL_576, mL_768, mL_800, mL_999, mL_4095, mL_4096, mL_m1, nI_leI, nI_ltI, nI_eq, nI_clamp, nI_add, pk_mul, nI_nu, bI_eq0, bI_eq1, bo_ft, Bool.true_eq_false, Bool.false_eq_true, pu_of, pu_of24, pu_onward, pu_frq, if_true, if_false, true_or, or_true, false_or, or_false, and_true, true_and, and_false, false_and, not_true_eq_false, not_false_eq_true, if_neg, if_pos, F11_far, i1, i2, u1, u2, pu_ixN']
            exact thr (Or.inr rfl)
        | true =>
          left
          have nV := nU_ok C O hm hum
          obtain ⟨t1, e1, f1⟩ := pc_far (a := n) (b := m) C O (by omega) (by omega)
          refine ⟨nu (dst s n m), ⟨t1, ?_, fun k i j q => f1.2 k i j (fun e => q (by unfold S_17 at e; unfold Sc; omega))⟩, fun t' X' ft => ?_⟩
          · simp (disch := omega) only [pv_lt, pu_ck, pv_bI, pv_bV, pu_bR, pv_bL, pv_nt, pu_us, pu_un, mL_0, mL_1, mL_2, mL_3, mL_4, mL_5, mL_6, mL_7, mL_8, mL_9, mL_10, mL_11, mL_12, mL_13, mL_14, mL_15, mL_16, mL_23, mL_24, mL_32, mL_48, mL_64, mL_99, mL_100, mL_200, mL_336, mL_576, mL_768, mL_800, mL_999, mL_4095, mL_4096, mL_m1, nI_leI, nI_ltI, nI_eq, nI_clamp, nI_add, pk_mul, nI_nu, bI_eq0, bI_eq1, bo_ft, Bool.true_eq_false, Bool.false_eq_true, pu_of, pu_of24, pu_onward, pu_frq, if_true, if_false, true_or, or_true, false_or, or_false, and_true, true_and, and_false, false_and, not_true_eq_false, not_false_eq_true, if_neg, if_pos, F10_far, n1, n2, nU, nV, e1]
          · have R' := X'.2.2.2.2.2.1
            have i1 := iN_ok R'.1 O.1 hn
            have i2 := iN_ok R'.1 O.1 hm
            have u1 := (R'.1.2 n hn).2.1
            have u2 := (R'.1.2 m hm).2.1
            rw [hun, show bI true = nI 1 from rfl] at u1
            rw [hum, show bI true = nI 1 from rfl] at u2
            obtain ⟨t2, e2, g2, f2⟩ := pr_spread (J_thr (v := nI 0) X').2.2.2.2.2.1 O hn hun
            have v := g2 m hm
            refine ⟨t2, ?_, (Sr_q (fr_mono f2 (fun k i j q => by unfold S_bf at q; unfold Sr0; omega))).1, (Sr_q (fr_mono f2 (fun k i j q => by unfold S_bf at q; unfold Sr0; omega))).2⟩
            simp (disch := omega) only [pv_lt, pu_ck, pv_bI, pv_bV, pu_bR, pv_bL, pv_nt, pu_us, pu_un, mL_0, mL_1, mL_2, mL_3, mL_4, mL_5, mL_6, mL_7, mL_8, mL_9, mL_10, mL_11, mL_12, mL_13, mL_14, mL_15, mL_16, mL_23, mL_24, mL_32, mL_48, mL_64, mL_99, mL_100, mL_200, mL_336, mL_576, mL_768, mL_800, mL_999, mL_4095, mL_4096, mL_m1, nI_leI, nI_ltI, nI_eq, nI_clamp, nI_add, pk_mul, nI_nu, bI_eq0, bI_eq1, bo_ft, Bool.true_eq_false, Bool.false_eq_true, pu_of, pu_of24, pu_onward, pu_frq, if_true, if_false, true_or, or_true, false_or, or_false, and_true, true_and, and_false, false_and, not_true_eq_false, not_false_eq_true, if_neg, if_pos, F11_far, i1, i2, u1, u2, pu_ixN']
            simp (disch := omega) only [pv_lt, pu_ck, pv_bI, pv_bV, pu_bR, pv_bL, pv_nt, pu_us, pu_un, mL_0, mL_1, mL_2, mL_3, mL_4, mL_5, mL_6, mL_7, mL_8, mL_9, mL_10, mL_11, mL_12, mL_13, mL_14, mL_15, mL_16, mL_23, mL_24, mL_32, mL_48, mL_64, mL_99, mL_100, mL_200, mL_336, mL_576, mL_768, mL_800, mL_999, mL_4095, mL_4096, mL_m1, nI_leI, nI_ltI, nI_eq, nI_clamp, nI_add, pk_mul, nI_nu, bI_eq0, bI_eq1, bo_ft, Bool.true_eq_false, Bool.false_eq_true, pu_of, pu_of24, pu_onward, pu_frq, if_true, if_false, true_or, or_true, false_or, or_false, and_true, true_and, and_false, false_and, not_true_eq_false, not_false_eq_true, if_neg, if_pos, f11_far_44, e2, v, pu_ixN']
end
