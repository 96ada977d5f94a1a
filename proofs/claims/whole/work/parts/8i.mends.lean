section
/-! count: the first to mend -/
theorem mL_much : (100000000 : Int32) = nI 100000000 := by decide
def ms (s : rg_T) (n : Nat) : rg_T := rg_st s n (rg_lay s (rg_b s) (rg_d s) n)
def fm (s : rg_T) (n : Nat) : Nat := sS (ms s n) (fH (ms s n) true) (64 * rg_N s)
theorem fm_le {s : rg_T} {n : Nat} (O : rg_ok s) : fm s n ≤ 307200 := sSH_le (by have := O.1.1; omega)
theorem pc_hopsM {i n : Nat} {t : sr_t} {s : rg_T} {w : st_T} (X : J i t s w) (hn : n < rg_N s) (hu : rg_u s n = true) : ∃ t1, F1_hopsIfMended 0 (nI n) t = some (.inl (some (sr_i (nI (fm s n)))), t1) ∧ fr Sc t t1 := by
  have O := X.1
  have hN := O.1.1
  obtain ⟨t1, e1, c1, k1, f1⟩ := pc_copy X
  obtain ⟨t2, e2, c2, k2, ok2, f2⟩ := pu_layAgain (r := 1) (n := n) c1.1 (fun m hm _ => ⟨c1.2 m hm, O.2 m hm⟩) O.1 (by omega) hn hu
  obtain ⟨t3, e3, I3, _, f3⟩ := pc_run (best := true) (tr := false) c2 k2 ok2 (by omega)
  have e3' : F5_run 1 (nI 1) (nI 0) t2 = some (.inl none, t3) := e3
  have z : t3.1 5 0 3 = nI (fm s n) := I3.1
  refine ⟨t3, ?_, fr_trans (fr_mono f1 (fun k i j q => S_tr_Sc q)) (fr_trans (fr_mono f2 (fun k i j q => ?_)) (fr_mono f3 (fun k i j q => by unfold S_sa at q; unfold Sc; omega)))⟩
  · simp (disch := omega) only [pv_lt, pu_ck, pv_bI, pv_bV, pu_bR, pv_bL, pv_nt, pu_us, pu_un, mL_0, mL_1, mL_2, mL_3, mL_4, mL_5, mL_6, mL_7, mL_8, mL_9, mL_10, mL_11, mL_12, mL_13, mL_14, mL_15, mL_16, mL_23, mL_24, mL_32, mL_48, mL_64, mL_99, mL_100, mL_200, mL_336, mL_576, mL_768, mL_800, mL_999, mL_4095, mL_4096, mL_m1, nI_leI, nI_ltI, nI_eq, nI_clamp, nI_add, pk_mul, nI_nu, bI_eq0, bI_eq1, bo_ft, Bool.true_eq_false, Bool.false_eq_true, pu_of, pu_of24, pu_onward, pu_frq, if_true, if_false, true_or, or_true, false_or, or_false, and_true, true_and, and_false, false_and, not_true_eq_false, not_false_eq_true, if_neg, if_pos, F1_hopsIfMended, e1, e2, e3', z]
  · unfold S_tab Fp_K at q
    unfold Sc
    omega
theorem pr_hopsM {i n : Nat} {t : sr_t} {s : rg_T} {w : st_T} (X : J i t s w) (hn : n < rg_N s) (hu : rg_u s n = true) : ∃ t1 t2 t3 t4, F11_putsAside t = some (.inl none, t1) ∧ F11_laysNow (nI n) t1 = some (.inl none, t2) ∧ F11_samples (nI 1) t2 = some (.inl none, t3) ∧ F11_putsBack t3 = some (.inl none, t4) ∧ t4.1 11 0 40 = nI (fm s n) ∧ fr Sr0 t t4 := by
  obtain ⟨O, C, K, nb, sp, R, kp, L, W⟩ := X
  have hN := O.1.1
  obtain ⟨t1, e1, a1, f1⟩ := pr_aside (t := t)
  have R1 : rg_R t1 s := rg_R_fr O f1 (fun k i j q => by unfold Fp_R at q; unfold S_27; omega) R
  obtain ⟨t2, e2, R2, f2⟩ := pu_laysNow (n := n) R1.1 O.1 hn hu (fun m hm _ => ⟨R1.2 m hm, O.2 m hm⟩)
  have tok : rg_tok (rg_N s) (rg_lay s (rg_b s) (rg_d s) n) := rg_tokL O.1 hn hu O.1.2.1.2 O.1.2.2.1.1 O.1.2.2.1.2
  have ok2 : rg_ok (ms s n) := rg_ok_st O tok
  have k2 : t2.1 11 0 22 = nI 0 := by
    rw [f2.2 _ _ _ (by unfold S_rt; omega), f1.2 _ _ _ (by unfold S_27; omega)]
    exact kp
  obtain ⟨t3, e3, I3, f3⟩ := pr_samples (best := true) (rg_RN_of R2 ok2) ok2 k2
  obtain ⟨t4, e4, a4, f4⟩ := pr_back (t := t3)
  refine ⟨t1, t2, t3, t4, e1, e2, e3, e4, ?_, ?_, fun k i j q => ?_⟩
  · rw [f4.2 _ _ _ (by unfold S_27; omega)]
    exact I3.1.1
  · rw [f4.1, f3.1, f2.1, f1.1]
  · by_cases c1 : k = 27 ∧ i = 0 ∧ j < 336
    · obtain ⟨rfl, rfl, hj⟩ := c1
      rw [a4 j hj, f3.2 _ _ _ (by unfold S_sr'; omega), f2.2 _ _ _ (by unfold S_rt; omega), a1 j hj]
    · rw [f4.2 _ _ _ (fun e => c1 e), f3.2 _ _ _ (fun e => q (by unfold S_sr' at e; unfold Sr0; omega)), f2.2 _ _ _ (fun e => c1 (by unfold S_rt at e; omega)), f1.2 _ _ _ (fun e => q (by unfold S_27 at e; unfold Sr0; omega))]
def fv (s : rg_T) (n : Nat) : Nat := 1000000 - fm s n
def fL (z : Nat) (x : Nat × Nat) : Int32 := if x.1 = 24 then nI z else nI (1000000 - x.2)
theorem fv_b {s : rg_T} {n : Nat} (O : rg_ok s) : 692800 ≤ fv s n ∧ fv s n ≤ 1000000 ∧ 1000000 - fv s n = fm s n := by
  have := fm_le (n := n) O
  unfold fv
  omega
theorem fL_lt {s : rg_T} {u : Nat → Bool} {n z : Nat} (O : rg_ok s) (hn : n < 24) : (mo u (fv s) n).1 ≠ 24 → (fm s n < 1000000 - (mo u (fv s) n).2 ↔ (mo u (fv s) n).2 < fv s n) ∧ 1000000 - (mo u (fv s) n).2 ≤ 1000000 ∧ fL z (mo u (fv s) n) = nI (1000000 - (mo u (fv s) n).2) := by
  intro h
  rcases mo_ok (u := u) (v := fv s) n (by omega) with ⟨i1, _⟩ | ⟨i1, i2, i3, i4⟩
  · exact absurd i1 h
  · have b1 := fv_b (n := n) O
    have b2 := fv_b (n := (mo u (fv s) n).1) O
    rw [← i3] at b2
    refine ⟨by omega, by omega, if_neg h⟩
theorem pc_first {i : Nat} {t : sr_t} {s : rg_T} {w : st_T} (X : J i t s w) : ∃ t1, F1_firstToMend 0 t = some (.inl (some (sr_i (nu (mo (rg_u s) (fv s) (rg_N s)).1))), t1) ∧ fr Sc t t1 := by
  have O := X.1
  have hN := O.1.1
  have main : ∃ t1, fr Sc t t1 ∧ f1_firstToMend_7 0 (f1_firstToMend_70 0) sr_fu (nu (mo (rg_u s) (fv s) 0).1) (fL 0 (mo (rg_u s) (fv s) 0)) (nI 0) t = some (.inl (some (sr_i (nu (mo (rg_u s) (fv s) (rg_N s)).1))), t1) := by
    refine pu_forR (N := rg_N s) (L := fun f n t' => f1_firstToMend_7 0 (f1_firstToMend_70 0) f (nu (mo (rg_u s) (fv s) n).1) (fL 0 (mo (rg_u s) (fv s) n)) (nI n) t') (fin := fun t' => some (.inl (some (sr_i (nu (mo (rg_u s) (fv s) (rg_N s)).1))), t')) (P := fun _ t' => fr Sc t t') ?_ ?_ (by unfold sr_fu; omega) fr_rfl
    · intro n g t' hn p
      have X' := Jq_c X p
      have h3 := X'.2.1.1.1.1
      have up := (X'.2.1.1.2.2 n hn).2.1
      show ∃ t2, fr Sc t t2 ∧ f1_firstToMend_7 0 (f1_firstToMend_70 0) (g + 1) (nu (mo (rg_u s) (fv s) n).1) (fL 0 (mo (rg_u s) (fv s) n)) (nI n) t' = f1_firstToMend_7 0 (f1_firstToMend_70 0) g (nu (mo (rg_u s) (fv s) (n + 1)).1) (fL 0 (mo (rg_u s) (fv s) (n + 1))) (nI (n + 1)) t2
      cases hu : rg_u s n with
      | false =>
        rw [hu, show bI false = nI 0 from rfl] at up
        refine ⟨t', p, ?_⟩
        rw [mo_2d hu]
        simp (disch := omega) only [pv_lt, pu_ck, pv_bI, pv_bV, pu_bR, pv_bL, pv_nt, pu_us, pu_un, mL_0, mL_1, mL_2, mL_3, mL_4, mL_5, mL_6, mL_7, mL_8, mL_9, mL_10, mL_11, mL_12, mL_13, mL_14, mL_15, mL_16, mL_23, mL_24, mL_32, mL_48, mL_64, mL_99, mL_100, mL_200, mL_336, mL_576, mL_768, mL_800, mL_999, mL_4095, mL_4096, mL_m1, nI_leI, nI_ltI, nI_eq, nI_clamp, nI_add, pk_mul, nI_nu, bI_eq0, bI_eq1, bo_ft, Bool.true_eq_false, Bool.false_eq_true, pu_of, pu_of24, pu_onward, pu_frq, if_true, if_false, true_or, or_true, false_or, or_false, and_true, true_and, and_false, false_and, not_true_eq_false, not_false_eq_true, if_neg, if_pos, f1_firstToMend_7, f1_firstToMend_39, f1_firstToMend_64, h3, up]
      | true =>
        rw [hu, show bI true = nI 1 from rfl] at up
        obtain ⟨t2, e2, f2⟩ := pc_hopsM X' hn hu
        have b1 := fm_le (n := n) O
        have ml := mo_le (u := rg_u s) (v := fv s) (n := n) (by omega)
        refine ⟨t2, fr_trans p f2, ?_⟩
        rw [mo_s]
        have e3 : nu (n, fv s n).1 = nI n := nu_lt (show n < 24 by omega)
        have e4 : fL 0 (n, fv s n) = nI (fm s n) := by
          have := (fv_b (n := n) O).2.2
          unfold fL
          rw [if_neg (show ¬ n = 24 by omega), this]
        by_cases c0 : (mo (rg_u s) (fv s) n).1 = 24
        · rw [if_pos ⟨hu, Or.inl c0⟩, e3, e4, c0]
          simp (disch := omega) only [pv_lt, pu_ck, pv_bI, pv_bV, pu_bR, pv_bL, pv_nt, pu_us, pu_un, mL_0, mL_1, mL_2, mL_3, mL_4, mL_5, mL_6, mL_7, mL_8, mL_9, mL_10, mL_11, mL_12, mL_13, mL_14, mL_15, mL_16, mL_23, mL_24, mL_32, mL_48, mL_64, mL_99, mL_100, mL_200, mL_336, mL_576, mL_768, mL_800, mL_999, mL_4095, mL_4096, mL_m1, nI_leI, nI_ltI, nI_eq, nI_clamp, nI_add, pk_mul, nI_nu, bI_eq0, bI_eq1, bo_ft, Bool.true_eq_false, Bool.false_eq_true, pu_of, pu_of24, pu_onward, pu_frq, if_true, if_false, true_or, or_true, false_or, or_false, and_true, true_and, and_false, false_and, not_true_eq_false, not_false_eq_true, if_neg, if_pos, f1_firstToMend_7, f1_firstToMend_39, f1_firstToMend_58, f1_firstToMend_64, h3, up, e2]
        · obtain ⟨l1, l2, l3⟩ := fL_lt (z := 0) (n := n) O (by omega) c0
          have e5 : nu (mo (rg_u s) (fv s) n).1 = nI (mo (rg_u s) (fv s) n).1 := nu_lt (by omega)
          by_cases c : (mo (rg_u s) (fv s) n).2 < fv s n
          · rw [if_pos ⟨hu, Or.inr c⟩, e3, e4, l3, e5]
            have c' := l1.mpr c
            simp (disch := omega) only [pv_lt, pu_ck, pv_bI, pv_bV, pu_bR, pv_bL, pv_nt, pu_us, pu_un, mL_0, mL_1, mL_2, mL_3, mL_4, mL_5, mL_6, mL_7, mL_8, mL_9, mL_10, mL_11, mL_12, mL_13, mL_14, mL_15, mL_16, mL_23, mL_24, mL_32, mL_48, mL_64, mL_99, mL_100, mL_200, mL_336, mL_576, mL_768, mL_800, mL_999, mL_4095, mL_4096, mL_m1, nI_leI, nI_ltI, nI_eq, nI_clamp, nI_add, pk_mul, nI_nu, bI_eq0, bI_eq1, bo_ft, Bool.true_eq_false, Bool.false_eq_true, pu_of, pu_of24, pu_onward, pu_frq, if_true, if_false, true_or, or_true, false_or, or_false, and_true, true_and, and_false, false_and, not_true_eq_false, not_false_eq_true, if_neg, if_pos, f1_firstToMend_7, f1_firstToMend_39, f1_firstToMend_58, f1_firstToMend_64, h3, up, e2]
          · rw [if_neg (fun q => q.2.elim c0 c), l3, e5]
            have c' : ¬ fm s n < 1000000 - (mo (rg_u s) (fv s) n).2 := fun q => c (l1.mp q)
            simp (disch := omega) only [pv_lt, pu_ck, pv_bI, pv_bV, pu_bR, pv_bL, pv_nt, pu_us, pu_un, mL_0, mL_1, mL_2, mL_3, mL_4, mL_5, mL_6, mL_7, mL_8, mL_9, mL_10, mL_11, mL_12, mL_13, mL_14, mL_15, mL_16, mL_23, mL_24, mL_32, mL_48, mL_64, mL_99, mL_100, mL_200, mL_336, mL_576, mL_768, mL_800, mL_999, mL_4095, mL_4096, mL_m1, nI_leI, nI_ltI, nI_eq, nI_clamp, nI_add, pk_mul, nI_nu, bI_eq0, bI_eq1, bo_ft, Bool.true_eq_false, Bool.false_eq_true, pu_of, pu_of24, pu_onward, pu_frq, if_true, if_false, true_or, or_true, false_or, or_false, and_true, true_and, and_false, false_and, not_true_eq_false, not_false_eq_true, if_neg, if_pos, f1_firstToMend_7, f1_firstToMend_39, f1_firstToMend_64, h3, up, e2]
    · intro g t' p
      have h3 := (Jq_c X p).2.1.1.1.1
      show f1_firstToMend_7 0 (f1_firstToMend_70 0) (g + 1) (nu (mo (rg_u s) (fv s) (rg_N s)).1) (fL 0 (mo (rg_u s) (fv s) (rg_N s))) (nI (rg_N s)) t' = _
      simp (disch := omega) only [pv_lt, pu_ck, pv_bI, pv_bV, pu_bR, pv_bL, pv_nt, pu_us, pu_un, mL_0, mL_1, mL_2, mL_3, mL_4, mL_5, mL_6, mL_7, mL_8, mL_9, mL_10, mL_11, mL_12, mL_13, mL_14, mL_15, mL_16, mL_23, mL_24, mL_32, mL_48, mL_64, mL_99, mL_100, mL_200, mL_336, mL_576, mL_768, mL_800, mL_999, mL_4095, mL_4096, mL_m1, nI_leI, nI_ltI, nI_eq, nI_clamp, nI_add, pk_mul, nI_nu, bI_eq0, bI_eq1, bo_ft, Bool.true_eq_false, Bool.false_eq_true, pu_of, pu_of24, pu_onward, pu_frq, if_true, if_false, true_or, or_true, false_or, or_false, and_true, true_and, and_false, false_and, not_true_eq_false, not_false_eq_true, if_neg, if_pos, f1_firstToMend_7, f1_firstToMend_70, h3]
  obtain ⟨t1, p, e⟩ := main
  exact ⟨t1, e, p⟩
theorem pr_first {i : Nat} {t : sr_t} {s : rg_T} {w : st_T} (X : J i t s w) : ∃ t1, F11_firstToMend t = some (.inl (some (sr_i (nu (mo (rg_u s) (fv s) (rg_N s)).1))), t1) ∧ fr Sr0 t t1 := by
  have O := X.1
  have hN := O.1.1
  have main : ∃ t1, fr Sr0 t t1 ∧ f11_firstToMend_8 f11_firstToMend_70 sr_fu (nu (mo (rg_u s) (fv s) 0).1) (fL 100000000 (mo (rg_u s) (fv s) 0)) (nI 0) t = some (.inl (some (sr_i (nu (mo (rg_u s) (fv s) (rg_N s)).1))), t1) := by
    refine pu_forR (N := rg_N s) (L := fun f n t' => f11_firstToMend_8 f11_firstToMend_70 f (nu (mo (rg_u s) (fv s) n).1) (fL 100000000 (mo (rg_u s) (fv s) n)) (nI n) t') (fin := fun t' => some (.inl (some (sr_i (nu (mo (rg_u s) (fv s) (rg_N s)).1))), t')) (P := fun _ t' => fr Sr0 t t') ?_ ?_ (by unfold sr_fu; omega) fr_rfl
    · intro n g t' hn p
      have X' := Jq_r X p
      have h3 := X'.2.2.2.2.2.1.1.1.1
      have up := (X'.2.2.2.2.2.1.1.2 n hn).2.1
      show ∃ t2, fr Sr0 t t2 ∧ f11_firstToMend_8 f11_firstToMend_70 (g + 1) (nu (mo (rg_u s) (fv s) n).1) (fL 100000000 (mo (rg_u s) (fv s) n)) (nI n) t' = f11_firstToMend_8 f11_firstToMend_70 g (nu (mo (rg_u s) (fv s) (n + 1)).1) (fL 100000000 (mo (rg_u s) (fv s) (n + 1))) (nI (n + 1)) t2
      cases hu : rg_u s n with
      | false =>
        rw [hu, show bI false = nI 0 from rfl] at up
        refine ⟨t', p, ?_⟩
        rw [mo_2d hu]
        simp (disch := omega) only [pv_lt, pu_ck, pv_bI, pv_bV, pu_bR, pv_bL, pv_nt, pu_us, pu_un, mL_0, mL_1, mL_2, mL_3, mL_4, mL_5, mL_6, mL_7, mL_8, mL_9, mL_10, mL_11, mL_12, mL_13, mL_14, mL_15, mL_16, mL_23, mL_24, mL_32, mL_48, mL_64, mL_99, mL_100, mL_200, mL_336, mL_576, mL_768, mL_800, mL_999, mL_4095, mL_4096, mL_m1, nI_leI, nI_ltI, nI_eq, nI_clamp, nI_add, pk_mul, nI_nu, bI_eq0, bI_eq1, bo_ft, Bool.true_eq_false, Bool.false_eq_true, pu_of, pu_of24, pu_onward, pu_frq, if_true, if_false, true_or, or_true, false_or, or_false, and_true, true_and, and_false, false_and, not_true_eq_false, not_false_eq_true, if_neg, if_pos, f11_firstToMend_8, f11_firstToMend_64, h3, up, pu_ixN']
      | true =>
        rw [hu, show bI true = nI 1 from rfl] at up
        obtain ⟨t1, t2, t3, t4, e1, e2, e3', e4', z, f4⟩ := pr_hopsM X' hn hu
        have b1 := fm_le (n := n) O
        refine ⟨t4, fr_trans p f4, ?_⟩
        rw [mo_s]
        have e3 : nu (n, fv s n).1 = nI n := nu_lt (show n < 24 by omega)
        have e4 : fL 100000000 (n, fv s n) = nI (fm s n) := by
          have := (fv_b (n := n) O).2.2
          unfold fL
          rw [if_neg (show ¬ n = 24 by omega), this]
        by_cases c0 : (mo (rg_u s) (fv s) n).1 = 24
        · rw [if_pos ⟨hu, Or.inl c0⟩, e3, e4]
          have l3 : fL 100000000 (mo (rg_u s) (fv s) n) = nI 100000000 := if_pos c0
          rw [l3]
          simp (disch := omega) only [pv_lt, pu_ck, pv_bI, pv_bV, pu_bR, pv_bL, pv_nt, pu_us, pu_un, mL_0, mL_1, mL_2, mL_3, mL_4, mL_5, mL_6, mL_7, mL_8, mL_9, mL_10, mL_11, mL_12, mL_13, mL_14, mL_15, mL_16, mL_23, mL_24, mL_32, mL_48, mL_64, mL_99, mL_100, mL_200, mL_336, mL_576, mL_768, mL_800, mL_999, mL_4095, mL_4096, mL_m1, nI_leI, nI_ltI, nI_eq, nI_clamp, nI_add, pk_mul, nI_nu, bI_eq0, bI_eq1, bo_ft, Bool.true_eq_false, Bool.false_eq_true, pu_of, pu_of24, pu_onward, pu_frq, if_true, if_false, true_or, or_true, false_or, or_false, and_true, true_and, and_false, false_and, not_true_eq_false, not_false_eq_true, if_neg, if_pos, f11_firstToMend_8, f11_firstToMend_64, h3, up, e1, e2, e3', e4', z, pu_ixN']
        · obtain ⟨l1, l2, l3⟩ := fL_lt (z := 100000000) (n := n) O (by omega) c0
          by_cases c : (mo (rg_u s) (fv s) n).2 < fv s n
          · rw [if_pos ⟨hu, Or.inr c⟩, e3, e4, l3]
            have c' := l1.mpr c
            simp (disch := omega) only [pv_lt, pu_ck, pv_bI, pv_bV, pu_bR, pv_bL, pv_nt, pu_us, pu_un, mL_0, mL_1, mL_2, mL_3, mL_4, mL_5, mL_6, mL_7, mL_8, mL_9, mL_10, mL_11, mL_12, mL_13, mL_14, mL_15, mL_16, mL_23, mL_24, mL_32, mL_48, mL_64, mL_99, mL_100, mL_200, mL_336, mL_576, mL_768, mL_800, mL_999, mL_4095, mL_4096, mL_m1, nI_leI, nI_ltI, nI_eq, nI_clamp, nI_add, pk_mul, nI_nu, bI_eq0, bI_eq1, bo_ft, Bool.true_eq_false, Bool.false_eq_true, pu_of, pu_of24, pu_onward, pu_frq, if_true, if_false, true_or, or_true, false_or, or_false, and_true, true_and, and_false, false_and, not_true_eq_false, not_false_eq_true, if_neg, if_pos, f11_firstToMend_8, f11_firstToMend_64, h3, up, e1, e2, e3', e4', z, pu_ixN']
          · rw [if_neg (fun q => q.2.elim c0 c), l3]
            have c' : ¬ fm s n < 1000000 - (mo (rg_u s) (fv s) n).2 := fun q => c (l1.mp q)
            simp (disch := omega) only [pv_lt, pu_ck, pv_bI, pv_bV, pu_bR, pv_bL, pv_nt, pu_us, pu_un, mL_0, mL_1, mL_2, mL_3, mL_4, mL_5, mL_6, mL_7, mL_8, mL_9, mL_10, mL_11, mL_12, mL_13, mL_14, mL_15, mL_16, mL_23, mL_24, mL_32, mL_48, mL_64, mL_99, mL_100, mL_200, mL_336, mL_576, mL_768, mL_800, mL_999, mL_4095, mL_4096, mL_m1, nI_leI, nI_ltI, nI_eq, nI_clamp, nI_add, pk_mul, nI_nu, bI_eq0, bI_eq1, bo_ft, Bool.true_eq_false, Bool.false_eq_true, pu_of, pu_of24, pu_onward, pu_frq, if_true, if_false, true_or, or_true, false_or, or_false, and_true, true_and, and_false, false_and, not_true_eq_false, not_false_eq_true, if_neg, if_pos, f11_firstToMend_8, f11_firstToMend_64, h3, up, e1, e2, e3', e4', z, pu_ixN']
    · intro g t' p
      have h3 := (Jq_r X p).2.2.2.2.2.1.1.1.1
      show f11_firstToMend_8 f11_firstToMend_70 (g + 1) (nu (mo (rg_u s) (fv s) (rg_N s)).1) (fL 100000000 (mo (rg_u s) (fv s) (rg_N s))) (nI (rg_N s)) t' = _
      simp (disch := omega) only [pv_lt, pu_ck, pv_bI, pv_bV, pu_bR, pv_bL, pv_nt, pu_us, pu_un, mL_0, mL_1, mL_2, mL_3, mL_4, mL_5, mL_6, mL_7, mL_8, mL_9, mL_10, mL_11, mL_12, mL_13, mL_14, mL_15, mL_16, mL_23, mL_24, mL_32, mL_48, mL_64, mL_99, mL_100, mL_200, mL_336, mL_576, mL_768, mL_800, mL_999, mL_4095, mL_4096, mL_m1, nI_leI, nI_ltI, nI_eq, nI_clamp, nI_add, pk_mul, nI_nu, bI_eq0, bI_eq1, bo_ft, Bool.true_eq_false, Bool.false_eq_true, pu_of, pu_of24, pu_onward, pu_frq, if_true, if_false, true_or, or_true, false_or, or_false, and_true, true_and, and_false, false_and, not_true_eq_false, not_false_eq_true, if_neg, if_pos, f11_firstToMend_8, f11_firstToMend_70, h3]
  obtain ⟨t1, p, e⟩ := main
  have l0 : fL 100000000 (mo (rg_u s) (fv s) 0) = nI 100000000 := if_pos rfl
  have n0 : nu (mo (rg_u s) (fv s) 0).1 = nu 24 := rfl
  rw [l0, n0] at e
  refine ⟨t1, ?_, p⟩
  unfold F11_firstToMend
  simp (disch := omega) only [pv_lt, pu_ck, pv_bI, pv_bV, pu_bR, pv_bL, pv_nt, pu_us, pu_un, mL_0, mL_1, mL_2, mL_3, mL_4, mL_5, mL_6, mL_7, mL_8, mL_9, mL_10, mL_11, mL_12, mL_13, mL_14, mL_15, mL_16, mL_23, mL_24, mL_32, mL_48, mL_64, mL_99, mL_100, mL_200, mL_336, mL_576, mL_768, mL_800, mL_999, mL_4095, mL_4096, mL_m1, nI_leI, nI_ltI, nI_eq, nI_clamp, nI_add, pk_mul, nI_nu, bI_eq0, bI_eq1, bo_ft, Bool.true_eq_false, Bool.false_eq_true, pu_of, pu_of24, pu_onward, pu_frq, if_true, if_false, true_or, or_true, false_or, or_false, and_true, true_and, and_false, false_and, not_true_eq_false, not_false_eq_true, if_neg, if_pos, mL_much]
  exact e
end
