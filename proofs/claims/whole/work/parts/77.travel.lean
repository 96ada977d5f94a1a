section
/-! a trip of the class, step by step and to its end -/
def S_tk (i0 k i j : Nat) : Prop := (k = 8 ∧ i = i0 ∧ (j = 3 ∨ j = 4 ∨ j = 5 ∨ (8 ≤ j ∧ j ≤ 13))) ∨ (k = 14 ∧ i = i0)
theorem lk_nf {s : rg_T} {key n k : Nat} {best : Bool} (hk : k < lk_n s key best n) : rg_nx s (lk_at s key best n k) ≠ 24 ∧ rg_ar s (lk_at s key best n k) < pu_d (rg_p s (lk_at s key best n k)) key := by
  have nf : lk_fin s key (lk_at s key best n k) = false := fi_no (P := fun k => lk_fin s key (lk_at s key best n k)) (m := 200) hk
  unfold lk_fin at nf
  rw [Bool.or_eq_false_iff, decide_eq_false_iff_not, decide_eq_false_iff_not] at nf
  exact ⟨nf.1, by omega⟩
set_option maxHeartbeats 2000000 in
theorem pu_bridge {t : sr_t} {s : rg_T} {i0 r key n k : Nat} {best : Bool} {x : Int32} (C : rg_C t r s) (K : rg_K t r s) (O : rg_ok s) (hr : r < 2) (hn : n < rg_N s) (hu : rg_u s n = true) (hkey : key < 4096) (hk : k < lk_n s key best n) (I : tp_I t i0 r s key best n k) (es : lk s key best n (k + 1) = (2, rg_nx s (lk_at s key best n k), rg_sta s key best (rg_nx s (lk_at s key best n k)))) : ∃ t', f8_takeStep_123 i0 x (25 * r + 24) t = some (.inl none, t') ∧ tp_I t' i0 r s key best n (k + 1) ∧ fr (S_tk i0) t t' := by
  have hN := O.1.1
  obtain ⟨o1, o2, o3, o4⟩ := lk_ok (key := key) (best := best) O hn hu k (Nat.le_of_lt hk)
  obtain ⟨x1, x2⟩ := lk_nf hk
  have k200 := lk_n_le (s := s) (key := key) (n := n) (best := best)
  obtain ⟨y1, y2⟩ : rg_nx s (lk_at s key best n k) < rg_N s ∧ rg_u s (rg_nx s (lk_at s key best n k)) = true := by
    rcases rg_nx_cases O o1 with h | h
    · exact absurd h x1
    · exact ⟨h.1, h.2 o2⟩
  obtain ⟨⟨H0, H1, H2, H3⟩, ⟨H4, H5, H8⟩, ⟨H9, H10, H11, H12, H13⟩, Hr⟩ := id I
  have k5 := (K.2 _ o1).1
  rw [rg_kx, if_pos o2, nu_lt (by omega)] at k5
  have nb2 : t.1 2 (25 * r + 24) 2 = nI 0 := C.1.2.1.2.1
  have f1 : fr (S_tk i0) t (sr_u t 8 i0 12 (nI (lk_kc s key best n 2 k + 1))) := fr_u fr_rfl (by unfold S_tk; omega)
  have C1 := rg_C_fr hN f1 (fun k i j q => by unfold Fp_C at q; unfold S_tk; omega) C
  obtain ⟨t2, e2, p3, p8, p9, p13, pr, pf⟩ := pu_pass (t := sr_u t 8 i0 12 (nI (lk_kc s key best n 2 k + 1))) (i0 := i0) (m := rg_nx s (lk_at s key best n k)) (c := 2) C1 O hr o1 y1 (show k < 200 by omega) (by rw [pu_un (by omega)]; exact H3) (by rw [pu_un (by omega)]; exact H4) (by rw [pu_un (by omega)]; exact H5) (by rw [pu_un (by omega)]; exact H8) (by rw [pu_un (by omega)]; exact H9) (by rw [pu_un (by omega)]; exact H13)
  have f2 : fr (S_tk i0) t t2 := fr_trans f1 (fr_mono pf (fun k i j q => by unfold S_ps at q; unfold S_tk; omega))
  have C2 := rg_C_fr hN f2 (fun k i j q => by unfold Fp_C at q; unfold S_tk; omega) C
  have K2 := rg_K_fr hN f2 (fun k i j q => by unfold Fp_K at q; unfold S_tk; omega) K
  obtain ⟨t3, e3, q4, q5, qf⟩ := pu_startC (i0 := i0) (best := best) C2 K2 O hr y1 y2 hkey ⟨by rw [f2.2 _ _ _ (by unfold S_tk; omega)]; exact H0, by rw [f2.2 _ _ _ (by unfold S_tk; omega)]; exact H1, by rw [f2.2 _ _ _ (by unfold S_tk; omega)]; exact H2, p3⟩
  have f3 : fr (S_tk i0) t t3 := fr_trans f2 (fr_mono qf (fun k i j q => by unfold S_st at q; unfold S_tk; omega))
  refine ⟨t3, ?_, ?_, f3⟩
  · simp (disch := omega) only [pu_lt, pu_ck, pu_bI, pu_bV, pu_bR, pu_bL, pu_nt, pu_us, pu_un, mL_0, mL_1, mL_2, mL_3, mL_4, mL_5, mL_6, mL_7, mL_8, mL_9, mL_10, mL_11, mL_12, mL_13, mL_14, mL_15, mL_16, mL_23, mL_24, mL_32, mL_48, mL_64, mL_99, mL_100, mL_200, mL_336, mL_576, mL_768, mL_800, mL_999, mL_4095, mL_4096, mL_m1, nI_leI, nI_ltI, nI_eq, nI_clamp, nI_add, pk_mul, nI_nu, bI_eq0, bI_eq1, bo_ft, pu_of, pu_of24, pu_onward, pu_frq, if_true, if_false, true_or, or_true, false_or, or_false, and_true, true_and, and_false, false_and, not_true_eq_false, not_false_eq_true, if_neg, if_pos, f8_takeStep_123, f8_takeStep_198, nb2, H0, H3, H12, k5, e2, e3]
  · refine tp_next I rfl rfl rfl es (by rw [f3.2 _ _ _ (by unfold S_tk; omega)]; exact H0) (by rw [f3.2 _ _ _ (by unfold S_tk; omega)]; exact H1) (by rw [f3.2 _ _ _ (by unfold S_tk; omega)]; exact H2) (by rw [qf.2 _ _ _ (by unfold S_st; omega)]; exact p3) q4 q5 (by rw [qf.2 _ _ _ (by unfold S_st; omega)]; exact p8) (by rw [qf.2 _ _ _ (by unfold S_st; omega)]; exact p9) ?_ ?_ ?_ (by rw [qf.2 _ _ _ (by unfold S_st; omega)]; exact p13) ?_ ?_
    · rw [qf.2 _ _ _ (by unfold S_st; omega), pf.2 _ _ _ (by unfold S_ps; omega), pu_un (by omega)]; exact H10
    · rw [qf.2 _ _ _ (by unfold S_st; omega), pf.2 _ _ _ (by unfold S_ps; omega), pu_un (by omega)]; exact H11
    · rw [qf.2 _ _ _ (by unfold S_st; omega), pf.2 _ _ _ (by unfold S_ps; omega), pu_us]; rfl
    · rw [qf.2 _ _ _ (by unfold S_st; omega), qf.2 _ _ _ (by unfold S_st; omega), qf.2 _ _ _ (by unfold S_st; omega), qf.2 _ _ _ (by unfold S_st; omega)]; exact pr
    · intro j hj
      rw [qf.2 _ _ _ (by unfold S_st; omega), pf.2 _ _ _ (by unfold S_ps; omega), pu_un (by omega)]
set_option maxHeartbeats 4000000 in
theorem pu_takeStep {t : sr_t} {s : rg_T} {i0 r key n k : Nat} {best : Bool} (C : rg_C t r s) (K : rg_K t r s) (O : rg_ok s) (hr : r < 2) (hn : n < rg_N s) (hu : rg_u s n = true) (hkey : key < 4096) (hk : k < lk_n s key best n) (I : tp_I t i0 r s key best n k) : ∃ t', F8_takeStep i0 t = some (.inl none, t') ∧ tp_I t' i0 r s key best n (k + 1) ∧ fr (S_tk i0) t t' := by
  have hN := O.1.1
  obtain ⟨o1, o2, o3, o4⟩ := lk_ok (key := key) (best := best) O hn hu k (Nat.le_of_lt hk)
  obtain ⟨x1, x2⟩ := lk_nf hk
  have k200 := lk_n_le (s := s) (key := key) (n := n) (best := best)
  obtain ⟨y1, y2⟩ : rg_nx s (lk_at s key best n k) < rg_N s ∧ rg_u s (rg_nx s (lk_at s key best n k)) = true := by
    rcases rg_nx_cases O o1 with h | h
    · exact absurd h x1
    · exact ⟨h.1, h.2 o2⟩
  obtain ⟨⟨H0, H1, H2, H3⟩, ⟨H4, H5, H8⟩, ⟨H9, H10, H11, H12, H13⟩, Hr⟩ := id I
  obtain ⟨b1, b4⟩ := O.1.2.1
  have hL := pu_Lpos b1 b4
  have k5 := (K.2 _ o1).1
  rw [rg_kx, if_pos o2, nu_lt (by omega)] at k5
  have tb0 := (C.2 _ o1).1
  have hb := C.1.1.2.1
  have l7 := C.1.1.2.2.2.1
  have t0 := (O.2 _ o1).1
  have p16 := pu_pow16 b4
  have est : lk s key best n (k + 1) = lk_step s key best (lk s key best n k) := rfl
  unfold lk_step at est
  by_cases hold : rg_t s (lk_at s key best n k) 0 = 2 ^ rg_b s
  · have hold' : ¬ rg_t s (lk s key best n k).2.1 0 ≠ 2 ^ rg_b s := fun h => h hold
    rw [if_neg hold'] at est
    have inA := pu_inArcC C K O o1 o2 o3
    by_cases hsh : 0 < lk_le s key best n k ∧ pu_d (rg_p s (lk_at s key best n k)) (lk_he s key best n k) < rg_ar s (lk_at s key best n k)
    · have hsh' : 0 < (lk s key best n k).2.2.2 ∧ pu_d (rg_p s (lk s key best n k).2.1) (lk s key best n k).2.2.1 < rg_ar s (lk s key best n k).2.1 := hsh
      rw [if_pos hsh'] at est
      obtain ⟨s1, s2⟩ := hsh
      rw [decide_eq_true s2] at inA
      have bt : ¬ bI true = nI 0 := by decide
      have le := pu_letterC (k := 12 / rg_b s - lk_le s key best n k) C.1.1 O.1 hkey (by omega)
      have lel : rg_lt (rg_b s) key (12 / rg_b s - lk_le s key best n k) < 16 := by
        have := rg_lt_lt (b := rg_b s) (q := key) (k := 12 / rg_b s - lk_le s key best n k)
        omega
      have sh := pu_shiftC C.1.1 O.1 o3 lel
      have so : F8_shiftedOnce i0 t = some (.inl (some (sr_i (nI (rg_sh (rg_b s) (lk_he s key best n k) (rg_lt (rg_b s) key (12 / rg_b s - lk_le s key best n k)))))), t) := by
        simp (disch := omega) only [pu_lt, pu_ck, pu_bI, pu_bV, pu_bR, pu_bL, pu_nt, pu_us, pu_un, mL_0, mL_1, mL_2, mL_3, mL_4, mL_5, mL_6, mL_7, mL_8, mL_9, mL_10, mL_11, mL_12, mL_13, mL_14, mL_15, mL_16, mL_23, mL_24, mL_32, mL_48, mL_64, mL_99, mL_100, mL_200, mL_336, mL_576, mL_768, mL_800, mL_999, mL_4095, mL_4096, mL_m1, nI_leI, nI_ltI, nI_eq, nI_clamp, nI_add, pk_mul, nI_nu, bI_eq0, bI_eq1, bo_ft, pu_of, pu_of24, pu_onward, pu_frq, if_true, if_false, true_or, or_true, false_or, or_false, and_true, true_and, and_false, false_and, not_true_eq_false, not_false_eq_true, if_neg, if_pos, F8_shiftedOnce, H0, H1, H4, H5, l7, pk_sub, le, sh]
      have shl := rg_sh_lt (b := rg_b s) (q := lk_he s key best n k) (c := rg_lt (rg_b s) key (12 / rg_b s - lk_le s key best n k))
      have pt := pu_ptrC C O hr o1 shl
      have est' : lk s key best n (k + 1) = (if rg_ptr s (lk_at s key best n k) (rg_sh (rg_b s) (lk_he s key best n k) (rg_lt (rg_b s) key (12 / rg_b s - lk_le s key best n k))) = 24 then (2, rg_nx s (lk_at s key best n k), rg_sta s key best (rg_nx s (lk_at s key best n k))) else (0, rg_ptr s (lk_at s key best n k) (rg_sh (rg_b s) (lk_he s key best n k) (rg_lt (rg_b s) key (12 / rg_b s - lk_le s key best n k))), rg_sh (rg_b s) (lk_he s key best n k) (rg_lt (rg_b s) key (12 / rg_b s - lk_le s key best n k)), lk_le s key best n k - 1)) := est
      rcases rg_ptr_cases (h := rg_sh (rg_b s) (lk_he s key best n k) (rg_lt (rg_b s) key (12 / rg_b s - lk_le s key best n k))) O o1 with hp | ⟨hp1, hp2⟩
      · rw [if_pos hp] at est'
        rw [hp] at pt
        obtain ⟨t', g1, g2, g3⟩ := pu_bridge (x := nI (rg_sh (rg_b s) (lk_he s key best n k) (rg_lt (rg_b s) key (12 / rg_b s - lk_le s key best n k)))) C K O hr hn hu hkey hk I est'
        refine ⟨t', ?_, g2, g3⟩
        simp (disch := omega) only [pu_lt, pu_ck, pu_bI, pu_bV, pu_bR, pu_bL, pu_nt, pu_us, pu_un, mL_0, mL_1, mL_2, mL_3, mL_4, mL_5, mL_6, mL_7, mL_8, mL_9, mL_10, mL_11, mL_12, mL_13, mL_14, mL_15, mL_16, mL_23, mL_24, mL_32, mL_48, mL_64, mL_99, mL_100, mL_200, mL_336, mL_576, mL_768, mL_800, mL_999, mL_4095, mL_4096, mL_m1, nI_leI, nI_ltI, nI_eq, nI_clamp, nI_add, pk_mul, nI_nu, bI_eq0, bI_eq1, bo_ft, pu_of, pu_of24, pu_onward, pu_frq, if_true, if_false, true_or, or_true, false_or, or_false, and_true, true_and, and_false, false_and, not_true_eq_false, not_false_eq_true, if_neg, if_pos, F8_takeStep, f8_takeStep_25, f8_takeStep_81, f8_takeStep_96, H0, H3, H4, H5, tb0, hb, hold, inA, bt, so, pt, g1]
      · rw [if_neg (by omega)] at est'
        have hup := (C.1.2.2 _ hp1).2.1
        rw [hp2] at hup
        have f1 : fr (S_tk i0) t (sr_u t 8 i0 10 (nI (lk_kc s key best n 0 k + 1))) := fr_u fr_rfl (by unfold S_tk; omega)
        have C1 := rg_C_fr hN f1 (fun k i j q => by unfold Fp_C at q; unfold S_tk; omega) C
        obtain ⟨t2, e2, p3, p8, p9, p13, pr, pf⟩ := pu_pass (t := sr_u t 8 i0 10 (nI (lk_kc s key best n 0 k + 1))) (i0 := i0) (m := rg_ptr s (lk_at s key best n k) (rg_sh (rg_b s) (lk_he s key best n k) (rg_lt (rg_b s) key (12 / rg_b s - lk_le s key best n k)))) (c := 0) C1 O hr o1 hp1 (show k < 200 by omega) (by rw [pu_un (by omega)]; exact H3) (by rw [pu_un (by omega)]; exact H4) (by rw [pu_un (by omega)]; exact H5) (by rw [pu_un (by omega)]; exact H8) (by rw [pu_un (by omega)]; exact H9) (by rw [pu_un (by omega)]; exact H13)
        have f2 : fr (S_tk i0) t t2 := fr_trans f1 (fr_mono pf (fun k i j q => by unfold S_ps at q; unfold S_tk; omega))
        have h5' : t2.1 8 i0 5 = nI (lk_le s key best n k) := by rw [pf.2 _ _ _ (by unfold S_ps; omega), pu_un (by omega)]; exact H5
        have st1 : F8_takeStep i0 t = f8_takeStep_123 i0 (nI (rg_sh (rg_b s) (lk_he s key best n k) (rg_lt (rg_b s) key (12 / rg_b s - lk_le s key best n k)))) (25 * r + rg_ptr s (lk_at s key best n k) (rg_sh (rg_b s) (lk_he s key best n k) (rg_lt (rg_b s) key (12 / rg_b s - lk_le s key best n k)))) t := by
          simp (disch := omega) only [pu_lt, pu_ck, pu_bI, pu_bV, pu_bR, pu_bL, pu_nt, pu_us, pu_un, mL_0, mL_1, mL_2, mL_3, mL_4, mL_5, mL_6, mL_7, mL_8, mL_9, mL_10, mL_11, mL_12, mL_13, mL_14, mL_15, mL_16, mL_23, mL_24, mL_32, mL_48, mL_64, mL_99, mL_100, mL_200, mL_336, mL_576, mL_768, mL_800, mL_999, mL_4095, mL_4096, mL_m1, nI_leI, nI_ltI, nI_eq, nI_clamp, nI_add, pk_mul, nI_nu, bI_eq0, bI_eq1, bo_ft, pu_of, pu_of24, pu_onward, pu_frq, if_true, if_false, true_or, or_true, false_or, or_false, and_true, true_and, and_false, false_and, not_true_eq_false, not_false_eq_true, if_neg, if_pos, F8_takeStep, f8_takeStep_25, f8_takeStep_81, f8_takeStep_96, H0, H3, H4, H5, tb0, hb, hold, inA, bt, so, pt]
        rw [st1]
        have l1 : nI (lk_le s key best n k) - nI 1 = nI (lk_le s key best n k - 1) := pk_sub (by omega)
        refine rs_via fun Q hQ => ?_
        simp (disch := omega) only [pu_lt, pu_ck, pu_bI, pu_bV, pu_bR, pu_bL, pu_nt, pu_us, pu_un, mL_0, mL_1, mL_2, mL_3, mL_4, mL_5, mL_6, mL_7, mL_8, mL_9, mL_10, mL_11, mL_12, mL_13, mL_14, mL_15, mL_16, mL_23, mL_24, mL_32, mL_48, mL_64, mL_99, mL_100, mL_200, mL_336, mL_576, mL_768, mL_800, mL_999, mL_4095, mL_4096, mL_m1, nI_leI, nI_ltI, nI_eq, nI_clamp, nI_add, pk_mul, nI_nu, bI_eq0, bI_eq1, bo_ft, pu_of, pu_of24, pu_onward, pu_frq, if_true, if_false, true_or, or_true, false_or, or_false, and_true, true_and, and_false, false_and, not_true_eq_false, not_false_eq_true, if_neg, if_pos, f8_takeStep_123, f8_takeStep_198, bt, hup, H10, e2, h5', l1]
        refine rs_ret (hQ _ ⟨?_, fr_u (fr_u f2 (by unfold S_tk; omega)) (by unfold S_tk; omega)⟩)
        refine tp_next I rfl rfl rfl est' ?_ ?_ ?_ ?_ ?_ ?_ ?_ ?_ ?_ ?_ ?_ ?_ ?_ ?_
        · rw [pu_un (by omega), pu_un (by omega), f2.2 _ _ _ (by unfold S_tk; omega)]; exact H0
        · rw [pu_un (by omega), pu_un (by omega), f2.2 _ _ _ (by unfold S_tk; omega)]; exact H1
        · rw [pu_un (by omega), pu_un (by omega), f2.2 _ _ _ (by unfold S_tk; omega)]; exact H2
        · rw [pu_un (by omega), pu_un (by omega)]; exact p3
        · rw [pu_un (by omega), pu_us]
        · rw [pu_us]
        · rw [pu_un (by omega), pu_un (by omega)]; exact p8
        · rw [pu_un (by omega), pu_un (by omega)]; exact p9
        · rw [pu_un (by omega), pu_un (by omega), pf.2 _ _ _ (by unfold S_ps; omega), pu_us]; rfl
        · rw [pu_un (by omega), pu_un (by omega), pf.2 _ _ _ (by unfold S_ps; omega), pu_un (by omega)]; exact H11
        · rw [pu_un (by omega), pu_un (by omega), pf.2 _ _ _ (by unfold S_ps; omega), pu_un (by omega)]; exact H12
        · rw [pu_un (by omega), pu_un (by omega)]; exact p13
        · rw [pu_un (by omega), pu_un (by omega), pu_un (by omega), pu_un (by omega), pu_un (by omega), pu_un (by omega), pu_un (by omega), pu_un (by omega)]; exact pr
        · intro j hj
          rw [pu_un (by omega), pu_un (by omega), pf.2 _ _ _ (by unfold S_ps; omega), pu_un (by omega)]
    · have hsh' : ¬ (0 < (lk s key best n k).2.2.2 ∧ pu_d (rg_p s (lk s key best n k).2.1) (lk s key best n k).2.2.1 < rg_ar s (lk s key best n k).2.1) := hsh
      rw [if_neg hsh'] at est
      have est' : lk s key best n (k + 1) = (1, rg_nx s (lk_at s key best n k), lk_he s key best n k, lk_le s key best n k) := est
      have f1 : fr (S_tk i0) t (sr_u t 8 i0 11 (nI (lk_kc s key best n 1 k + 1))) := fr_u fr_rfl (by unfold S_tk; omega)
      have C1 := rg_C_fr hN f1 (fun k i j q => by unfold Fp_C at q; unfold S_tk; omega) C
      obtain ⟨t2, e2, p3, p8, p9, p13, pr, pf⟩ := pu_pass (t := sr_u t 8 i0 11 (nI (lk_kc s key best n 1 k + 1))) (i0 := i0) (m := rg_nx s (lk_at s key best n k)) (c := 1) C1 O hr o1 y1 (show k < 200 by omega) (by rw [pu_un (by omega)]; exact H3) (by rw [pu_un (by omega)]; exact H4) (by rw [pu_un (by omega)]; exact H5) (by rw [pu_un (by omega)]; exact H8) (by rw [pu_un (by omega)]; exact H9) (by rw [pu_un (by omega)]; exact H13)
      have f2 : fr (S_tk i0) t t2 := fr_trans f1 (fr_mono pf (fun k i j q => by unfold S_ps at q; unfold S_tk; omega))
      have wk : f8_takeStep_51 i0 t = some (.inl none, t2) := by
        simp (disch := omega) only [pu_lt, pu_ck, pu_bI, pu_bV, pu_bR, pu_bL, pu_nt, pu_us, pu_un, mL_0, mL_1, mL_2, mL_3, mL_4, mL_5, mL_6, mL_7, mL_8, mL_9, mL_10, mL_11, mL_12, mL_13, mL_14, mL_15, mL_16, mL_23, mL_24, mL_32, mL_48, mL_64, mL_99, mL_100, mL_200, mL_336, mL_576, mL_768, mL_800, mL_999, mL_4095, mL_4096, mL_m1, nI_leI, nI_ltI, nI_eq, nI_clamp, nI_add, pk_mul, nI_nu, bI_eq0, bI_eq1, bo_ft, pu_of, pu_of24, pu_onward, pu_frq, if_true, if_false, true_or, or_true, false_or, or_false, and_true, true_and, and_false, false_and, not_true_eq_false, not_false_eq_true, if_neg, if_pos, f8_takeStep_51, H0, H3, H11, k5, e2]
      refine ⟨t2, ?_, ?_, f2⟩
      · by_cases hl0 : lk_le s key best n k = 0
        · rw [hl0] at H5
          simp (disch := omega) only [pu_lt, pu_ck, pu_bI, pu_bV, pu_bR, pu_bL, pu_nt, pu_us, pu_un, mL_0, mL_1, mL_2, mL_3, mL_4, mL_5, mL_6, mL_7, mL_8, mL_9, mL_10, mL_11, mL_12, mL_13, mL_14, mL_15, mL_16, mL_23, mL_24, mL_32, mL_48, mL_64, mL_99, mL_100, mL_200, mL_336, mL_576, mL_768, mL_800, mL_999, mL_4095, mL_4096, mL_m1, nI_leI, nI_ltI, nI_eq, nI_clamp, nI_add, pk_mul, nI_nu, bI_eq0, bI_eq1, bo_ft, pu_of, pu_of24, pu_onward, pu_frq, if_true, if_false, true_or, or_true, false_or, or_false, and_true, true_and, and_false, false_and, not_true_eq_false, not_false_eq_true, if_neg, if_pos, F8_takeStep, f8_takeStep_25, H0, H3, H5, tb0, hb, hold, wk]
        · have hd : ¬ pu_d (rg_p s (lk_at s key best n k)) (lk_he s key best n k) < rg_ar s (lk_at s key best n k) := fun q => hsh ⟨by omega, q⟩
          rw [decide_eq_false hd] at inA
          have bf : bI false = nI 0 := rfl
          simp (disch := omega) only [pu_lt, pu_ck, pu_bI, pu_bV, pu_bR, pu_bL, pu_nt, pu_us, pu_un, mL_0, mL_1, mL_2, mL_3, mL_4, mL_5, mL_6, mL_7, mL_8, mL_9, mL_10, mL_11, mL_12, mL_13, mL_14, mL_15, mL_16, mL_23, mL_24, mL_32, mL_48, mL_64, mL_99, mL_100, mL_200, mL_336, mL_576, mL_768, mL_800, mL_999, mL_4095, mL_4096, mL_m1, nI_leI, nI_ltI, nI_eq, nI_clamp, nI_add, pk_mul, nI_nu, bI_eq0, bI_eq1, bo_ft, pu_of, pu_of24, pu_onward, pu_frq, if_true, if_false, true_or, or_true, false_or, or_false, and_true, true_and, and_false, false_and, not_true_eq_false, not_false_eq_true, if_neg, if_pos, F8_takeStep, f8_takeStep_25, H0, H3, H4, H5, tb0, hb, hold, inA, bf, wk]
      · refine tp_next I rfl rfl rfl est' (by rw [f2.2 _ _ _ (by unfold S_tk; omega)]; exact H0) (by rw [f2.2 _ _ _ (by unfold S_tk; omega)]; exact H1) (by rw [f2.2 _ _ _ (by unfold S_tk; omega)]; exact H2) p3 ?_ ?_ p8 p9 ?_ ?_ ?_ p13 pr ?_
        · rw [pf.2 _ _ _ (by unfold S_ps; omega), pu_un (by omega)]; exact H4
        · rw [pf.2 _ _ _ (by unfold S_ps; omega), pu_un (by omega)]; exact H5
        · rw [pf.2 _ _ _ (by unfold S_ps; omega), pu_un (by omega)]; exact H10
        · rw [pf.2 _ _ _ (by unfold S_ps; omega), pu_us]; rfl
        · rw [pf.2 _ _ _ (by unfold S_ps; omega), pu_un (by omega)]; exact H12
        · intro j hj
          rw [pf.2 _ _ _ (by unfold S_ps; omega), pu_un (by omega)]
  · have hold' : rg_t s (lk s key best n k).2.1 0 ≠ 2 ^ rg_b s := hold
    rw [if_pos hold'] at est
    obtain ⟨t', g1, g2, g3⟩ := pu_bridge (x := nI (lk_he s key best n k)) C K O hr hn hu hkey hk I est
    refine ⟨t', ?_, g2, g3⟩
    simp (disch := omega) only [pu_lt, pu_ck, pu_bI, pu_bV, pu_bR, pu_bL, pu_nt, pu_us, pu_un, mL_0, mL_1, mL_2, mL_3, mL_4, mL_5, mL_6, mL_7, mL_8, mL_9, mL_10, mL_11, mL_12, mL_13, mL_14, mL_15, mL_16, mL_23, mL_24, mL_32, mL_48, mL_64, mL_99, mL_100, mL_200, mL_336, mL_576, mL_768, mL_800, mL_999, mL_4095, mL_4096, mL_m1, nI_leI, nI_ltI, nI_eq, nI_clamp, nI_add, pk_mul, nI_nu, bI_eq0, bI_eq1, bo_ft, pu_of, pu_of24, pu_onward, pu_frq, if_true, if_false, true_or, or_true, false_or, or_false, and_true, true_and, and_false, false_and, not_true_eq_false, not_false_eq_true, if_neg, if_pos, F8_takeStep, f8_takeStep_25, f8_takeStep_81, f8_takeStep_96, H0, H3, H4, tb0, hb, hold, g1]
theorem cI_lt {c : Nat} (h : c < 24) : cI c = nI c := by
  unfold cI
  rw [if_neg (by omega), if_neg (by omega)]
theorem cI_26 : cI 26 = -(nI 2) := rfl
theorem cI_27 : cI 27 = -(nI 3) := rfl
theorem nI_neg {a : Nat} {z : Int32} (h : a < 2 ^ 31) (hz : z < 0) : ¬ nI a = z := fun e => nI_pos h (by rw [e]; exact hz)
theorem cI_ne4 {c : Nat} (h : c < 24 ∨ c = 26 ∨ c = 27) : ¬ cI c = -(nI 4) := by
  rcases h with h | rfl | rfl
  · rw [cI_lt h]; exact nI_neg (by omega) (by decide)
  · decide
  · decide
theorem cI_eq2 {c : Nat} (h : c < 24 ∨ c = 26 ∨ c = 27) : cI c = -(nI 2) ↔ c = 26 := by
  rcases h with h | rfl | rfl
  · rw [cI_lt h]
    exact ⟨fun e => absurd e (nI_neg (by omega) (by decide)), fun e => by omega⟩
  · decide
  · decide
theorem lk_c_cases {s : rg_T} {key a : Nat} (O : rg_ok s) (ha : a < rg_N s) : (lk_c s key a < rg_N s ∧ lk_c s key a < 24) ∨ lk_c s key a = 26 ∨ lk_c s key a = 27 := by
  have hN := O.1.1
  unfold lk_c
  split
  · exact Or.inr (Or.inl rfl)
  · rename_i hx
    split
    · exact Or.inl ⟨ha, by omega⟩
    · split
      · rcases rg_nx_cases O ha with h | h
        · exact absurd h hx
        · exact Or.inl ⟨h.1, by omega⟩
      · exact Or.inr (Or.inr rfl)
theorem pu_endHere {t : sr_t} {s : rg_T} {i0 r key n k : Nat} {best : Bool} (C : rg_C t r s) (K : rg_K t r s) (O : rg_ok s) (hr : r < 2) (hn : n < rg_N s) (hu : rg_u s n = true) (hkey : key < 4096) (hk : k ≤ lk_n s key best n) (I : tp_I t i0 r s key best n k) : F8_endHere i0 t = some (.inl (some (sr_i (if k < lk_n s key best n then -(nI 4) else cI (lk_e s key best n)))), t) := by
  have hN := O.1.1
  obtain ⟨o1, o2, o3, o4⟩ := lk_ok (key := key) (best := best) O hn hu k hk
  obtain ⟨⟨H0, H1, H2, H3⟩, ⟨H4, H5, H8⟩, _, _⟩ := I
  have k200 := lk_n_le (s := s) (key := key) (n := n) (best := best)
  have k5 := (K.2 _ o1).1
  rw [rg_kx, if_pos o2] at k5
  have k6 := (K.2 _ o1).2.1
  rw [rg_ka, if_pos o2] at k6
  have n1 := (C.1.2.2 _ o1).1
  have num := C.1.2.1.1 _ (show lk_at s key best n k ≤ 24 by omega)
  rw [nu_lt (by omega)] at num
  have p1 := O.1.2.2.2.1 _ o1
  have q1 : (nI (rg_p s (lk_at s key best n k))).toBitVec.toNat % 4096 = rg_p s (lk_at s key best n k) := by rw [pu_qn (by omega), Nat.mod_eq_of_lt p1]
  have dd : (nI key - nI (rg_p s (lk_at s key best n k))) &&& nI 4095 = nI (pu_d (rg_p s (lk_at s key best n k)) key) := pu_onq q1 hkey
  have ld := pu_d_lt (rg_p s (lk_at s key best n k)) key
  have la := rg_ar_le (s := s) (n := lk_at s key best n k)
  by_cases hk2 : k < lk_n s key best n
  · obtain ⟨x1, x2⟩ := lk_nf hk2
    rw [if_pos hk2]
    have hx : ¬ nu (rg_nx s (lk_at s key best n k)) = nu 24 := fun e => x1 ((nu_eq24 (rg_nx_le O o1)).mp e)
    simp (disch := omega) only [pu_lt, pu_ck, pu_bI, pu_bV, pu_bR, pu_bL, pu_nt, pu_us, pu_un, mL_0, mL_1, mL_2, mL_3, mL_4, mL_5, mL_6, mL_7, mL_8, mL_9, mL_10, mL_11, mL_12, mL_13, mL_14, mL_15, mL_16, mL_23, mL_24, mL_32, mL_48, mL_64, mL_99, mL_100, mL_200, mL_336, mL_576, mL_768, mL_800, mL_999, mL_4095, mL_4096, mL_m1, nI_leI, nI_ltI, nI_eq, nI_clamp, nI_add, pk_mul, nI_nu, bI_eq0, bI_eq1, bo_ft, pu_of, pu_of24, pu_onward, pu_frq, if_true, if_false, true_or, or_true, false_or, or_false, and_true, true_and, and_false, false_and, not_true_eq_false, not_false_eq_true, if_neg, if_pos, F8_endHere, f8_endHere_77, H1, H3, H8, k5, hx, n1, dd, k6]
  · rw [if_neg hk2]
    have ek : k = lk_n s key best n := by omega
    have ee : lk_e s key best n = lk_c s key (lk_at s key best n k) := by rw [ek]; rfl
    rw [ee]
    unfold lk_c
    by_cases hx : rg_nx s (lk_at s key best n k) = 24
    · rw [if_pos hx]
      rw [hx] at k5
      simp (disch := omega) only [pu_lt, pu_ck, pu_bI, pu_bV, pu_bR, pu_bL, pu_nt, pu_us, pu_un, mL_0, mL_1, mL_2, mL_3, mL_4, mL_5, mL_6, mL_7, mL_8, mL_9, mL_10, mL_11, mL_12, mL_13, mL_14, mL_15, mL_16, mL_23, mL_24, mL_32, mL_48, mL_64, mL_99, mL_100, mL_200, mL_336, mL_576, mL_768, mL_800, mL_999, mL_4095, mL_4096, mL_m1, nI_leI, nI_ltI, nI_eq, nI_clamp, nI_add, pk_mul, nI_nu, bI_eq0, bI_eq1, bo_ft, pu_of, pu_of24, pu_onward, pu_frq, if_true, if_false, true_or, or_true, false_or, or_false, and_true, true_and, and_false, false_and, not_true_eq_false, not_false_eq_true, if_neg, if_pos, F8_endHere, H3, k5]
      rfl
    · rw [if_neg hx]
      have hx' : ¬ nu (rg_nx s (lk_at s key best n k)) = nu 24 := fun e => hx ((nu_eq24 (rg_nx_le O o1)).mp e)
      have hxl : rg_nx s (lk_at s key best n k) < 24 := by
        rcases rg_nx_cases O o1 with h | h
        · exact absurd h hx
        · omega
      by_cases hd0 : pu_d (rg_p s (lk_at s key best n k)) key = 0
      · rw [if_pos hd0, cI_lt (by omega)]
        simp (disch := omega) only [pu_lt, pu_ck, pu_bI, pu_bV, pu_bR, pu_bL, pu_nt, pu_us, pu_un, mL_0, mL_1, mL_2, mL_3, mL_4, mL_5, mL_6, mL_7, mL_8, mL_9, mL_10, mL_11, mL_12, mL_13, mL_14, mL_15, mL_16, mL_23, mL_24, mL_32, mL_48, mL_64, mL_99, mL_100, mL_200, mL_336, mL_576, mL_768, mL_800, mL_999, mL_4095, mL_4096, mL_m1, nI_leI, nI_ltI, nI_eq, nI_clamp, nI_add, pk_mul, nI_nu, bI_eq0, bI_eq1, bo_ft, pu_of, pu_of24, pu_onward, pu_frq, if_true, if_false, true_or, or_true, false_or, or_false, and_true, true_and, and_false, false_and, not_true_eq_false, not_false_eq_true, if_neg, if_pos, F8_endHere, H1, H3, k5, hx', n1, dd, num]
      · rw [if_neg hd0]
        by_cases hda : pu_d (rg_p s (lk_at s key best n k)) key ≤ rg_ar s (lk_at s key best n k)
        · rw [if_pos hda, cI_lt hxl]
          simp (disch := omega) only [pu_lt, pu_ck, pu_bI, pu_bV, pu_bR, pu_bL, pu_nt, pu_us, pu_un, mL_0, mL_1, mL_2, mL_3, mL_4, mL_5, mL_6, mL_7, mL_8, mL_9, mL_10, mL_11, mL_12, mL_13, mL_14, mL_15, mL_16, mL_23, mL_24, mL_32, mL_48, mL_64, mL_99, mL_100, mL_200, mL_336, mL_576, mL_768, mL_800, mL_999, mL_4095, mL_4096, mL_m1, nI_leI, nI_ltI, nI_eq, nI_clamp, nI_add, pk_mul, nI_nu, bI_eq0, bI_eq1, bo_ft, pu_of, pu_of24, pu_onward, pu_frq, if_true, if_false, true_or, or_true, false_or, or_false, and_true, true_and, and_false, false_and, not_true_eq_false, not_false_eq_true, if_neg, if_pos, F8_endHere, H1, H3, k5, hx', n1, dd, k6]
          rw [nu_lt hxl]
        · rw [if_neg hda]
          have nf : lk_fin s key (lk_at s key best n k) = false := by
            unfold lk_fin
            rw [Bool.or_eq_false_iff, decide_eq_false_iff_not, decide_eq_false_iff_not]
            exact ⟨hx, hda⟩
          have e200 : k = 200 := by
            apply Decidable.byContradiction
            intro hne
            have : lk_n s key best n < 200 := by omega
            have y := fi_yes (P := fun k => lk_fin s key (lk_at s key best n k)) (m := 200) this
            have y' : lk_fin s key (lk_at s key best n (lk_n s key best n)) = true := y
            rw [← ek, nf] at y'
            exact absurd y' (by decide)
          simp (disch := omega) only [pu_lt, pu_ck, pu_bI, pu_bV, pu_bR, pu_bL, pu_nt, pu_us, pu_un, mL_0, mL_1, mL_2, mL_3, mL_4, mL_5, mL_6, mL_7, mL_8, mL_9, mL_10, mL_11, mL_12, mL_13, mL_14, mL_15, mL_16, mL_23, mL_24, mL_32, mL_48, mL_64, mL_99, mL_100, mL_200, mL_336, mL_576, mL_768, mL_800, mL_999, mL_4095, mL_4096, mL_m1, nI_leI, nI_ltI, nI_eq, nI_clamp, nI_add, pk_mul, nI_nu, bI_eq0, bI_eq1, bo_ft, pu_of, pu_of24, pu_onward, pu_frq, if_true, if_false, true_or, or_true, false_or, or_false, and_true, true_and, and_false, false_and, not_true_eq_false, not_false_eq_true, if_neg, if_pos, F8_endHere, f8_endHere_77, H1, H3, H8, k5, hx', n1, dd, k6]
          rfl
end
