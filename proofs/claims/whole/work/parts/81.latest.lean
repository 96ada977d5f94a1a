section
/-! the reference's lookup, to its end -/
theorem lk_arc {s : rg_T} {key a : Nat} (O : rg_ok s) (ha : a < rg_N s) (hx : rg_nx s a ≠ 24) (hkey : key < 4096) (h : ¬ pu_d (rg_p s a) key < rg_ar s a) : key = rg_p s (rg_nx s a) ↔ pu_d (rg_p s a) key ≤ rg_ar s a := by
  have l := pu_d_lt (rg_p s a) key
  have hx' : rg_nx s a < rg_N s := by
    rcases rg_nx_cases O ha with q | q
    · exact absurd q hx
    · exact q.1
  have p1 := O.1.2.2.2.1 a ha
  have p2 := O.1.2.2.2.1 _ hx'
  unfold rg_ar at h ⊢
  rw [if_neg hx] at h ⊢
  by_cases e : rg_nx s a = a
  · rw [if_pos e] at h; omega
  · rw [if_neg e] at h ⊢
    have := pu_d_inj p1 hkey p2
    constructor
    · intro q; rw [q]; exact Nat.le_refl _
    · intro q; exact this.mp (by omega)
def S_35 (k i _j : Nat) : Prop := k = 35 ∧ i = 0
set_option maxHeartbeats 4000000 in
theorem pu_looks {t : sr_t} {s : rg_T} {kp : Bool} {key n : Nat} {best : Bool} (R : rg_RN t s) (O : rg_ok s) (hn : n < rg_N s) (hu : rg_u s n = true) (hkey : key < 4096) (H22 : t.1 11 0 22 = bI kp) : ∃ t', F11_looks (nI n) (nI key) (bI best) t = some (.inl (some (sr_i (cI (lk_e s key best n)))), t') ∧ rf_I t t' kp s key best n (lk_n s key best n) ∧ t'.1 11 0 18 = nI (12 / rg_b s - lk_le s key best n 0) ∧ fr (S_lo kp) t t' := by
  have hN := O.1.1
  refine rs_via fun Q hQ => ?_
  obtain ⟨T, hT⟩ : ∃ T, T = (sr_u (sr_u (sr_u (sr_u (sr_u (sr_u (sr_u t 11 0 10 (nI n)) 11 0 13 (nI 0)) 11 0 14 (nI 0)) 11 0 15 (nI 0)) 11 0 16 (nI 0)) 11 0 17 (nI 0)) 11 0 19 (nI 0)) := ⟨_, rfl⟩
  have f7 : fr (S_lo kp) t T := by
    rw [hT]
    refine fr_u (fr_u (fr_u (fr_u (fr_u (fr_u (fr_u fr_rfl ?_) ?_) ?_) ?_) ?_) ?_) ?_ <;> (unfold S_lo; omega)
  have a10 : T.1 11 0 10 = nI n := by rw [hT]; simp (disch := omega) only [pv_lt, pu_ck, pv_bI, pv_bV, pu_bR, pv_bL, pv_nt, pu_us, pu_un, mL_0, mL_1, mL_2, mL_3, mL_4, mL_5, mL_6, mL_7, mL_8, mL_9, mL_10, mL_11, mL_12, mL_13, mL_14, mL_15, mL_16, mL_23, mL_24, mL_32, mL_48, mL_64, mL_99, mL_100, mL_200, mL_336, mL_576, mL_768, mL_800, mL_999, mL_4095, mL_4096, mL_m1, nI_leI, nI_ltI, nI_eq, nI_clamp, nI_add, pk_mul, nI_nu, bI_eq0, bI_eq1, bo_ft, pu_of, pu_of24, pu_onward, pu_frq, if_true, if_false, true_or, or_true, false_or, or_false, and_true, true_and, and_false, false_and, not_true_eq_false, not_false_eq_true, if_neg, if_pos]
  have a13 : T.1 11 0 13 = nI 0 := by rw [hT]; simp (disch := omega) only [pv_lt, pu_ck, pv_bI, pv_bV, pu_bR, pv_bL, pv_nt, pu_us, pu_un, mL_0, mL_1, mL_2, mL_3, mL_4, mL_5, mL_6, mL_7, mL_8, mL_9, mL_10, mL_11, mL_12, mL_13, mL_14, mL_15, mL_16, mL_23, mL_24, mL_32, mL_48, mL_64, mL_99, mL_100, mL_200, mL_336, mL_576, mL_768, mL_800, mL_999, mL_4095, mL_4096, mL_m1, nI_leI, nI_ltI, nI_eq, nI_clamp, nI_add, pk_mul, nI_nu, bI_eq0, bI_eq1, bo_ft, pu_of, pu_of24, pu_onward, pu_frq, if_true, if_false, true_or, or_true, false_or, or_false, and_true, true_and, and_false, false_and, not_true_eq_false, not_false_eq_true, if_neg, if_pos]
  have a14 : T.1 11 0 14 = nI 0 := by rw [hT]; simp (disch := omega) only [pv_lt, pu_ck, pv_bI, pv_bV, pu_bR, pv_bL, pv_nt, pu_us, pu_un, mL_0, mL_1, mL_2, mL_3, mL_4, mL_5, mL_6, mL_7, mL_8, mL_9, mL_10, mL_11, mL_12, mL_13, mL_14, mL_15, mL_16, mL_23, mL_24, mL_32, mL_48, mL_64, mL_99, mL_100, mL_200, mL_336, mL_576, mL_768, mL_800, mL_999, mL_4095, mL_4096, mL_m1, nI_leI, nI_ltI, nI_eq, nI_clamp, nI_add, pk_mul, nI_nu, bI_eq0, bI_eq1, bo_ft, pu_of, pu_of24, pu_onward, pu_frq, if_true, if_false, true_or, or_true, false_or, or_false, and_true, true_and, and_false, false_and, not_true_eq_false, not_false_eq_true, if_neg, if_pos]
  have a15 : T.1 11 0 15 = nI 0 := by rw [hT]; simp (disch := omega) only [pv_lt, pu_ck, pv_bI, pv_bV, pu_bR, pv_bL, pv_nt, pu_us, pu_un, mL_0, mL_1, mL_2, mL_3, mL_4, mL_5, mL_6, mL_7, mL_8, mL_9, mL_10, mL_11, mL_12, mL_13, mL_14, mL_15, mL_16, mL_23, mL_24, mL_32, mL_48, mL_64, mL_99, mL_100, mL_200, mL_336, mL_576, mL_768, mL_800, mL_999, mL_4095, mL_4096, mL_m1, nI_leI, nI_ltI, nI_eq, nI_clamp, nI_add, pk_mul, nI_nu, bI_eq0, bI_eq1, bo_ft, pu_of, pu_of24, pu_onward, pu_frq, if_true, if_false, true_or, or_true, false_or, or_false, and_true, true_and, and_false, false_and, not_true_eq_false, not_false_eq_true, if_neg, if_pos]
  have a16 : T.1 11 0 16 = nI 0 := by rw [hT]; simp (disch := omega) only [pv_lt, pu_ck, pv_bI, pv_bV, pu_bR, pv_bL, pv_nt, pu_us, pu_un, mL_0, mL_1, mL_2, mL_3, mL_4, mL_5, mL_6, mL_7, mL_8, mL_9, mL_10, mL_11, mL_12, mL_13, mL_14, mL_15, mL_16, mL_23, mL_24, mL_32, mL_48, mL_64, mL_99, mL_100, mL_200, mL_336, mL_576, mL_768, mL_800, mL_999, mL_4095, mL_4096, mL_m1, nI_leI, nI_ltI, nI_eq, nI_clamp, nI_add, pk_mul, nI_nu, bI_eq0, bI_eq1, bo_ft, pu_of, pu_of24, pu_onward, pu_frq, if_true, if_false, true_or, or_true, false_or, or_false, and_true, true_and, and_false, false_and, not_true_eq_false, not_false_eq_true, if_neg, if_pos]
  have a17 : T.1 11 0 17 = nI 0 := by rw [hT]; simp (disch := omega) only [pv_lt, pu_ck, pv_bI, pv_bV, pu_bR, pv_bL, pv_nt, pu_us, pu_un, mL_0, mL_1, mL_2, mL_3, mL_4, mL_5, mL_6, mL_7, mL_8, mL_9, mL_10, mL_11, mL_12, mL_13, mL_14, mL_15, mL_16, mL_23, mL_24, mL_32, mL_48, mL_64, mL_99, mL_100, mL_200, mL_336, mL_576, mL_768, mL_800, mL_999, mL_4095, mL_4096, mL_m1, nI_leI, nI_ltI, nI_eq, nI_clamp, nI_add, pk_mul, nI_nu, bI_eq0, bI_eq1, bo_ft, pu_of, pu_of24, pu_onward, pu_frq, if_true, if_false, true_or, or_true, false_or, or_false, and_true, true_and, and_false, false_and, not_true_eq_false, not_false_eq_true, if_neg, if_pos]
  have a19 : T.1 11 0 19 = nI 0 := by rw [hT]; simp (disch := omega) only [pv_lt, pu_ck, pv_bI, pv_bV, pu_bR, pv_bL, pv_nt, pu_us, pu_un, mL_0, mL_1, mL_2, mL_3, mL_4, mL_5, mL_6, mL_7, mL_8, mL_9, mL_10, mL_11, mL_12, mL_13, mL_14, mL_15, mL_16, mL_23, mL_24, mL_32, mL_48, mL_64, mL_99, mL_100, mL_200, mL_336, mL_576, mL_768, mL_800, mL_999, mL_4095, mL_4096, mL_m1, nI_leI, nI_ltI, nI_eq, nI_clamp, nI_add, pk_mul, nI_nu, bI_eq0, bI_eq1, bo_ft, pu_of, pu_of24, pu_onward, pu_frq, if_true, if_false, true_or, or_true, false_or, or_false, and_true, true_and, and_false, false_and, not_true_eq_false, not_false_eq_true, if_neg, if_pos]
  have a22 : T.1 11 0 22 = bI kp := by rw [f7.2 _ _ _ (by unfold S_lo; omega)]; exact H22
  have a36 : ∀ j, T.1 36 0 j = t.1 36 0 j := by intro j; rw [hT]; simp (disch := omega) only [pv_lt, pu_ck, pv_bI, pv_bV, pu_bR, pv_bL, pv_nt, pu_us, pu_un, mL_0, mL_1, mL_2, mL_3, mL_4, mL_5, mL_6, mL_7, mL_8, mL_9, mL_10, mL_11, mL_12, mL_13, mL_14, mL_15, mL_16, mL_23, mL_24, mL_32, mL_48, mL_64, mL_99, mL_100, mL_200, mL_336, mL_576, mL_768, mL_800, mL_999, mL_4095, mL_4096, mL_m1, nI_leI, nI_ltI, nI_eq, nI_clamp, nI_add, pk_mul, nI_nu, bI_eq0, bI_eq1, bo_ft, pu_of, pu_of24, pu_onward, pu_frq, if_true, if_false, true_or, or_true, false_or, or_false, and_true, true_and, and_false, false_and, not_true_eq_false, not_false_eq_true, if_neg, if_pos]
  have RT : rg_RN T s := rg_RN_fr O f7 (fun k i j q => by unfold Fp_R at q; unfold S_lo; omega) R
  simp (disch := omega) only [pv_lt, pu_ck, pv_bI, pv_bV, pu_bR, pv_bL, pv_nt, pu_us, pu_un, mL_0, mL_1, mL_2, mL_3, mL_4, mL_5, mL_6, mL_7, mL_8, mL_9, mL_10, mL_11, mL_12, mL_13, mL_14, mL_15, mL_16, mL_23, mL_24, mL_32, mL_48, mL_64, mL_99, mL_100, mL_200, mL_336, mL_576, mL_768, mL_800, mL_999, mL_4095, mL_4096, mL_m1, nI_leI, nI_ltI, nI_eq, nI_clamp, nI_add, pk_mul, nI_nu, bI_eq0, bI_eq1, bo_ft, pu_of, pu_of24, pu_onward, pu_frq, if_true, if_false, true_or, or_true, false_or, or_false, and_true, true_and, and_false, false_and, not_true_eq_false, not_false_eq_true, if_neg, if_pos, F11_looks]
  rw [← hT]
  refine rs_loop (N := 24) (L := fun f k t' => f11_looks_38 (nI n) (nI key) (bI best) (f11_looks_59 (nI n) (nI key) (bI best)) f (nI k) t') (fun k t' => (∀ y, y < k → t'.1 35 0 y = nI 0) ∧ fr S_35 T t') ?_ ?_ (by unfold sr_fu; omega) ⟨fun y hy => by omega, fr_rfl⟩
  · rintro k g t' hk ⟨p1, p2⟩
    left
    refine ⟨sr_u t' 35 0 k (nI 0), ⟨fun y hy => ?_, fr_u p2 (by unfold S_35; omega)⟩, ?_⟩
    · by_cases e : y = k
      · rw [e, pu_us]
      · rw [pu_un (by omega)]; exact p1 y (by omega)
    · show f11_looks_38 (nI n) (nI key) (bI best) (f11_looks_59 (nI n) (nI key) (bI best)) (g + 1) (nI k) t' = f11_looks_38 (nI n) (nI key) (bI best) (f11_looks_59 (nI n) (nI key) (bI best)) g (nI (k + 1)) _
      simp (disch := omega) only [pv_lt, pu_ck, pv_bI, pv_bV, pu_bR, pv_bL, pv_nt, pu_us, pu_un, mL_0, mL_1, mL_2, mL_3, mL_4, mL_5, mL_6, mL_7, mL_8, mL_9, mL_10, mL_11, mL_12, mL_13, mL_14, mL_15, mL_16, mL_23, mL_24, mL_32, mL_48, mL_64, mL_99, mL_100, mL_200, mL_336, mL_576, mL_768, mL_800, mL_999, mL_4095, mL_4096, mL_m1, nI_leI, nI_ltI, nI_eq, nI_clamp, nI_add, pk_mul, nI_nu, bI_eq0, bI_eq1, bo_ft, pu_of, pu_of24, pu_onward, pu_frq, if_true, if_false, true_or, or_true, false_or, or_false, and_true, true_and, and_false, false_and, not_true_eq_false, not_false_eq_true, if_neg, if_pos, f11_looks_38, pu_ixN']
  · rintro g t8 ⟨p1, p2⟩
    show rs_to _ (f11_looks_38 (nI n) (nI key) (bI best) (f11_looks_59 (nI n) (nI key) (bI best)) (g + 1) (nI 24) t8)
    have f8 : fr (S_lo kp) t t8 := fr_trans f7 (fr_mono p2 (fun k i j q => by unfold S_35 at q; unfold S_lo; omega))
    have R8 : rg_RN t8 s := rg_RN_fr O f8 (fun k i j q => by unfold Fp_R at q; unfold S_lo; omega) R
    obtain ⟨t9, e9, q11, q12, q9⟩ := pu_startR (best := best) R8 O hn hkey (by rw [p2.2 _ _ _ (by unfold S_35; omega)]; exact a10)
    have f9 : fr (S_lo kp) t t9 := fr_trans f8 (fr_mono q9 (fun k i j q => by unfold S_sr at q; unfold S_lo; omega))
    have R9 : rg_RN t9 s := rg_RN_fr O f9 (fun k i j q => by unfold Fp_R at q; unfold S_lo; omega) R
    have l9 := pu_lettersR (rg_RN_hd R9).2 O.1
    have hl := (rg_sta_lt (key := key) (best := best) O.1 hn).2
    have ls : nI (12 / rg_b s) - nI (rg_sta s key best n).2 = nI (12 / rg_b s - (rg_sta s key best n).2) := pk_sub hl
    have gg : ∀ j, j ≠ 11 → j ≠ 12 → t9.1 11 0 j = T.1 11 0 j := fun j h1 h2 => by rw [q9.2 _ _ _ (by unfold S_sr; omega), p2.2 _ _ _ (by unfold S_35; omega)]
    simp (disch := omega) only [pv_lt, pu_ck, pv_bI, pv_bV, pu_bR, pv_bL, pv_nt, pu_us, pu_un, mL_0, mL_1, mL_2, mL_3, mL_4, mL_5, mL_6, mL_7, mL_8, mL_9, mL_10, mL_11, mL_12, mL_13, mL_14, mL_15, mL_16, mL_23, mL_24, mL_32, mL_48, mL_64, mL_99, mL_100, mL_200, mL_336, mL_576, mL_768, mL_800, mL_999, mL_4095, mL_4096, mL_m1, nI_leI, nI_ltI, nI_eq, nI_clamp, nI_add, pk_mul, nI_nu, bI_eq0, bI_eq1, bo_ft, pu_of, pu_of24, pu_onward, pu_frq, if_true, if_false, true_or, or_true, false_or, or_false, and_true, true_and, and_false, false_and, not_true_eq_false, not_false_eq_true, if_neg, if_pos, f11_looks_38, f11_looks_59, e9, l9, q12, ls]
    obtain ⟨U, hU⟩ : ∃ U, U = sr_u t9 11 0 18 (nI (12 / rg_b s - (rg_sta s key best n).2)) := ⟨_, rfl⟩
    rw [← hU]
    have fU : fr (S_lo kp) t U := by rw [hU]; exact fr_u f9 (by unfold S_lo; omega)
    have gU : ∀ k j, ¬ (k = 11 ∧ j = 18) → U.1 k 0 j = t9.1 k 0 j := fun k j h => by rw [hU, pu_un (by omega)]
    have I0 : rf_I t U kp s key best n 0 := by
      refine ⟨⟨?_, ?_, ?_, ?_⟩, ⟨?_, ?_, ?_, ?_, ?_⟩, ?_, fun _ j hj => by omega, fun y hy => ?_, fun x y hx hy => ?_⟩
      · rw [gU _ _ (by omega), gg _ (by omega) (by omega)]; exact a10
      · rw [gU _ _ (by omega)]; exact q11
      · rw [gU _ _ (by omega)]; exact q12
      · rw [gU _ _ (by omega), gg _ (by omega) (by omega)]; exact a17
      · rw [gU _ _ (by omega), gg _ (by omega) (by omega)]; exact a13
      · rw [gU _ _ (by omega), gg _ (by omega) (by omega)]; exact a14
      · rw [gU _ _ (by omega), gg _ (by omega) (by omega)]; exact a15
      · rw [gU _ _ (by omega), gg _ (by omega) (by omega)]; exact a16
      · rw [gU _ _ (by omega), gg _ (by omega) (by omega)]; exact a19
      · rw [gU _ _ (by omega), gg _ (by omega) (by omega)]; exact a22
      · rw [gU _ _ (by omega), q9.2 _ _ _ (by unfold S_sr; omega), p1 y hy]; rfl
      · rw [gU _ _ (by omega), q9.2 _ _ _ (by unfold S_sr; omega), p2.2 _ _ _ (by unfold S_35; omega), a36]
        show _ = _ + nI 0
        rw [nI_0, Int32.add_zero]
    have k200 := lk_n_le (s := s) (key := key) (n := n) (best := best)
    refine rs_loop (N := lk_n s key best n) (L := fun f k t' => f11_looks_78 (nI n) (nI key) (bI best) (f11_looks_94 (nI n) (nI key) (bI best)) (f11_looks_110 (nI n) (nI key) (bI best)) (f11_looks_138 (nI n) (nI key) (bI best)) (f11_looks_151 (nI n) (nI key) (bI best)) f t') (fun k t' => rf_I t t' kp s key best n k ∧ t'.1 11 0 18 = nI (12 / rg_b s - lk_le s key best n 0) ∧ fr (S_lo kp) t t') ?_ ?_ (by unfold sr_fu; omega) ⟨I0, by rw [hU, pu_us]; rfl, fU⟩
    · rintro k g' t' hk ⟨I, h18, hf⟩
      have R' : rg_RN t' s := rg_RN_fr O hf (fun k i j q => by unfold Fp_R at q; unfold S_lo; omega) R
      obtain ⟨o1, o2, o3, o4⟩ := lk_ok (key := key) (best := best) O hn hu k (Nat.le_of_lt hk)
      obtain ⟨x1, x2⟩ := lk_nf hk
      have y1 : rg_nx s (lk_at s key best n k) < rg_N s := by
        rcases rg_nx_cases O o1 with h | h
        · exact absurd h x1
        · exact h.1
      obtain ⟨⟨H10, H11, H12, H17⟩, _⟩ := id I
      have nx := pu_nextOf R' O o1
      rw [nu_lt (by omega)] at nx
      have na := (rg_RN_nd R' o1).1
      have nn := (rg_RN_nd R' y1).1
      have pa := O.1.2.2.2.1 _ o1
      have pn := O.1.2.2.2.1 _ y1
      have inA := pu_inArcR R' O o1 x1 hkey
      have hd : ¬ pu_d (rg_p s (lk_at s key best n k)) key < rg_ar s (lk_at s key best n k) := by omega
      rw [decide_eq_false hd] at inA
      have bf : bI false = nI 0 := rfl
      have ne1 : ¬ key = rg_p s (lk_at s key best n k) := fun q => by
        have := (pu_d_0 pa hkey).mpr q.symm
        omega
      have ne2 : ¬ key = rg_p s (rg_nx s (lk_at s key best n k)) := fun q => by
        have := (lk_arc O o1 x1 hkey hd).mp q
        omega
      obtain ⟨t1, e1, I1, f1⟩ := pu_goes R' O hn hu hkey hk I
      left
      refine ⟨t1, ⟨I1, ?_, fr_trans hf (fr_mono f1 (fun k i j q => by unfold S_gs at q; unfold S_lo; omega))⟩, ?_⟩
      · rw [f1.2 _ _ _ (by unfold S_gs; omega)]; exact h18
      · show f11_looks_78 (nI n) (nI key) (bI best) (f11_looks_94 (nI n) (nI key) (bI best)) (f11_looks_110 (nI n) (nI key) (bI best)) (f11_looks_138 (nI n) (nI key) (bI best)) (f11_looks_151 (nI n) (nI key) (bI best)) (g' + 1) t' = f11_looks_78 (nI n) (nI key) (bI best) (f11_looks_94 (nI n) (nI key) (bI best)) (f11_looks_110 (nI n) (nI key) (bI best)) (f11_looks_138 (nI n) (nI key) (bI best)) (f11_looks_151 (nI n) (nI key) (bI best)) g' t1
        simp (disch := omega) only [pv_lt, pu_ck, pv_bI, pv_bV, pu_bR, pv_bL, pv_nt, pu_us, pu_un, mL_0, mL_1, mL_2, mL_3, mL_4, mL_5, mL_6, mL_7, mL_8, mL_9, mL_10, mL_11, mL_12, mL_13, mL_14, mL_15, mL_16, mL_23, mL_24, mL_32, mL_48, mL_64, mL_99, mL_100, mL_200, mL_336, mL_576, mL_768, mL_800, mL_999, mL_4095, mL_4096, mL_m1, nI_leI, nI_ltI, nI_eq, nI_clamp, nI_add, pk_mul, nI_nu, bI_eq0, bI_eq1, bo_ft, pu_of, pu_of24, pu_onward, pu_frq, if_true, if_false, true_or, or_true, false_or, or_false, and_true, true_and, and_false, false_and, not_true_eq_false, not_false_eq_true, if_neg, if_pos, f11_looks_78, H10, H17, nx, na, nn, pu_ixN', inA, bf, e1]
    · rintro g' t' ⟨I, h18, hf⟩
      have R' : rg_RN t' s := rg_RN_fr O hf (fun k i j q => by unfold Fp_R at q; unfold S_lo; omega) R
      obtain ⟨o1, o2, o3, o4⟩ := lk_ok (key := key) (best := best) O hn hu (lk_n s key best n) (Nat.le_refl _)
      obtain ⟨⟨H10, H11, H12, H17⟩, _⟩ := id I
      have nx := pu_nextOf R' O o1
      have na := (rg_RN_nd R' o1).1
      have pa := O.1.2.2.2.1 _ o1
      have fin : rs_to Q (some (.inl (some (sr_i (cI (lk_e s key best n)))), t')) := rs_ret (hQ _ ⟨I, h18, hf⟩)
      show rs_to Q (f11_looks_78 (nI n) (nI key) (bI best) (f11_looks_94 (nI n) (nI key) (bI best)) (f11_looks_110 (nI n) (nI key) (bI best)) (f11_looks_138 (nI n) (nI key) (bI best)) (f11_looks_151 (nI n) (nI key) (bI best)) (g' + 1) t')
      have ee : lk_e s key best n = lk_c s key (lk_at s key best n (lk_n s key best n)) := rfl
      rw [ee] at fin
      unfold lk_c at fin
      by_cases hx : rg_nx s (lk_at s key best n (lk_n s key best n)) = 24
      · rw [if_pos hx] at fin
        rw [hx] at nx
        simp (disch := omega) only [pv_lt, pu_ck, pv_bI, pv_bV, pu_bR, pv_bL, pv_nt, pu_us, pu_un, mL_0, mL_1, mL_2, mL_3, mL_4, mL_5, mL_6, mL_7, mL_8, mL_9, mL_10, mL_11, mL_12, mL_13, mL_14, mL_15, mL_16, mL_23, mL_24, mL_32, mL_48, mL_64, mL_99, mL_100, mL_200, mL_336, mL_576, mL_768, mL_800, mL_999, mL_4095, mL_4096, mL_m1, nI_leI, nI_ltI, nI_eq, nI_clamp, nI_add, pk_mul, nI_nu, bI_eq0, bI_eq1, bo_ft, pu_of, pu_of24, pu_onward, pu_frq, if_true, if_false, true_or, or_true, false_or, or_false, and_true, true_and, and_false, false_and, not_true_eq_false, not_false_eq_true, if_neg, if_pos, f11_looks_78, f11_looks_94, H10, nx]
        exact fin
      · rw [if_neg hx] at fin
        have y1 : rg_nx s (lk_at s key best n (lk_n s key best n)) < rg_N s := by
          rcases rg_nx_cases O o1 with h | h
          · exact absurd h hx
          · exact h.1
        rw [nu_lt (by omega)] at nx
        have nn := (rg_RN_nd R' y1).1
        have pn := O.1.2.2.2.1 _ y1
        by_cases hd0 : pu_d (rg_p s (lk_at s key best n (lk_n s key best n))) key = 0
        · rw [if_pos hd0, cI_lt (by omega)] at fin
          have eq : key = rg_p s (lk_at s key best n (lk_n s key best n)) := ((pu_d_0 pa hkey).mp hd0).symm
          have eq' : nI key = nI (rg_p s (lk_at s key best n (lk_n s key best n))) := by rw [← eq]
          rw [← eq'] at na
          simp (disch := omega) only [pv_lt, pu_ck, pv_bI, pv_bV, pu_bR, pv_bL, pv_nt, pu_us, pu_un, mL_0, mL_1, mL_2, mL_3, mL_4, mL_5, mL_6, mL_7, mL_8, mL_9, mL_10, mL_11, mL_12, mL_13, mL_14, mL_15, mL_16, mL_23, mL_24, mL_32, mL_48, mL_64, mL_99, mL_100, mL_200, mL_336, mL_576, mL_768, mL_800, mL_999, mL_4095, mL_4096, mL_m1, nI_leI, nI_ltI, nI_eq, nI_clamp, nI_add, pk_mul, nI_nu, bI_eq0, bI_eq1, bo_ft, pu_of, pu_of24, pu_onward, pu_frq, if_true, if_false, true_or, or_true, false_or, or_false, and_true, true_and, and_false, false_and, not_true_eq_false, not_false_eq_true, if_neg, if_pos, f11_looks_78, f11_looks_110, H10, nx, na, pu_ixN']
          exact fin
        · rw [if_neg hd0] at fin
          have ne1 : ¬ key = rg_p s (lk_at s key best n (lk_n s key best n)) := fun q => hd0 ((pu_d_0 pa hkey).mpr q.symm)
          have inA := pu_inArcR R' O o1 hx hkey
          by_cases hd : pu_d (rg_p s (lk_at s key best n (lk_n s key best n))) key < rg_ar s (lk_at s key best n (lk_n s key best n))
          · rw [if_pos (by omega), cI_lt (by omega)] at fin
            rw [decide_eq_true hd] at inA
            have bt : ¬ bI true = nI 0 := by decide
            simp (disch := omega) only [pv_lt, pu_ck, pv_bI, pv_bV, pu_bR, pv_bL, pv_nt, pu_us, pu_un, mL_0, mL_1, mL_2, mL_3, mL_4, mL_5, mL_6, mL_7, mL_8, mL_9, mL_10, mL_11, mL_12, mL_13, mL_14, mL_15, mL_16, mL_23, mL_24, mL_32, mL_48, mL_64, mL_99, mL_100, mL_200, mL_336, mL_576, mL_768, mL_800, mL_999, mL_4095, mL_4096, mL_m1, nI_leI, nI_ltI, nI_eq, nI_clamp, nI_add, pk_mul, nI_nu, bI_eq0, bI_eq1, bo_ft, pu_of, pu_of24, pu_onward, pu_frq, if_true, if_false, true_or, or_true, false_or, or_false, and_true, true_and, and_false, false_and, not_true_eq_false, not_false_eq_true, if_neg, if_pos, f11_looks_78, f11_looks_138, H10, nx, na, pu_ixN', inA, bt]
            exact fin
          · rw [decide_eq_false hd] at inA
            have bf : bI false = nI 0 := rfl
            by_cases hda : pu_d (rg_p s (lk_at s key best n (lk_n s key best n))) key ≤ rg_ar s (lk_at s key best n (lk_n s key best n))
            · rw [if_pos hda, cI_lt (by omega)] at fin
              have eq := (lk_arc O o1 hx hkey hd).mpr hda
              have eq' : nI key = nI (rg_p s (rg_nx s (lk_at s key best n (lk_n s key best n)))) := by rw [← eq]
              rw [← eq'] at nn
              simp (disch := omega) only [pv_lt, pu_ck, pv_bI, pv_bV, pu_bR, pv_bL, pv_nt, pu_us, pu_un, mL_0, mL_1, mL_2, mL_3, mL_4, mL_5, mL_6, mL_7, mL_8, mL_9, mL_10, mL_11, mL_12, mL_13, mL_14, mL_15, mL_16, mL_23, mL_24, mL_32, mL_48, mL_64, mL_99, mL_100, mL_200, mL_336, mL_576, mL_768, mL_800, mL_999, mL_4095, mL_4096, mL_m1, nI_leI, nI_ltI, nI_eq, nI_clamp, nI_add, pk_mul, nI_nu, bI_eq0, bI_eq1, bo_ft, pu_of, pu_of24, pu_onward, pu_frq, if_true, if_false, true_or, or_true, false_or, or_false, and_true, true_and, and_false, false_and, not_true_eq_false, not_false_eq_true, if_neg, if_pos, f11_looks_78, f11_looks_138, H10, nx, na, nn, pu_ixN', inA, bf]
              exact fin
            · rw [if_neg hda] at fin
              have ne2 : ¬ key = rg_p s (rg_nx s (lk_at s key best n (lk_n s key best n))) := fun q => hda ((lk_arc O o1 hx hkey hd).mp q)
              have nf : lk_fin s key (lk_at s key best n (lk_n s key best n)) = false := by
                unfold lk_fin
                rw [Bool.or_eq_false_iff, decide_eq_false_iff_not, decide_eq_false_iff_not]
                exact ⟨hx, hda⟩
              have e200 : lk_n s key best n = 200 := by
                apply Decidable.byContradiction
                intro hne
                have y := fi_yes (P := fun k => lk_fin s key (lk_at s key best n k)) (m := 200) (show lk_n s key best n < 200 by omega)
                have y' : lk_fin s key (lk_at s key best n (lk_n s key best n)) = true := y
                rw [nf] at y'
                exact absurd y' (by decide)
              rw [show nI (lk_n s key best n) = nI 200 by rw [e200]] at H17
              simp (disch := omega) only [pv_lt, pu_ck, pv_bI, pv_bV, pu_bR, pv_bL, pv_nt, pu_us, pu_un, mL_0, mL_1, mL_2, mL_3, mL_4, mL_5, mL_6, mL_7, mL_8, mL_9, mL_10, mL_11, mL_12, mL_13, mL_14, mL_15, mL_16, mL_23, mL_24, mL_32, mL_48, mL_64, mL_99, mL_100, mL_200, mL_336, mL_576, mL_768, mL_800, mL_999, mL_4095, mL_4096, mL_m1, nI_leI, nI_ltI, nI_eq, nI_clamp, nI_add, pk_mul, nI_nu, bI_eq0, bI_eq1, bo_ft, pu_of, pu_of24, pu_onward, pu_frq, if_true, if_false, true_or, or_true, false_or, or_false, and_true, true_and, and_false, false_and, not_true_eq_false, not_false_eq_true, if_neg, if_pos, f11_looks_78, f11_looks_151, H10, H17, nx, na, nn, pu_ixN', inA, bf]
              exact fin
end
