section
/-! the latest lookup, the reference's -/
theorem pu_isRight {t : sr_t} {s : rg_T} {key c : Nat} (R : rg_RN t s) (O : rg_ok s) (hkey : key < 4096) (hc : c < 24 ∨ c = 26 ∨ c = 27) : F11_isRight (nI key) (cI c) t = some (.inl (some (sr_i (bI (decide (rg_ff s key = c))))), t) := by
  have hff : rg_ff s key ≤ 24 := am_le (D := fun n => pu_d key (rg_p s n)) (u := rg_u s) (N := rg_N s) O.1.1
  have e1 := pn_upFrom1 R O.1 hkey
  have neg : ∀ z : Int32, z < 0 → F11_isRight (nI key) z t = some (.inl (some (sr_i (bI false))), t) := by
    intro z hz
    unfold F11_isRight
    rw [if_pos hz]
    rfl
  rcases hc with h | rfl | rfl
  · rw [cI_lt h]
    by_cases e : rg_ff s key = c
    · rw [decide_eq_true e]
      rw [e, nu_lt h] at e1
      simp (disch := omega) only [pv_lt, pu_ck, pv_bI, pv_bV, pu_bR, pv_bL, pv_nt, pu_us, pu_un, mL_0, mL_1, mL_2, mL_3, mL_4, mL_5, mL_6, mL_7, mL_8, mL_9, mL_10, mL_11, mL_12, mL_13, mL_14, mL_15, mL_16, mL_23, mL_24, mL_32, mL_48, mL_64, mL_99, mL_100, mL_200, mL_336, mL_576, mL_768, mL_800, mL_999, mL_4095, mL_4096, mL_m1, nI_leI, nI_ltI, nI_eq, nI_clamp, nI_add, pk_mul, nI_nu, bI_eq0, bI_eq1, bo_ft, Bool.true_eq_false, Bool.false_eq_true, pu_of, pu_of24, pu_onward, pu_frq, if_true, if_false, true_or, or_true, false_or, or_false, and_true, true_and, and_false, false_and, not_true_eq_false, not_false_eq_true, if_neg, if_pos, F11_isRight, f11_isRight_19, e1]
      rfl
    · rw [decide_eq_false e]
      have e' : ¬ nI c = nu (rg_ff s key) := fun q => e ((nu_nI hff h).mp q.symm)
      simp (disch := omega) only [pv_lt, pu_ck, pv_bI, pv_bV, pu_bR, pv_bL, pv_nt, pu_us, pu_un, mL_0, mL_1, mL_2, mL_3, mL_4, mL_5, mL_6, mL_7, mL_8, mL_9, mL_10, mL_11, mL_12, mL_13, mL_14, mL_15, mL_16, mL_23, mL_24, mL_32, mL_48, mL_64, mL_99, mL_100, mL_200, mL_336, mL_576, mL_768, mL_800, mL_999, mL_4095, mL_4096, mL_m1, nI_leI, nI_ltI, nI_eq, nI_clamp, nI_add, pk_mul, nI_nu, bI_eq0, bI_eq1, bo_ft, Bool.true_eq_false, Bool.false_eq_true, pu_of, pu_of24, pu_onward, pu_frq, if_true, if_false, true_or, or_true, false_or, or_false, and_true, true_and, and_false, false_and, not_true_eq_false, not_false_eq_true, if_neg, if_pos, F11_isRight, f11_isRight_18, f11_isRight_19, e1, e']
      rfl
  · rw [decide_eq_false (by omega)]
    exact neg _ (by decide)
  · rw [decide_eq_false (by omega)]
    exact neg _ (by decide)
def S_79 (k i j : Nat) : Prop := (k = 33 ∧ i = 0 ∧ 4 ≤ j) ∨ (k = 11 ∧ i = 0 ∧ (j = 28 ∨ j = 30)) ∨ (k = 34 ∧ i = 0)
set_option maxHeartbeats 2000000 in
theorem pu_ll79 {t : sr_t} {s : rg_T} {x y z v : Int32} {c a st sp tm : Nat} (R : rg_RN t s) (O : rg_ok s) (ha : a < rg_N s) (hc : c < 24 ∨ c = 26 ∨ c = 27) (H17 : t.1 11 0 17 = nI st) (H18 : t.1 11 0 18 = nI sp) (H10 : t.1 11 0 10 = nI a) (H19 : t.1 11 0 19 = nI tm) : ∃ t', f11_latestLook_79 x y z (cI c) v (nI 4) t = some (.inl (some (sr_i (cI c))), t') ∧ (t'.1 33 0 4 = v ∧ t'.1 33 0 5 = nI st ∧ t'.1 33 0 6 = nI sp ∧ t'.1 33 0 7 = nI a ∧ t'.1 33 0 8 = nI tm) ∧ t'.1 11 0 28 = nI st ∧ t'.1 11 0 30 = nI (if c = 26 then 1 + rg_t s a 1 else 0) ∧ (∀ j, j < (if c = 26 then 1 + rg_t s a 1 else 0) → t'.1 34 0 j = nI (rg_wy s a j)) ∧ fr S_79 t t' := by
  have hN := O.1.1
  obtain ⟨o0, o1, o2, o3, o4, o5⟩ := O.2 a ha
  refine rs_via fun Q hQ => ?_
  obtain ⟨T, hT⟩ : ∃ T, T = (sr_u (sr_u (sr_u (sr_u (sr_u (sr_u (sr_u t 33 0 4 v) 33 0 5 (nI st)) 33 0 6 (nI sp)) 33 0 7 (nI a)) 33 0 8 (nI tm)) 11 0 28 (nI st)) 11 0 30 (nI 0)) := ⟨_, rfl⟩
  have fT : fr S_79 t T := by
    rw [hT]
    refine fr_u (fr_u (fr_u (fr_u (fr_u (fr_u (fr_u fr_rfl ?_) ?_) ?_) ?_) ?_) ?_) ?_ <;> (unfold S_79; omega)
  have a4 : T.1 33 0 4 = v := by rw [hT]; simp (disch := omega) only [pv_lt, pu_ck, pv_bI, pv_bV, pu_bR, pv_bL, pv_nt, pu_us, pu_un, mL_0, mL_1, mL_2, mL_3, mL_4, mL_5, mL_6, mL_7, mL_8, mL_9, mL_10, mL_11, mL_12, mL_13, mL_14, mL_15, mL_16, mL_23, mL_24, mL_32, mL_48, mL_64, mL_99, mL_100, mL_200, mL_336, mL_576, mL_768, mL_800, mL_999, mL_4095, mL_4096, mL_m1, nI_leI, nI_ltI, nI_eq, nI_clamp, nI_add, pk_mul, nI_nu, bI_eq0, bI_eq1, bo_ft, Bool.true_eq_false, Bool.false_eq_true, pu_of, pu_of24, pu_onward, pu_frq, if_true, if_false, true_or, or_true, false_or, or_false, and_true, true_and, and_false, false_and, not_true_eq_false, not_false_eq_true, if_neg, if_pos]
  have a5 : T.1 33 0 5 = nI st := by rw [hT]; simp (disch := omega) only [pv_lt, pu_ck, pv_bI, pv_bV, pu_bR, pv_bL, pv_nt, pu_us, pu_un, mL_0, mL_1, mL_2, mL_3, mL_4, mL_5, mL_6, mL_7, mL_8, mL_9, mL_10, mL_11, mL_12, mL_13, mL_14, mL_15, mL_16, mL_23, mL_24, mL_32, mL_48, mL_64, mL_99, mL_100, mL_200, mL_336, mL_576, mL_768, mL_800, mL_999, mL_4095, mL_4096, mL_m1, nI_leI, nI_ltI, nI_eq, nI_clamp, nI_add, pk_mul, nI_nu, bI_eq0, bI_eq1, bo_ft, Bool.true_eq_false, Bool.false_eq_true, pu_of, pu_of24, pu_onward, pu_frq, if_true, if_false, true_or, or_true, false_or, or_false, and_true, true_and, and_false, false_and, not_true_eq_false, not_false_eq_true, if_neg, if_pos]
  have a6 : T.1 33 0 6 = nI sp := by rw [hT]; simp (disch := omega) only [pv_lt, pu_ck, pv_bI, pv_bV, pu_bR, pv_bL, pv_nt, pu_us, pu_un, mL_0, mL_1, mL_2, mL_3, mL_4, mL_5, mL_6, mL_7, mL_8, mL_9, mL_10, mL_11, mL_12, mL_13, mL_14, mL_15, mL_16, mL_23, mL_24, mL_32, mL_48, mL_64, mL_99, mL_100, mL_200, mL_336, mL_576, mL_768, mL_800, mL_999, mL_4095, mL_4096, mL_m1, nI_leI, nI_ltI, nI_eq, nI_clamp, nI_add, pk_mul, nI_nu, bI_eq0, bI_eq1, bo_ft, Bool.true_eq_false, Bool.false_eq_true, pu_of, pu_of24, pu_onward, pu_frq, if_true, if_false, true_or, or_true, false_or, or_false, and_true, true_and, and_false, false_and, not_true_eq_false, not_false_eq_true, if_neg, if_pos]
  have a7 : T.1 33 0 7 = nI a := by rw [hT]; simp (disch := omega) only [pv_lt, pu_ck, pv_bI, pv_bV, pu_bR, pv_bL, pv_nt, pu_us, pu_un, mL_0, mL_1, mL_2, mL_3, mL_4, mL_5, mL_6, mL_7, mL_8, mL_9, mL_10, mL_11, mL_12, mL_13, mL_14, mL_15, mL_16, mL_23, mL_24, mL_32, mL_48, mL_64, mL_99, mL_100, mL_200, mL_336, mL_576, mL_768, mL_800, mL_999, mL_4095, mL_4096, mL_m1, nI_leI, nI_ltI, nI_eq, nI_clamp, nI_add, pk_mul, nI_nu, bI_eq0, bI_eq1, bo_ft, Bool.true_eq_false, Bool.false_eq_true, pu_of, pu_of24, pu_onward, pu_frq, if_true, if_false, true_or, or_true, false_or, or_false, and_true, true_and, and_false, false_and, not_true_eq_false, not_false_eq_true, if_neg, if_pos]
  have a8 : T.1 33 0 8 = nI tm := by rw [hT]; simp (disch := omega) only [pv_lt, pu_ck, pv_bI, pv_bV, pu_bR, pv_bL, pv_nt, pu_us, pu_un, mL_0, mL_1, mL_2, mL_3, mL_4, mL_5, mL_6, mL_7, mL_8, mL_9, mL_10, mL_11, mL_12, mL_13, mL_14, mL_15, mL_16, mL_23, mL_24, mL_32, mL_48, mL_64, mL_99, mL_100, mL_200, mL_336, mL_576, mL_768, mL_800, mL_999, mL_4095, mL_4096, mL_m1, nI_leI, nI_ltI, nI_eq, nI_clamp, nI_add, pk_mul, nI_nu, bI_eq0, bI_eq1, bo_ft, Bool.true_eq_false, Bool.false_eq_true, pu_of, pu_of24, pu_onward, pu_frq, if_true, if_false, true_or, or_true, false_or, or_false, and_true, true_and, and_false, false_and, not_true_eq_false, not_false_eq_true, if_neg, if_pos]
  have a28 : T.1 11 0 28 = nI st := by rw [hT]; simp (disch := omega) only [pv_lt, pu_ck, pv_bI, pv_bV, pu_bR, pv_bL, pv_nt, pu_us, pu_un, mL_0, mL_1, mL_2, mL_3, mL_4, mL_5, mL_6, mL_7, mL_8, mL_9, mL_10, mL_11, mL_12, mL_13, mL_14, mL_15, mL_16, mL_23, mL_24, mL_32, mL_48, mL_64, mL_99, mL_100, mL_200, mL_336, mL_576, mL_768, mL_800, mL_999, mL_4095, mL_4096, mL_m1, nI_leI, nI_ltI, nI_eq, nI_clamp, nI_add, pk_mul, nI_nu, bI_eq0, bI_eq1, bo_ft, Bool.true_eq_false, Bool.false_eq_true, pu_of, pu_of24, pu_onward, pu_frq, if_true, if_false, true_or, or_true, false_or, or_false, and_true, true_and, and_false, false_and, not_true_eq_false, not_false_eq_true, if_neg, if_pos]
  have a30 : T.1 11 0 30 = nI 0 := by rw [hT]; simp (disch := omega) only [pv_lt, pu_ck, pv_bI, pv_bV, pu_bR, pv_bL, pv_nt, pu_us, pu_un, mL_0, mL_1, mL_2, mL_3, mL_4, mL_5, mL_6, mL_7, mL_8, mL_9, mL_10, mL_11, mL_12, mL_13, mL_14, mL_15, mL_16, mL_23, mL_24, mL_32, mL_48, mL_64, mL_99, mL_100, mL_200, mL_336, mL_576, mL_768, mL_800, mL_999, mL_4095, mL_4096, mL_m1, nI_leI, nI_ltI, nI_eq, nI_clamp, nI_add, pk_mul, nI_nu, bI_eq0, bI_eq1, bo_ft, Bool.true_eq_false, Bool.false_eq_true, pu_of, pu_of24, pu_onward, pu_frq, if_true, if_false, true_or, or_true, false_or, or_false, and_true, true_and, and_false, false_and, not_true_eq_false, not_false_eq_true, if_neg, if_pos]
  have a10 : T.1 11 0 10 = nI a := by rw [hT]; simp (disch := omega) only [pv_lt, pu_ck, pv_bI, pv_bV, pu_bR, pv_bL, pv_nt, pu_us, pu_un, mL_0, mL_1, mL_2, mL_3, mL_4, mL_5, mL_6, mL_7, mL_8, mL_9, mL_10, mL_11, mL_12, mL_13, mL_14, mL_15, mL_16, mL_23, mL_24, mL_32, mL_48, mL_64, mL_99, mL_100, mL_200, mL_336, mL_576, mL_768, mL_800, mL_999, mL_4095, mL_4096, mL_m1, nI_leI, nI_ltI, nI_eq, nI_clamp, nI_add, pk_mul, nI_nu, bI_eq0, bI_eq1, bo_ft, Bool.true_eq_false, Bool.false_eq_true, pu_of, pu_of24, pu_onward, pu_frq, if_true, if_false, true_or, or_true, false_or, or_false, and_true, true_and, and_false, false_and, not_true_eq_false, not_false_eq_true, if_neg, if_pos, H10]
  by_cases h26 : c = 26
  · rw [if_pos h26] at hQ
    subst h26
    have f0 : fr S_79 t (sr_u T 34 0 0 (nI a)) := fr_u fT (by unfold S_79; omega)
    have R0 := rg_RN_fr O f0 (fun k i j q => by unfold Fp_R at q; unfold S_79; omega) R
    have tb1 := pu_tb1 R0 O ha
    have c26 : cI 26 = -(nI 2) := rfl
    rw [c26] at hQ ⊢
    simp (disch := omega) only [pv_lt, pu_ck, pv_bI, pv_bV, pu_bR, pv_bL, pv_nt, pu_us, pu_un, mL_0, mL_1, mL_2, mL_3, mL_4, mL_5, mL_6, mL_7, mL_8, mL_9, mL_10, mL_11, mL_12, mL_13, mL_14, mL_15, mL_16, mL_23, mL_24, mL_32, mL_48, mL_64, mL_99, mL_100, mL_200, mL_336, mL_576, mL_768, mL_800, mL_999, mL_4095, mL_4096, mL_m1, nI_leI, nI_ltI, nI_eq, nI_clamp, nI_add, pk_mul, nI_nu, bI_eq0, bI_eq1, bo_ft, Bool.true_eq_false, Bool.false_eq_true, pu_of, pu_of24, pu_onward, pu_frq, if_true, if_false, true_or, or_true, false_or, or_false, and_true, true_and, and_false, false_and, not_true_eq_false, not_false_eq_true, if_neg, if_pos, f11_latestLook_79, H17, H18, H10, H19, pu_ixN']
    rw [← hT]
    simp (disch := omega) only [pv_lt, pu_ck, pv_bI, pv_bV, pu_bR, pv_bL, pv_nt, pu_us, pu_un, mL_0, mL_1, mL_2, mL_3, mL_4, mL_5, mL_6, mL_7, mL_8, mL_9, mL_10, mL_11, mL_12, mL_13, mL_14, mL_15, mL_16, mL_23, mL_24, mL_32, mL_48, mL_64, mL_99, mL_100, mL_200, mL_336, mL_576, mL_768, mL_800, mL_999, mL_4095, mL_4096, mL_m1, nI_leI, nI_ltI, nI_eq, nI_clamp, nI_add, pk_mul, nI_nu, bI_eq0, bI_eq1, bo_ft, Bool.true_eq_false, Bool.false_eq_true, pu_of, pu_of24, pu_onward, pu_frq, if_true, if_false, true_or, or_true, false_or, or_false, and_true, true_and, and_false, false_and, not_true_eq_false, not_false_eq_true, if_neg, if_pos, a10, tb1]
    refine rs_loop (N := rg_t s a 1) (L := fun f k t' => f11_latestLook_170 x y z (f11_latestLook_209 x y z) f (-(nI 2)) (nI (rg_t s a 1)) (nI k) t') (fun k t' => (∀ j, j < 1 + k → t'.1 34 0 j = nI (rg_wy s a j)) ∧ fr S_79 (sr_u T 34 0 0 (nI a)) t' ∧ t'.1 11 0 10 = nI a ∧ (∀ j, t'.1 33 0 j = T.1 33 0 j) ∧ t'.1 11 0 28 = nI st) ?_ ?_ (by unfold sr_fu; omega) ⟨fun j hj => ?_, fr_rfl, ?_, ?_, ?_⟩
    · rintro k g t' hk ⟨p1, p2, p3, p4, p5⟩
      have R' := rg_RN_fr O p2 (fun k i j q => by unfold Fp_R at q; unfold S_79; omega) R0
      have tb := pu_tb2 R' O ha (show rg_t s a 1 - 1 - k < rg_t s a 1 by omega)
      have e1 : nI (2 + rg_t s a 1) - nI 1 = nI (2 + rg_t s a 1 - 1) := pk_sub (by omega)
      have e2 : nI (2 + rg_t s a 1 - 1) - nI k = nI (2 + (rg_t s a 1 - 1 - k)) := by rw [pk_sub (by omega)]; congr 1; omega
      left
      refine ⟨sr_u t' 34 0 (1 + k) (nI (rg_t s a (2 + (rg_t s a 1 - 1 - k)))), ⟨fun j hj => ?_, fr_u p2 (by unfold S_79; omega), ?_, fun j => ?_, ?_⟩, ?_⟩
      · by_cases e : j = 1 + k
        · rw [e, pu_us]
          unfold rg_wy
          rw [if_neg (by omega), show rg_t s a 1 - (1 + k) = rg_t s a 1 - 1 - k by omega]
        · rw [pu_un (by omega)]; exact p1 j (by omega)
      · rw [pu_un (by omega)]; exact p3
      · rw [pu_un (by omega)]; exact p4 j
      · rw [pu_un (by omega)]; exact p5
      · show f11_latestLook_170 x y z (f11_latestLook_209 x y z) (g + 1) (-(nI 2)) (nI (rg_t s a 1)) (nI k) t' = f11_latestLook_170 x y z (f11_latestLook_209 x y z) g (-(nI 2)) (nI (rg_t s a 1)) (nI (k + 1)) _
        simp (disch := omega) only [pv_lt, pu_ck, pv_bI, pv_bV, pu_bR, pv_bL, pv_nt, pu_us, pu_un, mL_0, mL_1, mL_2, mL_3, mL_4, mL_5, mL_6, mL_7, mL_8, mL_9, mL_10, mL_11, mL_12, mL_13, mL_14, mL_15, mL_16, mL_23, mL_24, mL_32, mL_48, mL_64, mL_99, mL_100, mL_200, mL_336, mL_576, mL_768, mL_800, mL_999, mL_4095, mL_4096, mL_m1, nI_leI, nI_ltI, nI_eq, nI_clamp, nI_add, pk_mul, nI_nu, bI_eq0, bI_eq1, bo_ft, Bool.true_eq_false, Bool.false_eq_true, pu_of, pu_of24, pu_onward, pu_frq, if_true, if_false, true_or, or_true, false_or, or_false, and_true, true_and, and_false, false_and, not_true_eq_false, not_false_eq_true, if_neg, if_pos, f11_latestLook_170, p3, e1, e2, tb, pu_ixN']
    · rintro g t' ⟨p1, p2, p3, p4, p5⟩
      show rs_to _ (f11_latestLook_170 x y z (f11_latestLook_209 x y z) (g + 1) (-(nI 2)) (nI (rg_t s a 1)) (nI (rg_t s a 1)) t')
      simp (disch := omega) only [pv_lt, pu_ck, pv_bI, pv_bV, pu_bR, pv_bL, pv_nt, pu_us, pu_un, mL_0, mL_1, mL_2, mL_3, mL_4, mL_5, mL_6, mL_7, mL_8, mL_9, mL_10, mL_11, mL_12, mL_13, mL_14, mL_15, mL_16, mL_23, mL_24, mL_32, mL_48, mL_64, mL_99, mL_100, mL_200, mL_336, mL_576, mL_768, mL_800, mL_999, mL_4095, mL_4096, mL_m1, nI_leI, nI_ltI, nI_eq, nI_clamp, nI_add, pk_mul, nI_nu, bI_eq0, bI_eq1, bo_ft, Bool.true_eq_false, Bool.false_eq_true, pu_of, pu_of24, pu_onward, pu_frq, if_true, if_false, true_or, or_true, false_or, or_false, and_true, true_and, and_false, false_and, not_true_eq_false, not_false_eq_true, if_neg, if_pos, f11_latestLook_170, f11_latestLook_209]
      refine rs_ret (hQ _ ⟨⟨?_, ?_, ?_, ?_, ?_⟩, ?_, ?_, fun j hj => ?_, fr_u (fr_trans f0 p2) (by unfold S_79; omega)⟩)
      · rw [pu_un (by omega), p4]; exact a4
      · rw [pu_un (by omega), p4]; exact a5
      · rw [pu_un (by omega), p4]; exact a6
      · rw [pu_un (by omega), p4]; exact a7
      · rw [pu_un (by omega), p4]; exact a8
      · rw [pu_un (by omega)]; exact p5
      · rw [pu_us]
      · rw [pu_un (by omega)]; exact p1 j hj
    · rw [show j = 0 by omega, pu_us]; rfl
    · rw [pu_un (by omega)]; exact a10
    · intro j
      rw [pu_un (by omega)]
    · rw [pu_un (by omega)]; exact a28
  · rw [if_neg h26] at hQ
    have n2 : ¬ cI c = -(nI 2) := fun q => h26 ((cI_eq2 hc).mp q)
    simp (disch := omega) only [pv_lt, pu_ck, pv_bI, pv_bV, pu_bR, pv_bL, pv_nt, pu_us, pu_un, mL_0, mL_1, mL_2, mL_3, mL_4, mL_5, mL_6, mL_7, mL_8, mL_9, mL_10, mL_11, mL_12, mL_13, mL_14, mL_15, mL_16, mL_23, mL_24, mL_32, mL_48, mL_64, mL_99, mL_100, mL_200, mL_336, mL_576, mL_768, mL_800, mL_999, mL_4095, mL_4096, mL_m1, nI_leI, nI_ltI, nI_eq, nI_clamp, nI_add, pk_mul, nI_nu, bI_eq0, bI_eq1, bo_ft, Bool.true_eq_false, Bool.false_eq_true, pu_of, pu_of24, pu_onward, pu_frq, if_true, if_false, true_or, or_true, false_or, or_false, and_true, true_and, and_false, false_and, not_true_eq_false, not_false_eq_true, if_neg, if_pos, f11_latestLook_79, H17, H18, H10, H19, pu_ixN', n2]
    rw [← hT]
    exact rs_ret (hQ _ ⟨⟨a4, a5, a6, a7, a8⟩, a28, a30, fun j hj => by omega, fT⟩)
def S_ll (k i j : Nat) : Prop := (k = 11 ∧ i = 0 ∧ ((10 ≤ j ∧ j ≤ 19) ∨ j = 22 ∨ j = 28 ∨ j = 30)) ∨ (29 ≤ k ∧ k ≤ 36)
/-- the latest lookup as the reference keeps it -/
def la_R (t : sr_t) (s : rg_T) (key : Nat) (best : Bool) (n : Nat) : Prop := (t.1 33 0 0 = nI (lk_hp s key best n (lk_n s key best n)) ∧ t.1 33 0 1 = nI (lk_kc s key best n 0 (lk_n s key best n)) ∧ t.1 33 0 2 = nI (lk_kc s key best n 1 (lk_n s key best n)) ∧ t.1 33 0 3 = nI (lk_kc s key best n 2 (lk_n s key best n)) ∧ t.1 33 0 4 = bI (lk_r s key best n) ∧ t.1 33 0 5 = nI (lk_n s key best n) ∧ t.1 33 0 6 = nI (12 / rg_b s - lk_le s key best n 0) ∧ t.1 33 0 7 = nI (lk_at s key best n (lk_n s key best n)) ∧ t.1 33 0 8 = nI (lk_tm s key best n (lk_n s key best n))) ∧ t.1 11 0 28 = nI (lk_n s key best n) ∧ (∀ j, j < lk_n s key best n → t.1 29 0 j = nI (lk_at s key best n j) ∧ t.1 30 0 j = nI (lk_he s key best n j) ∧ t.1 31 0 j = nI (lk_le s key best n j) ∧ t.1 32 0 j = nI (lk_ki s key best n j)) ∧ t.1 11 0 30 = nI (lk_wm s key best n) ∧ (∀ j, j < lk_wm s key best n → t.1 34 0 j = nI (rg_wy s (lk_at s key best n (lk_n s key best n)) j)) ∧ t.1 11 0 22 = nI 0
set_option maxHeartbeats 2000000 in
theorem pu_latestLook {t : sr_t} {s : rg_T} {key n : Nat} {best : Bool} (R : rg_RN t s) (O : rg_ok s) (hn : n < rg_N s) (hu : rg_u s n = true) (hkey : key < 4096) : ∃ t', F11_latestLook (nI n) (nI key) (bI best) t = some (.inl (some (sr_i (cI (lk_e s key best n)))), t') ∧ la_R t' s key best n ∧ fr S_ll t t' := by
  have hN := O.1.1
  have f1 : fr S_ll t (sr_u t 11 0 22 (nI 1)) := fr_u fr_rfl (by unfold S_ll; omega)
  have R1 := rg_RN_fr O f1 (fun k i j q => by unfold Fp_R at q; unfold S_ll; omega) R
  obtain ⟨t2, e2, I, h18, f2⟩ := pu_looks (kp := true) (best := best) R1 O hn hu hkey pu_us
  obtain ⟨⟨H10, H11, H12, H17⟩, ⟨H13, H14, H15, H16, H19⟩, H22, Ir, Iv, Ix⟩ := id I
  have f2' : fr S_ll t t2 := fr_trans f1 (fr_mono f2 (fun k i j q => by unfold S_lo at q; unfold S_ll; omega))
  have oe := lk_ok (key := key) (best := best) O hn hu (lk_n s key best n) (Nat.le_refl _)
  have ec := lk_c_cases (key := key) O oe.1
  have ec' : lk_e s key best n < 24 ∨ lk_e s key best n = 26 ∨ lk_e s key best n = 27 := by
    rcases ec with h | h | h
    · exact Or.inl h.2
    · exact Or.inr (Or.inl h)
    · exact Or.inr (Or.inr h)
  obtain ⟨T, hT⟩ : ∃ T, T = (sr_u (sr_u (sr_u (sr_u (sr_u t2 11 0 22 (nI 0)) 33 0 0 (nI (lk_hp s key best n (lk_n s key best n)))) 33 0 1 (nI (lk_kc s key best n 0 (lk_n s key best n)))) 33 0 2 (nI (lk_kc s key best n 1 (lk_n s key best n)))) 33 0 3 (nI (lk_kc s key best n 2 (lk_n s key best n)))) := ⟨_, rfl⟩
  have fT : fr S_ll t T := by
    rw [hT]
    refine fr_u (fr_u (fr_u (fr_u (fr_u f2' ?_) ?_) ?_) ?_) ?_ <;> (unfold S_ll; omega)
  have RT := rg_RN_fr O fT (fun k i j q => by unfold Fp_R at q; unfold S_ll; omega) R
  have ir := pu_isRight RT O hkey ec'
  have ir' : F11_isRight (nI key) (cI (lk_e s key best n)) T = some (.inl (some (sr_i (bI (lk_r s key best n)))), T) := ir
  have b0 : T.1 33 0 0 = nI (lk_hp s key best n (lk_n s key best n)) := by rw [hT]; simp (disch := omega) only [pv_lt, pu_ck, pv_bI, pv_bV, pu_bR, pv_bL, pv_nt, pu_us, pu_un, mL_0, mL_1, mL_2, mL_3, mL_4, mL_5, mL_6, mL_7, mL_8, mL_9, mL_10, mL_11, mL_12, mL_13, mL_14, mL_15, mL_16, mL_23, mL_24, mL_32, mL_48, mL_64, mL_99, mL_100, mL_200, mL_336, mL_576, mL_768, mL_800, mL_999, mL_4095, mL_4096, mL_m1, nI_leI, nI_ltI, nI_eq, nI_clamp, nI_add, pk_mul, nI_nu, bI_eq0, bI_eq1, bo_ft, Bool.true_eq_false, Bool.false_eq_true, pu_of, pu_of24, pu_onward, pu_frq, if_true, if_false, true_or, or_true, false_or, or_false, and_true, true_and, and_false, false_and, not_true_eq_false, not_false_eq_true, if_neg, if_pos]
  have b1 : T.1 33 0 1 = nI (lk_kc s key best n 0 (lk_n s key best n)) := by rw [hT]; simp (disch := omega) only [pv_lt, pu_ck, pv_bI, pv_bV, pu_bR, pv_bL, pv_nt, pu_us, pu_un, mL_0, mL_1, mL_2, mL_3, mL_4, mL_5, mL_6, mL_7, mL_8, mL_9, mL_10, mL_11, mL_12, mL_13, mL_14, mL_15, mL_16, mL_23, mL_24, mL_32, mL_48, mL_64, mL_99, mL_100, mL_200, mL_336, mL_576, mL_768, mL_800, mL_999, mL_4095, mL_4096, mL_m1, nI_leI, nI_ltI, nI_eq, nI_clamp, nI_add, pk_mul, nI_nu, bI_eq0, bI_eq1, bo_ft, Bool.true_eq_false, Bool.false_eq_true, pu_of, pu_of24, pu_onward, pu_frq, if_true, if_false, true_or, or_true, false_or, or_false, and_true, true_and, and_false, false_and, not_true_eq_false, not_false_eq_true, if_neg, if_pos]
  have b2 : T.1 33 0 2 = nI (lk_kc s key best n 1 (lk_n s key best n)) := by rw [hT]; simp (disch := omega) only [pv_lt, pu_ck, pv_bI, pv_bV, pu_bR, pv_bL, pv_nt, pu_us, pu_un, mL_0, mL_1, mL_2, mL_3, mL_4, mL_5, mL_6, mL_7, mL_8, mL_9, mL_10, mL_11, mL_12, mL_13, mL_14, mL_15, mL_16, mL_23, mL_24, mL_32, mL_48, mL_64, mL_99, mL_100, mL_200, mL_336, mL_576, mL_768, mL_800, mL_999, mL_4095, mL_4096, mL_m1, nI_leI, nI_ltI, nI_eq, nI_clamp, nI_add, pk_mul, nI_nu, bI_eq0, bI_eq1, bo_ft, Bool.true_eq_false, Bool.false_eq_true, pu_of, pu_of24, pu_onward, pu_frq, if_true, if_false, true_or, or_true, false_or, or_false, and_true, true_and, and_false, false_and, not_true_eq_false, not_false_eq_true, if_neg, if_pos]
  have b3 : T.1 33 0 3 = nI (lk_kc s key best n 2 (lk_n s key best n)) := by rw [hT]; simp (disch := omega) only [pv_lt, pu_ck, pv_bI, pv_bV, pu_bR, pv_bL, pv_nt, pu_us, pu_un, mL_0, mL_1, mL_2, mL_3, mL_4, mL_5, mL_6, mL_7, mL_8, mL_9, mL_10, mL_11, mL_12, mL_13, mL_14, mL_15, mL_16, mL_23, mL_24, mL_32, mL_48, mL_64, mL_99, mL_100, mL_200, mL_336, mL_576, mL_768, mL_800, mL_999, mL_4095, mL_4096, mL_m1, nI_leI, nI_ltI, nI_eq, nI_clamp, nI_add, pk_mul, nI_nu, bI_eq0, bI_eq1, bo_ft, Bool.true_eq_false, Bool.false_eq_true, pu_of, pu_of24, pu_onward, pu_frq, if_true, if_false, true_or, or_true, false_or, or_false, and_true, true_and, and_false, false_and, not_true_eq_false, not_false_eq_true, if_neg, if_pos]
  have b22 : T.1 11 0 22 = nI 0 := by rw [hT]; simp (disch := omega) only [pv_lt, pu_ck, pv_bI, pv_bV, pu_bR, pv_bL, pv_nt, pu_us, pu_un, mL_0, mL_1, mL_2, mL_3, mL_4, mL_5, mL_6, mL_7, mL_8, mL_9, mL_10, mL_11, mL_12, mL_13, mL_14, mL_15, mL_16, mL_23, mL_24, mL_32, mL_48, mL_64, mL_99, mL_100, mL_200, mL_336, mL_576, mL_768, mL_800, mL_999, mL_4095, mL_4096, mL_m1, nI_leI, nI_ltI, nI_eq, nI_clamp, nI_add, pk_mul, nI_nu, bI_eq0, bI_eq1, bo_ft, Bool.true_eq_false, Bool.false_eq_true, pu_of, pu_of24, pu_onward, pu_frq, if_true, if_false, true_or, or_true, false_or, or_false, and_true, true_and, and_false, false_and, not_true_eq_false, not_false_eq_true, if_neg, if_pos]
  have b17 : T.1 11 0 17 = nI (lk_n s key best n) := by rw [hT]; simp (disch := omega) only [pv_lt, pu_ck, pv_bI, pv_bV, pu_bR, pv_bL, pv_nt, pu_us, pu_un, mL_0, mL_1, mL_2, mL_3, mL_4, mL_5, mL_6, mL_7, mL_8, mL_9, mL_10, mL_11, mL_12, mL_13, mL_14, mL_15, mL_16, mL_23, mL_24, mL_32, mL_48, mL_64, mL_99, mL_100, mL_200, mL_336, mL_576, mL_768, mL_800, mL_999, mL_4095, mL_4096, mL_m1, nI_leI, nI_ltI, nI_eq, nI_clamp, nI_add, pk_mul, nI_nu, bI_eq0, bI_eq1, bo_ft, Bool.true_eq_false, Bool.false_eq_true, pu_of, pu_of24, pu_onward, pu_frq, if_true, if_false, true_or, or_true, false_or, or_false, and_true, true_and, and_false, false_and, not_true_eq_false, not_false_eq_true, if_neg, if_pos, H17]
  have b18 : T.1 11 0 18 = nI (12 / rg_b s - lk_le s key best n 0) := by rw [hT]; simp (disch := omega) only [pv_lt, pu_ck, pv_bI, pv_bV, pu_bR, pv_bL, pv_nt, pu_us, pu_un, mL_0, mL_1, mL_2, mL_3, mL_4, mL_5, mL_6, mL_7, mL_8, mL_9, mL_10, mL_11, mL_12, mL_13, mL_14, mL_15, mL_16, mL_23, mL_24, mL_32, mL_48, mL_64, mL_99, mL_100, mL_200, mL_336, mL_576, mL_768, mL_800, mL_999, mL_4095, mL_4096, mL_m1, nI_leI, nI_ltI, nI_eq, nI_clamp, nI_add, pk_mul, nI_nu, bI_eq0, bI_eq1, bo_ft, Bool.true_eq_false, Bool.false_eq_true, pu_of, pu_of24, pu_onward, pu_frq, if_true, if_false, true_or, or_true, false_or, or_false, and_true, true_and, and_false, false_and, not_true_eq_false, not_false_eq_true, if_neg, if_pos, h18]
  have b10 : T.1 11 0 10 = nI (lk_at s key best n (lk_n s key best n)) := by rw [hT]; simp (disch := omega) only [pv_lt, pu_ck, pv_bI, pv_bV, pu_bR, pv_bL, pv_nt, pu_us, pu_un, mL_0, mL_1, mL_2, mL_3, mL_4, mL_5, mL_6, mL_7, mL_8, mL_9, mL_10, mL_11, mL_12, mL_13, mL_14, mL_15, mL_16, mL_23, mL_24, mL_32, mL_48, mL_64, mL_99, mL_100, mL_200, mL_336, mL_576, mL_768, mL_800, mL_999, mL_4095, mL_4096, mL_m1, nI_leI, nI_ltI, nI_eq, nI_clamp, nI_add, pk_mul, nI_nu, bI_eq0, bI_eq1, bo_ft, Bool.true_eq_false, Bool.false_eq_true, pu_of, pu_of24, pu_onward, pu_frq, if_true, if_false, true_or, or_true, false_or, or_false, and_true, true_and, and_false, false_and, not_true_eq_false, not_false_eq_true, if_neg, if_pos, H10]
  have b19 : T.1 11 0 19 = nI (lk_tm s key best n (lk_n s key best n)) := by rw [hT]; simp (disch := omega) only [pv_lt, pu_ck, pv_bI, pv_bV, pu_bR, pv_bL, pv_nt, pu_us, pu_un, mL_0, mL_1, mL_2, mL_3, mL_4, mL_5, mL_6, mL_7, mL_8, mL_9, mL_10, mL_11, mL_12, mL_13, mL_14, mL_15, mL_16, mL_23, mL_24, mL_32, mL_48, mL_64, mL_99, mL_100, mL_200, mL_336, mL_576, mL_768, mL_800, mL_999, mL_4095, mL_4096, mL_m1, nI_leI, nI_ltI, nI_eq, nI_clamp, nI_add, pk_mul, nI_nu, bI_eq0, bI_eq1, bo_ft, Bool.true_eq_false, Bool.false_eq_true, pu_of, pu_of24, pu_onward, pu_frq, if_true, if_false, true_or, or_true, false_or, or_false, and_true, true_and, and_false, false_and, not_true_eq_false, not_false_eq_true, if_neg, if_pos, H19]
  have br : ∀ k j, 29 ≤ k → k ≤ 32 → T.1 k 0 j = t2.1 k 0 j := by
    intro k j h1 h2
    rw [hT, pu_un (by omega), pu_un (by omega), pu_un (by omega), pu_un (by omega), pu_un (by omega)]
  obtain ⟨t9, e9, ⟨w4, w5, w6, w7, w8⟩, w28, w30, w34, wf⟩ := pu_ll79 (x := nI n) (y := nI key) (z := bI best) (v := bI (lk_r s key best n)) RT O oe.1 ec' b17 b18 b10 b19
  refine ⟨t9, ?_, ⟨⟨?_, ?_, ?_, ?_, w4, w5, w6, w7, w8⟩, w28, fun j hj => ?_, w30, w34, ?_⟩, fr_trans fT (fr_mono wf (fun k i j q => by unfold S_79 at q; unfold S_ll; omega))⟩
  · simp (disch := omega) only [pv_lt, pu_ck, pv_bI, pv_bV, pu_bR, pv_bL, pv_nt, pu_us, pu_un, mL_0, mL_1, mL_2, mL_3, mL_4, mL_5, mL_6, mL_7, mL_8, mL_9, mL_10, mL_11, mL_12, mL_13, mL_14, mL_15, mL_16, mL_23, mL_24, mL_32, mL_48, mL_64, mL_99, mL_100, mL_200, mL_336, mL_576, mL_768, mL_800, mL_999, mL_4095, mL_4096, mL_m1, nI_leI, nI_ltI, nI_eq, nI_clamp, nI_add, pk_mul, nI_nu, bI_eq0, bI_eq1, bo_ft, Bool.true_eq_false, Bool.false_eq_true, pu_of, pu_of24, pu_onward, pu_frq, if_true, if_false, true_or, or_true, false_or, or_false, and_true, true_and, and_false, false_and, not_true_eq_false, not_false_eq_true, if_neg, if_pos, F11_latestLook, e2, H13, H14, H15, H16, pu_ixN']
    rw [← hT]
    simp (disch := omega) only [pv_lt, pu_ck, pv_bI, pv_bV, pu_bR, pv_bL, pv_nt, pu_us, pu_un, mL_0, mL_1, mL_2, mL_3, mL_4, mL_5, mL_6, mL_7, mL_8, mL_9, mL_10, mL_11, mL_12, mL_13, mL_14, mL_15, mL_16, mL_23, mL_24, mL_32, mL_48, mL_64, mL_99, mL_100, mL_200, mL_336, mL_576, mL_768, mL_800, mL_999, mL_4095, mL_4096, mL_m1, nI_leI, nI_ltI, nI_eq, nI_clamp, nI_add, pk_mul, nI_nu, bI_eq0, bI_eq1, bo_ft, Bool.true_eq_false, Bool.false_eq_true, pu_of, pu_of24, pu_onward, pu_frq, if_true, if_false, true_or, or_true, false_or, or_false, and_true, true_and, and_false, false_and, not_true_eq_false, not_false_eq_true, if_neg, if_pos, ir']
    cases hr : lk_r s key best n with
    | false =>
      rw [hr] at e9
      have bf : bI false = nI 0 := rfl
      rw [bf] at e9
      simp (disch := omega) only [pv_lt, pu_ck, pv_bI, pv_bV, pu_bR, pv_bL, pv_nt, pu_us, pu_un, mL_0, mL_1, mL_2, mL_3, mL_4, mL_5, mL_6, mL_7, mL_8, mL_9, mL_10, mL_11, mL_12, mL_13, mL_14, mL_15, mL_16, mL_23, mL_24, mL_32, mL_48, mL_64, mL_99, mL_100, mL_200, mL_336, mL_576, mL_768, mL_800, mL_999, mL_4095, mL_4096, mL_m1, nI_leI, nI_ltI, nI_eq, nI_clamp, nI_add, pk_mul, nI_nu, bI_eq0, bI_eq1, bo_ft, Bool.true_eq_false, Bool.false_eq_true, pu_of, pu_of24, pu_onward, pu_frq, if_true, if_false, true_or, or_true, false_or, or_false, and_true, true_and, and_false, false_and, not_true_eq_false, not_false_eq_true, if_neg, if_pos, bf]
      exact e9
    | true =>
      rw [hr] at e9
      have bt : bI true = nI 1 := rfl
      rw [bt] at e9
      simp (disch := omega) only [pv_lt, pu_ck, pv_bI, pv_bV, pu_bR, pv_bL, pv_nt, pu_us, pu_un, mL_0, mL_1, mL_2, mL_3, mL_4, mL_5, mL_6, mL_7, mL_8, mL_9, mL_10, mL_11, mL_12, mL_13, mL_14, mL_15, mL_16, mL_23, mL_24, mL_32, mL_48, mL_64, mL_99, mL_100, mL_200, mL_336, mL_576, mL_768, mL_800, mL_999, mL_4095, mL_4096, mL_m1, nI_leI, nI_ltI, nI_eq, nI_clamp, nI_add, pk_mul, nI_nu, bI_eq0, bI_eq1, bo_ft, Bool.true_eq_false, Bool.false_eq_true, pu_of, pu_of24, pu_onward, pu_frq, if_true, if_false, true_or, or_true, false_or, or_false, and_true, true_and, and_false, false_and, not_true_eq_false, not_false_eq_true, if_neg, if_pos, bt]
      exact e9
  · rw [wf.2 _ _ _ (by unfold S_79; omega)]; exact b0
  · rw [wf.2 _ _ _ (by unfold S_79; omega)]; exact b1
  · rw [wf.2 _ _ _ (by unfold S_79; omega)]; exact b2
  · rw [wf.2 _ _ _ (by unfold S_79; omega)]; exact b3
  · rw [wf.2 _ _ _ (by unfold S_79; omega), wf.2 _ _ _ (by unfold S_79; omega), wf.2 _ _ _ (by unfold S_79; omega), wf.2 _ _ _ (by unfold S_79; omega), br _ _ (by omega) (by omega), br _ _ (by omega) (by omega), br _ _ (by omega) (by omega), br _ _ (by omega) (by omega)]
    exact Ir rfl j hj
  · rw [wf.2 _ _ _ (by unfold S_79; omega)]; exact b22
end
