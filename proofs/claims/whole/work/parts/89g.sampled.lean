section
set_option maxHeartbeats 4000000 in
theorem pr_sampled {t : sr_t} {s : rg_T} {best : Bool} {n j : Nat} (R : rg_RN t s) (O : rg_ok s) (hn : n < rg_N s) (hu : rg_u s n = true) (hj : j < 64) (H22 : t.1 11 0 22 = nI 0) (I : sr_I' t s best (64 * n + j)) : ∃ t', F11_sampled (nI n) (nI (64 * j)) (bI best) t = some (.inl none, t') ∧ sr_I' t' s best (64 * n + j + 1) ∧ fr S_sr' t t' := by
  have hN := O.1.1
  obtain ⟨⟨i40, i41, i42, i43, i44, i45, i46, i47⟩, iv, ix⟩ := I
  obtain ⟨t1, e1, I1, _, f1⟩ := pu_looks (kp := false) (best := best) (key := 64 * j) R O hn hu (by omega) H22
  have fb : (false : Bool).toNat = 0 := rfl
  obtain ⟨_, ⟨H13, H14, H15, H16, H19⟩, _, _, Hv, Hx⟩ := I1
  have f1' : fr S_sr' t t1 := fr_mono f1 (fun k i j q => by unfold S_lo at q; unfold S_sr'; omega)
  have g : ∀ j, 40 ≤ j → t1.1 11 0 j = t.1 11 0 j := fun j h => f1.2 _ _ _ (by unfold S_lo; omega)
  have j40 := (g 40 (by omega)).trans i40
  have j41 := (g 41 (by omega)).trans i41
  have j42 := (g 42 (by omega)).trans i42
  have j43 := (g 43 (by omega)).trans i43
  have j44 := (g 44 (by omega)).trans i44
  have j45 := (g 45 (by omega)).trans i45
  have j46 := (g 46 (by omega)).trans i46
  have j47 := (g 47 (by omega)).trans i47
  have b1 : sM s (fH s best) (64 * n + j) ≤ 200 := sM_le _ (fun x _ => svH_le)
  have b2 : sM s (fT s best) (64 * n + j) ≤ 20000 := sM_le _ (fun x hx => svT_le O (by omega))
  have b3 : lk_hp s (64 * j) best n (lk_n s (64 * j) best n) ≤ 200 := fH_le
  have b4 : lk_tm s (64 * j) best n (lk_n s (64 * j) best n) ≤ 20000 := fT_le O hn hu
  have vf : ∀ f : Nat → Nat → Nat, sv s f (64 * n + j) = f n (64 * j) := fun f => by rw [sv_n hj, if_pos hu]
  have vH : sv s (fH s best) (64 * n + j) = lk_hp s (64 * j) best n (lk_n s (64 * j) best n) := vf _
  have v0 : sv s (fK s best 0) (64 * n + j) = lk_kc s (64 * j) best n 0 (lk_n s (64 * j) best n) := vf _
  have v1 : sv s (fK s best 1) (64 * n + j) = lk_kc s (64 * j) best n 1 (lk_n s (64 * j) best n) := vf _
  have v2 : sv s (fK s best 2) (64 * n + j) = lk_kc s (64 * j) best n 2 (lk_n s (64 * j) best n) := vf _
  have vW : sv s (fW s best) (64 * n + j) = if lk_r s (64 * j) best n = true then 0 else 1 := vf _
  have vT : sv s (fT s best) (64 * n + j) = lk_tm s (64 * j) best n (lk_n s (64 * j) best n) := vf _
  have vX : ∀ a b, sv s (fX s best a b) (64 * n + j) = lk_x s (64 * j) best n a b (lk_n s (64 * j) best n) := fun a b => vf _
  have vV : ∀ v, sv s (fV s best v) (64 * n + j) = if lk_v s (64 * j) best n (lk_n s (64 * j) best n) v = true then 1 else 0 := fun v => vf _
  obtain ⟨T, hT⟩ : ∃ T, T = (sr_u (sr_u (sr_u (sr_u (sr_u t1 11 0 40 (nI (sS s (fH s best) (64 * n + j) + lk_hp s (64 * j) best n (lk_n s (64 * j) best n)))) 11 0 41 (nI (sS s (fK s best 0) (64 * n + j) + lk_kc s (64 * j) best n 0 (lk_n s (64 * j) best n)))) 11 0 42 (nI (sS s (fK s best 1) (64 * n + j) + lk_kc s (64 * j) best n 1 (lk_n s (64 * j) best n)))) 11 0 43 (nI (sS s (fK s best 2) (64 * n + j) + lk_kc s (64 * j) best n 2 (lk_n s (64 * j) best n)))) 11 0 45 (nI (sS s (fT s best) (64 * n + j) + lk_tm s (64 * j) best n (lk_n s (64 * j) best n)))) := ⟨_, rfl⟩
  have fF : fr S_sr' t T := by
    rw [hT]
    refine fr_u (fr_u (fr_u (fr_u (fr_u f1' ?_) ?_) ?_) ?_) ?_ <;> (unfold S_sr'; omega)
  have RT := rg_RN_fr O fF (fun k i j q => by unfold Fp_R at q; unfold S_sr'; omega) R
  have oe := lk_ok (key := 64 * j) (best := best) O hn hu (lk_n s (64 * j) best n) (Nat.le_refl _)
  have ec' : lk_e s (64 * j) best n < 24 ∨ lk_e s (64 * j) best n = 26 ∨ lk_e s (64 * j) best n = 27 := by
    rcases lk_c_cases (key := 64 * j) O oe.1 with h | h | h
    · exact Or.inl h.2
    · exact Or.inr (Or.inl h)
    · exact Or.inr (Or.inr h)
  have ir : F11_isRight (nI (64 * j)) (cI (lk_e s (64 * j) best n)) T = some (.inl (some (sr_i (bI (lk_r s (64 * j) best n)))), T) := pu_isRight RT O (by omega) ec'
  have c13 : T.1 11 0 13 = nI (lk_hp s (64 * j) best n (lk_n s (64 * j) best n)) := by rw [hT]; simp (disch := omega) only [pv_lt, pu_ck, pv_bI, pv_bV, pu_bR, pv_bL, pv_nt, pu_us, pu_un, mL_0, mL_1, mL_2, mL_3, mL_4, mL_5, mL_6, mL_7, mL_8, mL_9, mL_10, mL_11, mL_12, mL_13, mL_14, mL_15, mL_16, mL_23, mL_24, mL_32, mL_48, mL_64, mL_99, mL_100, mL_200, mL_336, mL_576, mL_768, mL_800, mL_999, mL_4095, mL_4096, mL_m1, nI_leI, nI_ltI, nI_eq, nI_clamp, nI_add, pk_mul, nI_nu, bI_eq0, bI_eq1, bo_ft, Bool.true_eq_false, Bool.false_eq_true, pu_of, pu_of24, pu_onward, pu_frq, if_true, if_false, true_or, or_true, false_or, or_false, and_true, true_and, and_false, false_and, not_true_eq_false, not_false_eq_true, if_neg, if_pos, H13]
  have c19 : T.1 11 0 19 = nI (lk_tm s (64 * j) best n (lk_n s (64 * j) best n)) := by rw [hT]; simp (disch := omega) only [pv_lt, pu_ck, pv_bI, pv_bV, pu_bR, pv_bL, pv_nt, pu_us, pu_un, mL_0, mL_1, mL_2, mL_3, mL_4, mL_5, mL_6, mL_7, mL_8, mL_9, mL_10, mL_11, mL_12, mL_13, mL_14, mL_15, mL_16, mL_23, mL_24, mL_32, mL_48, mL_64, mL_99, mL_100, mL_200, mL_336, mL_576, mL_768, mL_800, mL_999, mL_4095, mL_4096, mL_m1, nI_leI, nI_ltI, nI_eq, nI_clamp, nI_add, pk_mul, nI_nu, bI_eq0, bI_eq1, bo_ft, Bool.true_eq_false, Bool.false_eq_true, pu_of, pu_of24, pu_onward, pu_frq, if_true, if_false, true_or, or_true, false_or, or_false, and_true, true_and, and_false, false_and, not_true_eq_false, not_false_eq_true, if_neg, if_pos, H19]
  have c44 : T.1 11 0 44 = nI (sS s (fW s best) (64 * n + j)) := by rw [hT]; simp (disch := omega) only [pv_lt, pu_ck, pv_bI, pv_bV, pu_bR, pv_bL, pv_nt, pu_us, pu_un, mL_0, mL_1, mL_2, mL_3, mL_4, mL_5, mL_6, mL_7, mL_8, mL_9, mL_10, mL_11, mL_12, mL_13, mL_14, mL_15, mL_16, mL_23, mL_24, mL_32, mL_48, mL_64, mL_99, mL_100, mL_200, mL_336, mL_576, mL_768, mL_800, mL_999, mL_4095, mL_4096, mL_m1, nI_leI, nI_ltI, nI_eq, nI_clamp, nI_add, pk_mul, nI_nu, bI_eq0, bI_eq1, bo_ft, Bool.true_eq_false, Bool.false_eq_true, pu_of, pu_of24, pu_onward, pu_frq, if_true, if_false, true_or, or_true, false_or, or_false, and_true, true_and, and_false, false_and, not_true_eq_false, not_false_eq_true, if_neg, if_pos, j44]
  have c46 : T.1 11 0 46 = nI (sM s (fH s best) (64 * n + j)) := by rw [hT]; simp (disch := omega) only [pv_lt, pu_ck, pv_bI, pv_bV, pu_bR, pv_bL, pv_nt, pu_us, pu_un, mL_0, mL_1, mL_2, mL_3, mL_4, mL_5, mL_6, mL_7, mL_8, mL_9, mL_10, mL_11, mL_12, mL_13, mL_14, mL_15, mL_16, mL_23, mL_24, mL_32, mL_48, mL_64, mL_99, mL_100, mL_200, mL_336, mL_576, mL_768, mL_800, mL_999, mL_4095, mL_4096, mL_m1, nI_leI, nI_ltI, nI_eq, nI_clamp, nI_add, pk_mul, nI_nu, bI_eq0, bI_eq1, bo_ft, Bool.true_eq_false, Bool.false_eq_true, pu_of, pu_of24, pu_onward, pu_frq, if_true, if_false, true_or, or_true, false_or, or_false, and_true, true_and, and_false, false_and, not_true_eq_false, not_false_eq_true, if_neg, if_pos, j46]
  have c47 : T.1 11 0 47 = nI (sM s (fT s best) (64 * n + j)) := by rw [hT]; simp (disch := omega) only [pv_lt, pu_ck, pv_bI, pv_bV, pu_bR, pv_bL, pv_nt, pu_us, pu_un, mL_0, mL_1, mL_2, mL_3, mL_4, mL_5, mL_6, mL_7, mL_8, mL_9, mL_10, mL_11, mL_12, mL_13, mL_14, mL_15, mL_16, mL_23, mL_24, mL_32, mL_48, mL_64, mL_99, mL_100, mL_200, mL_336, mL_576, mL_768, mL_800, mL_999, mL_4095, mL_4096, mL_m1, nI_leI, nI_ltI, nI_eq, nI_clamp, nI_add, pk_mul, nI_nu, bI_eq0, bI_eq1, bo_ft, Bool.true_eq_false, Bool.false_eq_true, pu_of, pu_of24, pu_onward, pu_frq, if_true, if_false, true_or, or_true, false_or, or_false, and_true, true_and, and_false, false_and, not_true_eq_false, not_false_eq_true, if_neg, if_pos, j47]
  have c40 : T.1 11 0 40 = nI (sS s (fH s best) (64 * n + j + 1)) := by rw [hT, sS_s, vH]; simp (disch := omega) only [pv_lt, pu_ck, pv_bI, pv_bV, pu_bR, pv_bL, pv_nt, pu_us, pu_un, mL_0, mL_1, mL_2, mL_3, mL_4, mL_5, mL_6, mL_7, mL_8, mL_9, mL_10, mL_11, mL_12, mL_13, mL_14, mL_15, mL_16, mL_23, mL_24, mL_32, mL_48, mL_64, mL_99, mL_100, mL_200, mL_336, mL_576, mL_768, mL_800, mL_999, mL_4095, mL_4096, mL_m1, nI_leI, nI_ltI, nI_eq, nI_clamp, nI_add, pk_mul, nI_nu, bI_eq0, bI_eq1, bo_ft, Bool.true_eq_false, Bool.false_eq_true, pu_of, pu_of24, pu_onward, pu_frq, if_true, if_false, true_or, or_true, false_or, or_false, and_true, true_and, and_false, false_and, not_true_eq_false, not_false_eq_true, if_neg, if_pos]
  have c41 : T.1 11 0 41 = nI (sS s (fK s best 0) (64 * n + j + 1)) := by rw [hT, sS_s, v0]; simp (disch := omega) only [pv_lt, pu_ck, pv_bI, pv_bV, pu_bR, pv_bL, pv_nt, pu_us, pu_un, mL_0, mL_1, mL_2, mL_3, mL_4, mL_5, mL_6, mL_7, mL_8, mL_9, mL_10, mL_11, mL_12, mL_13, mL_14, mL_15, mL_16, mL_23, mL_24, mL_32, mL_48, mL_64, mL_99, mL_100, mL_200, mL_336, mL_576, mL_768, mL_800, mL_999, mL_4095, mL_4096, mL_m1, nI_leI, nI_ltI, nI_eq, nI_clamp, nI_add, pk_mul, nI_nu, bI_eq0, bI_eq1, bo_ft, Bool.true_eq_false, Bool.false_eq_true, pu_of, pu_of24, pu_onward, pu_frq, if_true, if_false, true_or, or_true, false_or, or_false, and_true, true_and, and_false, false_and, not_true_eq_false, not_false_eq_true, if_neg, if_pos]
  have c42 : T.1 11 0 42 = nI (sS s (fK s best 1) (64 * n + j + 1)) := by rw [hT, sS_s, v1]; simp (disch := omega) only [pv_lt, pu_ck, pv_bI, pv_bV, pu_bR, pv_bL, pv_nt, pu_us, pu_un, mL_0, mL_1, mL_2, mL_3, mL_4, mL_5, mL_6, mL_7, mL_8, mL_9, mL_10, mL_11, mL_12, mL_13, mL_14, mL_15, mL_16, mL_23, mL_24, mL_32, mL_48, mL_64, mL_99, mL_100, mL_200, mL_336, mL_576, mL_768, mL_800, mL_999, mL_4095, mL_4096, mL_m1, nI_leI, nI_ltI, nI_eq, nI_clamp, nI_add, pk_mul, nI_nu, bI_eq0, bI_eq1, bo_ft, Bool.true_eq_false, Bool.false_eq_true, pu_of, pu_of24, pu_onward, pu_frq, if_true, if_false, true_or, or_true, false_or, or_false, and_true, true_and, and_false, false_and, not_true_eq_false, not_false_eq_true, if_neg, if_pos]
  have c43 : T.1 11 0 43 = nI (sS s (fK s best 2) (64 * n + j + 1)) := by rw [hT, sS_s, v2]; simp (disch := omega) only [pv_lt, pu_ck, pv_bI, pv_bV, pu_bR, pv_bL, pv_nt, pu_us, pu_un, mL_0, mL_1, mL_2, mL_3, mL_4, mL_5, mL_6, mL_7, mL_8, mL_9, mL_10, mL_11, mL_12, mL_13, mL_14, mL_15, mL_16, mL_23, mL_24, mL_32, mL_48, mL_64, mL_99, mL_100, mL_200, mL_336, mL_576, mL_768, mL_800, mL_999, mL_4095, mL_4096, mL_m1, nI_leI, nI_ltI, nI_eq, nI_clamp, nI_add, pk_mul, nI_nu, bI_eq0, bI_eq1, bo_ft, Bool.true_eq_false, Bool.false_eq_true, pu_of, pu_of24, pu_onward, pu_frq, if_true, if_false, true_or, or_true, false_or, or_false, and_true, true_and, and_false, false_and, not_true_eq_false, not_false_eq_true, if_neg, if_pos]
  have c45 : T.1 11 0 45 = nI (sS s (fT s best) (64 * n + j + 1)) := by rw [hT, sS_s, vT]; simp (disch := omega) only [pv_lt, pu_ck, pv_bI, pv_bV, pu_bR, pv_bL, pv_nt, pu_us, pu_un, mL_0, mL_1, mL_2, mL_3, mL_4, mL_5, mL_6, mL_7, mL_8, mL_9, mL_10, mL_11, mL_12, mL_13, mL_14, mL_15, mL_16, mL_23, mL_24, mL_32, mL_48, mL_64, mL_99, mL_100, mL_200, mL_336, mL_576, mL_768, mL_800, mL_999, mL_4095, mL_4096, mL_m1, nI_leI, nI_ltI, nI_eq, nI_clamp, nI_add, pk_mul, nI_nu, bI_eq0, bI_eq1, bo_ft, Bool.true_eq_false, Bool.false_eq_true, pu_of, pu_of24, pu_onward, pu_frq, if_true, if_false, true_or, or_true, false_or, or_false, and_true, true_and, and_false, false_and, not_true_eq_false, not_false_eq_true, if_neg, if_pos]
  have c35 : ∀ v, v < 24 → T.1 35 0 v = bI (lk_v s (64 * j) best n (lk_n s (64 * j) best n) v) := fun v hv => by rw [hT]; simp (disch := omega) only [pv_lt, pu_ck, pv_bI, pv_bV, pu_bR, pv_bL, pv_nt, pu_us, pu_un, mL_0, mL_1, mL_2, mL_3, mL_4, mL_5, mL_6, mL_7, mL_8, mL_9, mL_10, mL_11, mL_12, mL_13, mL_14, mL_15, mL_16, mL_23, mL_24, mL_32, mL_48, mL_64, mL_99, mL_100, mL_200, mL_336, mL_576, mL_768, mL_800, mL_999, mL_4095, mL_4096, mL_m1, nI_leI, nI_ltI, nI_eq, nI_clamp, nI_add, pk_mul, nI_nu, bI_eq0, bI_eq1, bo_ft, Bool.true_eq_false, Bool.false_eq_true, pu_of, pu_of24, pu_onward, pu_frq, if_true, if_false, true_or, or_true, false_or, or_false, and_true, true_and, and_false, false_and, not_true_eq_false, not_false_eq_true, if_neg, if_pos, Hv v hv]
  have c42a : ∀ v, v < rg_N s → T.1 42 0 v = nI (sS s (fV s best v) (64 * n + j)) := fun v hv => by
    have e : T.1 42 0 v = t.1 42 0 v := by
      rw [hT]
      simp (disch := omega) only [pv_lt, pu_ck, pv_bI, pv_bV, pu_bR, pv_bL, pv_nt, pu_us, pu_un, mL_0, mL_1, mL_2, mL_3, mL_4, mL_5, mL_6, mL_7, mL_8, mL_9, mL_10, mL_11, mL_12, mL_13, mL_14, mL_15, mL_16, mL_23, mL_24, mL_32, mL_48, mL_64, mL_99, mL_100, mL_200, mL_336, mL_576, mL_768, mL_800, mL_999, mL_4095, mL_4096, mL_m1, nI_leI, nI_ltI, nI_eq, nI_clamp, nI_add, pk_mul, nI_nu, bI_eq0, bI_eq1, bo_ft, Bool.true_eq_false, Bool.false_eq_true, pu_of, pu_of24, pu_onward, pu_frq, if_true, if_false, true_or, or_true, false_or, or_false, and_true, true_and, and_false, false_and, not_true_eq_false, not_false_eq_true, if_neg, if_pos]
      exact f1.2 _ _ _ (by unfold S_lo; omega)
    rw [e]; exact iv v hv
  have c36 : ∀ a b, a < 24 → b < 24 → T.1 36 0 (24 * a + b) = nI (sS s (fX s best a b) (64 * n + j + 1)) := fun a b ha hb => by
    have e : T.1 36 0 (24 * a + b) = t1.1 36 0 (24 * a + b) := by rw [hT]; simp (disch := omega) only [pv_lt, pu_ck, pv_bI, pv_bV, pu_bR, pv_bL, pv_nt, pu_us, pu_un, mL_0, mL_1, mL_2, mL_3, mL_4, mL_5, mL_6, mL_7, mL_8, mL_9, mL_10, mL_11, mL_12, mL_13, mL_14, mL_15, mL_16, mL_23, mL_24, mL_32, mL_48, mL_64, mL_99, mL_100, mL_200, mL_336, mL_576, mL_768, mL_800, mL_999, mL_4095, mL_4096, mL_m1, nI_leI, nI_ltI, nI_eq, nI_clamp, nI_add, pk_mul, nI_nu, bI_eq0, bI_eq1, bo_ft, Bool.true_eq_false, Bool.false_eq_true, pu_of, pu_of24, pu_onward, pu_frq, if_true, if_false, true_or, or_true, false_or, or_false, and_true, true_and, and_false, false_and, not_true_eq_false, not_false_eq_true, if_neg, if_pos]
    rw [e, Hx a b ha hb, ix a b ha hb, nI_add, sS_s, vX]
  have h1T := (rg_RN_hd RT).1
  have fin : ∀ z : Nat, z = (if lk_r s (64 * j) best n = true then 0 else 1) → ∃ t', f11_sampled_94 (nI n) (nI (64 * j)) (bI best) (nI z) (nI (sS s (fW s best) (64 * n + j))) T = some (.inl none, t') ∧ sr_I' t' s best (64 * n + j + 1) ∧ fr S_sr' t t' := by
    intro z hz
    obtain ⟨t', a1, ⟨a44, a46, a47⟩, a42, af⟩ := pr_s94 (x := nI n) (y := nI (64 * j)) (z := bI best) (q := z) (w := sS s (fW s best) (64 * n + j)) hN h1T (by omega) (by omega) (by omega) (by omega) c13 c19 c46 c47
    refine ⟨t', a1, ⟨⟨?_, ?_, ?_, ?_, ?_, ?_, ?_, ?_⟩, fun v hv => ?_, fun a b ha hb => ?_⟩, fr_trans fF (fr_mono af (fun k i j q => by unfold S_94 at q; unfold S_sr'; omega))⟩
    · rw [af.2 _ _ _ (by unfold S_94; omega)]; exact c40
    · rw [af.2 _ _ _ (by unfold S_94; omega)]; exact c41
    · rw [af.2 _ _ _ (by unfold S_94; omega)]; exact c42
    · rw [af.2 _ _ _ (by unfold S_94; omega)]; exact c43
    · rw [a44, sS_s, vW, hz]
    · rw [af.2 _ _ _ (by unfold S_94; omega)]; exact c45
    · rw [a46, sM_s, vH]
    · rw [a47, sM_s, vT]
    · have hb : bI (lk_v s (64 * j) best n (lk_n s (64 * j) best n) v) = nI (if lk_v s (64 * j) best n (lk_n s (64 * j) best n) v = true then 1 else 0) := by
        cases lk_v s (64 * j) best n (lk_n s (64 * j) best n) v with
        | true => rw [if_pos rfl, bI_t]; decide
        | false => rw [if_neg (by decide), bI_f]; decide
      rw [a42 v hv, c42a v hv, c35 v (by omega), sS_s, vV, ← nI_add, hb]
    · rw [af.2 _ _ _ (by unfold S_94; omega)]; exact c36 a b ha hb
  have step : F11_sampled (nI n) (nI (64 * j)) (bI best) t = sr_bI (F11_isRight (nI (64 * j)) (cI (lk_e s (64 * j) best n)) T) (fun v7 t7 => (if v7 = 0 then f11_sampled_94 (nI n) (nI (64 * j)) (bI best) 1 (T.1 11 0 44) t7 else f11_sampled_94 (nI n) (nI (64 * j)) (bI best) 0 (T.1 11 0 44) t7)) := by
    unfold F11_sampled
    rw [e1]
    rw [pv_bI, pv_lt, pv_lt, pv_lt, pv_lt, pv_lt, hT]
    simp (disch := omega) only [pu_us, pu_un, j40, j41, j42, j43, j45, H13, H14, H15, H16, H19, nI_add]
  rw [step, ir, pv_bI, c44]
  cases hr : lk_r s (64 * j) best n with
  | true =>
    obtain ⟨t', a1, a2⟩ := fin 0 (by rw [hr]; rfl)
    exact ⟨t', (if_neg (by decide)).trans a1, a2⟩
  | false =>
    obtain ⟨t', a1, a2⟩ := fin 1 (by rw [hr]; rfl)
    exact ⟨t', (if_pos rfl).trans a1, a2⟩
end
