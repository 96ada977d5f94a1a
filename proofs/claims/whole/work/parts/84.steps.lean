section
/-! steps: settings, owner, host, the latest lookup's parts -/
theorem Sr_0 {t : sr_t} {v : Int32} : fr Sr t (sr_u t 11 0 0 v) := fr_u fr_rfl (by unfold Sr; omega)
theorem J_thr {i : Nat} {t : sr_t} {s : rg_T} {w : st_T} {v : Int32} (X : J i t s w) : J i (sr_u t 11 0 0 v) s w := J_fr (frI_mono (frI_of Sr_0) (fun k i j h => Or.inr h)) X
theorem a_in (a : Int32) (lo hi : Nat) (h31 : hi < 2 ^ 31) (hl : lo ≤ hi) : (a < nI lo ∨ nI hi < a) ∨ ∃ j, lo ≤ j ∧ j ≤ hi ∧ a = nI j := by
  by_cases h0 : a < 0
  · left; left
    exact Int32.lt_of_lt_of_le h0 (nI_pos' (by omega))
  · obtain ⟨j, hj, rfl⟩ := nI_of h0
    by_cases h1 : j < lo
    · left; left; exact nI_lt h1 (by omega)
    · by_cases h2 : hi < j
      · left; right; exact nI_lt h2 hj
      · right; exact ⟨j, by omega, by omega, rfl⟩
theorem iIn_no {t : sr_t} {a l h : Int32} (hh : a < l ∨ h < a) : F11_isIn a l h t = some (.inl (some (sr_i (nI 0))), t) := by
  rw [iIn]
  by_cases h1 : a < l
  · rw [if_pos h1]
  · rw [if_neg h1, if_pos (hh.resolve_left h1)]
theorem iIn_ok {t : sr_t} {j l h : Nat} (h1 : l ≤ j) (h2 : j ≤ h) (h3 : h < 2 ^ 31) : F11_isIn (nI j) (nI l) (nI h) t = some (.inl (some (sr_i (nI 1))), t) := by
  rw [iIn, if_neg (nI_nlt h1 (by omega)), if_neg (nI_nlt h2 (by omega))]
theorem c_no {a l h : Int32} {A B : sr_Rs} (hh : a < l ∨ h < a) : (if a < l then A else if a ≤ h then B else A) = A := by
  by_cases h1 : a < l
  · rw [if_pos h1]
  · rw [if_neg h1, if_neg (Int32.not_le.mpr (hh.resolve_left h1))]
theorem s_owner {i : Nat} (hi : i + 4 ≤ 2048) (a : Int32) : sr_ok3 (sr_Inv i) (sr_Inv (i + 4)) (fun t => FL_owner_23 a t) (fun t => F11_owner a t) := by
  refine ok3_q hi (F := F10_owner a) (G := F11_owner a) (hc := hcL_owner_23) (fun t s w X => ?_)
  rcases a_place a with hb | ⟨q, hq, rfl⟩
  · right
    have nP := nP_no (t := t) hb
    have iP := iP_no (t := t) hb
    refine ⟨0, nI 1, nI 0, sr_u t 11 0 0 (nI 1), ?_, rfl, by decide, ?_, pu_us, Sr_0⟩
    · simp (disch := omega) only [pv_lt, pu_ck, pv_bI, pv_bV, pu_bR, pv_bL, pv_nt, pu_us, pu_un, mL_0, mL_1, mL_2, mL_3, mL_4, mL_5, mL_6, mL_7, mL_8, mL_9, mL_10, mL_11, mL_12, mL_13, mL_14, mL_15, mL_16, mL_23, mL_24, mL_32, mL_48, mL_64, mL_99, mL_100, mL_200, mL_336, mL_576, mL_768, mL_800, mL_999, mL_4095, mL_4096, mL_m1, nI_leI, nI_ltI, nI_eq, nI_clamp, nI_add, pk_mul, nI_nu, bI_eq0, bI_eq1, bo_ft, Bool.true_eq_false, Bool.false_eq_true, pu_of, pu_of24, pu_onward, pu_frq, if_true, if_false, true_or, or_true, false_or, or_false, and_true, true_and, and_false, false_and, not_true_eq_false, not_false_eq_true, if_neg, if_pos, F10_owner, nP, bVr]
    · simp (disch := omega) only [pv_lt, pu_ck, pv_bI, pv_bV, pu_bR, pv_bL, pv_nt, pu_us, pu_un, mL_0, mL_1, mL_2, mL_3, mL_4, mL_5, mL_6, mL_7, mL_8, mL_9, mL_10, mL_11, mL_12, mL_13, mL_14, mL_15, mL_16, mL_23, mL_24, mL_32, mL_48, mL_64, mL_99, mL_100, mL_200, mL_336, mL_576, mL_768, mL_800, mL_999, mL_4095, mL_4096, mL_m1, nI_leI, nI_ltI, nI_eq, nI_clamp, nI_add, pk_mul, nI_nu, bI_eq0, bI_eq1, bo_ft, Bool.true_eq_false, Bool.false_eq_true, pu_of, pu_of24, pu_onward, pu_frq, if_true, if_false, true_or, or_true, false_or, or_false, and_true, true_and, and_false, false_and, not_true_eq_false, not_false_eq_true, if_neg, if_pos, F11_owner, f11_owner_13, f11_owner_33, iP]
  · left
    obtain ⟨O, C, K, nb, sp, R, kp, L, W⟩ := X
    have hN := O.1.1
    have e1 := pu_firstFrom (a0 := nI q) C.1 O.1 (by omega) (pu_qn (by omega))
    rw [Nat.mod_eq_of_lt hq] at e1
    have hff : rg_ff s q ≤ 24 := am_le (D := fun n => pu_d q (rg_p s n)) (u := rg_u s) (N := rg_N s) hN
    have nn := C.1.2.1.1 _ hff
    have nP := nP_ok (t := t) hq
    refine ⟨nu (rg_ff s q), ⟨t, ?_, fun _ _ _ _ => rfl⟩, fun t' X' => ⟨sr_u t' 11 0 0 (nI 0), ?_, pu_us, Sr_0⟩⟩
    · simp (disch := omega) only [pv_lt, pu_ck, pv_bI, pv_bV, pu_bR, pv_bL, pv_nt, pu_us, pu_un, mL_0, mL_1, mL_2, mL_3, mL_4, mL_5, mL_6, mL_7, mL_8, mL_9, mL_10, mL_11, mL_12, mL_13, mL_14, mL_15, mL_16, mL_23, mL_24, mL_32, mL_48, mL_64, mL_99, mL_100, mL_200, mL_336, mL_576, mL_768, mL_800, mL_999, mL_4095, mL_4096, mL_m1, nI_leI, nI_ltI, nI_eq, nI_clamp, nI_add, pk_mul, nI_nu, bI_eq0, bI_eq1, bo_ft, Bool.true_eq_false, Bool.false_eq_true, pu_of, pu_of24, pu_onward, pu_frq, if_true, if_false, true_or, or_true, false_or, or_false, and_true, true_and, and_false, false_and, not_true_eq_false, not_false_eq_true, if_neg, if_pos, F10_owner, nP, e1, nn]
    · obtain ⟨_, _, _, _, _, R', _⟩ := J_thr (v := nI 0) X'
      have e2 := pn_upFrom1 (rg_RN_of R' O) O.1 hq
      have iP := iP_ok (t := t') hq
      simp (disch := omega) only [pv_lt, pu_ck, pv_bI, pv_bV, pu_bR, pv_bL, pv_nt, pu_us, pu_un, mL_0, mL_1, mL_2, mL_3, mL_4, mL_5, mL_6, mL_7, mL_8, mL_9, mL_10, mL_11, mL_12, mL_13, mL_14, mL_15, mL_16, mL_23, mL_24, mL_32, mL_48, mL_64, mL_99, mL_100, mL_200, mL_336, mL_576, mL_768, mL_800, mL_999, mL_4095, mL_4096, mL_m1, nI_leI, nI_ltI, nI_eq, nI_clamp, nI_add, pk_mul, nI_nu, bI_eq0, bI_eq1, bo_ft, Bool.true_eq_false, Bool.false_eq_true, pu_of, pu_of24, pu_onward, pu_frq, if_true, if_false, true_or, or_true, false_or, or_false, and_true, true_and, and_false, false_and, not_true_eq_false, not_false_eq_true, if_neg, if_pos, F11_owner, f11_owner_13, f11_owner_33, iP, e2]
theorem s_host {i : Nat} (hi : i + 4 ≤ 2048) (a : Int32) : sr_ok3 (sr_Inv i) (sr_Inv (i + 4)) (fun t => FL_host_23 a t) (fun t => F11_host a t) := by
  refine ok3_q hi (F := F10_host a) (G := F11_host a) (hc := hcL_host_23) (fun t s w X => ?_)
  rcases a_place a with hb | ⟨q, hq, rfl⟩
  · right
    have nP := nP_no (t := t) hb
    have iP := iP_no (t := t) hb
    refine ⟨0, nI 1, nI 0, sr_u t 11 0 0 (nI 1), ?_, rfl, by decide, ?_, pu_us, Sr_0⟩
    · simp (disch := omega) only [pv_lt, pu_ck, pv_bI, pv_bV, pu_bR, pv_bL, pv_nt, pu_us, pu_un, mL_0, mL_1, mL_2, mL_3, mL_4, mL_5, mL_6, mL_7, mL_8, mL_9, mL_10, mL_11, mL_12, mL_13, mL_14, mL_15, mL_16, mL_23, mL_24, mL_32, mL_48, mL_64, mL_99, mL_100, mL_200, mL_336, mL_576, mL_768, mL_800, mL_999, mL_4095, mL_4096, mL_m1, nI_leI, nI_ltI, nI_eq, nI_clamp, nI_add, pk_mul, nI_nu, bI_eq0, bI_eq1, bo_ft, Bool.true_eq_false, Bool.false_eq_true, pu_of, pu_of24, pu_onward, pu_frq, if_true, if_false, true_or, or_true, false_or, or_false, and_true, true_and, and_false, false_and, not_true_eq_false, not_false_eq_true, if_neg, if_pos, F10_host, nP, bVr]
    · simp (disch := omega) only [pv_lt, pu_ck, pv_bI, pv_bV, pu_bR, pv_bL, pv_nt, pu_us, pu_un, mL_0, mL_1, mL_2, mL_3, mL_4, mL_5, mL_6, mL_7, mL_8, mL_9, mL_10, mL_11, mL_12, mL_13, mL_14, mL_15, mL_16, mL_23, mL_24, mL_32, mL_48, mL_64, mL_99, mL_100, mL_200, mL_336, mL_576, mL_768, mL_800, mL_999, mL_4095, mL_4096, mL_m1, nI_leI, nI_ltI, nI_eq, nI_clamp, nI_add, pk_mul, nI_nu, bI_eq0, bI_eq1, bo_ft, Bool.true_eq_false, Bool.false_eq_true, pu_of, pu_of24, pu_onward, pu_frq, if_true, if_false, true_or, or_true, false_or, or_false, and_true, true_and, and_false, false_and, not_true_eq_false, not_false_eq_true, if_neg, if_pos, F11_host, f11_host_13, f11_host_32, iP]
  · left
    obtain ⟨O, C, K, nb, sp, R, kp, L, W⟩ := X
    have hN := O.1.1
    have e1 := pu_lastBack (a0 := nI q) C.1 O.1 (by omega) (pu_qn (by omega))
    rw [Nat.mod_eq_of_lt hq] at e1
    have hff : rg_lb s q ≤ 24 := am_le (D := fun n => pu_d (rg_p s n) q) (u := rg_u s) (N := rg_N s) hN
    have nn := C.1.2.1.1 _ hff
    have nP := nP_ok (t := t) hq
    refine ⟨nu (rg_lb s q), ⟨t, ?_, fun _ _ _ _ => rfl⟩, fun t' X' => ⟨sr_u t' 11 0 0 (nI 0), ?_, pu_us, Sr_0⟩⟩
    · simp (disch := omega) only [pv_lt, pu_ck, pv_bI, pv_bV, pu_bR, pv_bL, pv_nt, pu_us, pu_un, mL_0, mL_1, mL_2, mL_3, mL_4, mL_5, mL_6, mL_7, mL_8, mL_9, mL_10, mL_11, mL_12, mL_13, mL_14, mL_15, mL_16, mL_23, mL_24, mL_32, mL_48, mL_64, mL_99, mL_100, mL_200, mL_336, mL_576, mL_768, mL_800, mL_999, mL_4095, mL_4096, mL_m1, nI_leI, nI_ltI, nI_eq, nI_clamp, nI_add, pk_mul, nI_nu, bI_eq0, bI_eq1, bo_ft, Bool.true_eq_false, Bool.false_eq_true, pu_of, pu_of24, pu_onward, pu_frq, if_true, if_false, true_or, or_true, false_or, or_false, and_true, true_and, and_false, false_and, not_true_eq_false, not_false_eq_true, if_neg, if_pos, F10_host, nP, e1, nn]
    · obtain ⟨_, _, _, _, _, R', _⟩ := J_thr (v := nI 0) X'
      have e2 := pn_hostOf (rg_RN_of R' O) O.1 hq
      have iP := iP_ok (t := t') hq
      simp (disch := omega) only [pv_lt, pu_ck, pv_bI, pv_bV, pu_bR, pv_bL, pv_nt, pu_us, pu_un, mL_0, mL_1, mL_2, mL_3, mL_4, mL_5, mL_6, mL_7, mL_8, mL_9, mL_10, mL_11, mL_12, mL_13, mL_14, mL_15, mL_16, mL_23, mL_24, mL_32, mL_48, mL_64, mL_99, mL_100, mL_200, mL_336, mL_576, mL_768, mL_800, mL_999, mL_4095, mL_4096, mL_m1, nI_leI, nI_ltI, nI_eq, nI_clamp, nI_add, pk_mul, nI_nu, bI_eq0, bI_eq1, bo_ft, Bool.true_eq_false, Bool.false_eq_true, pu_of, pu_of24, pu_onward, pu_frq, if_true, if_false, true_or, or_true, false_or, or_false, and_true, true_and, and_false, false_and, not_true_eq_false, not_false_eq_true, if_neg, if_pos, F11_host, f11_host_13, f11_host_32, iP, e2]
/-- what lies apart from ring 0, the latest lookup, the store -/
theorem J_rest {i : Nat} {t t' : sr_t} {s s' : rg_T} {w : st_T} {S : Nat → Nat → Nat → Prop} (X : J i t s w) (h : frI S t t') (hN : rg_N s' = rg_N s) (hs : ∀ k i j, S k i j → (k = 2 ∧ (i < 24 ∧ (j = 3 → i < rg_N s))) ∨ k = 3 ∨ (k = 7) ∨ ((k = 4 ∨ k = 12) ∧ i ≠ 104) ∨ (k = 11 ∧ i = 0 ∧ (j ≤ 1 ∨ j = 7 ∨ j = 8 ∨ (10 ≤ j ∧ j ≤ 21) ∨ 40 ≤ j)) ∨ (24 ≤ k ∧ k ≤ 28) ∨ k = 35 ∨ k = 36 ∨ 41 ≤ k) (O : rg_ok s') (C : rg_C t' 0 s') (K : rg_K t' 0 s') (R : rg_R t' s') : J (i + 4) t' s' w := by
  obtain ⟨_, _, _, nb, sp, _, kp, L, W⟩ := J_mono X
  refine ⟨O, C, K, rg_nob_fI h (fun i j a b c q => by have := hs _ _ _ q; omega) nb, fun n h1 h2 => ?_, R, ?_, la_I_fr h (fun k i j q q' => by have := hs _ _ _ q'; omega) L, ?_⟩
  · rw [h _ _ _ (fun q => by have := hs _ _ _ q; omega)]; exact sp n (by omega) h2
  · rw [h _ _ _ (fun q => by have := hs _ _ _ q; omega)]; exact kp
  · rw [hN]; exact st_I_fr h (fun k i j q q' => by have := hs _ _ _ q'; omega) W
theorem rg_R_sb {t : sr_t} {s : rg_T} {b : Nat} {v : Int32} (R : rg_R t s) : rg_R (sr_u (sr_u t 11 0 0 v) 11 0 7 (nI (2 ^ b))) (rg_sb s b) := by
  obtain ⟨⟨⟨h1, h2, h3⟩, nd⟩, tb⟩ := R
  refine ⟨⟨⟨?_, ?_, ?_⟩, fun n hn => ?_⟩, fun n hn => ?_⟩
  · rw [pu_un (by omega), pu_un (by omega)]; exact h1
  · rw [pu_us]; rfl
  · rw [pu_un (by omega), pu_un (by omega)]; exact h3
  · rw [pu_un (by omega), pu_un (by omega), pu_un (by omega), pu_un (by omega), pu_un (by omega), pu_un (by omega)]; exact nd n hn
  · obtain ⟨q1, q2, q3, q4, q5⟩ := tb n hn
    refine ⟨?_, ?_, ?_, fun j hj => ?_, fun j hj => ?_⟩
    · rw [pu_un (by omega), pu_un (by omega)]; exact q1
    · rw [pu_un (by omega), pu_un (by omega)]; exact q2
    · rw [pu_un (by omega), pu_un (by omega)]; exact q3
    · rw [pu_un (by omega), pu_un (by omega)]; exact q4 j hj
    · rw [pu_un (by omega), pu_un (by omega)]; exact q5 j hj
theorem rg_R_sd {t : sr_t} {s : rg_T} {d : Nat} {v : Int32} (R : rg_R t s) : rg_R (sr_u (sr_u t 11 0 0 v) 11 0 8 (nI d)) (rg_sd s d) := by
  obtain ⟨⟨⟨h1, h2, h3⟩, nd⟩, tb⟩ := R
  refine ⟨⟨⟨?_, ?_, ?_⟩, fun n hn => ?_⟩, fun n hn => ?_⟩
  · rw [pu_un (by omega), pu_un (by omega)]; exact h1
  · rw [pu_un (by omega), pu_un (by omega)]; exact h2
  · rw [pu_us]; rfl
  · rw [pu_un (by omega), pu_un (by omega), pu_un (by omega), pu_un (by omega), pu_un (by omega), pu_un (by omega)]; exact nd n hn
  · obtain ⟨q1, q2, q3, q4, q5⟩ := tb n hn
    refine ⟨?_, ?_, ?_, fun j hj => ?_, fun j hj => ?_⟩
    · rw [pu_un (by omega), pu_un (by omega)]; exact q1
    · rw [pu_un (by omega), pu_un (by omega)]; exact q2
    · rw [pu_un (by omega), pu_un (by omega)]; exact q3
    · rw [pu_un (by omega), pu_un (by omega)]; exact q4 j hj
    · rw [pu_un (by omega), pu_un (by omega)]; exact q5 j hj
theorem rg_R_ss {t : sr_t} {s : rg_T} {m z : Nat} {v : Int32} (R : rg_R t s) : rg_R (sr_u (sr_u t 11 0 0 v) 26 0 m (nI z)) (rg_ss s m z) := by
  obtain ⟨⟨⟨h1, h2, h3⟩, nd⟩, tb⟩ := R
  refine ⟨⟨⟨?_, ?_, ?_⟩, fun n hn => ⟨?_, ?_, ?_⟩⟩, fun n hn => ?_⟩
  · rw [pu_un (by omega), pu_un (by omega)]; exact h1
  · rw [pu_un (by omega), pu_un (by omega)]; exact h2
  · rw [pu_un (by omega), pu_un (by omega)]; exact h3
  · rw [pu_un (by omega), pu_un (by omega)]; exact (nd n hn).1
  · rw [pu_un (by omega), pu_un (by omega)]; exact (nd n hn).2.1
  · show _ = nI (if n = m then z else rg_s s n)
    by_cases e : n = m
    · rw [if_pos e, e, pu_us]
    · rw [if_neg e, pu_un (by omega), pu_un (by omega)]; exact (nd n hn).2.2
  · obtain ⟨q1, q2, q3, q4, q5⟩ := tb n hn
    refine ⟨?_, ?_, ?_, fun j hj => ?_, fun j hj => ?_⟩
    · rw [pu_un (by omega), pu_un (by omega)]; exact q1
    · rw [pu_un (by omega), pu_un (by omega)]; exact q2
    · rw [pu_un (by omega), pu_un (by omega)]; exact q3
    · rw [pu_un (by omega), pu_un (by omega)]; exact q4 j hj
    · rw [pu_un (by omega), pu_un (by omega)]; exact q5 j hj
theorem a_base (a : Int32) : (∃ b, 1 ≤ b ∧ b ≤ 4 ∧ a = nI (2 ^ b)) ∨ (a ≠ 2 ∧ a ≠ 4 ∧ a ≠ 8 ∧ a ≠ 16) := by
  by_cases h1 : a = 2
  · exact Or.inl ⟨1, by omega, by omega, by rw [h1]; decide⟩
  · by_cases h2 : a = 4
    · exact Or.inl ⟨2, by omega, by omega, by rw [h2]; decide⟩
    · by_cases h3 : a = 8
      · exact Or.inl ⟨3, by omega, by omega, by rw [h3]; decide⟩
      · by_cases h4 : a = 16
        · exact Or.inl ⟨4, by omega, by omega, by rw [h4]; decide⟩
        · exact Or.inr ⟨h1, h2, h3, h4⟩
theorem nB_no {t : sr_t} {a : Int32} (h : a ≠ 2 ∧ a ≠ 4 ∧ a ≠ 8 ∧ a ≠ 16) : F10_needBase a t = some (.inr 0, t) := by
  unfold F10_needBase F10_bitsOf
  rw [if_neg h.1, if_neg h.2.1, if_neg h.2.2.1, if_neg h.2.2.2]
  rfl
theorem iB_no {t : sr_t} {a : Int32} (h : a ≠ 2 ∧ a ≠ 4 ∧ a ≠ 8 ∧ a ≠ 16) : F11_isBase a t = some (.inl (some (sr_i (nI 0))), t) := by
  unfold F11_isBase
  rw [if_neg h.1, if_neg h.2.1, if_neg h.2.2.1, if_neg h.2.2.2]
  rfl
theorem nB_ok {t : sr_t} {b : Nat} (h1 : 1 ≤ b) (h4 : b ≤ 4) : F10_needBase (nI (2 ^ b)) t = some (.inl none, t) := by
  have hb : b = 1 ∨ b = 2 ∨ b = 3 ∨ b = 4 := by omega
  rcases hb with rfl | rfl | rfl | rfl <;> rfl
theorem iB_ok {t : sr_t} {b : Nat} (h1 : 1 ≤ b) (h4 : b ≤ 4) : F11_isBase (nI (2 ^ b)) t = some (.inl (some (sr_i (nI 1))), t) := by
  have hb : b = 1 ∨ b = 2 ∨ b = 3 ∨ b = 4 := by omega
  rcases hb with rfl | rfl | rfl | rfl <;> rfl
theorem s_turn {i : Nat} (hi : i + 4 ≤ 2048) (a : Int32) : sr_ok3 (sr_Inv i) (sr_Inv (i + 4)) (fun t => FL_turn_23 a t) (fun t => F11_turn a t) := by
  refine ok3_m hi (F := F10_turn a) (G := F11_turn a) (hc := hcL_turn_23) (fun t s w X => ?_)
  rcases a_base a with ⟨b, b1, b4, rfl⟩ | hb
  · left
    obtain ⟨O, C, K, nb, sp, R, kp, L, W⟩ := id X
    have hN := O.1.1
    have h5 := C.1.1.2.1
    have nB := nB_ok (t := t) b1 b4
    have sB := pu_setBase (t := t) (r := 0) b1 b4
    refine ⟨nI (2 ^ rg_b s), (sr_u (sr_u (sr_u t 3 0 5 (nI (2 ^ b))) 3 0 6 (nI b)) 3 0 7 (nI (12 / b))), ?_, fun T hT => ?_⟩
    · simp (disch := omega) only [pv_lt, pu_ck, pv_bI, pv_bV, pu_bR, pv_bL, pv_nt, pu_us, pu_un, mL_0, mL_1, mL_2, mL_3, mL_4, mL_5, mL_6, mL_7, mL_8, mL_9, mL_10, mL_11, mL_12, mL_13, mL_14, mL_15, mL_16, mL_23, mL_24, mL_32, mL_48, mL_64, mL_99, mL_100, mL_200, mL_336, mL_576, mL_768, mL_800, mL_999, mL_4095, mL_4096, mL_m1, nI_leI, nI_ltI, nI_eq, nI_clamp, nI_add, pk_mul, nI_nu, bI_eq0, bI_eq1, bo_ft, Bool.true_eq_false, Bool.false_eq_true, pu_of, pu_of24, pu_onward, pu_frq, if_true, if_false, true_or, or_true, false_or, or_false, and_true, true_and, and_false, false_and, not_true_eq_false, not_false_eq_true, if_neg, if_pos, F10_turn, nB, sB, h5]
    · have C1 := rg_C_sb (b := b) hN C
      have fT : frI (fun k i j => k = 3 ∧ i = 0 ∧ 5 ≤ j ∧ j ≤ 7) t T := fun k i j q => by
        rw [hT, pu_un (fun e => q ⟨e.1, e.2.1, by omega, by omega⟩), pu_un (fun e => q ⟨e.1, e.2.1, by omega, by omega⟩), pu_un (fun e => q ⟨e.1, e.2.1, by omega, by omega⟩)]
      have RT : rg_R T s := rg_R_fI O fT (fun k i j q q' => by unfold Fp_R at q; obtain ⟨q1, _⟩ := q'; omega) R
      have CT : rg_C T 0 (rg_sb s b) := rg_C_fI (S := fun _ _ _ => False) hN (fun k i j _ => by rw [hT]) (fun _ _ _ _ h => h) C1
      have KT : rg_K T 0 s := rg_K_fI hN fT (fun k i j q q' => by unfold Fp_K at q; obtain ⟨q1, q2, q3⟩ := q'; omega) K
      have h7 := RT.1.1.2.1
      have iB := iB_ok (t := T) b1 b4
      have f2 : frI (fun k i j => k = 11 ∧ i = 0 ∧ (j = 0 ∨ j = 7)) T (sr_u (sr_u T 11 0 0 (nI 0)) 11 0 7 (nI (2 ^ b))) := fun k i j q => by
        rw [pu_un (fun e => q ⟨e.1, e.2.1, by omega⟩), pu_un (fun e => q ⟨e.1, e.2.1, by omega⟩)]
      refine ⟨sr_u (sr_u T 11 0 0 (nI 0)) 11 0 7 (nI (2 ^ b)), rg_sb s b, w, ?_, ?_, rfl, ?_⟩
      · simp (disch := omega) only [pv_lt, pu_ck, pv_bI, pv_bV, pu_bR, pv_bL, pv_nt, pu_us, pu_un, mL_0, mL_1, mL_2, mL_3, mL_4, mL_5, mL_6, mL_7, mL_8, mL_9, mL_10, mL_11, mL_12, mL_13, mL_14, mL_15, mL_16, mL_23, mL_24, mL_32, mL_48, mL_64, mL_99, mL_100, mL_200, mL_336, mL_576, mL_768, mL_800, mL_999, mL_4095, mL_4096, mL_m1, nI_leI, nI_ltI, nI_eq, nI_clamp, nI_add, pk_mul, nI_nu, bI_eq0, bI_eq1, bo_ft, Bool.true_eq_false, Bool.false_eq_true, pu_of, pu_of24, pu_onward, pu_frq, if_true, if_false, true_or, or_true, false_or, or_false, and_true, true_and, and_false, false_and, not_true_eq_false, not_false_eq_true, if_neg, if_pos, F11_turn, f11_turn_13, iB, h7]
      · rw [pu_un (by omega), pu_us]
      · refine J_rest (S := fun k i j => (k = 3 ∧ i = 0 ∧ 5 ≤ j ∧ j ≤ 7) ∨ (k = 11 ∧ i = 0 ∧ (j = 0 ∨ j = 7))) X (frI_trans (frI_mono fT (fun k i j q => Or.inl q)) (frI_mono f2 (fun k i j q => Or.inr q))) rfl (fun k i j q => by omega) (rg_ok_sb O b1 b4) ?_ ?_ (rg_R_sb RT)
        · exact rg_C_fI hN f2 (fun k i j q q' => by unfold Fp_C at q; obtain ⟨q1, q2⟩ := q'; omega) CT
        · exact rg_K_fI (s := s) hN f2 (fun k i j q q' => by unfold Fp_K at q; obtain ⟨q1, q2⟩ := q'; omega) KT
  · right
    have nB := nB_no (t := t) hb
    have iB := iB_no (t := t) hb
    refine ⟨0, nI 1, nI 0, t, sr_u t 11 0 0 (nI 1), s, w, ?_, rfl, by decide, ?_, pu_us, J_mono (J_thr X)⟩
    · simp (disch := omega) only [pv_lt, pu_ck, pv_bI, pv_bV, pu_bR, pv_bL, pv_nt, pu_us, pu_un, mL_0, mL_1, mL_2, mL_3, mL_4, mL_5, mL_6, mL_7, mL_8, mL_9, mL_10, mL_11, mL_12, mL_13, mL_14, mL_15, mL_16, mL_23, mL_24, mL_32, mL_48, mL_64, mL_99, mL_100, mL_200, mL_336, mL_576, mL_768, mL_800, mL_999, mL_4095, mL_4096, mL_m1, nI_leI, nI_ltI, nI_eq, nI_clamp, nI_add, pk_mul, nI_nu, bI_eq0, bI_eq1, bo_ft, Bool.true_eq_false, Bool.false_eq_true, pu_of, pu_of24, pu_onward, pu_frq, if_true, if_false, true_or, or_true, false_or, or_false, and_true, true_and, and_false, false_and, not_true_eq_false, not_false_eq_true, if_neg, if_pos, F10_turn, nB, bVr]
    · simp (disch := omega) only [pv_lt, pu_ck, pv_bI, pv_bV, pu_bR, pv_bL, pv_nt, pu_us, pu_un, mL_0, mL_1, mL_2, mL_3, mL_4, mL_5, mL_6, mL_7, mL_8, mL_9, mL_10, mL_11, mL_12, mL_13, mL_14, mL_15, mL_16, mL_23, mL_24, mL_32, mL_48, mL_64, mL_99, mL_100, mL_200, mL_336, mL_576, mL_768, mL_800, mL_999, mL_4095, mL_4096, mL_m1, nI_leI, nI_ltI, nI_eq, nI_clamp, nI_add, pk_mul, nI_nu, bI_eq0, bI_eq1, bo_ft, Bool.true_eq_false, Bool.false_eq_true, pu_of, pu_of24, pu_onward, pu_frq, if_true, if_false, true_or, or_true, false_or, or_false, and_true, true_and, and_false, false_and, not_true_eq_false, not_false_eq_true, if_neg, if_pos, F11_turn, f11_turn_13, iB]
theorem s_degree {i : Nat} (hi : i + 4 ≤ 2048) (a : Int32) : sr_ok3 (sr_Inv i) (sr_Inv (i + 4)) (fun t => FL_degree_23 a t) (fun t => F11_degree a t) := by
  refine ok3_m hi (F := F10_degree a) (G := F11_degree a) (hc := hcL_degree_23) (fun t s w X => ?_)
  rcases a_in a 1 8 (by omega) (by omega) with hb | ⟨d, d1, d8, rfl⟩
  · right
    have nD : F10_needDegree a t = some (.inr 0, t) := c_no (l := 1) (h := 8) hb
    have iD : F11_isIn a (nI 1) (nI 8) t = some (.inl (some (sr_i (nI 0))), t) := iIn_no hb
    refine ⟨0, nI 1, nI 0, t, sr_u t 11 0 0 (nI 1), s, w, ?_, rfl, by decide, ?_, pu_us, J_mono (J_thr X)⟩
    · simp (disch := omega) only [pv_lt, pu_ck, pv_bI, pv_bV, pu_bR, pv_bL, pv_nt, pu_us, pu_un, mL_0, mL_1, mL_2, mL_3, mL_4, mL_5, mL_6, mL_7, mL_8, mL_9, mL_10, mL_11, mL_12, mL_13, mL_14, mL_15, mL_16, mL_23, mL_24, mL_32, mL_48, mL_64, mL_99, mL_100, mL_200, mL_336, mL_576, mL_768, mL_800, mL_999, mL_4095, mL_4096, mL_m1, nI_leI, nI_ltI, nI_eq, nI_clamp, nI_add, pk_mul, nI_nu, bI_eq0, bI_eq1, bo_ft, Bool.true_eq_false, Bool.false_eq_true, pu_of, pu_of24, pu_onward, pu_frq, if_true, if_false, true_or, or_true, false_or, or_false, and_true, true_and, and_false, false_and, not_true_eq_false, not_false_eq_true, if_neg, if_pos, F10_degree, nD, bVr]
    · simp (disch := omega) only [pv_lt, pu_ck, pv_bI, pv_bV, pu_bR, pv_bL, pv_nt, pu_us, pu_un, mL_0, mL_1, mL_2, mL_3, mL_4, mL_5, mL_6, mL_7, mL_8, mL_9, mL_10, mL_11, mL_12, mL_13, mL_14, mL_15, mL_16, mL_23, mL_24, mL_32, mL_48, mL_64, mL_99, mL_100, mL_200, mL_336, mL_576, mL_768, mL_800, mL_999, mL_4095, mL_4096, mL_m1, nI_leI, nI_ltI, nI_eq, nI_clamp, nI_add, pk_mul, nI_nu, bI_eq0, bI_eq1, bo_ft, Bool.true_eq_false, Bool.false_eq_true, pu_of, pu_of24, pu_onward, pu_frq, if_true, if_false, true_or, or_true, false_or, or_false, and_true, true_and, and_false, false_and, not_true_eq_false, not_false_eq_true, if_neg, if_pos, F11_degree, f11_degree_16, iD]
  · left
    obtain ⟨O, C, K, nb, sp, R, kp, L, W⟩ := id X
    have hN := O.1.1
    have h8 := C.1.1.2.2.2.2
    have nD : F10_needDegree (nI d) t = some (.inl none, t) := by simp (disch := omega) only [pv_lt, pu_ck, pv_bI, pv_bV, pu_bR, pv_bL, pv_nt, pu_us, pu_un, mL_0, mL_1, mL_2, mL_3, mL_4, mL_5, mL_6, mL_7, mL_8, mL_9, mL_10, mL_11, mL_12, mL_13, mL_14, mL_15, mL_16, mL_23, mL_24, mL_32, mL_48, mL_64, mL_99, mL_100, mL_200, mL_336, mL_576, mL_768, mL_800, mL_999, mL_4095, mL_4096, mL_m1, nI_leI, nI_ltI, nI_eq, nI_clamp, nI_add, pk_mul, nI_nu, bI_eq0, bI_eq1, bo_ft, Bool.true_eq_false, Bool.false_eq_true, pu_of, pu_of24, pu_onward, pu_frq, if_true, if_false, true_or, or_true, false_or, or_false, and_true, true_and, and_false, false_and, not_true_eq_false, not_false_eq_true, if_neg, if_pos, F10_needDegree]
    refine ⟨nI (rg_d s), sr_u t 3 0 8 (nI d), ?_, fun T hT => ?_⟩
    · simp (disch := omega) only [pv_lt, pu_ck, pv_bI, pv_bV, pu_bR, pv_bL, pv_nt, pu_us, pu_un, mL_0, mL_1, mL_2, mL_3, mL_4, mL_5, mL_6, mL_7, mL_8, mL_9, mL_10, mL_11, mL_12, mL_13, mL_14, mL_15, mL_16, mL_23, mL_24, mL_32, mL_48, mL_64, mL_99, mL_100, mL_200, mL_336, mL_576, mL_768, mL_800, mL_999, mL_4095, mL_4096, mL_m1, nI_leI, nI_ltI, nI_eq, nI_clamp, nI_add, pk_mul, nI_nu, bI_eq0, bI_eq1, bo_ft, Bool.true_eq_false, Bool.false_eq_true, pu_of, pu_of24, pu_onward, pu_frq, if_true, if_false, true_or, or_true, false_or, or_false, and_true, true_and, and_false, false_and, not_true_eq_false, not_false_eq_true, if_neg, if_pos, F10_degree, nD, h8]
    · have C1 := rg_C_sd (d := d) hN C
      have fT : frI (S_c1 3 0 8) t T := fun k i j q => by rw [hT, pu_un (fun e => q e)]
      have RT : rg_R T s := rg_R_fI O fT (fun k i j q => by unfold Fp_R at q; unfold S_c1; omega) R
      have CT : rg_C T 0 (rg_sd s d) := rg_C_fI (S := fun _ _ _ => False) hN (fun k i j _ => by rw [hT]) (fun _ _ _ _ h => h) C1
      have KT : rg_K T 0 s := rg_K_fI hN fT (fun k i j q => by unfold Fp_K at q; unfold S_c1; omega) K
      have h7 := RT.1.1.2.2
      have iD := iIn_ok (t := T) d1 d8 (by omega)
      have f2 : frI (fun k i j => k = 11 ∧ i = 0 ∧ (j = 0 ∨ j = 8)) T (sr_u (sr_u T 11 0 0 (nI 0)) 11 0 8 (nI d)) := fun k i j q => by
        rw [pu_un (fun e => q ⟨e.1, e.2.1, by omega⟩), pu_un (fun e => q ⟨e.1, e.2.1, by omega⟩)]
      refine ⟨sr_u (sr_u T 11 0 0 (nI 0)) 11 0 8 (nI d), rg_sd s d, w, ?_, ?_, rfl, ?_⟩
      · simp (disch := omega) only [pv_lt, pu_ck, pv_bI, pv_bV, pu_bR, pv_bL, pv_nt, pu_us, pu_un, mL_0, mL_1, mL_2, mL_3, mL_4, mL_5, mL_6, mL_7, mL_8, mL_9, mL_10, mL_11, mL_12, mL_13, mL_14, mL_15, mL_16, mL_23, mL_24, mL_32, mL_48, mL_64, mL_99, mL_100, mL_200, mL_336, mL_576, mL_768, mL_800, mL_999, mL_4095, mL_4096, mL_m1, nI_leI, nI_ltI, nI_eq, nI_clamp, nI_add, pk_mul, nI_nu, bI_eq0, bI_eq1, bo_ft, Bool.true_eq_false, Bool.false_eq_true, pu_of, pu_of24, pu_onward, pu_frq, if_true, if_false, true_or, or_true, false_or, or_false, and_true, true_and, and_false, false_and, not_true_eq_false, not_false_eq_true, if_neg, if_pos, F11_degree, f11_degree_16, iD, h7]
      · rw [pu_un (by omega), pu_us]
      · refine J_rest (S := fun k i j => (k = 3 ∧ i = 0 ∧ j = 8) ∨ (k = 11 ∧ i = 0 ∧ (j = 0 ∨ j = 8))) X (frI_trans (frI_mono fT (fun k i j q => Or.inl q)) (frI_mono f2 (fun k i j q => Or.inr q))) rfl (fun k i j q => by omega) (rg_ok_sd O d1 d8) ?_ ?_ (rg_R_sd RT)
        · exact rg_C_fI hN f2 (fun k i j q q' => by unfold Fp_C at q; obtain ⟨q1, q2⟩ := q'; omega) CT
        · exact rg_K_fI (s := s) hN f2 (fun k i j q q' => by unfold Fp_K at q; obtain ⟨q1, q2⟩ := q'; omega) KT
theorem s_spot {i : Nat} (hi : i + 4 ≤ 2048) (a b : Int32) : sr_ok3 (sr_Inv i) (sr_Inv (i + 4)) (fun t => FL_spot_23 a b t) (fun t => F11_spot a b t) := by
  refine ok3_m hi (F := F10_spot a b) (G := F11_spot a b) (hc := hcL_spot_23) (fun t s w X => ?_)
  obtain ⟨O, C, K, nb, sp, R, kp, L, W⟩ := id X
  have hN := O.1.1
  rcases a_node a hN with ha | ⟨n, hn, rfl⟩
  · right
    have n1 := nN_no C ha
    have i1 := iN_no R.1 O.1 ha
    refine ⟨2, nI 1, nI 0, t, sr_u t 11 0 0 (nI 1), s, w, ?_, rfl, by decide, ?_, pu_us, J_mono (J_thr X)⟩
    · simp (disch := omega) only [pv_lt, pu_ck, pv_bI, pv_bV, pu_bR, pv_bL, pv_nt, pu_us, pu_un, mL_0, mL_1, mL_2, mL_3, mL_4, mL_5, mL_6, mL_7, mL_8, mL_9, mL_10, mL_11, mL_12, mL_13, mL_14, mL_15, mL_16, mL_23, mL_24, mL_32, mL_48, mL_64, mL_99, mL_100, mL_200, mL_336, mL_576, mL_768, mL_800, mL_999, mL_4095, mL_4096, mL_m1, nI_leI, nI_ltI, nI_eq, nI_clamp, nI_add, pk_mul, nI_nu, bI_eq0, bI_eq1, bo_ft, Bool.true_eq_false, Bool.false_eq_true, pu_of, pu_of24, pu_onward, pu_frq, if_true, if_false, true_or, or_true, false_or, or_false, and_true, true_and, and_false, false_and, not_true_eq_false, not_false_eq_true, if_neg, if_pos, F10_spot, n1, bVr]
    · simp (disch := omega) only [pv_lt, pu_ck, pv_bI, pv_bV, pu_bR, pv_bL, pv_nt, pu_us, pu_un, mL_0, mL_1, mL_2, mL_3, mL_4, mL_5, mL_6, mL_7, mL_8, mL_9, mL_10, mL_11, mL_12, mL_13, mL_14, mL_15, mL_16, mL_23, mL_24, mL_32, mL_48, mL_64, mL_99, mL_100, mL_200, mL_336, mL_576, mL_768, mL_800, mL_999, mL_4095, mL_4096, mL_m1, nI_leI, nI_ltI, nI_eq, nI_clamp, nI_add, pk_mul, nI_nu, bI_eq0, bI_eq1, bo_ft, Bool.true_eq_false, Bool.false_eq_true, pu_of, pu_of24, pu_onward, pu_frq, if_true, if_false, true_or, or_true, false_or, or_false, and_true, true_and, and_false, false_and, not_true_eq_false, not_false_eq_true, if_neg, if_pos, F11_spot, f11_spot_28, i1]
  · have n1 := nN_ok C O hn
    have i1 := iN_ok R.1 O.1 hn
    rcases a_in b 0 99 (by omega) (by omega) with hb | ⟨z, z0, z9, rfl⟩
    · right
      have nD : (if b < nI 0 then f10_spot_15 (nI n) b t else if b ≤ nI 99 then (sr_bR 2 50 (F3_of 0 (nI n) t) (fun n2 t2 => (sr_lt (sr_u t2 2 n2 3 b) (fun t3 => (some (.inl (some (sr_i (t2.1 2 n2 3))), t3)))))) else f10_spot_15 (nI n) b t) = f10_spot_15 (nI n) b t := c_no hb
      have iD : F11_isIn b (nI 0) (nI 99) t = some (.inl (some (sr_i (nI 0))), t) := iIn_no hb
      refine ⟨0, nI 2, nI 0, t, sr_u t 11 0 0 (nI 2), s, w, ?_, rfl, by decide, ?_, pu_us, J_mono (J_thr X)⟩
      · unfold F10_spot
        rw [n1, pv_bV]
        exact nD
      · simp (disch := omega) only [pv_lt, pu_ck, pv_bI, pv_bV, pu_bR, pv_bL, pv_nt, pu_us, pu_un, mL_0, mL_1, mL_2, mL_3, mL_4, mL_5, mL_6, mL_7, mL_8, mL_9, mL_10, mL_11, mL_12, mL_13, mL_14, mL_15, mL_16, mL_23, mL_24, mL_32, mL_48, mL_64, mL_99, mL_100, mL_200, mL_336, mL_576, mL_768, mL_800, mL_999, mL_4095, mL_4096, mL_m1, nI_leI, nI_ltI, nI_eq, nI_clamp, nI_add, pk_mul, nI_nu, bI_eq0, bI_eq1, bo_ft, Bool.true_eq_false, Bool.false_eq_true, pu_of, pu_of24, pu_onward, pu_frq, if_true, if_false, true_or, or_true, false_or, or_false, and_true, true_and, and_false, false_and, not_true_eq_false, not_false_eq_true, if_neg, if_pos, F11_spot, f11_spot_28, i1, iD]
    · left
      have h3 := (C.1.2.2 n hn).2.2
      refine ⟨nI (rg_s s n), sr_u t 2 (25 * 0 + n) 3 (nI z), ?_, fun T hT => ?_⟩
      · simp (disch := omega) only [pv_lt, pu_ck, pv_bI, pv_bV, pu_bR, pv_bL, pv_nt, pu_us, pu_un, mL_0, mL_1, mL_2, mL_3, mL_4, mL_5, mL_6, mL_7, mL_8, mL_9, mL_10, mL_11, mL_12, mL_13, mL_14, mL_15, mL_16, mL_23, mL_24, mL_32, mL_48, mL_64, mL_99, mL_100, mL_200, mL_336, mL_576, mL_768, mL_800, mL_999, mL_4095, mL_4096, mL_m1, nI_leI, nI_ltI, nI_eq, nI_clamp, nI_add, pk_mul, nI_nu, bI_eq0, bI_eq1, bo_ft, Bool.true_eq_false, Bool.false_eq_true, pu_of, pu_of24, pu_onward, pu_frq, if_true, if_false, true_or, or_true, false_or, or_false, and_true, true_and, and_false, false_and, not_true_eq_false, not_false_eq_true, if_neg, if_pos, F10_spot, n1, h3]
      · have C1 := rg_C_ss (v := z) hN hn C
        have fT : frI (S_c1 2 (25 * 0 + n) 3) t T := fun k i j q => by rw [hT, pu_un (fun e => q e)]
        have RT : rg_R T s := rg_R_fI O fT (fun k i j q => by unfold Fp_R at q; unfold S_c1; omega) R
        have CT : rg_C T 0 (rg_ss s n z) := rg_C_fI (S := fun _ _ _ => False) hN (fun k i j _ => by rw [hT]) (fun _ _ _ _ h => h) C1
        have KT : rg_K T 0 s := rg_K_fI hN fT (fun k i j q => by unfold Fp_K at q; unfold S_c1; omega) K
        have h26 := (RT.1.2 n hn).2.2
        have i1 := iN_ok RT.1 O.1 hn
        have iD := iIn_ok (t := T) z0 z9 (by omega)
        have f2 : frI (fun k i j => (k = 11 ∧ i = 0 ∧ j = 0) ∨ (k = 26 ∧ i = 0 ∧ j = n)) T (sr_u (sr_u T 11 0 0 (nI 0)) 26 0 n (nI z)) := fun k i j q => by
          rw [pu_un (fun e => q (Or.inr e)), pu_un (fun e => q (Or.inl e))]
        refine ⟨sr_u (sr_u T 11 0 0 (nI 0)) 26 0 n (nI z), rg_ss s n z, w, ?_, ?_, rfl, ?_⟩
        · simp (disch := omega) only [pv_lt, pu_ck, pv_bI, pv_bV, pu_bR, pv_bL, pv_nt, pu_us, pu_un, mL_0, mL_1, mL_2, mL_3, mL_4, mL_5, mL_6, mL_7, mL_8, mL_9, mL_10, mL_11, mL_12, mL_13, mL_14, mL_15, mL_16, mL_23, mL_24, mL_32, mL_48, mL_64, mL_99, mL_100, mL_200, mL_336, mL_576, mL_768, mL_800, mL_999, mL_4095, mL_4096, mL_m1, nI_leI, nI_ltI, nI_eq, nI_clamp, nI_add, pk_mul, nI_nu, bI_eq0, bI_eq1, bo_ft, Bool.true_eq_false, Bool.false_eq_true, pu_of, pu_of24, pu_onward, pu_frq, if_true, if_false, true_or, or_true, false_or, or_false, and_true, true_and, and_false, false_and, not_true_eq_false, not_false_eq_true, if_neg, if_pos, F11_spot, f11_spot_28, i1, iD, h26, pu_ixN']
        · rw [pu_un (by omega), pu_us]
        · refine J_rest (S := fun k i j => (k = 2 ∧ i = 25 * 0 + n ∧ j = 3) ∨ (k = 11 ∧ i = 0 ∧ j = 0) ∨ (k = 26 ∧ i = 0 ∧ j = n)) X (frI_trans (frI_mono fT (fun k i j q => Or.inl q)) (frI_mono f2 (fun k i j q => Or.inr q))) rfl (fun k i j q => by omega) (rg_ok_ss O z9) ?_ ?_ (rg_R_ss RT)
          · exact rg_C_fI hN f2 (fun k i j q q' => by unfold Fp_C at q; omega) CT
          · exact rg_K_fI (s := s) hN f2 (fun k i j q q' => by unfold Fp_K at q; omega) KT
theorem s_copies {i : Nat} (hi : i + 4 ≤ 2048) (a : Int32) : sr_ok3 (sr_Inv i) (sr_Inv (i + 4)) (fun t => FL_copies_23 a t) (fun t => F11_copies a t) := by
  refine ok3_m hi (F := F10_copies a) (G := F11_copies a) (hc := hcL_copies_23) (fun t s w X => ?_)
  rcases a_in a 1 3 (by omega) (by omega) with hb | ⟨d, d1, d3, rfl⟩
  · right
    have nD : F10_copies a t = some (.inr 0, t) := c_no (l := 1) (h := 3) hb
    have iD : F11_isIn a (nI 1) (nI 3) t = some (.inl (some (sr_i (nI 0))), t) := iIn_no hb
    refine ⟨0, nI 1, nI 0, t, sr_u t 11 0 0 (nI 1), s, w, nD, rfl, by decide, ?_, pu_us, J_mono (J_thr X)⟩
    simp (disch := omega) only [pv_lt, pu_ck, pv_bI, pv_bV, pu_bR, pv_bL, pv_nt, pu_us, pu_un, mL_0, mL_1, mL_2, mL_3, mL_4, mL_5, mL_6, mL_7, mL_8, mL_9, mL_10, mL_11, mL_12, mL_13, mL_14, mL_15, mL_16, mL_23, mL_24, mL_32, mL_48, mL_64, mL_99, mL_100, mL_200, mL_336, mL_576, mL_768, mL_800, mL_999, mL_4095, mL_4096, mL_m1, nI_leI, nI_ltI, nI_eq, nI_clamp, nI_add, pk_mul, nI_nu, bI_eq0, bI_eq1, bo_ft, Bool.true_eq_false, Bool.false_eq_true, pu_of, pu_of24, pu_onward, pu_frq, if_true, if_false, true_or, or_true, false_or, or_false, and_true, true_and, and_false, false_and, not_true_eq_false, not_false_eq_true, if_neg, if_pos, F11_copies, f11_copies_15, iD]
  · left
    obtain ⟨O, C, K, nb, sp, R, kp, L, W⟩ := id X
    have hN := O.1.1
    have h4 := W.2.1.2.2
    refine ⟨nI w.1.2.2, sr_u t 6 0 4 (nI d), ?_, fun T hT => ?_⟩
    · simp (disch := omega) only [pv_lt, pu_ck, pv_bI, pv_bV, pu_bR, pv_bL, pv_nt, pu_us, pu_un, mL_0, mL_1, mL_2, mL_3, mL_4, mL_5, mL_6, mL_7, mL_8, mL_9, mL_10, mL_11, mL_12, mL_13, mL_14, mL_15, mL_16, mL_23, mL_24, mL_32, mL_48, mL_64, mL_99, mL_100, mL_200, mL_336, mL_576, mL_768, mL_800, mL_999, mL_4095, mL_4096, mL_m1, nI_leI, nI_ltI, nI_eq, nI_clamp, nI_add, pk_mul, nI_nu, bI_eq0, bI_eq1, bo_ft, Bool.true_eq_false, Bool.false_eq_true, pu_of, pu_of24, pu_onward, pu_frq, if_true, if_false, true_or, or_true, false_or, or_false, and_true, true_and, and_false, false_and, not_true_eq_false, not_false_eq_true, if_neg, if_pos, F10_copies, h4]
    · have fT : frI (S_c1 6 0 4) t T := fun k i j q => by rw [hT, pu_un (fun e => q e)]
      have h9 : T.1 11 0 9 = nI w.1.2.2 := by rw [fT _ _ _ (by unfold S_c1; omega)]; exact W.2.2.1.2.2
      have iD := iIn_ok (t := T) d1 d3 (by omega)
      have f2 : frI (fun k i j => (k = 6 ∧ i = 0 ∧ j = 4) ∨ (k = 11 ∧ i = 0 ∧ (j = 0 ∨ j = 9))) t (sr_u (sr_u T 11 0 0 (nI 0)) 11 0 9 (nI d)) := fun k i j q => by
        rw [pu_un (fun e => q (by omega)), pu_un (fun e => q (by omega))]
        exact fT k i j (fun e => q (Or.inl e))
      refine ⟨sr_u (sr_u T 11 0 0 (nI 0)) 11 0 9 (nI d), s, ((w.1.1, w.1.2.1, d), w.2), ?_, ?_, rfl, ?_⟩
      · simp (disch := omega) only [pv_lt, pu_ck, pv_bI, pv_bV, pu_bR, pv_bL, pv_nt, pu_us, pu_un, mL_0, mL_1, mL_2, mL_3, mL_4, mL_5, mL_6, mL_7, mL_8, mL_9, mL_10, mL_11, mL_12, mL_13, mL_14, mL_15, mL_16, mL_23, mL_24, mL_32, mL_48, mL_64, mL_99, mL_100, mL_200, mL_336, mL_576, mL_768, mL_800, mL_999, mL_4095, mL_4096, mL_m1, nI_leI, nI_ltI, nI_eq, nI_clamp, nI_add, pk_mul, nI_nu, bI_eq0, bI_eq1, bo_ft, Bool.true_eq_false, Bool.false_eq_true, pu_of, pu_of24, pu_onward, pu_frq, if_true, if_false, true_or, or_true, false_or, or_false, and_true, true_and, and_false, false_and, not_true_eq_false, not_false_eq_true, if_neg, if_pos, F11_copies, f11_copies_15, iD, h9]
      · rw [pu_un (by omega), pu_us]
      · refine ⟨O, rg_C_fI hN f2 (fun k i j q q' => by unfold Fp_C at q; omega) C, rg_K_fI hN f2 (fun k i j q q' => by unfold Fp_K at q; omega) K, rg_nob_fI f2 (fun i j _ _ _ => by omega) nb, fun n h1 h2 => ?_, rg_R_fI O f2 (fun k i j q q' => by unfold Fp_R at q; omega) R, ?_, la_I_fr f2 (fun k i j q q' => by omega) L, ?_⟩
        · rw [f2 _ _ _ (by omega)]; exact sp n h1 h2
        · rw [f2 _ _ _ (by omega)]; exact kp
        · obtain ⟨⟨w1, w2, w3, w4⟩, ⟨y1, y2, y3⟩, ⟨y4, y5, y6⟩, y7, y8, y9, y10⟩ := W
          refine ⟨⟨w1, by show w.1.2.1 ≤ i + 4; omega, d1, d3⟩, ⟨?_, ?_, ?_⟩, ⟨?_, ?_, ?_⟩, fun k hk => ?_, fun k hk n hn => ?_, fun n hn => ?_, ?_⟩
          · rw [f2 _ _ _ (by omega)]; exact y1
          · rw [f2 _ _ _ (by omega)]; exact y2
          · rw [pu_un (by omega), pu_un (by omega), hT, pu_us]
          · rw [f2 _ _ _ (by omega)]; exact y4
          · rw [f2 _ _ _ (by omega)]; exact y5
          · rw [pu_us]
          · rw [f2 _ _ _ (by omega), f2 _ _ _ (by omega), f2 _ _ _ (by omega), f2 _ _ _ (by omega)]; exact y7 k hk
          · rw [f2 _ _ _ (by omega), f2 _ _ _ (by omega), f2 _ _ _ (by omega), f2 _ _ _ (by omega)]; exact y8 k hk n hn
          · rw [f2 _ _ _ (by omega)]; exact y9 n hn
          · rw [f2 _ _ _ (by omega)]; exact y10
end
