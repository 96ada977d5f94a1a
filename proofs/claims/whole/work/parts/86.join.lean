section
/-! steps: join, lookup -/
def rg_tkn (s : rg_T) (p : Nat) (n : Nat) : Bool := decide (rg_p s n = p)
def rg_tk (s : rg_T) (p : Nat) : Bool := decide (fi (rg_tkn s p) (rg_N s) < rg_N s)
theorem rg_tk_no {s : rg_T} {p : Nat} (h : rg_tk s p = false) : ∀ n, n < rg_N s → rg_p s n ≠ p := by
  intro n hn e
  unfold rg_tk at h
  rw [decide_eq_false_iff_not] at h
  have := fi_no (P := rg_tkn s p) (m := rg_N s) (k := n) (by omega)
  unfold rg_tkn at this
  rw [decide_eq_false_iff_not] at this
  exact this e
theorem pu_taken {t : sr_t} {s : rg_T} {r p : Nat} (C : rg_B t r s) (O : rg_okB s) (hr : r < 2) (hp : p < 4096) : F3_isTaken r (nI p) t = some (.inl (some (sr_i (bI (rg_tk s p)))), t) := by
  have hN := O.1
  have h3 := C.1.1
  refine rs_eq ?_
  refine rs_loop (N := rg_N s) (L := fun f n t' => f3_isTaken_2 r (nI p) (f3_isTaken_22 r (nI p)) (f3_isTaken_30 r (nI p)) f (nI n) t') (fun n t' => t' = t ∧ ∀ j, j < n → rg_tkn s p j = false) ?_ ?_ (by unfold sr_fu; omega) ⟨rfl, fun j hj => by omega⟩
  · rintro n g t' hn ⟨rfl, hno⟩
    have h1 := (C.2.2 n hn).1
    have pn := O.2.2.2.1 n hn
    by_cases e : rg_p s n = p
    · right
      have ef : fi (rg_tkn s p) (rg_N s) = n := fi_eq (by omega) hno (fun _ => decide_eq_true e)
      have et : rg_tk s p = true := by unfold rg_tk; rw [ef]; exact decide_eq_true hn
      show rs_to _ (f3_isTaken_2 r (nI p) (f3_isTaken_22 r (nI p)) (f3_isTaken_30 r (nI p)) (g + 1) (nI n) t')
      simp (disch := omega) only [pv_lt, pu_ck, pv_bI, pv_bV, pu_bR, pv_bL, pv_nt, pu_us, pu_un, mL_0, mL_1, mL_2, mL_3, mL_4, mL_5, mL_6, mL_7, mL_8, mL_9, mL_10, mL_11, mL_12, mL_13, mL_14, mL_15, mL_16, mL_23, mL_24, mL_32, mL_48, mL_64, mL_99, mL_100, mL_200, mL_336, mL_576, mL_768, mL_800, mL_999, mL_4095, mL_4096, mL_m1, nI_leI, nI_ltI, nI_eq, nI_clamp, nI_add, pk_mul, nI_nu, bI_eq0, bI_eq1, bo_ft, Bool.true_eq_false, Bool.false_eq_true, pu_of, pu_of24, pu_onward, pu_frq, if_true, if_false, true_or, or_true, false_or, or_false, and_true, true_and, and_false, false_and, not_true_eq_false, not_false_eq_true, if_neg, if_pos, f3_isTaken_2, f3_isTaken_22, h3, h1, e]
      exact rs_ret ⟨by rw [et]; rfl, rfl⟩
    · left
      refine ⟨t', ⟨rfl, fun j hj => ?_⟩, ?_⟩
      · by_cases ej : j = n
        · rw [ej]; exact decide_eq_false e
        · exact hno j (by omega)
      · show f3_isTaken_2 r (nI p) (f3_isTaken_22 r (nI p)) (f3_isTaken_30 r (nI p)) (g + 1) (nI n) t' = f3_isTaken_2 r (nI p) (f3_isTaken_22 r (nI p)) (f3_isTaken_30 r (nI p)) g (nI (n + 1)) t'
        simp (disch := omega) only [pv_lt, pu_ck, pv_bI, pv_bV, pu_bR, pv_bL, pv_nt, pu_us, pu_un, mL_0, mL_1, mL_2, mL_3, mL_4, mL_5, mL_6, mL_7, mL_8, mL_9, mL_10, mL_11, mL_12, mL_13, mL_14, mL_15, mL_16, mL_23, mL_24, mL_32, mL_48, mL_64, mL_99, mL_100, mL_200, mL_336, mL_576, mL_768, mL_800, mL_999, mL_4095, mL_4096, mL_m1, nI_leI, nI_ltI, nI_eq, nI_clamp, nI_add, pk_mul, nI_nu, bI_eq0, bI_eq1, bo_ft, Bool.true_eq_false, Bool.false_eq_true, pu_of, pu_of24, pu_onward, pu_frq, if_true, if_false, true_or, or_true, false_or, or_false, and_true, true_and, and_false, false_and, not_true_eq_false, not_false_eq_true, if_neg, if_pos, f3_isTaken_2, h3, h1, e]
  · rintro g t' ⟨rfl, hno⟩
    have ef : fi (rg_tkn s p) (rg_N s) = rg_N s := fi_eq (by omega) hno (fun h => by omega)
    have et : rg_tk s p = false := by unfold rg_tk; rw [ef]; exact decide_eq_false (by omega)
    show rs_to _ (f3_isTaken_2 r (nI p) (f3_isTaken_22 r (nI p)) (f3_isTaken_30 r (nI p)) (g + 1) (nI (rg_N s)) t')
    simp (disch := omega) only [pv_lt, pu_ck, pv_bI, pv_bV, pu_bR, pv_bL, pv_nt, pu_us, pu_un, mL_0, mL_1, mL_2, mL_3, mL_4, mL_5, mL_6, mL_7, mL_8, mL_9, mL_10, mL_11, mL_12, mL_13, mL_14, mL_15, mL_16, mL_23, mL_24, mL_32, mL_48, mL_64, mL_99, mL_100, mL_200, mL_336, mL_576, mL_768, mL_800, mL_999, mL_4095, mL_4096, mL_m1, nI_leI, nI_ltI, nI_eq, nI_clamp, nI_add, pk_mul, nI_nu, bI_eq0, bI_eq1, bo_ft, Bool.true_eq_false, Bool.false_eq_true, pu_of, pu_of24, pu_onward, pu_frq, if_true, if_false, true_or, or_true, false_or, or_false, and_true, true_and, and_false, false_and, not_true_eq_false, not_false_eq_true, if_neg, if_pos, f3_isTaken_2, f3_isTaken_30, h3]
    exact rs_ret ⟨by rw [et]; rfl, rfl⟩
theorem fi_s {P : Nat → Bool} {m : Nat} : fi P (m + 1) = if fi P m < m then fi P m else if P m = true then m else m + 1 := rfl
theorem pu_join42 {t : sr_t} {s : rg_T} {p : Nat} {Q : sr_O → sr_t → Prop} {k76 : Int32 → sr_t → sr_Rs} (R : rg_RB t s) (O : rg_okB s) (hp : p < 4096) (hk : rs_to Q (k76 (bI (rg_tk s p)) t)) : rs_to Q (f11_join_42 (nI p) k76 sr_fu (nI 0) (nI 0) t) := by
  have hN := O.1
  have h1 := R.1.1
  refine rs_loop (N := rg_N s) (L := fun f n t' => f11_join_42 (nI p) k76 f (bI (decide (fi (rg_tkn s p) n < n))) (nI n) t') (fun n t' => t' = t) ?_ ?_ (by unfold sr_fu; omega) rfl
  · rintro n g t' hn rfl
    have h24 := (R.2 n hn).1
    have pn := O.2.2.2.1 n hn
    left
    refine ⟨t', rfl, ?_⟩
    show f11_join_42 (nI p) k76 (g + 1) (bI (decide (fi (rg_tkn s p) n < n))) (nI n) t' = f11_join_42 (nI p) k76 g (bI (decide (fi (rg_tkn s p) (n + 1) < n + 1))) (nI (n + 1)) t'
    rw [fi_s]
    by_cases hf : fi (rg_tkn s p) n < n
    · rw [if_pos hf, decide_eq_true hf, decide_eq_true (show fi (rg_tkn s p) n < n + 1 by omega)]
      have bt : ¬ bI true = nI 0 := by decide
      have bt1 : bI true = nI 1 := rfl
      simp (disch := omega) only [pv_lt, pu_ck, pv_bI, pv_bV, pu_bR, pv_bL, pv_nt, pu_us, pu_un, mL_0, mL_1, mL_2, mL_3, mL_4, mL_5, mL_6, mL_7, mL_8, mL_9, mL_10, mL_11, mL_12, mL_13, mL_14, mL_15, mL_16, mL_23, mL_24, mL_32, mL_48, mL_64, mL_99, mL_100, mL_200, mL_336, mL_576, mL_768, mL_800, mL_999, mL_4095, mL_4096, mL_m1, nI_leI, nI_ltI, nI_eq, nI_clamp, nI_add, pk_mul, nI_nu, bI_eq0, bI_eq1, bo_ft, Bool.true_eq_false, Bool.false_eq_true, pu_of, pu_of24, pu_onward, pu_frq, if_true, if_false, true_or, or_true, false_or, or_false, and_true, true_and, and_false, false_and, not_true_eq_false, not_false_eq_true, if_neg, if_pos, f11_join_42, f11_join_64, f11_join_69, h1, bt]
      rw [bt1]
    · rw [if_neg hf, decide_eq_false hf]
      have bf : bI false = nI 0 := rfl
      by_cases e : rg_p s n = p
      · have ep : rg_tkn s p n = true := decide_eq_true e
        rw [if_pos ep, decide_eq_true (show n < n + 1 by omega)]
        have bt1 : bI true = nI 1 := rfl
        simp (disch := omega) only [pv_lt, pu_ck, pv_bI, pv_bV, pu_bR, pv_bL, pv_nt, pu_us, pu_un, mL_0, mL_1, mL_2, mL_3, mL_4, mL_5, mL_6, mL_7, mL_8, mL_9, mL_10, mL_11, mL_12, mL_13, mL_14, mL_15, mL_16, mL_23, mL_24, mL_32, mL_48, mL_64, mL_99, mL_100, mL_200, mL_336, mL_576, mL_768, mL_800, mL_999, mL_4095, mL_4096, mL_m1, nI_leI, nI_ltI, nI_eq, nI_clamp, nI_add, pk_mul, nI_nu, bI_eq0, bI_eq1, bo_ft, Bool.true_eq_false, Bool.false_eq_true, pu_of, pu_of24, pu_onward, pu_frq, if_true, if_false, true_or, or_true, false_or, or_false, and_true, true_and, and_false, false_and, not_true_eq_false, not_false_eq_true, if_neg, if_pos, f11_join_42, f11_join_64, f11_join_69, h1, h24, bf, e, pu_ixN']
        rw [bt1]
      · have ep : ¬ rg_tkn s p n = true := by unfold rg_tkn; rw [decide_eq_true_eq]; exact e
        rw [if_neg ep, decide_eq_false (show ¬ n + 1 < n + 1 by omega)]
        simp (disch := omega) only [pv_lt, pu_ck, pv_bI, pv_bV, pu_bR, pv_bL, pv_nt, pu_us, pu_un, mL_0, mL_1, mL_2, mL_3, mL_4, mL_5, mL_6, mL_7, mL_8, mL_9, mL_10, mL_11, mL_12, mL_13, mL_14, mL_15, mL_16, mL_23, mL_24, mL_32, mL_48, mL_64, mL_99, mL_100, mL_200, mL_336, mL_576, mL_768, mL_800, mL_999, mL_4095, mL_4096, mL_m1, nI_leI, nI_ltI, nI_eq, nI_clamp, nI_add, pk_mul, nI_nu, bI_eq0, bI_eq1, bo_ft, Bool.true_eq_false, Bool.false_eq_true, pu_of, pu_of24, pu_onward, pu_frq, if_true, if_false, true_or, or_true, false_or, or_false, and_true, true_and, and_false, false_and, not_true_eq_false, not_false_eq_true, if_neg, if_pos, f11_join_42, f11_join_64, f11_join_69, h1, h24, bf, e, pu_ixN']
  · rintro g t' rfl
    show rs_to Q (f11_join_42 (nI p) k76 (g + 1) (bI (decide (fi (rg_tkn s p) (rg_N s) < rg_N s))) (nI (rg_N s)) t')
    simp (disch := omega) only [pv_lt, pu_ck, pv_bI, pv_bV, pu_bR, pv_bL, pv_nt, pu_us, pu_un, mL_0, mL_1, mL_2, mL_3, mL_4, mL_5, mL_6, mL_7, mL_8, mL_9, mL_10, mL_11, mL_12, mL_13, mL_14, mL_15, mL_16, mL_23, mL_24, mL_32, mL_48, mL_64, mL_99, mL_100, mL_200, mL_336, mL_576, mL_768, mL_800, mL_999, mL_4095, mL_4096, mL_m1, nI_leI, nI_ltI, nI_eq, nI_clamp, nI_add, pk_mul, nI_nu, bI_eq0, bI_eq1, bo_ft, Bool.true_eq_false, Bool.false_eq_true, pu_of, pu_of24, pu_onward, pu_frq, if_true, if_false, true_or, or_true, false_or, or_false, and_true, true_and, and_false, false_and, not_true_eq_false, not_false_eq_true, if_neg, if_pos, f11_join_42, h1]
    exact hk
theorem pu_join42F {t : sr_t} {s : rg_T} {p : Nat} {Q : sr_O → sr_t → Prop} {k76 : Int32 → sr_t → sr_Rs} (R : rg_RB t s) (O : rg_okB s) (hk : rs_to Q (k76 (nI 1) t)) : rs_to Q (f11_join_42 (nI p) k76 sr_fu (nI 1) (nI 0) t) := by
  have hN := O.1
  have h1 := R.1.1
  refine rs_loop (N := rg_N s) (L := fun f n t' => f11_join_42 (nI p) k76 f (nI 1) (nI n) t') (fun n t' => t' = t) ?_ ?_ (by unfold sr_fu; omega) rfl
  · rintro n g t' hn rfl
    left
    refine ⟨t', rfl, ?_⟩
    show f11_join_42 (nI p) k76 (g + 1) (nI 1) (nI n) t' = f11_join_42 (nI p) k76 g (nI 1) (nI (n + 1)) t'
    simp (disch := omega) only [pv_lt, pu_ck, pv_bI, pv_bV, pu_bR, pv_bL, pv_nt, pu_us, pu_un, mL_0, mL_1, mL_2, mL_3, mL_4, mL_5, mL_6, mL_7, mL_8, mL_9, mL_10, mL_11, mL_12, mL_13, mL_14, mL_15, mL_16, mL_23, mL_24, mL_32, mL_48, mL_64, mL_99, mL_100, mL_200, mL_336, mL_576, mL_768, mL_800, mL_999, mL_4095, mL_4096, mL_m1, nI_leI, nI_ltI, nI_eq, nI_clamp, nI_add, pk_mul, nI_nu, bI_eq0, bI_eq1, bo_ft, Bool.true_eq_false, Bool.false_eq_true, pu_of, pu_of24, pu_onward, pu_frq, if_true, if_false, true_or, or_true, false_or, or_false, and_true, true_and, and_false, false_and, not_true_eq_false, not_false_eq_true, if_neg, if_pos, f11_join_42, f11_join_64, f11_join_69, h1]
  · rintro g t' rfl
    show rs_to Q (f11_join_42 (nI p) k76 (g + 1) (nI 1) (nI (rg_N s)) t')
    simp (disch := omega) only [pv_lt, pu_ck, pv_bI, pv_bV, pu_bR, pv_bL, pv_nt, pu_us, pu_un, mL_0, mL_1, mL_2, mL_3, mL_4, mL_5, mL_6, mL_7, mL_8, mL_9, mL_10, mL_11, mL_12, mL_13, mL_14, mL_15, mL_16, mL_23, mL_24, mL_32, mL_48, mL_64, mL_99, mL_100, mL_200, mL_336, mL_576, mL_768, mL_800, mL_999, mL_4095, mL_4096, mL_m1, nI_leI, nI_ltI, nI_eq, nI_clamp, nI_add, pk_mul, nI_nu, bI_eq0, bI_eq1, bo_ft, Bool.true_eq_false, Bool.false_eq_true, pu_of, pu_of24, pu_onward, pu_frq, if_true, if_false, true_or, or_true, false_or, or_false, and_true, true_and, and_false, false_and, not_true_eq_false, not_false_eq_true, if_neg, if_pos, f11_join_42, h1]
    exact hk
theorem s_join {i : Nat} (hi : i + 4 ≤ 2048) (a : Int32) : sr_ok3 (sr_Inv i) (sr_Inv (i + 4)) (fun t => FL_join_23 a t) (fun t => F11_join a t) := by
  refine ok3_m hi (F := F10_join a) (G := F11_join a) (hc := hcL_join_23) (fun t s w X => ?_)
  obtain ⟨O, C, K, nb, sp, R, kp, L, W⟩ := id X
  have hN := O.1.1
  rcases a_place a with hb | ⟨p, hp, rfl⟩
  · right
    have nP := nP_no (t := t) hb
    have iP := iP_no (t := t) hb
    refine ⟨0, nI 1, nI 0, t, sr_u t 11 0 0 (nI 1), s, w, ?_, rfl, by decide, ?_, pu_us, J_mono (J_thr X)⟩
    · simp (disch := omega) only [pv_lt, pu_ck, pv_bI, pv_bV, pu_bR, pv_bL, pv_nt, pu_us, pu_un, mL_0, mL_1, mL_2, mL_3, mL_4, mL_5, mL_6, mL_7, mL_8, mL_9, mL_10, mL_11, mL_12, mL_13, mL_14, mL_15, mL_16, mL_23, mL_24, mL_32, mL_48, mL_64, mL_99, mL_100, mL_200, mL_336, mL_576, mL_768, mL_800, mL_999, mL_4095, mL_4096, mL_m1, nI_leI, nI_ltI, nI_eq, nI_clamp, nI_add, pk_mul, nI_nu, bI_eq0, bI_eq1, bo_ft, Bool.true_eq_false, Bool.false_eq_true, pu_of, pu_of24, pu_onward, pu_frq, if_true, if_false, true_or, or_true, false_or, or_false, and_true, true_and, and_false, false_and, not_true_eq_false, not_false_eq_true, if_neg, if_pos, F10_join, nP, bVr]
    · simp (disch := omega) only [pv_lt, pu_ck, pv_bI, pv_bV, pu_bR, pv_bL, pv_nt, pu_us, pu_un, mL_0, mL_1, mL_2, mL_3, mL_4, mL_5, mL_6, mL_7, mL_8, mL_9, mL_10, mL_11, mL_12, mL_13, mL_14, mL_15, mL_16, mL_23, mL_24, mL_32, mL_48, mL_64, mL_99, mL_100, mL_200, mL_336, mL_576, mL_768, mL_800, mL_999, mL_4095, mL_4096, mL_m1, nI_leI, nI_ltI, nI_eq, nI_clamp, nI_add, pk_mul, nI_nu, bI_eq0, bI_eq1, bo_ft, Bool.true_eq_false, Bool.false_eq_true, pu_of, pu_of24, pu_onward, pu_frq, if_true, if_false, true_or, or_true, false_or, or_false, and_true, true_and, and_false, false_and, not_true_eq_false, not_false_eq_true, if_neg, if_pos, F11_join, f11_join_13, iP]
  · have nP := nP_ok (t := t) hp
    have iP := iP_ok (t := t) hp
    have h3 := C.1.1.1
    have h11 := R.1.1.1
    have R0 : rg_R (sr_u t 11 0 0 (nI 0)) s := rg_R_fr O Sr_0 (fun k i j q => by unfold Fp_R at q; unfold Sr; omega) R
    have X0 : J i (sr_u t 11 0 0 (nI 0)) s w := J_thr X
    by_cases h24 : rg_N s = 24
    · right
      rw [h24] at h3 h11
      have main : ∃ t2, F11_join (nI p) t = some (.inl (some (sr_i (nI 0))), t2) ∧ t2 = sr_u (sr_u t 11 0 0 (nI 0)) 11 0 0 (nI 2) := by
        refine rs_via fun Q hQ => ?_
        simp (disch := omega) only [pv_lt, pu_ck, pv_bI, pv_bV, pu_bR, pv_bL, pv_nt, pu_us, pu_un, mL_0, mL_1, mL_2, mL_3, mL_4, mL_5, mL_6, mL_7, mL_8, mL_9, mL_10, mL_11, mL_12, mL_13, mL_14, mL_15, mL_16, mL_23, mL_24, mL_32, mL_48, mL_64, mL_99, mL_100, mL_200, mL_336, mL_576, mL_768, mL_800, mL_999, mL_4095, mL_4096, mL_m1, nI_leI, nI_ltI, nI_eq, nI_clamp, nI_add, pk_mul, nI_nu, bI_eq0, bI_eq1, bo_ft, Bool.true_eq_false, Bool.false_eq_true, pu_of, pu_of24, pu_onward, pu_frq, if_true, if_false, true_or, or_true, false_or, or_false, and_true, true_and, and_false, false_and, not_true_eq_false, not_false_eq_true, if_neg, if_pos, F11_join, f11_join_13, f11_join_39, iP, h11]
        refine pu_join42F R0.1 O.1 ?_
        simp (disch := omega) only [pv_lt, pu_ck, pv_bI, pv_bV, pu_bR, pv_bL, pv_nt, pu_us, pu_un, mL_0, mL_1, mL_2, mL_3, mL_4, mL_5, mL_6, mL_7, mL_8, mL_9, mL_10, mL_11, mL_12, mL_13, mL_14, mL_15, mL_16, mL_23, mL_24, mL_32, mL_48, mL_64, mL_99, mL_100, mL_200, mL_336, mL_576, mL_768, mL_800, mL_999, mL_4095, mL_4096, mL_m1, nI_leI, nI_ltI, nI_eq, nI_clamp, nI_add, pk_mul, nI_nu, bI_eq0, bI_eq1, bo_ft, Bool.true_eq_false, Bool.false_eq_true, pu_of, pu_of24, pu_onward, pu_frq, if_true, if_false, true_or, or_true, false_or, or_false, and_true, true_and, and_false, false_and, not_true_eq_false, not_false_eq_true, if_neg, if_pos, f11_join_76, f11_join_86]
        exact rs_ret (hQ _ rfl)
      obtain ⟨t2, g1, g2⟩ := main
      refine ⟨1, nI 2, nI 0, t, t2, s, w, ?_, rfl, by decide, g1, by rw [g2, pu_us], by rw [g2]; exact J_mono (J_thr X0)⟩
      simp (disch := omega) only [pv_lt, pu_ck, pv_bI, pv_bV, pu_bR, pv_bL, pv_nt, pu_us, pu_un, mL_0, mL_1, mL_2, mL_3, mL_4, mL_5, mL_6, mL_7, mL_8, mL_9, mL_10, mL_11, mL_12, mL_13, mL_14, mL_15, mL_16, mL_23, mL_24, mL_32, mL_48, mL_64, mL_99, mL_100, mL_200, mL_336, mL_576, mL_768, mL_800, mL_999, mL_4095, mL_4096, mL_m1, nI_leI, nI_ltI, nI_eq, nI_clamp, nI_add, pk_mul, nI_nu, bI_eq0, bI_eq1, bo_ft, Bool.true_eq_false, Bool.false_eq_true, pu_of, pu_of24, pu_onward, pu_frq, if_true, if_false, true_or, or_true, false_or, or_false, and_true, true_and, and_false, false_and, not_true_eq_false, not_false_eq_true, if_neg, if_pos, F10_join, f10_join_27, nP, h3]
    · have tk := pu_taken C.1 O.1 (by omega) hp
      cases htk : rg_tk s p with
      | true =>
        right
        rw [htk] at tk
        have bt : ¬ bI true = nI 0 := by decide
        have main : ∃ t2, F11_join (nI p) t = some (.inl (some (sr_i (nI 0))), t2) ∧ t2 = sr_u (sr_u t 11 0 0 (nI 0)) 11 0 0 (nI 2) := by
          refine rs_via fun Q hQ => ?_
          simp (disch := omega) only [pv_lt, pu_ck, pv_bI, pv_bV, pu_bR, pv_bL, pv_nt, pu_us, pu_un, mL_0, mL_1, mL_2, mL_3, mL_4, mL_5, mL_6, mL_7, mL_8, mL_9, mL_10, mL_11, mL_12, mL_13, mL_14, mL_15, mL_16, mL_23, mL_24, mL_32, mL_48, mL_64, mL_99, mL_100, mL_200, mL_336, mL_576, mL_768, mL_800, mL_999, mL_4095, mL_4096, mL_m1, nI_leI, nI_ltI, nI_eq, nI_clamp, nI_add, pk_mul, nI_nu, bI_eq0, bI_eq1, bo_ft, Bool.true_eq_false, Bool.false_eq_true, pu_of, pu_of24, pu_onward, pu_frq, if_true, if_false, true_or, or_true, false_or, or_false, and_true, true_and, and_false, false_and, not_true_eq_false, not_false_eq_true, if_neg, if_pos, F11_join, f11_join_13, f11_join_39, iP, h11]
          refine pu_join42 R0.1 O.1 hp ?_
          rw [htk]
          simp (disch := omega) only [pv_lt, pu_ck, pv_bI, pv_bV, pu_bR, pv_bL, pv_nt, pu_us, pu_un, mL_0, mL_1, mL_2, mL_3, mL_4, mL_5, mL_6, mL_7, mL_8, mL_9, mL_10, mL_11, mL_12, mL_13, mL_14, mL_15, mL_16, mL_23, mL_24, mL_32, mL_48, mL_64, mL_99, mL_100, mL_200, mL_336, mL_576, mL_768, mL_800, mL_999, mL_4095, mL_4096, mL_m1, nI_leI, nI_ltI, nI_eq, nI_clamp, nI_add, pk_mul, nI_nu, bI_eq0, bI_eq1, bo_ft, Bool.true_eq_false, Bool.false_eq_true, pu_of, pu_of24, pu_onward, pu_frq, if_true, if_false, true_or, or_true, false_or, or_false, and_true, true_and, and_false, false_and, not_true_eq_false, not_false_eq_true, if_neg, if_pos, f11_join_76, f11_join_86, bt]
          exact rs_ret (hQ _ rfl)
        obtain ⟨t2, g1, g2⟩ := main
        refine ⟨1, nI 2, nI 0, t, t2, s, w, ?_, rfl, by decide, g1, by rw [g2, pu_us], by rw [g2]; exact J_mono (J_thr X0)⟩
        simp (disch := omega) only [pv_lt, pu_ck, pv_bI, pv_bV, pu_bR, pv_bL, pv_nt, pu_us, pu_un, mL_0, mL_1, mL_2, mL_3, mL_4, mL_5, mL_6, mL_7, mL_8, mL_9, mL_10, mL_11, mL_12, mL_13, mL_14, mL_15, mL_16, mL_23, mL_24, mL_32, mL_48, mL_64, mL_99, mL_100, mL_200, mL_336, mL_576, mL_768, mL_800, mL_999, mL_4095, mL_4096, mL_m1, nI_leI, nI_ltI, nI_eq, nI_clamp, nI_add, pk_mul, nI_nu, bI_eq0, bI_eq1, bo_ft, Bool.true_eq_false, Bool.false_eq_true, pu_of, pu_of24, pu_onward, pu_frq, if_true, if_false, true_or, or_true, false_or, or_false, and_true, true_and, and_false, false_and, not_true_eq_false, not_false_eq_true, if_neg, if_pos, F10_join, f10_join_27, nP, h3, tk, bt]
      | false =>
        left
        rw [htk] at tk
        have bf : bI false = nI 0 := rfl
        have free := rg_tk_no htk
        obtain ⟨t1, e1, c1, k1, o1, f1⟩ := pu_addNode C O (r := 0) (by omega) (show rg_N s < 24 by omega) hp free (by rw [show 25 * 0 + rg_N s = rg_N s by omega]; exact sp _ (Nat.le_refl _) (by omega))
        refine ⟨nI (rg_N s), t1, ?_, fun T hT => ?_⟩
        · simp (disch := omega) only [pv_lt, pu_ck, pv_bI, pv_bV, pu_bR, pv_bL, pv_nt, pu_us, pu_un, mL_0, mL_1, mL_2, mL_3, mL_4, mL_5, mL_6, mL_7, mL_8, mL_9, mL_10, mL_11, mL_12, mL_13, mL_14, mL_15, mL_16, mL_23, mL_24, mL_32, mL_48, mL_64, mL_99, mL_100, mL_200, mL_336, mL_576, mL_768, mL_800, mL_999, mL_4095, mL_4096, mL_m1, nI_leI, nI_ltI, nI_eq, nI_clamp, nI_add, pk_mul, nI_nu, bI_eq0, bI_eq1, bo_ft, Bool.true_eq_false, Bool.false_eq_true, pu_of, pu_of24, pu_onward, pu_frq, if_true, if_false, true_or, or_true, false_or, or_false, and_true, true_and, and_false, false_and, not_true_eq_false, not_false_eq_true, if_neg, if_pos, F10_join, nP, h3, tk, bf, e1]
        · have fT : frI (S_an 0 (rg_N s)) t T := fun k i j q => by rw [hT]; exact f1.2 k i j q
          have RT : rg_R T s := rg_R_fI O fT (fun k i j q => by unfold Fp_R at q; unfold S_an S_bu S_tab Fp_K; omega) R
          have RT0 : rg_R (sr_u T 11 0 0 (nI 0)) s := rg_R_fr O Sr_0 (fun k i j q => by unfold Fp_R at q; unfold Sr; omega) RT
          have iPT := iP_ok (t := T) hp
          have h11T := RT.1.1.1
          obtain ⟨⟨⟨v1, v7, v8⟩, vn⟩, vt⟩ := id RT
          have O1 := rg_okB_ad (T := fun _ => 0) O.1 (show rg_N s < 24 by omega) hp free
          have eN : ∀ m, m < rg_N (rg_ad s p (fun _ => 0)) → m < rg_N s + 1 := fun m h => h
          obtain ⟨U, hU⟩ : ∃ U, U = (sr_u (sr_u (sr_u (sr_u (sr_u (sr_u T 11 0 0 (nI 0)) 11 0 0 (nI 0)) 24 0 (rg_N s) (nI p)) 25 0 (rg_N s) (nI 1)) 26 0 (rg_N s) (nI 0)) 11 0 1 (nI (rg_N s + 1))) := ⟨_, rfl⟩
          have RU : rg_RB U (rg_ad s p (fun _ => 0)) := by
            rw [hU]
            refine ⟨⟨?_, ?_, ?_⟩, fun n hn => ⟨?_, ?_, ?_⟩⟩
            · rw [pu_us]; rfl
            · rw [pu_un (by omega), pu_un (by omega), pu_un (by omega), pu_un (by omega), pu_un (by omega), pu_un (by omega)]; exact v7
            · rw [pu_un (by omega), pu_un (by omega), pu_un (by omega), pu_un (by omega), pu_un (by omega), pu_un (by omega)]; exact v8
            · show _ = nI (if n = rg_N s then p else rg_p s n)
              by_cases e : n = rg_N s
              · rw [if_pos e, e, pu_un (by omega), pu_un (by omega), pu_un (by omega), pu_us]
              · have := eN n hn
                rw [if_neg e, pu_un (by omega), pu_un (by omega), pu_un (by omega), pu_un (by omega), pu_un (by omega), pu_un (by omega)]; exact (vn n (by omega)).1
            · show _ = bI (if n = rg_N s then true else rg_u s n)
              by_cases e : n = rg_N s
              · rw [if_pos e, e, pu_un (by omega), pu_un (by omega), pu_us]; rfl
              · have := eN n hn
                rw [if_neg e, pu_un (by omega), pu_un (by omega), pu_un (by omega), pu_un (by omega), pu_un (by omega), pu_un (by omega)]; exact (vn n (by omega)).2.1
            · show _ = nI (if n = rg_N s then 0 else rg_s s n)
              by_cases e : n = rg_N s
              · rw [if_pos e, e, pu_un (by omega), pu_us]
              · have := eN n hn
                rw [if_neg e, pu_un (by omega), pu_un (by omega), pu_un (by omega), pu_un (by omega), pu_un (by omega), pu_un (by omega)]; exact (vn n (by omega)).2.2
          have mono : ∀ T, rg_tok (rg_N s) T → rg_tok (rg_N s + 1) T := fun T ⟨a1, a2, a3, a4, a5, a6⟩ => ⟨a1, a2, fun k hk => Nat.lt_succ_of_lt (a3 k hk), a4, a5, fun k hk => Nat.lt_succ_of_lt (a6 k hk)⟩
          obtain ⟨t6, e6, r6, f6⟩ := pu_laysNow (n := rg_N s) RU O1 (Nat.lt_succ_self _) (if_pos rfl) (fun m hm hne => by
            have hm' := eN m hm
            have et : rg_t (rg_ad s p (fun _ => 0)) m = rg_t s m := if_neg hne
            rw [et]
            refine ⟨rg_rt_fr (fun j _ _ => ?_) (O.2 m (by omega)).2.1 (O.2 m (by omega)).2.2.2.2.1 (vt m (by omega)), mono _ (O.2 m (by omega))⟩
            rw [hU, pu_un (by omega), pu_un (by omega), pu_un (by omega), pu_un (by omega), pu_un (by omega), pu_un (by omega)])
          have r61 : t6.1 11 0 1 = nI (rg_N s + 1) := r6.1.1.1
          have u1 : U.1 11 0 1 = nI (rg_N s + 1) := by rw [hU, pu_us]
          have pr : nI (rg_N s + 1) - nI 1 = nI (rg_N s) := nI_pred _
          have main : ∃ t2, F11_join (nI p) T = some (.inl (some (sr_i (nI (rg_N s)))), t2) ∧ t2 = t6 := by
            refine rs_via fun Q hQ => ?_
            simp (disch := omega) only [pv_lt, pu_ck, pv_bI, pv_bV, pu_bR, pv_bL, pv_nt, pu_us, pu_un, mL_0, mL_1, mL_2, mL_3, mL_4, mL_5, mL_6, mL_7, mL_8, mL_9, mL_10, mL_11, mL_12, mL_13, mL_14, mL_15, mL_16, mL_23, mL_24, mL_32, mL_48, mL_64, mL_99, mL_100, mL_200, mL_336, mL_576, mL_768, mL_800, mL_999, mL_4095, mL_4096, mL_m1, nI_leI, nI_ltI, nI_eq, nI_clamp, nI_add, pk_mul, nI_nu, bI_eq0, bI_eq1, bo_ft, Bool.true_eq_false, Bool.false_eq_true, pu_of, pu_of24, pu_onward, pu_frq, if_true, if_false, true_or, or_true, false_or, or_false, and_true, true_and, and_false, false_and, not_true_eq_false, not_false_eq_true, if_neg, if_pos, F11_join, f11_join_13, f11_join_39, iPT, h11T]
            refine pu_join42 RT0.1 O.1 hp ?_
            rw [htk]
            simp (disch := omega) only [pv_lt, pu_ck, pv_bI, pv_bV, pu_bR, pv_bL, pv_nt, pu_us, pu_un, mL_0, mL_1, mL_2, mL_3, mL_4, mL_5, mL_6, mL_7, mL_8, mL_9, mL_10, mL_11, mL_12, mL_13, mL_14, mL_15, mL_16, mL_23, mL_24, mL_32, mL_48, mL_64, mL_99, mL_100, mL_200, mL_336, mL_576, mL_768, mL_800, mL_999, mL_4095, mL_4096, mL_m1, nI_leI, nI_ltI, nI_eq, nI_clamp, nI_add, pk_mul, nI_nu, bI_eq0, bI_eq1, bo_ft, Bool.true_eq_false, Bool.false_eq_true, pu_of, pu_of24, pu_onward, pu_frq, if_true, if_false, true_or, or_true, false_or, or_false, and_true, true_and, and_false, false_and, not_true_eq_false, not_false_eq_true, if_neg, if_pos, f11_join_76, f11_join_86, bf, h11T, pu_ixN']
            rw [← hU]
            simp (disch := omega) only [pv_lt, pu_ck, pv_bI, pv_bV, pu_bR, pv_bL, pv_nt, pu_us, pu_un, mL_0, mL_1, mL_2, mL_3, mL_4, mL_5, mL_6, mL_7, mL_8, mL_9, mL_10, mL_11, mL_12, mL_13, mL_14, mL_15, mL_16, mL_23, mL_24, mL_32, mL_48, mL_64, mL_99, mL_100, mL_200, mL_336, mL_576, mL_768, mL_800, mL_999, mL_4095, mL_4096, mL_m1, nI_leI, nI_ltI, nI_eq, nI_clamp, nI_add, pk_mul, nI_nu, bI_eq0, bI_eq1, bo_ft, Bool.true_eq_false, Bool.false_eq_true, pu_of, pu_of24, pu_onward, pu_frq, if_true, if_false, true_or, or_true, false_or, or_false, and_true, true_and, and_false, false_and, not_true_eq_false, not_false_eq_true, if_neg, if_pos, pr, e6, r61]
            exact rs_ret (hQ _ rfl)
          obtain ⟨t2, g1, g2⟩ := main
          subst g2
          have fU : frI (fun k i j => (k = 11 ∧ i = 0 ∧ j ≤ 1) ∨ (24 ≤ k ∧ k ≤ 27)) T t2 := fun k i j q => by
            rw [f6.2 _ _ _ (fun e => q (by unfold S_rt at e; omega)), hU, pu_un (fun e => q (by omega)), pu_un (fun e => q (by omega)), pu_un (fun e => q (by omega)), pu_un (fun e => q (by omega)), pu_un (fun e => q (by omega)), pu_un (fun e => q (by omega))]
          refine ⟨t2, _, w, g1, ?_, ?_, o1, ?_, ?_, ?_, fun n h1 h2 => ?_, r6, ?_, ?_, ?_⟩
          · rw [f6.2 _ _ _ (by unfold S_rt; omega), hU, pu_un (by omega), pu_un (by omega), pu_un (by omega), pu_un (by omega), pu_us]
          · rw [f6.1, hU]; rfl
          · have CT : rg_C T 0 _ := rg_C_fI (S := fun _ _ _ => False) o1.1.1 (fun k i j _ => by rw [hT]) (fun _ _ _ _ h => h) c1
            exact rg_C_fI o1.1.1 fU (fun k i j q q' => by unfold Fp_C at q; omega) CT
          · have KT : rg_K T 0 _ := rg_K_fI (S := fun _ _ _ => False) o1.1.1 (fun k i j _ => by rw [hT]) (fun _ _ _ _ h => h) k1
            exact rg_K_fI o1.1.1 fU (fun k i j q q' => by unfold Fp_K at q; omega) KT
          · exact rg_nob_fI fU (fun i j _ _ _ => by omega) (rg_nob_fI fT (fun i j _ _ _ => by unfold S_an S_bu S_tab Fp_K; omega) nb)
          · have h1' : rg_N s + 1 ≤ n := h1
            rw [fU _ _ _ (by omega), fT _ _ _ (by unfold S_an S_bu S_tab Fp_K; omega)]; exact sp n (by omega) h2
          · rw [fU _ _ _ (by omega), fT _ _ _ (by unfold S_an S_bu S_tab Fp_K; omega)]; exact kp
          · exact la_I_fr fU (fun k i j q q' => by omega) (la_I_fr fT (fun k i j q => by unfold S_an S_bu S_tab Fp_K; omega) L)
          · have W1 := st_I_fr fU (fun k i j q q' => by omega) (st_I_fr fT (fun k i j q => by unfold S_an S_bu S_tab Fp_K; omega) W)
            obtain ⟨⟨z1, z2, z3⟩, y1, y2, y3, y4, y5, y6⟩ := W1
            refine ⟨⟨z1, by omega, z3⟩, y1, y2, y3, fun k hk n hn => ?_, y5, y6⟩
            obtain ⟨x1, x2, x3, x4, x5, x6, x7⟩ := y4 k hk n hn
            refine ⟨x1, x2, x3, x4, x5, x6, fun h => x7 ?_⟩
            have h' : w.1.1 ≤ k ∨ rg_N s + 1 ≤ n := h
            omega
end
