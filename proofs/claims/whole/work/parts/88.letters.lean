section
/-! steps: letter, overlap, shifted, start -/
theorem s_letter {i : Nat} (hi : i + 4 ≤ 2048) (a b : Int32) : sr_ok3 (sr_Inv i) (sr_Inv (i + 4)) (fun t => FL_letter_23 a b t) (fun t => F11_letter a b t) := by
  refine ok3_qf hi (F := F10_letter a b) (G := F11_letter a b) (hc := hcL_letter_23) (fun t s w X => ?_)
  obtain ⟨O, C, K, nb, sp, R, kp, L, W⟩ := id X
  have hL := pu_Lpos O.1.2.1.1 O.1.2.1.2
  have h7 := C.1.1.2.2.2.1
  rcases a_place a with ha | ⟨q, hq, rfl⟩
  · right
    have nP := nP_no (t := t) ha
    have iP := iP_no (t := t) ha
    refine ⟨0, nI 1, nI 0, sr_u t 11 0 0 (nI 1), ?_, rfl, by decide, ?_, pu_us, Sr_0⟩
    · simp (disch := omega) only [pv_lt, pu_ck, pv_bI, pv_bV, pu_bR, pv_bL, pv_nt, pu_us, pu_un, mL_0, mL_1, mL_2, mL_3, mL_4, mL_5, mL_6, mL_7, mL_8, mL_9, mL_10, mL_11, mL_12, mL_13, mL_14, mL_15, mL_16, mL_23, mL_24, mL_32, mL_48, mL_64, mL_99, mL_100, mL_200, mL_336, mL_576, mL_768, mL_800, mL_999, mL_4095, mL_4096, mL_m1, nI_leI, nI_ltI, nI_eq, nI_clamp, nI_add, pk_mul, nI_nu, bI_eq0, bI_eq1, bo_ft, Bool.true_eq_false, Bool.false_eq_true, pu_of, pu_of24, pu_onward, pu_frq, if_true, if_false, true_or, or_true, false_or, or_false, and_true, true_and, and_false, false_and, not_true_eq_false, not_false_eq_true, if_neg, if_pos, F10_letter, nP, bVr]
    · simp (disch := omega) only [pv_lt, pu_ck, pv_bI, pv_bV, pu_bR, pv_bL, pv_nt, pu_us, pu_un, mL_0, mL_1, mL_2, mL_3, mL_4, mL_5, mL_6, mL_7, mL_8, mL_9, mL_10, mL_11, mL_12, mL_13, mL_14, mL_15, mL_16, mL_23, mL_24, mL_32, mL_48, mL_64, mL_99, mL_100, mL_200, mL_336, mL_576, mL_768, mL_800, mL_999, mL_4095, mL_4096, mL_m1, nI_leI, nI_ltI, nI_eq, nI_clamp, nI_add, pk_mul, nI_nu, bI_eq0, bI_eq1, bo_ft, Bool.true_eq_false, Bool.false_eq_true, pu_of, pu_of24, pu_onward, pu_frq, if_true, if_false, true_or, or_true, false_or, or_false, and_true, true_and, and_false, false_and, not_true_eq_false, not_false_eq_true, if_neg, if_pos, F11_letter, f11_letter_13, iP]
  · left
    have nP := nP_ok (t := t) hq
    rcases a_bel b (m := 12 / rg_b s) (by omega) with hb | ⟨k, hk, rfl⟩
    · have no : (if b < 0 then f10_letter_31 (nI q) b t else (if nI (12 / rg_b s) ≤ b then f10_letter_31 (nI q) b t else (sr_bI (F3_letterOf 0 (nI q) b t) (fun v2 t2 => f10_letter_32 (nI q) b v2 t2)))) = some (.inl (some (sr_i (nu 24))), t) := by
        by_cases h0 : b < 0
        · rw [if_pos h0]; rfl
        · rw [if_neg h0, if_pos (hb.resolve_left h0)]; rfl
      refine ⟨nu 24, ⟨t, ?_, frI_rfl⟩, fun t' X' ft => ⟨sr_u t' 11 0 0 (nI 0), ?_, pu_us, Sr_0⟩⟩
      · unfold F10_letter
        rw [nP, pv_bV, h7]
        exact no
      · obtain ⟨_, _, _, _, _, R0, _⟩ := J_thr (v := nI 0) X'
        have iP := iP_ok (t := t') hq
        have ll := pu_lettersR R0.1.1.2.1 O.1
        have iA := iIm_no (t := sr_u t' 11 0 0 (nI 0)) (m := 12 / rg_b s) (by omega) hb
        simp (disch := omega) only [pv_lt, pu_ck, pv_bI, pv_bV, pu_bR, pv_bL, pv_nt, pu_us, pu_un, mL_0, mL_1, mL_2, mL_3, mL_4, mL_5, mL_6, mL_7, mL_8, mL_9, mL_10, mL_11, mL_12, mL_13, mL_14, mL_15, mL_16, mL_23, mL_24, mL_32, mL_48, mL_64, mL_99, mL_100, mL_200, mL_336, mL_576, mL_768, mL_800, mL_999, mL_4095, mL_4096, mL_m1, nI_leI, nI_ltI, nI_eq, nI_clamp, nI_add, pk_mul, nI_nu, bI_eq0, bI_eq1, bo_ft, Bool.true_eq_false, Bool.false_eq_true, pu_of, pu_of24, pu_onward, pu_frq, if_true, if_false, true_or, or_true, false_or, or_false, and_true, true_and, and_false, false_and, not_true_eq_false, not_false_eq_true, if_neg, if_pos, F11_letter, f11_letter_13, f11_letter_49, iP, ll, iA]
    · have le := pu_letterC C.1.1 O.1 hq hk
      refine ⟨nI (rg_lt (rg_b s) q k), ⟨t, ?_, frI_rfl⟩, fun t' X' ft => ⟨sr_u t' 11 0 0 (nI 0), ?_, pu_us, Sr_0⟩⟩
      · simp (disch := omega) only [pv_lt, pu_ck, pv_bI, pv_bV, pu_bR, pv_bL, pv_nt, pu_us, pu_un, mL_0, mL_1, mL_2, mL_3, mL_4, mL_5, mL_6, mL_7, mL_8, mL_9, mL_10, mL_11, mL_12, mL_13, mL_14, mL_15, mL_16, mL_23, mL_24, mL_32, mL_48, mL_64, mL_99, mL_100, mL_200, mL_336, mL_576, mL_768, mL_800, mL_999, mL_4095, mL_4096, mL_m1, nI_leI, nI_ltI, nI_eq, nI_clamp, nI_add, pk_mul, nI_nu, bI_eq0, bI_eq1, bo_ft, Bool.true_eq_false, Bool.false_eq_true, pu_of, pu_of24, pu_onward, pu_frq, if_true, if_false, true_or, or_true, false_or, or_false, and_true, true_and, and_false, false_and, not_true_eq_false, not_false_eq_true, if_neg, if_pos, F10_letter, f10_letter_32, nP, h7, le]
      · obtain ⟨_, _, _, _, _, R0, _⟩ := J_thr (v := nI 0) X'
        have iP := iP_ok (t := t') hq
        have ll := pu_lettersR R0.1.1.2.1 O.1
        have le2 := pu_letterR R0.1.1.2.1 O.1 hq hk
        have iA := iIm_ok (t := sr_u t' 11 0 0 (nI 0)) (m := 12 / rg_b s) (by omega) hk
        simp (disch := omega) only [pv_lt, pu_ck, pv_bI, pv_bV, pu_bR, pv_bL, pv_nt, pu_us, pu_un, mL_0, mL_1, mL_2, mL_3, mL_4, mL_5, mL_6, mL_7, mL_8, mL_9, mL_10, mL_11, mL_12, mL_13, mL_14, mL_15, mL_16, mL_23, mL_24, mL_32, mL_48, mL_64, mL_99, mL_100, mL_200, mL_336, mL_576, mL_768, mL_800, mL_999, mL_4095, mL_4096, mL_m1, nI_leI, nI_ltI, nI_eq, nI_clamp, nI_add, pk_mul, nI_nu, bI_eq0, bI_eq1, bo_ft, Bool.true_eq_false, Bool.false_eq_true, pu_of, pu_of24, pu_onward, pu_frq, if_true, if_false, true_or, or_true, false_or, or_false, and_true, true_and, and_false, false_and, not_true_eq_false, not_false_eq_true, if_neg, if_pos, F11_letter, f11_letter_13, f11_letter_49, iP, ll, iA, le2]
def rg_om (b p q m : Nat) : Bool := decide (p % 2 ^ (12 - b * m) = q / 2 ^ (b * m))
def rg_ov (b p q : Nat) : Nat := 12 / b - fi (rg_om b p q) (12 / b)
theorem rg_ov_le {b p q : Nat} : rg_ov b p q ≤ 12 / b := Nat.sub_le _ _
theorem pu_overC {t : sr_t} {s : rg_T} {r p q : Nat} (H : rg_head t r s) (O : rg_okB s) (hp : p < 4096) (hq : q < 4096) : F3_overlapOf r (nI p) (nI q) t = some (.inl (some (sr_i (nI (rg_ov (rg_b s) p q)))), t) := by
  have hL := pu_Lpos O.2.1.1 O.2.1.2
  have h7 := H.2.2.2.1
  refine rs_eq ?_
  refine rs_loop (N := 12 / rg_b s) (L := fun f m t' => f3_overlapOf_2 r (nI p) (nI q) (f3_overlapOf_31 r (nI p) (nI q)) f (nI m) t') (fun m t' => t' = t ∧ ∀ j, j < m → rg_om (rg_b s) p q j = false) ?_ ?_ (by unfold sr_fu; omega) ⟨rfl, fun j hj => by omega⟩
  · rintro m g t' hm ⟨rfl, hno⟩
    have w1 := pu_wFirstC (x := nI p) H O (Nat.le_of_lt hm)
    rw [pk_tn (by omega)] at w1
    have w2 := pu_wLastC H O hq (Nat.le_of_lt hm)
    have l1 : p % 2 ^ (12 - rg_b s * m) ≤ p := Nat.mod_le _ _
    have l2 : q / 2 ^ (rg_b s * m) ≤ q := Nat.div_le_self _ _
    by_cases e : p % 2 ^ (12 - rg_b s * m) = q / 2 ^ (rg_b s * m)
    · right
      have ef : fi (rg_om (rg_b s) p q) (12 / rg_b s) = m := fi_eq (by omega) hno (fun _ => decide_eq_true e)
      have ls : nI (12 / rg_b s) - nI m = nI (12 / rg_b s - m) := pk_sub (by omega)
      rw [e] at w1
      show rs_to _ (f3_overlapOf_2 r (nI p) (nI q) (f3_overlapOf_31 r (nI p) (nI q)) (g + 1) (nI m) t')
      simp (disch := omega) only [pv_lt, pu_ck, pv_bI, pv_bV, pu_bR, pv_bL, pv_nt, pu_us, pu_un, mL_0, mL_1, mL_2, mL_3, mL_4, mL_5, mL_6, mL_7, mL_8, mL_9, mL_10, mL_11, mL_12, mL_13, mL_14, mL_15, mL_16, mL_23, mL_24, mL_32, mL_48, mL_64, mL_99, mL_100, mL_200, mL_336, mL_576, mL_768, mL_800, mL_999, mL_4095, mL_4096, mL_m1, nI_leI, nI_ltI, nI_eq, nI_clamp, nI_add, pk_mul, nI_nu, bI_eq0, bI_eq1, bo_ft, Bool.true_eq_false, Bool.false_eq_true, pu_of, pu_of24, pu_onward, pu_frq, if_true, if_false, true_or, or_true, false_or, or_false, and_true, true_and, and_false, false_and, not_true_eq_false, not_false_eq_true, if_neg, if_pos, f3_overlapOf_2, f3_overlapOf_31, h7, w1, w2, ls]
      exact rs_ret ⟨by unfold rg_ov; rw [ef], rfl⟩
    · left
      refine ⟨t', ⟨rfl, fun j hj => ?_⟩, ?_⟩
      · by_cases ej : j = m
        · rw [ej]; exact decide_eq_false e
        · exact hno j (by omega)
      · show f3_overlapOf_2 r (nI p) (nI q) (f3_overlapOf_31 r (nI p) (nI q)) (g + 1) (nI m) t' = f3_overlapOf_2 r (nI p) (nI q) (f3_overlapOf_31 r (nI p) (nI q)) g (nI (m + 1)) t'
        simp (disch := omega) only [pv_lt, pu_ck, pv_bI, pv_bV, pu_bR, pv_bL, pv_nt, pu_us, pu_un, mL_0, mL_1, mL_2, mL_3, mL_4, mL_5, mL_6, mL_7, mL_8, mL_9, mL_10, mL_11, mL_12, mL_13, mL_14, mL_15, mL_16, mL_23, mL_24, mL_32, mL_48, mL_64, mL_99, mL_100, mL_200, mL_336, mL_576, mL_768, mL_800, mL_999, mL_4095, mL_4096, mL_m1, nI_leI, nI_ltI, nI_eq, nI_clamp, nI_add, pk_mul, nI_nu, bI_eq0, bI_eq1, bo_ft, Bool.true_eq_false, Bool.false_eq_true, pu_of, pu_of24, pu_onward, pu_frq, if_true, if_false, true_or, or_true, false_or, or_false, and_true, true_and, and_false, false_and, not_true_eq_false, not_false_eq_true, if_neg, if_pos, f3_overlapOf_2, h7, w1, w2, e]
  · rintro g t' ⟨rfl, hno⟩
    have ef : fi (rg_om (rg_b s) p q) (12 / rg_b s) = 12 / rg_b s := fi_eq (by omega) hno (fun h => by omega)
    have ls : nI (12 / rg_b s) - nI (12 / rg_b s) = nI 0 := by rw [pk_sub (Nat.le_refl _), Nat.sub_self]
    show rs_to _ (f3_overlapOf_2 r (nI p) (nI q) (f3_overlapOf_31 r (nI p) (nI q)) (g + 1) (nI (12 / rg_b s)) t')
    simp (disch := omega) only [pv_lt, pu_ck, pv_bI, pv_bV, pu_bR, pv_bL, pv_nt, pu_us, pu_un, mL_0, mL_1, mL_2, mL_3, mL_4, mL_5, mL_6, mL_7, mL_8, mL_9, mL_10, mL_11, mL_12, mL_13, mL_14, mL_15, mL_16, mL_23, mL_24, mL_32, mL_48, mL_64, mL_99, mL_100, mL_200, mL_336, mL_576, mL_768, mL_800, mL_999, mL_4095, mL_4096, mL_m1, nI_leI, nI_ltI, nI_eq, nI_clamp, nI_add, pk_mul, nI_nu, bI_eq0, bI_eq1, bo_ft, Bool.true_eq_false, Bool.false_eq_true, pu_of, pu_of24, pu_onward, pu_frq, if_true, if_false, true_or, or_true, false_or, or_false, and_true, true_and, and_false, false_and, not_true_eq_false, not_false_eq_true, if_neg, if_pos, f3_overlapOf_2, f3_overlapOf_31, h7, ls]
    exact rs_ret ⟨by unfold rg_ov; rw [ef, Nat.sub_self], rfl⟩
theorem pu_overR {t : sr_t} {s : rg_T} {p q : Nat} (H : t.1 11 0 7 = nI (2 ^ rg_b s)) (O : rg_okB s) (hp : p < 4096) (hq : q < 4096) : F11_overlapOf (nI p) (nI q) t = some (.inl (some (sr_i (nI (rg_ov (rg_b s) p q)))), t) := by
  obtain ⟨b1, b4⟩ := O.2.1
  have hL := pu_Lpos b1 b4
  have ll := pu_lettersR H O
  by_cases e0 : p = q
  · subst e0
    have ef : fi (rg_om (rg_b s) p p) (12 / rg_b s) = 0 := fi_eq (by omega) (fun j hj => by omega) (fun _ => by
      unfold rg_om
      rw [Nat.mul_zero, Nat.pow_zero, Nat.div_one, Nat.sub_zero]
      exact decide_eq_true (Nat.mod_eq_of_lt hp))
    have eo : rg_ov (rg_b s) p p = 12 / rg_b s := by unfold rg_ov; rw [ef]; rfl
    rw [eo]
    simp (disch := omega) only [pv_lt, pu_ck, pv_bI, pv_bV, pu_bR, pv_bL, pv_nt, pu_us, pu_un, mL_0, mL_1, mL_2, mL_3, mL_4, mL_5, mL_6, mL_7, mL_8, mL_9, mL_10, mL_11, mL_12, mL_13, mL_14, mL_15, mL_16, mL_23, mL_24, mL_32, mL_48, mL_64, mL_99, mL_100, mL_200, mL_336, mL_576, mL_768, mL_800, mL_999, mL_4095, mL_4096, mL_m1, nI_leI, nI_ltI, nI_eq, nI_clamp, nI_add, pk_mul, nI_nu, bI_eq0, bI_eq1, bo_ft, Bool.true_eq_false, Bool.false_eq_true, pu_of, pu_of24, pu_onward, pu_frq, if_true, if_false, true_or, or_true, false_or, or_false, and_true, true_and, and_false, false_and, not_true_eq_false, not_false_eq_true, if_neg, if_pos, F11_overlapOf, ll]
  · refine rs_eq ?_
    have l1 : nI (12 / rg_b s) - nI 1 = nI (12 / rg_b s - 1) := pk_sub (by omega)
    simp (disch := omega) only [pv_lt, pu_ck, pv_bI, pv_bV, pu_bR, pv_bL, pv_nt, pu_us, pu_un, mL_0, mL_1, mL_2, mL_3, mL_4, mL_5, mL_6, mL_7, mL_8, mL_9, mL_10, mL_11, mL_12, mL_13, mL_14, mL_15, mL_16, mL_23, mL_24, mL_32, mL_48, mL_64, mL_99, mL_100, mL_200, mL_336, mL_576, mL_768, mL_800, mL_999, mL_4095, mL_4096, mL_m1, nI_leI, nI_ltI, nI_eq, nI_clamp, nI_add, pk_mul, nI_nu, bI_eq0, bI_eq1, bo_ft, Bool.true_eq_false, Bool.false_eq_true, pu_of, pu_of24, pu_onward, pu_frq, if_true, if_false, true_or, or_true, false_or, or_false, and_true, true_and, and_false, false_and, not_true_eq_false, not_false_eq_true, if_neg, if_pos, F11_overlapOf, ll, l1, e0]
    have c0 : rg_om (rg_b s) p q 0 = false := by
      unfold rg_om
      rw [Nat.mul_zero, Nat.pow_zero, Nat.div_one, Nat.sub_zero, Nat.mod_eq_of_lt (show p < 2 ^ 12 by omega)]
      exact decide_eq_false e0
    have body : ∀ m, 1 ≤ m → m ≤ 12 / rg_b s → F11_power (nI (12 / rg_b s - m)) t = some (.inl (some (sr_i (nI (2 ^ (12 - rg_b s * m))))), t) ∧ F11_firstOf (nI q) (nI (12 / rg_b s - m)) t = some (.inl (some (sr_i (nI (q / 2 ^ (rg_b s * m))))), t) ∧ nI p - nI p / nI (2 ^ (12 - rg_b s * m)) * nI (2 ^ (12 - rg_b s * m)) = nI (p % 2 ^ (12 - rg_b s * m)) := by
      intro m h1 h2
      have ee : rg_b s * (12 / rg_b s - m) = 12 - rg_b s * m := by rw [Nat.mul_sub, pu_L12 b1 b4]
      have pw := pu_power (n := 12 / rg_b s - m) H (by omega)
      have fo := pu_firstOf (q := q) (n := 12 / rg_b s - m) H O hq (by omega)
      rw [show 12 / rg_b s - (12 / rg_b s - m) = m by omega] at fo
      rw [ee] at pw
      have p1 : 2 ^ (12 - rg_b s * m) ≤ 4096 := pu_pow12 (by omega)
      have p2 : 1 ≤ 2 ^ (12 - rg_b s * m) := Nat.one_le_two_pow
      exact ⟨pw, fo, pk_rem (by omega) (by omega) (by omega)⟩
    refine rs_loop (N := 12 / rg_b s - 1) (L := fun f k t' => f11_overlapOf_17 (nI p) (nI q) (f11_overlapOf_39 (nI p) (nI q)) f (nI (12 / rg_b s - (k + 1))) t') (fun k t' => t' = t ∧ ∀ j, j < k + 1 → rg_om (rg_b s) p q j = false) ?_ ?_ (by unfold sr_fu; omega) ⟨rfl, fun j hj => by rw [show j = 0 by omega]; exact c0⟩
    · rintro k g t' hk ⟨rfl, hno⟩
      obtain ⟨pw, fo, rm⟩ := body (k + 1) (by omega) (by omega)
      have p1 : 2 ^ (12 - rg_b s * (k + 1)) ≤ 4096 := pu_pow12 (by omega)
      have p2 : 1 ≤ 2 ^ (12 - rg_b s * (k + 1)) := Nat.one_le_two_pow
      have y1 : p % 2 ^ (12 - rg_b s * (k + 1)) ≤ p := Nat.mod_le _ _
      have y2 : q / 2 ^ (rg_b s * (k + 1)) ≤ q := Nat.div_le_self _ _
      by_cases e : p % 2 ^ (12 - rg_b s * (k + 1)) = q / 2 ^ (rg_b s * (k + 1))
      · right
        have ef : fi (rg_om (rg_b s) p q) (12 / rg_b s) = k + 1 := fi_eq (by omega) hno (fun _ => decide_eq_true e)
        show rs_to _ (f11_overlapOf_17 (nI p) (nI q) (f11_overlapOf_39 (nI p) (nI q)) (g + 1) (nI (12 / rg_b s - (k + 1))) t')
        rw [e] at rm
        simp (disch := omega) only [pv_lt, pu_ck, pv_bI, pv_bV, pu_bR, pv_bL, pv_nt, pu_us, pu_un, mL_0, mL_1, mL_2, mL_3, mL_4, mL_5, mL_6, mL_7, mL_8, mL_9, mL_10, mL_11, mL_12, mL_13, mL_14, mL_15, mL_16, mL_23, mL_24, mL_32, mL_48, mL_64, mL_99, mL_100, mL_200, mL_336, mL_576, mL_768, mL_800, mL_999, mL_4095, mL_4096, mL_m1, nI_leI, nI_ltI, nI_eq, nI_clamp, nI_add, pk_mul, nI_nu, bI_eq0, bI_eq1, bo_ft, Bool.true_eq_false, Bool.false_eq_true, pu_of, pu_of24, pu_onward, pu_frq, if_true, if_false, true_or, or_true, false_or, or_false, and_true, true_and, and_false, false_and, not_true_eq_false, not_false_eq_true, if_neg, if_pos, f11_overlapOf_17, f11_overlapOf_39, pw, fo, rm]
        exact rs_ret ⟨by unfold rg_ov; rw [ef], rfl⟩
      · left
        refine ⟨t', ⟨rfl, fun j hj => ?_⟩, ?_⟩
        · by_cases ej : j = k + 1
          · rw [ej]; exact decide_eq_false e
          · exact hno j (by omega)
        · show f11_overlapOf_17 (nI p) (nI q) (f11_overlapOf_39 (nI p) (nI q)) (g + 1) (nI (12 / rg_b s - (k + 1))) t' = f11_overlapOf_17 (nI p) (nI q) (f11_overlapOf_39 (nI p) (nI q)) g (nI (12 / rg_b s - (k + 1 + 1))) t'
          have ed : nI (12 / rg_b s - (k + 1)) + nu 24 = nI (12 / rg_b s - (k + 1 + 1)) := by
            rw [show 12 / rg_b s - (k + 1) = 12 / rg_b s - (k + 1 + 1) + 1 by omega]
            exact pk_m1 _
          simp (disch := omega) only [pv_lt, pu_ck, pv_bI, pv_bV, pu_bR, pv_bL, pv_nt, pu_us, pu_un, mL_0, mL_1, mL_2, mL_3, mL_4, mL_5, mL_6, mL_7, mL_8, mL_9, mL_10, mL_11, mL_12, mL_13, mL_14, mL_15, mL_16, mL_23, mL_24, mL_32, mL_48, mL_64, mL_99, mL_100, mL_200, mL_336, mL_576, mL_768, mL_800, mL_999, mL_4095, mL_4096, mL_m1, nI_leI, nI_ltI, nI_eq, nI_clamp, nI_add, pk_mul, nI_nu, bI_eq0, bI_eq1, bo_ft, Bool.true_eq_false, Bool.false_eq_true, pu_of, pu_of24, pu_onward, pu_frq, if_true, if_false, true_or, or_true, false_or, or_false, and_true, true_and, and_false, false_and, not_true_eq_false, not_false_eq_true, if_neg, if_pos, f11_overlapOf_17, pw, fo, rm, e, ed]
    · rintro g t' ⟨rfl, hno⟩
      have hl : 12 / rg_b s - 1 + 1 = 12 / rg_b s := by omega
      obtain ⟨pw, fo, rm⟩ := body (12 / rg_b s) (by omega) (by omega)
      have e12 := pu_L12 b1 b4
      rw [e12] at pw fo rm
      have q0 : q / 2 ^ 12 = 0 := Nat.div_eq_of_lt (by omega)
      have z0 : p % 2 ^ (12 - 12) = 0 := Nat.mod_one p
      rw [q0] at fo
      rw [z0] at rm
      have ef : fi (rg_om (rg_b s) p q) (12 / rg_b s) = 12 / rg_b s := fi_eq (by omega) (fun j hj => hno j (by omega)) (fun h => by omega)
      show rs_to _ (f11_overlapOf_17 (nI p) (nI q) (f11_overlapOf_39 (nI p) (nI q)) (g + 1) (nI (12 / rg_b s - (12 / rg_b s - 1 + 1))) t')
      rw [hl, Nat.sub_self] at *
      have pz : ¬ nI (2 ^ (12 - 12)) = nI 0 := by decide
      simp (disch := omega) only [pv_lt, pu_ck, pv_bI, pv_bV, pu_bR, pv_bL, pv_nt, pu_us, pu_un, mL_0, mL_1, mL_2, mL_3, mL_4, mL_5, mL_6, mL_7, mL_8, mL_9, mL_10, mL_11, mL_12, mL_13, mL_14, mL_15, mL_16, mL_23, mL_24, mL_32, mL_48, mL_64, mL_99, mL_100, mL_200, mL_336, mL_576, mL_768, mL_800, mL_999, mL_4095, mL_4096, mL_m1, nI_leI, nI_ltI, nI_eq, nI_clamp, nI_add, pk_mul, nI_nu, bI_eq0, bI_eq1, bo_ft, Bool.true_eq_false, Bool.false_eq_true, pu_of, pu_of24, pu_onward, pu_frq, if_true, if_false, true_or, or_true, false_or, or_false, and_true, true_and, and_false, false_and, not_true_eq_false, not_false_eq_true, if_neg, if_pos, f11_overlapOf_17, f11_overlapOf_39, pw, fo, rm, pz]
      exact rs_ret ⟨by unfold rg_ov; rw [ef, Nat.sub_self], rfl⟩
theorem s_overlap {i : Nat} (hi : i + 4 ≤ 2048) (a b : Int32) : sr_ok3 (sr_Inv i) (sr_Inv (i + 4)) (fun t => FL_overlap_23 a b t) (fun t => F11_overlap a b t) := by
  refine ok3_qf hi (F := F10_overlap a b) (G := F11_overlap a b) (hc := hcL_overlap_23) (fun t s w X => ?_)
  obtain ⟨O, C, K, nb, sp, R, kp, L, W⟩ := id X
  rcases a_place a with ha | ⟨p, hp, rfl⟩
  · right
    have nP := nP_no (t := t) ha
    have iP := iP_no (t := t) ha
    refine ⟨0, nI 1, nI 0, sr_u t 11 0 0 (nI 1), ?_, rfl, by decide, ?_, pu_us, Sr_0⟩
    · simp (disch := omega) only [pv_lt, pu_ck, pv_bI, pv_bV, pu_bR, pv_bL, pv_nt, pu_us, pu_un, mL_0, mL_1, mL_2, mL_3, mL_4, mL_5, mL_6, mL_7, mL_8, mL_9, mL_10, mL_11, mL_12, mL_13, mL_14, mL_15, mL_16, mL_23, mL_24, mL_32, mL_48, mL_64, mL_99, mL_100, mL_200, mL_336, mL_576, mL_768, mL_800, mL_999, mL_4095, mL_4096, mL_m1, nI_leI, nI_ltI, nI_eq, nI_clamp, nI_add, pk_mul, nI_nu, bI_eq0, bI_eq1, bo_ft, Bool.true_eq_false, Bool.false_eq_true, pu_of, pu_of24, pu_onward, pu_frq, if_true, if_false, true_or, or_true, false_or, or_false, and_true, true_and, and_false, false_and, not_true_eq_false, not_false_eq_true, if_neg, if_pos, F10_overlap, nP, bVr]
    · simp (disch := omega) only [pv_lt, pu_ck, pv_bI, pv_bV, pu_bR, pv_bL, pv_nt, pu_us, pu_un, mL_0, mL_1, mL_2, mL_3, mL_4, mL_5, mL_6, mL_7, mL_8, mL_9, mL_10, mL_11, mL_12, mL_13, mL_14, mL_15, mL_16, mL_23, mL_24, mL_32, mL_48, mL_64, mL_99, mL_100, mL_200, mL_336, mL_576, mL_768, mL_800, mL_999, mL_4095, mL_4096, mL_m1, nI_leI, nI_ltI, nI_eq, nI_clamp, nI_add, pk_mul, nI_nu, bI_eq0, bI_eq1, bo_ft, Bool.true_eq_false, Bool.false_eq_true, pu_of, pu_of24, pu_onward, pu_frq, if_true, if_false, true_or, or_true, false_or, or_false, and_true, true_and, and_false, false_and, not_true_eq_false, not_false_eq_true, if_neg, if_pos, F11_overlap, f11_overlap_19, f11_overlap_20, f11_overlap_40, iP]
  · have nP := nP_ok (t := t) hp
    rcases a_place b with hb | ⟨q, hq, rfl⟩
    · right
      have nQ := nP_no (t := t) hb
      have iP := iP_ok (t := t) hp
      have iQ := iP_no (t := t) hb
      refine ⟨0, nI 1, nI 0, sr_u t 11 0 0 (nI 1), ?_, rfl, by decide, ?_, pu_us, Sr_0⟩
      · simp (disch := omega) only [pv_lt, pu_ck, pv_bI, pv_bV, pu_bR, pv_bL, pv_nt, pu_us, pu_un, mL_0, mL_1, mL_2, mL_3, mL_4, mL_5, mL_6, mL_7, mL_8, mL_9, mL_10, mL_11, mL_12, mL_13, mL_14, mL_15, mL_16, mL_23, mL_24, mL_32, mL_48, mL_64, mL_99, mL_100, mL_200, mL_336, mL_576, mL_768, mL_800, mL_999, mL_4095, mL_4096, mL_m1, nI_leI, nI_ltI, nI_eq, nI_clamp, nI_add, pk_mul, nI_nu, bI_eq0, bI_eq1, bo_ft, Bool.true_eq_false, Bool.false_eq_true, pu_of, pu_of24, pu_onward, pu_frq, if_true, if_false, true_or, or_true, false_or, or_false, and_true, true_and, and_false, false_and, not_true_eq_false, not_false_eq_true, if_neg, if_pos, F10_overlap, nP, nQ, bVr]
      · simp (disch := omega) only [pv_lt, pu_ck, pv_bI, pv_bV, pu_bR, pv_bL, pv_nt, pu_us, pu_un, mL_0, mL_1, mL_2, mL_3, mL_4, mL_5, mL_6, mL_7, mL_8, mL_9, mL_10, mL_11, mL_12, mL_13, mL_14, mL_15, mL_16, mL_23, mL_24, mL_32, mL_48, mL_64, mL_99, mL_100, mL_200, mL_336, mL_576, mL_768, mL_800, mL_999, mL_4095, mL_4096, mL_m1, nI_leI, nI_ltI, nI_eq, nI_clamp, nI_add, pk_mul, nI_nu, bI_eq0, bI_eq1, bo_ft, Bool.true_eq_false, Bool.false_eq_true, pu_of, pu_of24, pu_onward, pu_frq, if_true, if_false, true_or, or_true, false_or, or_false, and_true, true_and, and_false, false_and, not_true_eq_false, not_false_eq_true, if_neg, if_pos, F11_overlap, f11_overlap_19, f11_overlap_20, f11_overlap_40, iP, iQ]
    · left
      have nQ := nP_ok (t := t) hq
      have ov := pu_overC C.1.1 O.1 hp hq
      refine ⟨nI (rg_ov (rg_b s) p q), ⟨t, ?_, frI_rfl⟩, fun t' X' ft => ⟨sr_u t' 11 0 0 (nI 0), ?_, pu_us, Sr_0⟩⟩
      · simp (disch := omega) only [pv_lt, pu_ck, pv_bI, pv_bV, pu_bR, pv_bL, pv_nt, pu_us, pu_un, mL_0, mL_1, mL_2, mL_3, mL_4, mL_5, mL_6, mL_7, mL_8, mL_9, mL_10, mL_11, mL_12, mL_13, mL_14, mL_15, mL_16, mL_23, mL_24, mL_32, mL_48, mL_64, mL_99, mL_100, mL_200, mL_336, mL_576, mL_768, mL_800, mL_999, mL_4095, mL_4096, mL_m1, nI_leI, nI_ltI, nI_eq, nI_clamp, nI_add, pk_mul, nI_nu, bI_eq0, bI_eq1, bo_ft, Bool.true_eq_false, Bool.false_eq_true, pu_of, pu_of24, pu_onward, pu_frq, if_true, if_false, true_or, or_true, false_or, or_false, and_true, true_and, and_false, false_and, not_true_eq_false, not_false_eq_true, if_neg, if_pos, F10_overlap, nP, nQ, ov]
      · obtain ⟨_, _, _, _, _, R0, _⟩ := J_thr (v := nI 0) X'
        have iP := iP_ok (t := t') hp
        have iQ := iP_ok (t := t') hq
        have ov2 := pu_overR R0.1.1.2.1 O.1 hp hq
        simp (disch := omega) only [pv_lt, pu_ck, pv_bI, pv_bV, pu_bR, pv_bL, pv_nt, pu_us, pu_un, mL_0, mL_1, mL_2, mL_3, mL_4, mL_5, mL_6, mL_7, mL_8, mL_9, mL_10, mL_11, mL_12, mL_13, mL_14, mL_15, mL_16, mL_23, mL_24, mL_32, mL_48, mL_64, mL_99, mL_100, mL_200, mL_336, mL_576, mL_768, mL_800, mL_999, mL_4095, mL_4096, mL_m1, nI_leI, nI_ltI, nI_eq, nI_clamp, nI_add, pk_mul, nI_nu, bI_eq0, bI_eq1, bo_ft, Bool.true_eq_false, Bool.false_eq_true, pu_of, pu_of24, pu_onward, pu_frq, if_true, if_false, true_or, or_true, false_or, or_false, and_true, true_and, and_false, false_and, not_true_eq_false, not_false_eq_true, if_neg, if_pos, F11_overlap, f11_overlap_20, f11_overlap_40, iP, iQ, ov2]
def rg_sf (b p q o : Nat) : Nat → Nat
  | 0 => p
  | j + 1 => rg_sh b (rg_sf b p q o j) (rg_lt b q (o + j))
theorem rg_sf_lt {b p q o : Nat} (hp : p < 4096) : ∀ j, rg_sf b p q o j < 4096 := by
  intro j
  cases j with
  | zero => exact hp
  | succ j => exact rg_sh_lt
theorem s_shifted {i : Nat} (hi : i + 4 ≤ 2048) (a b c : Int32) : sr_ok3 (sr_Inv i) (sr_Inv (i + 4)) (fun t => FL_shifted_23 a b c t) (fun t => F11_shifted a b c t) := by
  refine ok3_qf hi (F := F10_shifted a b c) (G := F11_shifted a b c) (hc := hcL_shifted_23) (fun t s w X => ?_)
  obtain ⟨O, C, K, nb, sp, R, kp, L, W⟩ := id X
  obtain ⟨b1, b4⟩ := O.1.2.1
  have hL := pu_Lpos b1 b4
  have h7 := C.1.1.2.2.2.1
  rcases a_place a with ha | ⟨p, hp, rfl⟩
  · right
    have nP := nP_no (t := t) ha
    have iP := iP_no (t := t) ha
    refine ⟨0, nI 1, nI 0, sr_u t 11 0 0 (nI 1), ?_, rfl, by decide, ?_, pu_us, Sr_0⟩
    · simp (disch := omega) only [pv_lt, pu_ck, pv_bI, pv_bV, pu_bR, pv_bL, pv_nt, pu_us, pu_un, mL_0, mL_1, mL_2, mL_3, mL_4, mL_5, mL_6, mL_7, mL_8, mL_9, mL_10, mL_11, mL_12, mL_13, mL_14, mL_15, mL_16, mL_23, mL_24, mL_32, mL_48, mL_64, mL_99, mL_100, mL_200, mL_336, mL_576, mL_768, mL_800, mL_999, mL_4095, mL_4096, mL_m1, nI_leI, nI_ltI, nI_eq, nI_clamp, nI_add, pk_mul, nI_nu, bI_eq0, bI_eq1, bo_ft, Bool.true_eq_false, Bool.false_eq_true, pu_of, pu_of24, pu_onward, pu_frq, if_true, if_false, true_or, or_true, false_or, or_false, and_true, true_and, and_false, false_and, not_true_eq_false, not_false_eq_true, if_neg, if_pos, F10_shifted, nP, bVr]
    · simp (disch := omega) only [pv_lt, pu_ck, pv_bI, pv_bV, pu_bR, pv_bL, pv_nt, pu_us, pu_un, mL_0, mL_1, mL_2, mL_3, mL_4, mL_5, mL_6, mL_7, mL_8, mL_9, mL_10, mL_11, mL_12, mL_13, mL_14, mL_15, mL_16, mL_23, mL_24, mL_32, mL_48, mL_64, mL_99, mL_100, mL_200, mL_336, mL_576, mL_768, mL_800, mL_999, mL_4095, mL_4096, mL_m1, nI_leI, nI_ltI, nI_eq, nI_clamp, nI_add, pk_mul, nI_nu, bI_eq0, bI_eq1, bo_ft, Bool.true_eq_false, Bool.false_eq_true, pu_of, pu_of24, pu_onward, pu_frq, if_true, if_false, true_or, or_true, false_or, or_false, and_true, true_and, and_false, false_and, not_true_eq_false, not_false_eq_true, if_neg, if_pos, F11_shifted, f11_shifted_19, f11_shifted_20, iP]
  · have nP := nP_ok (t := t) hp
    rcases a_place b with hb | ⟨q, hq, rfl⟩
    · right
      have nQ := nP_no (t := t) hb
      have iP := iP_ok (t := t) hp
      have iQ := iP_no (t := t) hb
      refine ⟨0, nI 1, nI 0, sr_u t 11 0 0 (nI 1), ?_, rfl, by decide, ?_, pu_us, Sr_0⟩
      · simp (disch := omega) only [pv_lt, pu_ck, pv_bI, pv_bV, pu_bR, pv_bL, pv_nt, pu_us, pu_un, mL_0, mL_1, mL_2, mL_3, mL_4, mL_5, mL_6, mL_7, mL_8, mL_9, mL_10, mL_11, mL_12, mL_13, mL_14, mL_15, mL_16, mL_23, mL_24, mL_32, mL_48, mL_64, mL_99, mL_100, mL_200, mL_336, mL_576, mL_768, mL_800, mL_999, mL_4095, mL_4096, mL_m1, nI_leI, nI_ltI, nI_eq, nI_clamp, nI_add, pk_mul, nI_nu, bI_eq0, bI_eq1, bo_ft, Bool.true_eq_false, Bool.false_eq_true, pu_of, pu_of24, pu_onward, pu_frq, if_true, if_false, true_or, or_true, false_or, or_false, and_true, true_and, and_false, false_and, not_true_eq_false, not_false_eq_true, if_neg, if_pos, F10_shifted, nP, nQ, bVr]
      · simp (disch := omega) only [pv_lt, pu_ck, pv_bI, pv_bV, pu_bR, pv_bL, pv_nt, pu_us, pu_un, mL_0, mL_1, mL_2, mL_3, mL_4, mL_5, mL_6, mL_7, mL_8, mL_9, mL_10, mL_11, mL_12, mL_13, mL_14, mL_15, mL_16, mL_23, mL_24, mL_32, mL_48, mL_64, mL_99, mL_100, mL_200, mL_336, mL_576, mL_768, mL_800, mL_999, mL_4095, mL_4096, mL_m1, nI_leI, nI_ltI, nI_eq, nI_clamp, nI_add, pk_mul, nI_nu, bI_eq0, bI_eq1, bo_ft, Bool.true_eq_false, Bool.false_eq_true, pu_of, pu_of24, pu_onward, pu_frq, if_true, if_false, true_or, or_true, false_or, or_false, and_true, true_and, and_false, false_and, not_true_eq_false, not_false_eq_true, if_neg, if_pos, F11_shifted, f11_shifted_19, f11_shifted_20, iP, iQ]
    · left
      have nQ := nP_ok (t := t) hq
      have ov := pu_overC C.1.1 O.1 hp hq
      have ovl := rg_ov_le (b := rg_b s) (p := p) (q := q)
      have ls : nI (12 / rg_b s) - nI (rg_ov (rg_b s) p q) = nI (12 / rg_b s - rg_ov (rg_b s) p q) := pk_sub (by omega)
      rcases a_in c 0 (12 / rg_b s - rg_ov (rg_b s) p q) (by omega) (by omega) with hc | ⟨k, _, hk, rfl⟩
      · refine ⟨nu 24, ⟨t, ?_, frI_rfl⟩, fun t' X' ft => ⟨sr_u t' 11 0 0 (nI 0), ?_, pu_us, Sr_0⟩⟩
        · have no : (if c < 0 then f10_shifted_37 (nI p) (nI q) c t else (if c ≤ (nI (12 / rg_b s) - nI (rg_ov (rg_b s) p q)) then f10_shifted_45 (nI p) (nI q) c (f10_shifted_81 (nI p) (nI q) c) sr_fu (nI (rg_ov (rg_b s) p q)) (nI p) 0 t else f10_shifted_37 (nI p) (nI q) c t)) = f10_shifted_37 (nI p) (nI q) c t := by
            rw [ls]
            exact c_no hc
          unfold F10_shifted
          rw [nP, pv_bV, nQ, pv_bV, ov, pv_bI, h7, no]
          rfl
        · obtain ⟨_, _, _, _, _, R0, _⟩ := J_thr (v := nI 0) X'
          have iP := iP_ok (t := t') hp
          have iQ := iP_ok (t := t') hq
          have ov2 := pu_overR R0.1.1.2.1 O.1 hp hq
          have ll := pu_lettersR R0.1.1.2.1 O.1
          have iA : F11_isIn c (nI 0) (nI (12 / rg_b s - rg_ov (rg_b s) p q)) (sr_u t' 11 0 0 (nI 0)) = some (.inl (some (sr_i (nI 0))), (sr_u t' 11 0 0 (nI 0))) := iIn_no hc
          simp (disch := omega) only [pv_lt, pu_ck, pv_bI, pv_bV, pu_bR, pv_bL, pv_nt, pu_us, pu_un, mL_0, mL_1, mL_2, mL_3, mL_4, mL_5, mL_6, mL_7, mL_8, mL_9, mL_10, mL_11, mL_12, mL_13, mL_14, mL_15, mL_16, mL_23, mL_24, mL_32, mL_48, mL_64, mL_99, mL_100, mL_200, mL_336, mL_576, mL_768, mL_800, mL_999, mL_4095, mL_4096, mL_m1, nI_leI, nI_ltI, nI_eq, nI_clamp, nI_add, pk_mul, nI_nu, bI_eq0, bI_eq1, bo_ft, Bool.true_eq_false, Bool.false_eq_true, pu_of, pu_of24, pu_onward, pu_frq, if_true, if_false, true_or, or_true, false_or, or_false, and_true, true_and, and_false, false_and, not_true_eq_false, not_false_eq_true, if_neg, if_pos, F11_shifted, f11_shifted_20, iP, iQ, ov2, ll, ls, iA]
      · refine ⟨nI (rg_sf (rg_b s) p q (rg_ov (rg_b s) p q) k), ⟨t, ?_, frI_rfl⟩, fun t' X' ft => ⟨sr_u t' 11 0 0 (nI 0), ?_, pu_us, Sr_0⟩⟩
        · have lp : f10_shifted_45 (nI p) (nI q) (nI k) (f10_shifted_81 (nI p) (nI q) (nI k)) sr_fu (nI (rg_ov (rg_b s) p q)) (nI p) (nI 0) t = some (.inl (some (sr_i (nI (rg_sf (rg_b s) p q (rg_ov (rg_b s) p q) k)))), t) := by
            refine pu_for (N := k) (L := fun f j => f10_shifted_45 (nI p) (nI q) (nI k) (f10_shifted_81 (nI p) (nI q) (nI k)) f (nI (rg_ov (rg_b s) p q)) (nI (rg_sf (rg_b s) p q (rg_ov (rg_b s) p q) j)) (nI j) t) ?_ ?_ (pu_fu (by omega))
            · intro j g hj
              have le := pu_letterC (k := rg_ov (rg_b s) p q + j) C.1.1 O.1 hq (by omega)
              have p16 := pu_pow16 b4
              have lel := rg_lt_lt (b := rg_b s) (q := q) (k := rg_ov (rg_b s) p q + j)
              have sh := pu_shiftC (q := rg_sf (rg_b s) p q (rg_ov (rg_b s) p q) j) (c := rg_lt (rg_b s) q (rg_ov (rg_b s) p q + j)) C.1.1 O.1 (rg_sf_lt hp j) (by omega)
              show f10_shifted_45 (nI p) (nI q) (nI k) (f10_shifted_81 (nI p) (nI q) (nI k)) (g + 1) (nI (rg_ov (rg_b s) p q)) (nI (rg_sf (rg_b s) p q (rg_ov (rg_b s) p q) j)) (nI j) t = f10_shifted_45 (nI p) (nI q) (nI k) (f10_shifted_81 (nI p) (nI q) (nI k)) g (nI (rg_ov (rg_b s) p q)) (nI (rg_sh (rg_b s) (rg_sf (rg_b s) p q (rg_ov (rg_b s) p q) j) (rg_lt (rg_b s) q (rg_ov (rg_b s) p q + j)))) (nI (j + 1)) t
              simp (disch := omega) only [pv_lt, pu_ck, pv_bI, pv_bV, pu_bR, pv_bL, pv_nt, pu_us, pu_un, mL_0, mL_1, mL_2, mL_3, mL_4, mL_5, mL_6, mL_7, mL_8, mL_9, mL_10, mL_11, mL_12, mL_13, mL_14, mL_15, mL_16, mL_23, mL_24, mL_32, mL_48, mL_64, mL_99, mL_100, mL_200, mL_336, mL_576, mL_768, mL_800, mL_999, mL_4095, mL_4096, mL_m1, nI_leI, nI_ltI, nI_eq, nI_clamp, nI_add, pk_mul, nI_nu, bI_eq0, bI_eq1, bo_ft, Bool.true_eq_false, Bool.false_eq_true, pu_of, pu_of24, pu_onward, pu_frq, if_true, if_false, true_or, or_true, false_or, or_false, and_true, true_and, and_false, false_and, not_true_eq_false, not_false_eq_true, if_neg, if_pos, f10_shifted_45, le, sh]
            · intro g
              show f10_shifted_45 (nI p) (nI q) (nI k) (f10_shifted_81 (nI p) (nI q) (nI k)) (g + 1) (nI (rg_ov (rg_b s) p q)) (nI (rg_sf (rg_b s) p q (rg_ov (rg_b s) p q) k)) (nI k) t = _
              simp (disch := omega) only [pv_lt, pu_ck, pv_bI, pv_bV, pu_bR, pv_bL, pv_nt, pu_us, pu_un, mL_0, mL_1, mL_2, mL_3, mL_4, mL_5, mL_6, mL_7, mL_8, mL_9, mL_10, mL_11, mL_12, mL_13, mL_14, mL_15, mL_16, mL_23, mL_24, mL_32, mL_48, mL_64, mL_99, mL_100, mL_200, mL_336, mL_576, mL_768, mL_800, mL_999, mL_4095, mL_4096, mL_m1, nI_leI, nI_ltI, nI_eq, nI_clamp, nI_add, pk_mul, nI_nu, bI_eq0, bI_eq1, bo_ft, Bool.true_eq_false, Bool.false_eq_true, pu_of, pu_of24, pu_onward, pu_frq, if_true, if_false, true_or, or_true, false_or, or_false, and_true, true_and, and_false, false_and, not_true_eq_false, not_false_eq_true, if_neg, if_pos, f10_shifted_45, f10_shifted_81]
          simp (disch := omega) only [pv_lt, pu_ck, pv_bI, pv_bV, pu_bR, pv_bL, pv_nt, pu_us, pu_un, mL_0, mL_1, mL_2, mL_3, mL_4, mL_5, mL_6, mL_7, mL_8, mL_9, mL_10, mL_11, mL_12, mL_13, mL_14, mL_15, mL_16, mL_23, mL_24, mL_32, mL_48, mL_64, mL_99, mL_100, mL_200, mL_336, mL_576, mL_768, mL_800, mL_999, mL_4095, mL_4096, mL_m1, nI_leI, nI_ltI, nI_eq, nI_clamp, nI_add, pk_mul, nI_nu, bI_eq0, bI_eq1, bo_ft, Bool.true_eq_false, Bool.false_eq_true, pu_of, pu_of24, pu_onward, pu_frq, if_true, if_false, true_or, or_true, false_or, or_false, and_true, true_and, and_false, false_and, not_true_eq_false, not_false_eq_true, if_neg, if_pos, F10_shifted, nP, nQ, ov, h7, ls, lp]
        · obtain ⟨_, _, _, _, _, R0, _⟩ := J_thr (v := nI 0) X'
          have iP := iP_ok (t := t') hp
          have iQ := iP_ok (t := t') hq
          have ov2 := pu_overR R0.1.1.2.1 O.1 hp hq
          have ll := pu_lettersR R0.1.1.2.1 O.1
          have h7' := R0.1.1.2.1
          have iA := iIn_ok (t := sr_u t' 11 0 0 (nI 0)) (j := k) (l := 0) (h := 12 / rg_b s - rg_ov (rg_b s) p q) (by omega) hk (by omega)
          have lp : f11_shifted_63 (nI p) (nI q) (nI k) (f11_shifted_99 (nI p) (nI q) (nI k)) sr_fu (nI (rg_ov (rg_b s) p q)) (nI p) (nI 0) (sr_u t' 11 0 0 (nI 0)) = some (.inl (some (sr_i (nI (rg_sf (rg_b s) p q (rg_ov (rg_b s) p q) k)))), (sr_u t' 11 0 0 (nI 0))) := by
            refine pu_for (N := k) (L := fun f j => f11_shifted_63 (nI p) (nI q) (nI k) (f11_shifted_99 (nI p) (nI q) (nI k)) f (nI (rg_ov (rg_b s) p q)) (nI (rg_sf (rg_b s) p q (rg_ov (rg_b s) p q) j)) (nI j) (sr_u t' 11 0 0 (nI 0))) ?_ ?_ (pu_fu (by omega))
            · intro j g hj
              have le := pu_letterR (k := rg_ov (rg_b s) p q + j) h7' O.1 hq (by omega)
              have p16 := pu_pow16 b4
              have lel := rg_lt_lt (b := rg_b s) (q := q) (k := rg_ov (rg_b s) p q + j)
              have hqb := rg_qb (rg_sf_lt (b := rg_b s) (q := q) (o := rg_ov (rg_b s) p q) hp j) b4
              have shE : (rg_sf (rg_b s) p q (rg_ov (rg_b s) p q) j * 2 ^ rg_b s + rg_lt (rg_b s) q (rg_ov (rg_b s) p q + j)) % 4096 = rg_sh (rg_b s) (rg_sf (rg_b s) p q (rg_ov (rg_b s) p q) j) (rg_lt (rg_b s) q (rg_ov (rg_b s) p q + j)) := rfl
              show f11_shifted_63 (nI p) (nI q) (nI k) (f11_shifted_99 (nI p) (nI q) (nI k)) (g + 1) (nI (rg_ov (rg_b s) p q)) (nI (rg_sf (rg_b s) p q (rg_ov (rg_b s) p q) j)) (nI j) (sr_u t' 11 0 0 (nI 0)) = f11_shifted_63 (nI p) (nI q) (nI k) (f11_shifted_99 (nI p) (nI q) (nI k)) g (nI (rg_ov (rg_b s) p q)) (nI (rg_sh (rg_b s) (rg_sf (rg_b s) p q (rg_ov (rg_b s) p q) j) (rg_lt (rg_b s) q (rg_ov (rg_b s) p q + j)))) (nI (j + 1)) (sr_u t' 11 0 0 (nI 0))
              rw [pu_un (by omega)] at h7'
              simp (disch := omega) only [pv_lt, pu_ck, pv_bI, pv_bV, pu_bR, pv_bL, pv_nt, pu_us, pu_un, mL_0, mL_1, mL_2, mL_3, mL_4, mL_5, mL_6, mL_7, mL_8, mL_9, mL_10, mL_11, mL_12, mL_13, mL_14, mL_15, mL_16, mL_23, mL_24, mL_32, mL_48, mL_64, mL_99, mL_100, mL_200, mL_336, mL_576, mL_768, mL_800, mL_999, mL_4095, mL_4096, mL_m1, nI_leI, nI_ltI, nI_eq, nI_clamp, nI_add, pk_mul, nI_nu, bI_eq0, bI_eq1, bo_ft, Bool.true_eq_false, Bool.false_eq_true, pu_of, pu_of24, pu_onward, pu_frq, if_true, if_false, true_or, or_true, false_or, or_false, and_true, true_and, and_false, false_and, not_true_eq_false, not_false_eq_true, if_neg, if_pos, f11_shifted_63, le, h7', pk_rem96, shE]
            · intro g
              show f11_shifted_63 (nI p) (nI q) (nI k) (f11_shifted_99 (nI p) (nI q) (nI k)) (g + 1) (nI (rg_ov (rg_b s) p q)) (nI (rg_sf (rg_b s) p q (rg_ov (rg_b s) p q) k)) (nI k) (sr_u t' 11 0 0 (nI 0)) = _
              simp (disch := omega) only [pv_lt, pu_ck, pv_bI, pv_bV, pu_bR, pv_bL, pv_nt, pu_us, pu_un, mL_0, mL_1, mL_2, mL_3, mL_4, mL_5, mL_6, mL_7, mL_8, mL_9, mL_10, mL_11, mL_12, mL_13, mL_14, mL_15, mL_16, mL_23, mL_24, mL_32, mL_48, mL_64, mL_99, mL_100, mL_200, mL_336, mL_576, mL_768, mL_800, mL_999, mL_4095, mL_4096, mL_m1, nI_leI, nI_ltI, nI_eq, nI_clamp, nI_add, pk_mul, nI_nu, bI_eq0, bI_eq1, bo_ft, Bool.true_eq_false, Bool.false_eq_true, pu_of, pu_of24, pu_onward, pu_frq, if_true, if_false, true_or, or_true, false_or, or_false, and_true, true_and, and_false, false_and, not_true_eq_false, not_false_eq_true, if_neg, if_pos, f11_shifted_63, f11_shifted_99]
          simp (disch := omega) only [pv_lt, pu_ck, pv_bI, pv_bV, pu_bR, pv_bL, pv_nt, pu_us, pu_un, mL_0, mL_1, mL_2, mL_3, mL_4, mL_5, mL_6, mL_7, mL_8, mL_9, mL_10, mL_11, mL_12, mL_13, mL_14, mL_15, mL_16, mL_23, mL_24, mL_32, mL_48, mL_64, mL_99, mL_100, mL_200, mL_336, mL_576, mL_768, mL_800, mL_999, mL_4095, mL_4096, mL_m1, nI_leI, nI_ltI, nI_eq, nI_clamp, nI_add, pk_mul, nI_nu, bI_eq0, bI_eq1, bo_ft, Bool.true_eq_false, Bool.false_eq_true, pu_of, pu_of24, pu_onward, pu_frq, if_true, if_false, true_or, or_true, false_or, or_false, and_true, true_and, and_false, false_and, not_true_eq_false, not_false_eq_true, if_neg, if_pos, F11_shifted, f11_shifted_20, iP, iQ, ov2, ll, ls, iA, lp]
end
