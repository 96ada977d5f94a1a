section
/-! steps: start, takes, worst, nearest, quickest -/
theorem J_c {i : Nat} {t t' : sr_t} {s : rg_T} {w : st_T} (X : J i t s w) (h : fr Sc t t') : J i t' s w := J_fr (frI_mono (frI_of h) (fun _ _ _ q => Or.inl q)) X
def Sr0 (k _i j : Nat) : Prop := (k = 11 ∧ ((10 ≤ j ∧ j ≤ 21) ∨ 40 ≤ j)) ∨ k = 28 ∨ k = 35 ∨ k = 36 ∨ 41 ≤ k
theorem Sr_of {t t' : sr_t} (h : fr Sr0 t t') : fr Sr t t' := fr_mono h (fun k i j q => by unfold Sr0 at q; unfold Sr; omega)
/-- a question of the reference: what is thrown told first, then asked -/
theorem Sr_q {t t' : sr_t} {v : Int32} (h : fr Sr0 (sr_u t 11 0 0 v) t') : t'.1 11 0 0 = v ∧ fr Sr t t' := ⟨by rw [h.2 _ _ _ (by unfold Sr0; omega), pu_us], fr_trans Sr_0 (Sr_of h)⟩
theorem J_r {i : Nat} {t t' : sr_t} {s : rg_T} {w : st_T} (X : J i t s w) (h : fr Sr0 t t') : J i t' s w := J_fr (frI_mono (frI_of (Sr_of h)) (fun _ _ _ q => Or.inr q)) X
theorem ix_eq {a : Nat} (h : a < 2 ^ 31) : ix a = nu 24 ↔ a = 0 := by
  cases a with
  | zero => exact ⟨fun _ => rfl, fun _ => rfl⟩
  | succ a =>
    rw [ix_s]
    exact ⟨fun e => absurd e (nI_m1 (by omega)), fun e => by omega⟩
theorem ix_neg {a : Nat} (h : a < 2 ^ 31) : nu 24 ≤ ix a := by
  cases a with
  | zero => decide
  | succ a =>
    rw [ix_s]
    exact Int32.le_trans (b := 0) (by decide) (nI_pos' (by omega))
theorem ix_le {a b : Nat} (ha : a < 2 ^ 31) (hb : b < 2 ^ 31) : ix a ≤ ix b ↔ a ≤ b := by
  cases a with
  | zero => exact ⟨fun _ => by omega, fun _ => ix_neg hb⟩
  | succ a =>
    cases b with
    | zero =>
      rw [ix_s]
      refine ⟨fun h => ?_, fun h => by omega⟩
      have h0 : nI a < 0 := Int32.lt_of_le_of_lt h (by decide)
      exact absurd h0 (nI_pos (by omega))
    | succ b =>
      rw [ix_s, ix_s, nI_leI (by omega) (by omega)]
      omega
theorem ix_lt {a b : Nat} (ha : a < 2 ^ 31) (hb : b < 2 ^ 31) : ix a < ix b ↔ a < b := by
  rw [← Int32.not_le, ix_le hb ha]
  omega
def lk_tk (s : rg_T) (key n : Nat) : Nat := if lk_r s key true n = true then lk_hp s key true n (lk_n s key true n) + 1 else 0
theorem lk_tk_le {s : rg_T} {key n : Nat} : lk_tk s key n ≤ 201 := by
  have a := lk_hp_le (s := s) (key := key) (n := n) (best := true) (k := lk_n s key true n)
  have b := lk_n_le (s := s) (key := key) (n := n) (best := true)
  unfold lk_tk
  split <;> omega
theorem pc_hops {i : Nat} {t : sr_t} {s : rg_T} {w : st_T} {n key : Nat} (X : J i t s w) (hn : n < rg_N s) (hu : rg_u s n = true) (hkey : key < 4096) : ∃ t1, F10_hopsIfRight (25 * 0 + n) (nI key) t = some (.inl (some (sr_i (ix (lk_tk s key n)))), t1) ∧ t1.1 8 1 13 = nI (lk_tm s key true n (lk_n s key true n)) ∧ fr Sc t t1 := by
  obtain ⟨O, C, K, nb, sp, R, kp, L, W⟩ := id X
  obtain ⟨t1, e1, D, f1⟩ := pu_travel (i0 := 1) (best := true) C K O (by omega) (by omega) hn hu hkey
  obtain ⟨⟨_, _, ⟨H9, _, _, _, H13⟩, _⟩, H7, _, _⟩ := D
  have e1' : F8_travel 1 0 (25 * 0 + n) (nI key) (nI 1) t = some (.inl (some (sr_i (cI (lk_e s key true n)))), t1) := e1
  refine ⟨t1, ?_, H13, fr_mono f1 (fun k i j q => by unfold S_tp at q; unfold Sc; omega)⟩
  unfold lk_tk
  cases hr : lk_r s key true n with
  | true =>
    rw [hr] at H7
    have bt : ¬ bI true = nI 0 := by decide
    rw [if_pos rfl, ix_s]
    simp (disch := omega) only [pv_lt, pu_ck, pv_bI, pv_bV, pu_bR, pv_bL, pv_nt, pu_us, pu_un, mL_0, mL_1, mL_2, mL_3, mL_4, mL_5, mL_6, mL_7, mL_8, mL_9, mL_10, mL_11, mL_12, mL_13, mL_14, mL_15, mL_16, mL_23, mL_24, mL_32, mL_48, mL_64, mL_99, mL_100, mL_200, mL_336, mL_576, mL_768, mL_800, mL_999, mL_4095, mL_4096, mL_m1, nI_leI, nI_ltI, nI_eq, nI_clamp, nI_add, pk_mul, nI_nu, bI_eq0, bI_eq1, bo_ft, Bool.true_eq_false, Bool.false_eq_true, pu_of, pu_of24, pu_onward, pu_frq, if_true, if_false, true_or, or_true, false_or, or_false, and_true, true_and, and_false, false_and, not_true_eq_false, not_false_eq_true, if_neg, if_pos, F10_hopsIfRight, f10_hopsIfRight_36, e1', H7, bt, H9]
  | false =>
    rw [hr] at H7
    have bf : bI false = nI 0 := rfl
    rw [if_neg (by decide), ix_0]
    simp (disch := omega) only [pv_lt, pu_ck, pv_bI, pv_bV, pu_bR, pv_bL, pv_nt, pu_us, pu_un, mL_0, mL_1, mL_2, mL_3, mL_4, mL_5, mL_6, mL_7, mL_8, mL_9, mL_10, mL_11, mL_12, mL_13, mL_14, mL_15, mL_16, mL_23, mL_24, mL_32, mL_48, mL_64, mL_99, mL_100, mL_200, mL_336, mL_576, mL_768, mL_800, mL_999, mL_4095, mL_4096, mL_m1, nI_leI, nI_ltI, nI_eq, nI_clamp, nI_add, pk_mul, nI_nu, bI_eq0, bI_eq1, bo_ft, Bool.true_eq_false, Bool.false_eq_true, pu_of, pu_of24, pu_onward, pu_frq, if_true, if_false, true_or, or_true, false_or, or_false, and_true, true_and, and_false, false_and, not_true_eq_false, not_false_eq_true, if_neg, if_pos, F10_hopsIfRight, f10_hopsIfRight_36, e1', H7, bf]
theorem pr_takes {i : Nat} {t : sr_t} {s : rg_T} {w : st_T} {n key : Nat} (X : J i t s w) (hn : n < rg_N s) (hu : rg_u s n = true) (hkey : key < 4096) : ∃ t1, F11_takesOf (nI n) (nI key) t = some (.inl (some (sr_i (ix (lk_tk s key n)))), t1) ∧ t1.1 11 0 13 = nI (lk_hp s key true n (lk_n s key true n)) ∧ t1.1 11 0 19 = nI (lk_tm s key true n (lk_n s key true n)) ∧ fr Sr0 t t1 := by
  obtain ⟨O, C, K, nb, sp, R, kp, L, W⟩ := id X
  obtain ⟨t1, e1, I, _, f1⟩ := pu_looks (kp := false) (best := true) (rg_RN_of R O) O hn hu hkey kp
  have fb : (false : Bool).toNat = 0 := rfl
  have f1' : fr Sr0 t t1 := fr_mono f1 (fun k i j q => by unfold S_lo at q; unfold Sr0; omega)
  obtain ⟨_, ⟨H13, _, _, _, H19⟩, _⟩ := I
  have X1 := J_r X f1'
  have R1 := rg_RN_of X1.2.2.2.2.2.1 O
  have oe := lk_ok (key := key) (best := true) O hn hu (lk_n s key true n) (Nat.le_refl _)
  have ec' : lk_e s key true n < 24 ∨ lk_e s key true n = 26 ∨ lk_e s key true n = 27 := by
    rcases lk_c_cases (key := key) O oe.1 with h | h | h
    · exact Or.inl h.2
    · exact Or.inr (Or.inl h)
    · exact Or.inr (Or.inr h)
  have ir : F11_isRight (nI key) (cI (lk_e s key true n)) t1 = some (.inl (some (sr_i (bI (lk_r s key true n)))), t1) := pu_isRight R1 O hkey ec'
  have e1' : F11_looks (nI n) (nI key) (nI 1) t = some (.inl (some (sr_i (cI (lk_e s key true n)))), t1) := e1
  refine ⟨t1, ?_, H13, H19, f1'⟩
  unfold lk_tk
  cases hr : lk_r s key true n with
  | true =>
    rw [hr] at ir
    have bt : ¬ bI true = nI 0 := by decide
    rw [if_pos rfl, ix_s]
    simp (disch := omega) only [pv_lt, pu_ck, pv_bI, pv_bV, pu_bR, pv_bL, pv_nt, pu_us, pu_un, mL_0, mL_1, mL_2, mL_3, mL_4, mL_5, mL_6, mL_7, mL_8, mL_9, mL_10, mL_11, mL_12, mL_13, mL_14, mL_15, mL_16, mL_23, mL_24, mL_32, mL_48, mL_64, mL_99, mL_100, mL_200, mL_336, mL_576, mL_768, mL_800, mL_999, mL_4095, mL_4096, mL_m1, nI_leI, nI_ltI, nI_eq, nI_clamp, nI_add, pk_mul, nI_nu, bI_eq0, bI_eq1, bo_ft, Bool.true_eq_false, Bool.false_eq_true, pu_of, pu_of24, pu_onward, pu_frq, if_true, if_false, true_or, or_true, false_or, or_false, and_true, true_and, and_false, false_and, not_true_eq_false, not_false_eq_true, if_neg, if_pos, F11_takesOf, f11_takesOf_25, e1', ir, bt, H13]
  | false =>
    rw [hr] at ir
    have bf : bI false = nI 0 := rfl
    rw [if_neg (by decide), ix_0]
    simp (disch := omega) only [pv_lt, pu_ck, pv_bI, pv_bV, pu_bR, pv_bL, pv_nt, pu_us, pu_un, mL_0, mL_1, mL_2, mL_3, mL_4, mL_5, mL_6, mL_7, mL_8, mL_9, mL_10, mL_11, mL_12, mL_13, mL_14, mL_15, mL_16, mL_23, mL_24, mL_32, mL_48, mL_64, mL_99, mL_100, mL_200, mL_336, mL_576, mL_768, mL_800, mL_999, mL_4095, mL_4096, mL_m1, nI_leI, nI_ltI, nI_eq, nI_clamp, nI_add, pk_mul, nI_nu, bI_eq0, bI_eq1, bo_ft, Bool.true_eq_false, Bool.false_eq_true, pu_of, pu_of24, pu_onward, pu_frq, if_true, if_false, true_or, or_true, false_or, or_false, and_true, true_and, and_false, false_and, not_true_eq_false, not_false_eq_true, if_neg, if_pos, F11_takesOf, f11_takesOf_25, e1', ir, bf]
theorem s_takes {i : Nat} (hi : i + 4 ≤ 2048) (a b : Int32) : sr_ok3 (sr_Inv i) (sr_Inv (i + 4)) (fun t => FL_takes_23 a b t) (fun t => F11_takes a b t) := by
  refine ok3_qf hi (F := F10_takes a b) (G := F11_takes a b) (hc := hcL_takes_23) (fun t s w X => ?_)
  obtain ⟨O, C, K, nb, sp, R, kp, L, W⟩ := id X
  have hN := O.1.1
  rcases a_node a hN with ha | ⟨n, hn, rfl⟩
  · right
    have n1 := nN_no C ha
    have wl := pu_wrongLookN (b := b) R.1 O.1 ha
    refine ⟨2, nI 1, nI 0, sr_u t 11 0 0 (nI 1), ?_, rfl, by decide, ?_, pu_us, Sr_0⟩
    · simp (disch := omega) only [pv_lt, pu_ck, pv_bI, pv_bV, pu_bR, pv_bL, pv_nt, pu_us, pu_un, mL_0, mL_1, mL_2, mL_3, mL_4, mL_5, mL_6, mL_7, mL_8, mL_9, mL_10, mL_11, mL_12, mL_13, mL_14, mL_15, mL_16, mL_23, mL_24, mL_32, mL_48, mL_64, mL_99, mL_100, mL_200, mL_336, mL_576, mL_768, mL_800, mL_999, mL_4095, mL_4096, mL_m1, nI_leI, nI_ltI, nI_eq, nI_clamp, nI_add, pk_mul, nI_nu, bI_eq0, bI_eq1, bo_ft, Bool.true_eq_false, Bool.false_eq_true, pu_of, pu_of24, pu_onward, pu_frq, if_true, if_false, true_or, or_true, false_or, or_false, and_true, true_and, and_false, false_and, not_true_eq_false, not_false_eq_true, if_neg, if_pos, F10_takes, n1, bVr]
    · simp (disch := omega) only [pv_lt, pu_ck, pv_bI, pv_bV, pu_bR, pv_bL, pv_nt, pu_us, pu_un, mL_0, mL_1, mL_2, mL_3, mL_4, mL_5, mL_6, mL_7, mL_8, mL_9, mL_10, mL_11, mL_12, mL_13, mL_14, mL_15, mL_16, mL_23, mL_24, mL_32, mL_48, mL_64, mL_99, mL_100, mL_200, mL_336, mL_576, mL_768, mL_800, mL_999, mL_4095, mL_4096, mL_m1, nI_leI, nI_ltI, nI_eq, nI_clamp, nI_add, pk_mul, nI_nu, bI_eq0, bI_eq1, bo_ft, Bool.true_eq_false, Bool.false_eq_true, pu_of, pu_of24, pu_onward, pu_frq, if_true, if_false, true_or, or_true, false_or, or_false, and_true, true_and, and_false, false_and, not_true_eq_false, not_false_eq_true, if_neg, if_pos, F11_takes, f11_takes_27, wl]
  · have n1 := nN_ok C O hn
    rcases a_place b with hb | ⟨q, hq, rfl⟩
    · right
      have nP := nP_no (t := t) hb
      have wl := pu_wrongLookP R.1 O.1 hn hb
      refine ⟨0, nI 2, nI 0, sr_u t 11 0 0 (nI 2), ?_, rfl, by decide, ?_, pu_us, Sr_0⟩
      · simp (disch := omega) only [pv_lt, pu_ck, pv_bI, pv_bV, pu_bR, pv_bL, pv_nt, pu_us, pu_un, mL_0, mL_1, mL_2, mL_3, mL_4, mL_5, mL_6, mL_7, mL_8, mL_9, mL_10, mL_11, mL_12, mL_13, mL_14, mL_15, mL_16, mL_23, mL_24, mL_32, mL_48, mL_64, mL_99, mL_100, mL_200, mL_336, mL_576, mL_768, mL_800, mL_999, mL_4095, mL_4096, mL_m1, nI_leI, nI_ltI, nI_eq, nI_clamp, nI_add, pk_mul, nI_nu, bI_eq0, bI_eq1, bo_ft, Bool.true_eq_false, Bool.false_eq_true, pu_of, pu_of24, pu_onward, pu_frq, if_true, if_false, true_or, or_true, false_or, or_false, and_true, true_and, and_false, false_and, not_true_eq_false, not_false_eq_true, if_neg, if_pos, F10_takes, n1, nP, bVr]
      · simp (disch := omega) only [pv_lt, pu_ck, pv_bI, pv_bV, pu_bR, pv_bL, pv_nt, pu_us, pu_un, mL_0, mL_1, mL_2, mL_3, mL_4, mL_5, mL_6, mL_7, mL_8, mL_9, mL_10, mL_11, mL_12, mL_13, mL_14, mL_15, mL_16, mL_23, mL_24, mL_32, mL_48, mL_64, mL_99, mL_100, mL_200, mL_336, mL_576, mL_768, mL_800, mL_999, mL_4095, mL_4096, mL_m1, nI_leI, nI_ltI, nI_eq, nI_clamp, nI_add, pk_mul, nI_nu, bI_eq0, bI_eq1, bo_ft, Bool.true_eq_false, Bool.false_eq_true, pu_of, pu_of24, pu_onward, pu_frq, if_true, if_false, true_or, or_true, false_or, or_false, and_true, true_and, and_false, false_and, not_true_eq_false, not_false_eq_true, if_neg, if_pos, F11_takes, f11_takes_27, wl]
    · have nP := nP_ok (t := t) hq
      have wl := pu_wrongLook R.1 O.1 hn hq
      by_cases hu : rg_u s n = true
      · left
        have nU := nU_ok C O hn hu
        obtain ⟨t1, e1, _, f1⟩ := pc_hops X hn hu hq
        refine ⟨ix (lk_tk s q n), ⟨t1, ?_, frI_of f1⟩, fun t' X' ft => ?_⟩
        · simp (disch := omega) only [pv_lt, pu_ck, pv_bI, pv_bV, pu_bR, pv_bL, pv_nt, pu_us, pu_un, mL_0, mL_1, mL_2, mL_3, mL_4, mL_5, mL_6, mL_7, mL_8, mL_9, mL_10, mL_11, mL_12, mL_13, mL_14, mL_15, mL_16, mL_23, mL_24, mL_32, mL_48, mL_64, mL_99, mL_100, mL_200, mL_336, mL_576, mL_768, mL_800, mL_999, mL_4095, mL_4096, mL_m1, nI_leI, nI_ltI, nI_eq, nI_clamp, nI_add, pk_mul, nI_nu, bI_eq0, bI_eq1, bo_ft, Bool.true_eq_false, Bool.false_eq_true, pu_of, pu_of24, pu_onward, pu_frq, if_true, if_false, true_or, or_true, false_or, or_false, and_true, true_and, and_false, false_and, not_true_eq_false, not_false_eq_true, if_neg, if_pos, F10_takes, n1, nP, nU, e1]
        · have wl := pu_wrongLook X'.2.2.2.2.2.1.1 O.1 hn hq
          rw [if_pos hu] at wl
          obtain ⟨t3, e3, _, _, f3⟩ := pr_takes (J_thr (v := nI 0) X') hn hu hq
          refine ⟨t3, ?_, (Sr_q f3).1, (Sr_q f3).2⟩
          simp (disch := omega) only [pv_lt, pu_ck, pv_bI, pv_bV, pu_bR, pv_bL, pv_nt, pu_us, pu_un, mL_0, mL_1, mL_2, mL_3, mL_4, mL_5, mL_6, mL_7, mL_8, mL_9, mL_10, mL_11, mL_12, mL_13, mL_14, mL_15, mL_16, mL_23, mL_24, mL_32, mL_48, mL_64, mL_99, mL_100, mL_200, mL_336, mL_576, mL_768, mL_800, mL_999, mL_4095, mL_4096, mL_m1, nI_leI, nI_ltI, nI_eq, nI_clamp, nI_add, pk_mul, nI_nu, bI_eq0, bI_eq1, bo_ft, Bool.true_eq_false, Bool.false_eq_true, pu_of, pu_of24, pu_onward, pu_frq, if_true, if_false, true_or, or_true, false_or, or_false, and_true, true_and, and_false, false_and, not_true_eq_false, not_false_eq_true, if_neg, if_pos, F11_takes, f11_takes_27, wl, e3]
      · right
        have hu' : rg_u s n = false := by simpa using hu
        have nU := nU_no C O hn hu'
        rw [if_neg hu] at wl
        refine ⟨1, nI 3, nI 0, sr_u t 11 0 0 (nI 3), ?_, rfl, by decide, ?_, pu_us, Sr_0⟩
        · simp (disch := omega) only [pv_lt, pu_ck, pv_bI, pv_bV, pu_bR, pv_bL, pv_nt, pu_us, pu_un, mL_0, mL_1, mL_2, mL_3, mL_4, mL_5, mL_6, mL_7, mL_8, mL_9, mL_10, mL_11, mL_12, mL_13, mL_14, mL_15, mL_16, mL_23, mL_24, mL_32, mL_48, mL_64, mL_99, mL_100, mL_200, mL_336, mL_576, mL_768, mL_800, mL_999, mL_4095, mL_4096, mL_m1, nI_leI, nI_ltI, nI_eq, nI_clamp, nI_add, pk_mul, nI_nu, bI_eq0, bI_eq1, bo_ft, Bool.true_eq_false, Bool.false_eq_true, pu_of, pu_of24, pu_onward, pu_frq, if_true, if_false, true_or, or_true, false_or, or_false, and_true, true_and, and_false, false_and, not_true_eq_false, not_false_eq_true, if_neg, if_pos, F10_takes, n1, nP, nU, bVr]
        · simp (disch := omega) only [pv_lt, pu_ck, pv_bI, pv_bV, pu_bR, pv_bL, pv_nt, pu_us, pu_un, mL_0, mL_1, mL_2, mL_3, mL_4, mL_5, mL_6, mL_7, mL_8, mL_9, mL_10, mL_11, mL_12, mL_13, mL_14, mL_15, mL_16, mL_23, mL_24, mL_32, mL_48, mL_64, mL_99, mL_100, mL_200, mL_336, mL_576, mL_768, mL_800, mL_999, mL_4095, mL_4096, mL_m1, nI_leI, nI_ltI, nI_eq, nI_clamp, nI_add, pk_mul, nI_nu, bI_eq0, bI_eq1, bo_ft, Bool.true_eq_false, Bool.false_eq_true, pu_of, pu_of24, pu_onward, pu_frq, if_true, if_false, true_or, or_true, false_or, or_false, and_true, true_and, and_false, false_and, not_true_eq_false, not_false_eq_true, if_neg, if_pos, F11_takes, f11_takes_27, wl]
/-- the greatest of the first n, which and how much (one more; 0: none) -/
def bx (v : Nat → Nat) : Nat → Nat × Nat
  | 0 => (0, 0)
  | n + 1 => if (bx v n).2 < v n then (n, v n) else bx v n
theorem bx_s {v : Nat → Nat} {n : Nat} : bx v (n + 1) = if (bx v n).2 < v n then (n, v n) else bx v n := rfl
theorem bx_le {v : Nat → Nat} {c : Nat} : ∀ n, (∀ k, k < n → v k ≤ c) → (bx v n).2 ≤ c ∧ ((bx v n).2 = 0 ∨ (bx v n).1 < n) := by
  intro n
  induction n with
  | zero => intro _; exact ⟨Nat.zero_le _, Or.inl rfl⟩
  | succ n ih =>
    intro h
    obtain ⟨a, b⟩ := ih (fun k hk => h k (by omega))
    rw [bx_s]
    split
    · exact ⟨h n (by omega), Or.inr (by show n < n + 1; omega)⟩
    · exact ⟨a, b.imp id (fun q => by omega)⟩
/-- which one, as the programs say it: so many each; -1 for none -/
def bxI (g : Nat) (v : Nat → Nat) (n : Nat) : Int32 := if (bx v n).2 = 0 then nu 24 else nI (g * (bx v n).1)
theorem bxI_y {g : Nat} {v : Nat → Nat} {n : Nat} (h : (bx v n).2 < v n) : bxI g v (n + 1) = nI (g * n) ∧ (bx v (n + 1)).2 = v n := by
  unfold bxI
  rw [bx_s, if_pos h]
  exact ⟨if_neg (by show ¬ v n = 0; omega), rfl⟩
theorem bxI_n {g : Nat} {v : Nat → Nat} {n : Nat} (h : ¬ (bx v n).2 < v n) : bxI g v (n + 1) = bxI g v n ∧ (bx v (n + 1)).2 = (bx v n).2 := by
  unfold bxI
  rw [bx_s, if_neg h]
  exact ⟨rfl, rfl⟩
theorem s_worst {i : Nat} (hi : i + 4 ≤ 2048) (a : Int32) : sr_ok3 (sr_Inv i) (sr_Inv (i + 4)) (fun t => FL_worst_23 a t) (fun t => F11_worst a t) := by
  refine ok3_qf hi (F := F10_worst a) (G := F11_worst a) (hc := hcL_worst_23) (fun t s w X => ?_)
  obtain ⟨O, C, K, nb, sp, R, kp, L, W⟩ := id X
  have hN := O.1.1
  rcases a_node a hN with ha | ⟨n, hn, rfl⟩
  · right
    have n1 := nN_no C ha
    have i1 := iN_no R.1 O.1 ha
    refine ⟨2, nI 1, nI 0, sr_u t 11 0 0 (nI 1), ?_, rfl, by decide, ?_, pu_us, Sr_0⟩
    · simp (disch := omega) only [pv_lt, pu_ck, pv_bI, pv_bV, pu_bR, pv_bL, pv_nt, pu_us, pu_un, mL_0, mL_1, mL_2, mL_3, mL_4, mL_5, mL_6, mL_7, mL_8, mL_9, mL_10, mL_11, mL_12, mL_13, mL_14, mL_15, mL_16, mL_23, mL_24, mL_32, mL_48, mL_64, mL_99, mL_100, mL_200, mL_336, mL_576, mL_768, mL_800, mL_999, mL_4095, mL_4096, mL_m1, nI_leI, nI_ltI, nI_eq, nI_clamp, nI_add, pk_mul, nI_nu, bI_eq0, bI_eq1, bo_ft, Bool.true_eq_false, Bool.false_eq_true, pu_of, pu_of24, pu_onward, pu_frq, if_true, if_false, true_or, or_true, false_or, or_false, and_true, true_and, and_false, false_and, not_true_eq_false, not_false_eq_true, if_neg, if_pos, F10_worst, n1, bVr]
    · simp (disch := omega) only [pv_lt, pu_ck, pv_bI, pv_bV, pu_bR, pv_bL, pv_nt, pu_us, pu_un, mL_0, mL_1, mL_2, mL_3, mL_4, mL_5, mL_6, mL_7, mL_8, mL_9, mL_10, mL_11, mL_12, mL_13, mL_14, mL_15, mL_16, mL_23, mL_24, mL_32, mL_48, mL_64, mL_99, mL_100, mL_200, mL_336, mL_576, mL_768, mL_800, mL_999, mL_4095, mL_4096, mL_m1, nI_leI, nI_ltI, nI_eq, nI_clamp, nI_add, pk_mul, nI_nu, bI_eq0, bI_eq1, bo_ft, Bool.true_eq_false, Bool.false_eq_true, pu_of, pu_of24, pu_onward, pu_frq, if_true, if_false, true_or, or_true, false_or, or_false, and_true, true_and, and_false, false_and, not_true_eq_false, not_false_eq_true, if_neg, if_pos, F11_worst, F11_wrongUp, f11_wrongUp_26, i1]
  · have n1 := nN_ok C O hn
    have wu := pu_wrongUp R.1 O.1 hn
    by_cases hu : rg_u s n = true
    · left
      have nU := nU_ok C O hn hu
      have vl : ∀ m, (bx (fun k => lk_tk s (64 * k) n) m).2 ≤ 201 := fun m => (bx_le m (fun k _ => lk_tk_le)).1
      have cls : ∃ t1, F10_worst (nI n) t = some (.inl (some (sr_i (bxI 64 (fun k => lk_tk s (64 * k) n) 64))), t1) ∧ fr Sc t t1 := by
        refine rs_via fun Q hQ => ?_
        simp (disch := omega) only [pv_lt, pu_ck, pv_bI, pv_bV, pu_bR, pv_bL, pv_nt, pu_us, pu_un, mL_0, mL_1, mL_2, mL_3, mL_4, mL_5, mL_6, mL_7, mL_8, mL_9, mL_10, mL_11, mL_12, mL_13, mL_14, mL_15, mL_16, mL_23, mL_24, mL_32, mL_48, mL_64, mL_99, mL_100, mL_200, mL_336, mL_576, mL_768, mL_800, mL_999, mL_4095, mL_4096, mL_m1, nI_leI, nI_ltI, nI_eq, nI_clamp, nI_add, pk_mul, nI_nu, bI_eq0, bI_eq1, bo_ft, Bool.true_eq_false, Bool.false_eq_true, pu_of, pu_of24, pu_onward, pu_frq, if_true, if_false, true_or, or_true, false_or, or_false, and_true, true_and, and_false, false_and, not_true_eq_false, not_false_eq_true, if_neg, if_pos, F10_worst, n1, nU]
        refine rs_loop (N := 64) (L := fun f k t' => f10_worst_17 (nI n) (f10_worst_59 (nI n)) f (bxI 64 (fun k => lk_tk s (64 * k) n) k) (ix (bx (fun k => lk_tk s (64 * k) n) k).2) (nI (64 * k)) t') (fun k t' => fr Sc t t') ?_ ?_ (by unfold sr_fu; omega) fr_rfl
        · intro k g t' hk p
          obtain ⟨t1, e1, _, f1⟩ := pc_hops (key := 64 * k) (J_c X p) hn hu (by omega)
          have l1 := vl k
          have l2 := lk_tk_le (s := s) (key := 64 * k) (n := n)
          left
          refine ⟨t1, fr_trans p f1, ?_⟩
          show f10_worst_17 (nI n) (f10_worst_59 (nI n)) (g + 1) _ _ (nI (64 * k)) t' = f10_worst_17 (nI n) (f10_worst_59 (nI n)) g (bxI 64 (fun k => lk_tk s (64 * k) n) (k + 1)) (ix (bx (fun k => lk_tk s (64 * k) n) (k + 1)).2) (nI (64 * (k + 1))) t1
          by_cases h : (bx (fun k => lk_tk s (64 * k) n) k).2 < lk_tk s (64 * k) n
          · obtain ⟨y1, y2⟩ := bxI_y (g := 64) (v := fun k => lk_tk s (64 * k) n) h
            have h' : ¬ ix (lk_tk s (64 * k) n) ≤ ix (bx (fun k => lk_tk s (64 * k) n) k).2 := fun q => by
              have := (ix_le (by omega) (by omega)).mp q
              omega
            rw [y1, y2]
            simp (disch := omega) only [pv_lt, pu_ck, pv_bI, pv_bV, pu_bR, pv_bL, pv_nt, pu_us, pu_un, mL_0, mL_1, mL_2, mL_3, mL_4, mL_5, mL_6, mL_7, mL_8, mL_9, mL_10, mL_11, mL_12, mL_13, mL_14, mL_15, mL_16, mL_23, mL_24, mL_32, mL_48, mL_64, mL_99, mL_100, mL_200, mL_336, mL_576, mL_768, mL_800, mL_999, mL_4095, mL_4096, mL_m1, nI_leI, nI_ltI, nI_eq, nI_clamp, nI_add, pk_mul, nI_nu, bI_eq0, bI_eq1, bo_ft, Bool.true_eq_false, Bool.false_eq_true, pu_of, pu_of24, pu_onward, pu_frq, if_true, if_false, true_or, or_true, false_or, or_false, and_true, true_and, and_false, false_and, not_true_eq_false, not_false_eq_true, if_neg, if_pos, f10_worst_17, f10_worst_53, e1, h']
            rfl
          · obtain ⟨y1, y2⟩ := bxI_n (g := 64) (v := fun k => lk_tk s (64 * k) n) h
            have h' : ix (lk_tk s (64 * k) n) ≤ ix (bx (fun k => lk_tk s (64 * k) n) k).2 := (ix_le (by omega) (by omega)).mpr (by omega)
            rw [y1, y2]
            simp (disch := omega) only [pv_lt, pu_ck, pv_bI, pv_bV, pu_bR, pv_bL, pv_nt, pu_us, pu_un, mL_0, mL_1, mL_2, mL_3, mL_4, mL_5, mL_6, mL_7, mL_8, mL_9, mL_10, mL_11, mL_12, mL_13, mL_14, mL_15, mL_16, mL_23, mL_24, mL_32, mL_48, mL_64, mL_99, mL_100, mL_200, mL_336, mL_576, mL_768, mL_800, mL_999, mL_4095, mL_4096, mL_m1, nI_leI, nI_ltI, nI_eq, nI_clamp, nI_add, pk_mul, nI_nu, bI_eq0, bI_eq1, bo_ft, Bool.true_eq_false, Bool.false_eq_true, pu_of, pu_of24, pu_onward, pu_frq, if_true, if_false, true_or, or_true, false_or, or_false, and_true, true_and, and_false, false_and, not_true_eq_false, not_false_eq_true, if_neg, if_pos, f10_worst_17, f10_worst_53, e1, h']
            rfl
        · intro g t' p
          show rs_to _ (f10_worst_17 (nI n) (f10_worst_59 (nI n)) (g + 1) (bxI 64 (fun k => lk_tk s (64 * k) n) 64) (ix (bx (fun k => lk_tk s (64 * k) n) 64).2) (nI (64 * 64)) t')
          simp (disch := omega) only [pv_lt, pu_ck, pv_bI, pv_bV, pu_bR, pv_bL, pv_nt, pu_us, pu_un, mL_0, mL_1, mL_2, mL_3, mL_4, mL_5, mL_6, mL_7, mL_8, mL_9, mL_10, mL_11, mL_12, mL_13, mL_14, mL_15, mL_16, mL_23, mL_24, mL_32, mL_48, mL_64, mL_99, mL_100, mL_200, mL_336, mL_576, mL_768, mL_800, mL_999, mL_4095, mL_4096, mL_m1, nI_leI, nI_ltI, nI_eq, nI_clamp, nI_add, pk_mul, nI_nu, bI_eq0, bI_eq1, bo_ft, Bool.true_eq_false, Bool.false_eq_true, pu_of, pu_of24, pu_onward, pu_frq, if_true, if_false, true_or, or_true, false_or, or_false, and_true, true_and, and_false, false_and, not_true_eq_false, not_false_eq_true, if_neg, if_pos, f10_worst_17, f10_worst_59]
          exact rs_ret (hQ _ p)
      obtain ⟨t1, e1, f1⟩ := cls
      refine ⟨bxI 64 (fun k => lk_tk s (64 * k) n) 64, ⟨t1, e1, frI_of f1⟩, fun t' X' ft => ?_⟩
      have ref : ∃ t2, F11_worst (nI n) t' = some (.inl (some (sr_i (bxI 64 (fun k => lk_tk s (64 * k) n) 64))), t2) ∧ fr Sr0 (sr_u t' 11 0 0 (nI 0)) t2 := by
        have wu := pu_wrongUp X'.2.2.2.2.2.1.1 O.1 hn
        rw [if_pos hu] at wu
        refine rs_via fun Q hQ => ?_
        simp (disch := omega) only [pv_lt, pu_ck, pv_bI, pv_bV, pu_bR, pv_bL, pv_nt, pu_us, pu_un, mL_0, mL_1, mL_2, mL_3, mL_4, mL_5, mL_6, mL_7, mL_8, mL_9, mL_10, mL_11, mL_12, mL_13, mL_14, mL_15, mL_16, mL_23, mL_24, mL_32, mL_48, mL_64, mL_99, mL_100, mL_200, mL_336, mL_576, mL_768, mL_800, mL_999, mL_4095, mL_4096, mL_m1, nI_leI, nI_ltI, nI_eq, nI_clamp, nI_add, pk_mul, nI_nu, bI_eq0, bI_eq1, bo_ft, Bool.true_eq_false, Bool.false_eq_true, pu_of, pu_of24, pu_onward, pu_frq, if_true, if_false, true_or, or_true, false_or, or_false, and_true, true_and, and_false, false_and, not_true_eq_false, not_false_eq_true, if_neg, if_pos, F11_worst, wu]
        refine rs_loop (N := 64) (L := fun f k t2 => f11_worst_25 (nI n) (f11_worst_68 (nI n)) f (bxI 64 (fun k => lk_tk s (64 * k) n) k) (ix (bx (fun k => lk_tk s (64 * k) n) k).2) (nI k) t2) (fun k t2 => fr Sr0 (sr_u t' 11 0 0 (nI 0)) t2) ?_ ?_ (by unfold sr_fu; omega) fr_rfl
        · intro k g t2 hk p
          obtain ⟨t3, e3, _, _, f3⟩ := pr_takes (key := 64 * k) (J_r (J_thr (v := nI 0) X') p) hn hu (by omega)
          have l1 := vl k
          have l2 := lk_tk_le (s := s) (key := 64 * k) (n := n)
          left
          refine ⟨t3, fr_trans p f3, ?_⟩
          show f11_worst_25 (nI n) (f11_worst_68 (nI n)) (g + 1) _ _ (nI k) t2 = f11_worst_25 (nI n) (f11_worst_68 (nI n)) g (bxI 64 (fun k => lk_tk s (64 * k) n) (k + 1)) (ix (bx (fun k => lk_tk s (64 * k) n) (k + 1)).2) (nI (k + 1)) t3
          by_cases h : (bx (fun k => lk_tk s (64 * k) n) k).2 < lk_tk s (64 * k) n
          · obtain ⟨y1, y2⟩ := bxI_y (g := 64) (v := fun k => lk_tk s (64 * k) n) h
            have h' : ix (bx (fun k => lk_tk s (64 * k) n) k).2 < ix (lk_tk s (64 * k) n) := (ix_lt (by omega) (by omega)).mpr h
            rw [y1, y2]
            simp (disch := omega) only [pv_lt, pu_ck, pv_bI, pv_bV, pu_bR, pv_bL, pv_nt, pu_us, pu_un, mL_0, mL_1, mL_2, mL_3, mL_4, mL_5, mL_6, mL_7, mL_8, mL_9, mL_10, mL_11, mL_12, mL_13, mL_14, mL_15, mL_16, mL_23, mL_24, mL_32, mL_48, mL_64, mL_99, mL_100, mL_200, mL_336, mL_576, mL_768, mL_800, mL_999, mL_4095, mL_4096, mL_m1, nI_leI, nI_ltI, nI_eq, nI_clamp, nI_add, pk_mul, nI_nu, bI_eq0, bI_eq1, bo_ft, Bool.true_eq_false, Bool.false_eq_true, pu_of, pu_of24, pu_onward, pu_frq, if_true, if_false, true_or, or_true, false_or, or_false, and_true, true_and, and_false, false_and, not_true_eq_false, not_false_eq_true, if_neg, if_pos, f11_worst_25, f11_worst_62, e3, h']
          · obtain ⟨y1, y2⟩ := bxI_n (g := 64) (v := fun k => lk_tk s (64 * k) n) h
            have h' : ¬ ix (bx (fun k => lk_tk s (64 * k) n) k).2 < ix (lk_tk s (64 * k) n) := fun q => h ((ix_lt (by omega) (by omega)).mp q)
            rw [y1, y2]
            simp (disch := omega) only [pv_lt, pu_ck, pv_bI, pv_bV, pu_bR, pv_bL, pv_nt, pu_us, pu_un, mL_0, mL_1, mL_2, mL_3, mL_4, mL_5, mL_6, mL_7, mL_8, mL_9, mL_10, mL_11, mL_12, mL_13, mL_14, mL_15, mL_16, mL_23, mL_24, mL_32, mL_48, mL_64, mL_99, mL_100, mL_200, mL_336, mL_576, mL_768, mL_800, mL_999, mL_4095, mL_4096, mL_m1, nI_leI, nI_ltI, nI_eq, nI_clamp, nI_add, pk_mul, nI_nu, bI_eq0, bI_eq1, bo_ft, Bool.true_eq_false, Bool.false_eq_true, pu_of, pu_of24, pu_onward, pu_frq, if_true, if_false, true_or, or_true, false_or, or_false, and_true, true_and, and_false, false_and, not_true_eq_false, not_false_eq_true, if_neg, if_pos, f11_worst_25, f11_worst_62, e3, h']
        · intro g t2 p
          show rs_to _ (f11_worst_25 (nI n) (f11_worst_68 (nI n)) (g + 1) (bxI 64 (fun k => lk_tk s (64 * k) n) 64) (ix (bx (fun k => lk_tk s (64 * k) n) 64).2) (nI 64) t2)
          simp (disch := omega) only [pv_lt, pu_ck, pv_bI, pv_bV, pu_bR, pv_bL, pv_nt, pu_us, pu_un, mL_0, mL_1, mL_2, mL_3, mL_4, mL_5, mL_6, mL_7, mL_8, mL_9, mL_10, mL_11, mL_12, mL_13, mL_14, mL_15, mL_16, mL_23, mL_24, mL_32, mL_48, mL_64, mL_99, mL_100, mL_200, mL_336, mL_576, mL_768, mL_800, mL_999, mL_4095, mL_4096, mL_m1, nI_leI, nI_ltI, nI_eq, nI_clamp, nI_add, pk_mul, nI_nu, bI_eq0, bI_eq1, bo_ft, Bool.true_eq_false, Bool.false_eq_true, pu_of, pu_of24, pu_onward, pu_frq, if_true, if_false, true_or, or_true, false_or, or_false, and_true, true_and, and_false, false_and, not_true_eq_false, not_false_eq_true, if_neg, if_pos, f11_worst_25, f11_worst_68]
          exact rs_ret (hQ _ p)
      obtain ⟨t2, g1, g2⟩ := ref
      exact ⟨t2, g1, (Sr_q g2).1, (Sr_q g2).2⟩
    · right
      have hu' : rg_u s n = false := by simpa using hu
      have nU := nU_no C O hn hu'
      rw [if_neg hu] at wu
      refine ⟨1, nI 2, nI 0, sr_u t 11 0 0 (nI 2), ?_, rfl, by decide, ?_, pu_us, Sr_0⟩
      · simp (disch := omega) only [pv_lt, pu_ck, pv_bI, pv_bV, pu_bR, pv_bL, pv_nt, pu_us, pu_un, mL_0, mL_1, mL_2, mL_3, mL_4, mL_5, mL_6, mL_7, mL_8, mL_9, mL_10, mL_11, mL_12, mL_13, mL_14, mL_15, mL_16, mL_23, mL_24, mL_32, mL_48, mL_64, mL_99, mL_100, mL_200, mL_336, mL_576, mL_768, mL_800, mL_999, mL_4095, mL_4096, mL_m1, nI_leI, nI_ltI, nI_eq, nI_clamp, nI_add, pk_mul, nI_nu, bI_eq0, bI_eq1, bo_ft, Bool.true_eq_false, Bool.false_eq_true, pu_of, pu_of24, pu_onward, pu_frq, if_true, if_false, true_or, or_true, false_or, or_false, and_true, true_and, and_false, false_and, not_true_eq_false, not_false_eq_true, if_neg, if_pos, F10_worst, n1, nU, bVr]
      · simp (disch := omega) only [pv_lt, pu_ck, pv_bI, pv_bV, pu_bR, pv_bL, pv_nt, pu_us, pu_un, mL_0, mL_1, mL_2, mL_3, mL_4, mL_5, mL_6, mL_7, mL_8, mL_9, mL_10, mL_11, mL_12, mL_13, mL_14, mL_15, mL_16, mL_23, mL_24, mL_32, mL_48, mL_64, mL_99, mL_100, mL_200, mL_336, mL_576, mL_768, mL_800, mL_999, mL_4095, mL_4096, mL_m1, nI_leI, nI_ltI, nI_eq, nI_clamp, nI_add, pk_mul, nI_nu, bI_eq0, bI_eq1, bo_ft, Bool.true_eq_false, Bool.false_eq_true, pu_of, pu_of24, pu_onward, pu_frq, if_true, if_false, true_or, or_true, false_or, or_false, and_true, true_and, and_false, false_and, not_true_eq_false, not_false_eq_true, if_neg, if_pos, F11_worst, wu]
/-! the nearest, the quickest -/
def rg_pr (s : rg_T) (key : Nat) (tm : Bool) (n : Nat) : Nat := if tm = true then lk_tm s key true n (lk_n s key true n) else lk_hp s key true n (lk_n s key true n)
def rg_ur (s : rg_T) (key n : Nat) : Bool := rg_u s n && lk_r s key true n
def rg_ba (s : rg_T) (key : Nat) (tm : Bool) (n : Nat) : Nat := am (rg_pr s key tm) (rg_ur s key) n
theorem rg_pr_le {s : rg_T} {key n : Nat} {tm : Bool} (O : rg_ok s) (hn : n < rg_N s) (hu : rg_u s n = true) : rg_pr s key tm n ≤ 20000 := by
  have a := lk_hp_le (s := s) (key := key) (n := n) (best := true) (k := lk_n s key true n)
  have b := lk_n_le (s := s) (key := key) (n := n) (best := true)
  have c := lk_tm_le (key := key) (best := true) O hn hu (Nat.le_refl _)
  unfold rg_pr
  split <;> omega
theorem rg_ba_c {s : rg_T} {key : Nat} {tm : Bool} (O : rg_ok s) : ∀ n, n ≤ rg_N s → rg_ba s key tm n = 24 ∨ (rg_ba s key tm n < n ∧ rg_pr s key tm (rg_ba s key tm n) ≤ 20000) := by
  intro n hn
  have hN := O.1.1
  rcases am_cases (D := rg_pr s key tm) (u := rg_ur s key) n (by omega) with h | h
  · exact Or.inl h.1
  · refine Or.inr ⟨h.1, rg_pr_le O ?_ ?_⟩
    · have := h.1
      unfold rg_ba
      omega
    · have h2 := h.2.1
      unfold rg_ur at h2
      rw [Bool.and_eq_true] at h2
      exact h2.1
def rg_bl (z : Nat) (s : rg_T) (key : Nat) (tm : Bool) (n : Nat) : Nat := if rg_ba s key tm n = 24 then z else rg_pr s key tm (rg_ba s key tm n)
set_option maxHeartbeats 2000000 in
theorem pc_best {i : Nat} {t : sr_t} {s : rg_T} {w : st_T} {key : Nat} {tm : Bool} (X : J i t s w) (hkey : key < 4096) : ∃ t1, F10_bestToAsk (nI key) (bI tm) t = some (.inl (some (sr_i (nu (rg_ba s key tm (rg_N s))))), t1) ∧ fr Sc t t1 := by
  have O := X.1
  have hN := O.1.1
  refine rs_via fun Q hQ => ?_
  show rs_to Q (f10_bestToAsk_8 (nI key) (bI tm) (f10_bestToAsk_104 (nI key) (bI tm)) sr_fu (nu (rg_ba s key tm 0)) (nI (rg_bl 0 s key tm 0)) (nI 0) t)
  refine rs_loop (N := rg_N s) (L := fun f n t' => f10_bestToAsk_8 (nI key) (bI tm) (f10_bestToAsk_104 (nI key) (bI tm)) f (nu (rg_ba s key tm n)) (nI (rg_bl 0 s key tm n)) (nI n) t') (fun n t' => fr Sc t t') ?_ ?_ (by unfold sr_fu; omega) fr_rfl
  · intro n g t' hn p
    have X' := J_c X p
    have h3 := X'.2.1.1.1.1
    have hup := (X'.2.1.1.2.2 n hn).2.1
    have cs := rg_ba_c (key := key) (tm := tm) O n (by omega)
    have e1 : rg_ba s key tm (n + 1) = if rg_ur s key n = true ∧ (rg_ba s key tm n = 24 ∨ rg_pr s key tm n < rg_pr s key tm (rg_ba s key tm n)) then n else rg_ba s key tm n := rfl
    left
    by_cases hu : rg_u s n = true
    · obtain ⟨t1, h1, h13, f1⟩ := pc_hops (key := key) X' hn hu hkey
      have pl := rg_pr_le (key := key) (tm := tm) O hn hu
      rw [hu] at hup
      have bt : ¬ bI true = nI 0 := by decide
      refine ⟨t1, fr_trans p f1, ?_⟩
      show f10_bestToAsk_8 (nI key) (bI tm) (f10_bestToAsk_104 (nI key) (bI tm)) (g + 1) _ _ (nI n) t' = f10_bestToAsk_8 (nI key) (bI tm) (f10_bestToAsk_104 (nI key) (bI tm)) g (nu (rg_ba s key tm (n + 1))) (nI (rg_bl 0 s key tm (n + 1))) (nI (n + 1)) t1
      cases hr : lk_r s key true n with
      | false =>
        have tk0 : lk_tk s key n = 0 := by unfold lk_tk; rw [hr]; rfl
        have e2 : rg_ba s key tm (n + 1) = rg_ba s key tm n := by
          rw [e1, if_neg]
          intro q
          have := q.1
          unfold rg_ur at this
          rw [hr, Bool.and_false] at this
          exact absurd this (by decide)
        have e3 : rg_bl 0 s key tm (n + 1) = rg_bl 0 s key tm n := by unfold rg_bl; rw [e2]
        rw [tk0, ix_0] at h1
        rw [e2, e3]
        cases tm with
        | false =>
          have bf : bI false = nI 0 := rfl
          simp (disch := omega) only [pv_lt, pu_ck, pv_bI, pv_bV, pu_bR, pv_bL, pv_nt, pu_us, pu_un, mL_0, mL_1, mL_2, mL_3, mL_4, mL_5, mL_6, mL_7, mL_8, mL_9, mL_10, mL_11, mL_12, mL_13, mL_14, mL_15, mL_16, mL_23, mL_24, mL_32, mL_48, mL_64, mL_99, mL_100, mL_200, mL_336, mL_576, mL_768, mL_800, mL_999, mL_4095, mL_4096, mL_m1, nI_leI, nI_ltI, nI_eq, nI_clamp, nI_add, pk_mul, nI_nu, bI_eq0, bI_eq1, bo_ft, Bool.true_eq_false, Bool.false_eq_true, pu_of, pu_of24, pu_onward, pu_frq, if_true, if_false, true_or, or_true, false_or, or_false, and_true, true_and, and_false, false_and, not_true_eq_false, not_false_eq_true, if_neg, if_pos, f10_bestToAsk_8, f10_bestToAsk_53, f10_bestToAsk_71, f10_bestToAsk_98, h3, hup, bt, bf, h1]
        | true => simp (disch := omega) only [pv_lt, pu_ck, pv_bI, pv_bV, pu_bR, pv_bL, pv_nt, pu_us, pu_un, mL_0, mL_1, mL_2, mL_3, mL_4, mL_5, mL_6, mL_7, mL_8, mL_9, mL_10, mL_11, mL_12, mL_13, mL_14, mL_15, mL_16, mL_23, mL_24, mL_32, mL_48, mL_64, mL_99, mL_100, mL_200, mL_336, mL_576, mL_768, mL_800, mL_999, mL_4095, mL_4096, mL_m1, nI_leI, nI_ltI, nI_eq, nI_clamp, nI_add, pk_mul, nI_nu, bI_eq0, bI_eq1, bo_ft, Bool.true_eq_false, Bool.false_eq_true, pu_of, pu_of24, pu_onward, pu_frq, if_true, if_false, true_or, or_true, false_or, or_false, and_true, true_and, and_false, false_and, not_true_eq_false, not_false_eq_true, if_neg, if_pos, f10_bestToAsk_8, f10_bestToAsk_53, f10_bestToAsk_71, f10_bestToAsk_98, h3, hup, bt, h1]
      | true =>
        have tk1 : lk_tk s key n = lk_hp s key true n (lk_n s key true n) + 1 := by unfold lk_tk; rw [hr]; rfl
        have hle := lk_tk_le (s := s) (key := key) (n := n)
        rw [tk1, ix_s] at h1
        rw [tk1] at hle
        have ur : rg_ur s key n = true := by unfold rg_ur; rw [hu, hr]; rfl
        have step : f10_bestToAsk_8 (nI key) (bI tm) (f10_bestToAsk_104 (nI key) (bI tm)) (g + 1) (nu (rg_ba s key tm n)) (nI (rg_bl 0 s key tm n)) (nI n) t' = (if nu (rg_ba s key tm n) = nu 24 then f10_bestToAsk_8 (nI key) (bI tm) (f10_bestToAsk_104 (nI key) (bI tm)) g (nI n) (nI (rg_pr s key tm n)) (nI (n + 1)) t1 else if nI (rg_bl 0 s key tm n) ≤ nI (rg_pr s key tm n) then f10_bestToAsk_8 (nI key) (bI tm) (f10_bestToAsk_104 (nI key) (bI tm)) g (nu (rg_ba s key tm n)) (nI (rg_bl 0 s key tm n)) (nI (n + 1)) t1 else f10_bestToAsk_8 (nI key) (bI tm) (f10_bestToAsk_104 (nI key) (bI tm)) g (nI n) (nI (rg_pr s key tm n)) (nI (n + 1)) t1) := by
          cases tm with
          | false =>
            have bf : bI false = nI 0 := rfl
            have ep : rg_pr s key false n = lk_hp s key true n (lk_n s key true n) := if_neg (by decide)
            rw [ep]
            conv => lhs; unfold f10_bestToAsk_8
            simp (disch := omega) only [if_true, if_false, mL_0, mL_1, mL_m1, nI_leI, if_neg, if_pos, pu_of, pu_bR, f10_bestToAsk_53, f10_bestToAsk_71, f10_bestToAsk_91, f10_bestToAsk_98, h3, hup, bt, bf, h1, pv_bI, nI_add, nI_nu]
          | true =>
            have ep : rg_pr s key true n = lk_tm s key true n (lk_n s key true n) := if_pos rfl
            rw [ep]
            conv => lhs; unfold f10_bestToAsk_8
            simp (disch := omega) only [if_true, if_false, mL_0, mL_1, mL_m1, nI_leI, if_neg, if_pos, pu_of, pu_bR, f10_bestToAsk_53, f10_bestToAsk_71, f10_bestToAsk_91, f10_bestToAsk_98, h3, hup, bt, h1, h13, pv_bI, nI_add, nI_nu]
        rw [step]
        rcases cs with c24 | ⟨c1, c2⟩
        · have e2 : rg_ba s key tm (n + 1) = n := by rw [e1, if_pos ⟨ur, Or.inl c24⟩]
          have e3 : rg_bl 0 s key tm (n + 1) = rg_pr s key tm n := by unfold rg_bl; rw [e2, if_neg (by omega)]
          rw [c24, if_pos rfl, e2, e3, nu_lt (by omega)]
        · have bl : rg_bl 0 s key tm n = rg_pr s key tm (rg_ba s key tm n) := if_neg (by omega)
          rw [if_neg (fun q => by have := (nu_eq24 (by omega)).mp q; omega), bl]
          by_cases hlt : rg_pr s key tm n < rg_pr s key tm (rg_ba s key tm n)
          · have e2 : rg_ba s key tm (n + 1) = n := by rw [e1, if_pos ⟨ur, Or.inr hlt⟩]
            have e3 : rg_bl 0 s key tm (n + 1) = rg_pr s key tm n := by unfold rg_bl; rw [e2, if_neg (by omega)]
            rw [if_neg (nI_ge hlt (by omega)), e2, e3, nu_lt (by omega)]
          · have e2 : rg_ba s key tm (n + 1) = rg_ba s key tm n := by
              rw [e1, if_neg]
              rintro ⟨_, q | q⟩
              · omega
              · exact hlt q
            have e3 : rg_bl 0 s key tm (n + 1) = rg_pr s key tm (rg_ba s key tm n) := by unfold rg_bl; rw [e2, if_neg (by omega)]
            rw [if_pos (nI_le (by omega) (by omega)), e2, e3]
    · rw [show rg_u s n = false by simpa using hu] at hup
      have bf : bI false = nI 0 := rfl
      have e2 : rg_ba s key tm (n + 1) = rg_ba s key tm n := by
        rw [e1, if_neg]
        intro q
        have := q.1
        unfold rg_ur at this
        rw [Bool.and_eq_true] at this
        exact hu this.1
      have e3 : rg_bl 0 s key tm (n + 1) = rg_bl 0 s key tm n := by unfold rg_bl; rw [e2]
      refine ⟨t', p, ?_⟩
      show f10_bestToAsk_8 (nI key) (bI tm) (f10_bestToAsk_104 (nI key) (bI tm)) (g + 1) _ _ (nI n) t' = f10_bestToAsk_8 (nI key) (bI tm) (f10_bestToAsk_104 (nI key) (bI tm)) g (nu (rg_ba s key tm (n + 1))) (nI (rg_bl 0 s key tm (n + 1))) (nI (n + 1)) t'
      rw [e2, e3]
      cases tm with
      | false => simp (disch := omega) only [pv_lt, pu_ck, pv_bI, pv_bV, pu_bR, pv_bL, pv_nt, pu_us, pu_un, mL_0, mL_1, mL_2, mL_3, mL_4, mL_5, mL_6, mL_7, mL_8, mL_9, mL_10, mL_11, mL_12, mL_13, mL_14, mL_15, mL_16, mL_23, mL_24, mL_32, mL_48, mL_64, mL_99, mL_100, mL_200, mL_336, mL_576, mL_768, mL_800, mL_999, mL_4095, mL_4096, mL_m1, nI_leI, nI_ltI, nI_eq, nI_clamp, nI_add, pk_mul, nI_nu, bI_eq0, bI_eq1, bo_ft, Bool.true_eq_false, Bool.false_eq_true, pu_of, pu_of24, pu_onward, pu_frq, if_true, if_false, true_or, or_true, false_or, or_false, and_true, true_and, and_false, false_and, not_true_eq_false, not_false_eq_true, if_neg, if_pos, f10_bestToAsk_8, f10_bestToAsk_53, f10_bestToAsk_71, f10_bestToAsk_98, h3, hup, bf]
      | true =>
        have bt : ¬ bI true = nI 0 := by decide
        simp (disch := omega) only [pv_lt, pu_ck, pv_bI, pv_bV, pu_bR, pv_bL, pv_nt, pu_us, pu_un, mL_0, mL_1, mL_2, mL_3, mL_4, mL_5, mL_6, mL_7, mL_8, mL_9, mL_10, mL_11, mL_12, mL_13, mL_14, mL_15, mL_16, mL_23, mL_24, mL_32, mL_48, mL_64, mL_99, mL_100, mL_200, mL_336, mL_576, mL_768, mL_800, mL_999, mL_4095, mL_4096, mL_m1, nI_leI, nI_ltI, nI_eq, nI_clamp, nI_add, pk_mul, nI_nu, bI_eq0, bI_eq1, bo_ft, Bool.true_eq_false, Bool.false_eq_true, pu_of, pu_of24, pu_onward, pu_frq, if_true, if_false, true_or, or_true, false_or, or_false, and_true, true_and, and_false, false_and, not_true_eq_false, not_false_eq_true, if_neg, if_pos, f10_bestToAsk_8, f10_bestToAsk_53, f10_bestToAsk_71, f10_bestToAsk_98, h3, hup, bf, bt]
  · intro g t' p
    have h3 := (J_c X p).2.1.1.1.1
    show rs_to _ (f10_bestToAsk_8 (nI key) (bI tm) (f10_bestToAsk_104 (nI key) (bI tm)) (g + 1) (nu (rg_ba s key tm (rg_N s))) (nI (rg_bl 0 s key tm (rg_N s))) (nI (rg_N s)) t')
    simp (disch := omega) only [pv_lt, pu_ck, pv_bI, pv_bV, pu_bR, pv_bL, pv_nt, pu_us, pu_un, mL_0, mL_1, mL_2, mL_3, mL_4, mL_5, mL_6, mL_7, mL_8, mL_9, mL_10, mL_11, mL_12, mL_13, mL_14, mL_15, mL_16, mL_23, mL_24, mL_32, mL_48, mL_64, mL_99, mL_100, mL_200, mL_336, mL_576, mL_768, mL_800, mL_999, mL_4095, mL_4096, mL_m1, nI_leI, nI_ltI, nI_eq, nI_clamp, nI_add, pk_mul, nI_nu, bI_eq0, bI_eq1, bo_ft, Bool.true_eq_false, Bool.false_eq_true, pu_of, pu_of24, pu_onward, pu_frq, if_true, if_false, true_or, or_true, false_or, or_false, and_true, true_and, and_false, false_and, not_true_eq_false, not_false_eq_true, if_neg, if_pos, f10_bestToAsk_8, f10_bestToAsk_104, h3]
    exact rs_ret (hQ _ p)
end
