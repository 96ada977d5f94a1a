section
/-! count: lost keys, gap, split -/
def lo (w : st_T) (s : rg_T) (k : Nat) : Nat := if pb (hP (w.2.2.2.2 k) (w.2.2.1 k) true) 24 &&& uB s = nI 0 then 1 else 0
theorem lo_le {w : st_T} {s : rg_T} {k : Nat} : lo w s k ≤ 1 := by
  unfold lo
  split <;> omega
theorem pc_missing {i : Nat} {t : sr_t} {s : rg_T} {w : st_T} (X : J i t s w) (hi : i ≤ 2048) : F6_countOfMissing 0 t = some (.inl (some (sr_i (nI (sm (lo w s) w.1.1)))), t) := by
  obtain ⟨O, C, K, nb, sp, R, kp, L, W⟩ := X
  have hN := O.1.1
  obtain ⟨W0, W1, W2, W3, W4, W5, W6⟩ := W
  have h6 := W1.1
  have eu := pc_upBits C O
  unfold F6_countOfMissing
  show f6_countOfMissing_4 0 (f6_countOfMissing_38 0) sr_fu (nI (sm (lo w s) 0)) (nI 0) t = _
  refine pu_for (N := w.1.1) (L := fun f k => f6_countOfMissing_4 0 (f6_countOfMissing_38 0) f (nI (sm (lo w s) k)) (nI k) t) ?_ ?_ (by unfold sr_fu; omega)
  · intro k g hk
    have wk := W3 k hk
    have e0 := pc_entryAt (t := t) (k := k) (by omega)
    have e1 : F0_bitsOfHolders k (nI 1) t = some (.inl (some (sr_i (pb (hP (w.2.2.2.2 k) (w.2.2.1 k) true) 24))), t) := pc_holders (fl := true) (fun n hn => by
      have := W4 k (by omega) n hn
      exact ⟨this.2.2.2.1, by omega⟩) wk.2.2.2.1 (by omega)
    show f6_countOfMissing_4 0 (f6_countOfMissing_38 0) (g + 1) (nI (sm (lo w s) k)) (nI k) t = f6_countOfMissing_4 0 (f6_countOfMissing_38 0) g (nI (sm (lo w s) (k + 1))) (nI (k + 1)) t
    rw [sm_s]
    have lk : lo w s k = if pb (hP (w.2.2.2.2 k) (w.2.2.1 k) true) 24 &&& uB s = nI 0 then 1 else 0 := rfl
    by_cases c : pb (hP (w.2.2.2.2 k) (w.2.2.1 k) true) 24 &&& uB s = nI 0
    · rw [lk, if_pos c]
      simp (disch := omega) only [pv_lt, pu_ck, pv_bI, pv_bV, pu_bR, pv_bL, pv_nt, pu_us, pu_un, mL_0, mL_1, mL_2, mL_3, mL_4, mL_5, mL_6, mL_7, mL_8, mL_9, mL_10, mL_11, mL_12, mL_13, mL_14, mL_15, mL_16, mL_23, mL_24, mL_32, mL_48, mL_64, mL_99, mL_100, mL_200, mL_336, mL_576, mL_768, mL_800, mL_999, mL_4095, mL_4096, mL_m1, nI_leI, nI_ltI, nI_eq, nI_clamp, nI_add, pk_mul, nI_nu, bI_eq0, bI_eq1, bo_ft, Bool.true_eq_false, Bool.false_eq_true, pu_of, pu_of24, pu_onward, pu_frq, if_true, if_false, true_or, or_true, false_or, or_false, and_true, true_and, and_false, false_and, not_true_eq_false, not_false_eq_true, if_neg, if_pos, f6_countOfMissing_4, f6_countOfMissing_32, h6, e0, e1, eu, c]
    · rw [lk, if_neg c]
      simp (disch := omega) only [pv_lt, pu_ck, pv_bI, pv_bV, pu_bR, pv_bL, pv_nt, pu_us, pu_un, mL_0, mL_1, mL_2, mL_3, mL_4, mL_5, mL_6, mL_7, mL_8, mL_9, mL_10, mL_11, mL_12, mL_13, mL_14, mL_15, mL_16, mL_23, mL_24, mL_32, mL_48, mL_64, mL_99, mL_100, mL_200, mL_336, mL_576, mL_768, mL_800, mL_999, mL_4095, mL_4096, mL_m1, nI_leI, nI_ltI, nI_eq, nI_clamp, nI_add, pk_mul, nI_nu, bI_eq0, bI_eq1, bo_ft, Bool.true_eq_false, Bool.false_eq_true, pu_of, pu_of24, pu_onward, pu_frq, if_true, if_false, true_or, or_true, false_or, or_false, and_true, true_and, and_false, false_and, not_true_eq_false, not_false_eq_true, if_neg, if_pos, f6_countOfMissing_4, f6_countOfMissing_32, h6, e0, e1, eu, c, Nat.add_zero]
  · intro g
    show f6_countOfMissing_4 0 (f6_countOfMissing_38 0) (g + 1) (nI (sm (lo w s) w.1.1)) (nI w.1.1) t = _
    simp (disch := omega) only [pv_lt, pu_ck, pv_bI, pv_bV, pu_bR, pv_bL, pv_nt, pu_us, pu_un, mL_0, mL_1, mL_2, mL_3, mL_4, mL_5, mL_6, mL_7, mL_8, mL_9, mL_10, mL_11, mL_12, mL_13, mL_14, mL_15, mL_16, mL_23, mL_24, mL_32, mL_48, mL_64, mL_99, mL_100, mL_200, mL_336, mL_576, mL_768, mL_800, mL_999, mL_4095, mL_4096, mL_m1, nI_leI, nI_ltI, nI_eq, nI_clamp, nI_add, pk_mul, nI_nu, bI_eq0, bI_eq1, bo_ft, Bool.true_eq_false, Bool.false_eq_true, pu_of, pu_of24, pu_onward, pu_frq, if_true, if_false, true_or, or_true, false_or, or_false, and_true, true_and, and_false, false_and, not_true_eq_false, not_false_eq_true, if_neg, if_pos, f6_countOfMissing_4, f6_countOfMissing_38, h6]
theorem pr_clear {t : sr_t} {s : rg_T} {A x1 x2 : Int32} {K : Int32 → Int32 → Int32 → sr_t → sr_Rs} (R : rg_RB t s) (O : rg_ok s) (hA : ∀ m, m < 32 → bs A m = true → m < rg_N s) : f11_lostKeys_22 K sr_fu x1 x2 A (nI 0) t = K x1 x2 (A &&& uB s) t := by
  have hN := O.1.1
  have h3 := R.1.1
  have main : ∃ X : Int32, (∀ m, m < 32 → bs X m = (bs A m && (decide (rg_N s ≤ m) || rg_u s m))) ∧ f11_lostKeys_22 K sr_fu x1 x2 A (nI 0) t = K x1 x2 X t := by
    refine pu_forR (α := Int32) (N := rg_N s) (L := fun f n X => f11_lostKeys_22 K f x1 x2 X (nI n) t) (fin := fun X => K x1 x2 X t) (P := fun n X => ∀ m, m < 32 → bs X m = (bs A m && (decide (n ≤ m) || rg_u s m))) ?_ ?_ (by unfold sr_fu; omega) (fun m hm => by rw [decide_eq_true (Nat.zero_le m), Bool.true_or, Bool.and_true])
    · intro n g X hn p
      have up := (R.2 n hn).2.1
      show ∃ X', (∀ m, m < 32 → bs X' m = (bs A m && (decide (n + 1 ≤ m) || rg_u s m))) ∧ f11_lostKeys_22 K (g + 1) x1 x2 X (nI n) t = f11_lostKeys_22 K g x1 x2 X' (nI (n + 1)) t
      cases hun : rg_u s n with
      | false =>
        rw [hun, show bI false = nI 0 from rfl] at up
        refine ⟨X &&& (ob n ^^^ nu 24), fun m hm => ?_, ?_⟩
        · rw [bs_and, p m hm, bs_not hm, bs_ob (by omega) hm]
          by_cases e : m = n
          · subst e
            rw [hun, decide_eq_true rfl, decide_eq_false (by omega : ¬ m + 1 ≤ m)]
            simp
          · rw [decide_eq_false e]
            by_cases q : n ≤ m
            · rw [decide_eq_true q, decide_eq_true (by omega : n + 1 ≤ m)]; simp
            · rw [decide_eq_false q, decide_eq_false (by omega : ¬ n + 1 ≤ m)]; simp
        · simp (disch := omega) only [pv_lt, pu_ck, pv_bI, pv_bV, pu_bR, pv_bL, pv_nt, pu_us, pu_un, mL_0, mL_1, mL_2, mL_3, mL_4, mL_5, mL_6, mL_7, mL_8, mL_9, mL_10, mL_11, mL_12, mL_13, mL_14, mL_15, mL_16, mL_23, mL_24, mL_32, mL_48, mL_64, mL_99, mL_100, mL_200, mL_336, mL_576, mL_768, mL_800, mL_999, mL_4095, mL_4096, mL_m1, nI_leI, nI_ltI, nI_eq, nI_clamp, nI_add, pk_mul, nI_nu, bI_eq0, bI_eq1, bo_ft, Bool.true_eq_false, Bool.false_eq_true, pu_of, pu_of24, pu_onward, pu_frq, if_true, if_false, true_or, or_true, false_or, or_false, and_true, true_and, and_false, false_and, not_true_eq_false, not_false_eq_true, if_neg, if_pos, f11_lostKeys_22, f11_lostKeys_50, h3, up, ob_f, pu_ixN']
      | true =>
        rw [hun, show bI true = nI 1 from rfl] at up
        refine ⟨X, fun m hm => ?_, ?_⟩
        · rw [p m hm]
          by_cases e : m = n
          · subst e
            rw [hun, Bool.or_true, Bool.or_true]
          · by_cases q : n ≤ m
            · rw [decide_eq_true q, decide_eq_true (by omega : n + 1 ≤ m)]
            · rw [decide_eq_false q, decide_eq_false (by omega : ¬ n + 1 ≤ m)]
        · simp (disch := omega) only [pv_lt, pu_ck, pv_bI, pv_bV, pu_bR, pv_bL, pv_nt, pu_us, pu_un, mL_0, mL_1, mL_2, mL_3, mL_4, mL_5, mL_6, mL_7, mL_8, mL_9, mL_10, mL_11, mL_12, mL_13, mL_14, mL_15, mL_16, mL_23, mL_24, mL_32, mL_48, mL_64, mL_99, mL_100, mL_200, mL_336, mL_576, mL_768, mL_800, mL_999, mL_4095, mL_4096, mL_m1, nI_leI, nI_ltI, nI_eq, nI_clamp, nI_add, pk_mul, nI_nu, bI_eq0, bI_eq1, bo_ft, Bool.true_eq_false, Bool.false_eq_true, pu_of, pu_of24, pu_onward, pu_frq, if_true, if_false, true_or, or_true, false_or, or_false, and_true, true_and, and_false, false_and, not_true_eq_false, not_false_eq_true, if_neg, if_pos, f11_lostKeys_22, f11_lostKeys_50, h3, up, pu_ixN']
    · intro g X p
      show f11_lostKeys_22 K (g + 1) x1 x2 X (nI (rg_N s)) t = _
      simp (disch := omega) only [pv_lt, pu_ck, pv_bI, pv_bV, pu_bR, pv_bL, pv_nt, pu_us, pu_un, mL_0, mL_1, mL_2, mL_3, mL_4, mL_5, mL_6, mL_7, mL_8, mL_9, mL_10, mL_11, mL_12, mL_13, mL_14, mL_15, mL_16, mL_23, mL_24, mL_32, mL_48, mL_64, mL_99, mL_100, mL_200, mL_336, mL_576, mL_768, mL_800, mL_999, mL_4095, mL_4096, mL_m1, nI_leI, nI_ltI, nI_eq, nI_clamp, nI_add, pk_mul, nI_nu, bI_eq0, bI_eq1, bo_ft, Bool.true_eq_false, Bool.false_eq_true, pu_of, pu_of24, pu_onward, pu_frq, if_true, if_false, true_or, or_true, false_or, or_false, and_true, true_and, and_false, false_and, not_true_eq_false, not_false_eq_true, if_neg, if_pos, f11_lostKeys_22, h3]
  obtain ⟨X, p, e⟩ := main
  have hX : X = A &&& uB s := by
    refine bs_ext (fun m hm => ?_)
    rw [p m hm, bs_and, uB_bs O hm]
    cases hb : bs A m with
    | false => rfl
    | true =>
      have := hA m hm hb
      rw [decide_eq_true this, decide_eq_false (by omega : ¬ rg_N s ≤ m)]
      simp
  rw [e, hX]
theorem pr_lost {i : Nat} {t : sr_t} {s : rg_T} {w : st_T} (X : J i t s w) (hi : i ≤ 2048) : F11_lostKeys t = some (.inl (some (sr_i (nI (sm (lo w s) w.1.1)))), t) := by
  obtain ⟨O, C, K, nb, sp, R, kp, L, W⟩ := X
  have hN := O.1.1
  obtain ⟨W0, W1, W2, W3, W4, W5, W6⟩ := W
  have h33 := W2.1
  unfold F11_lostKeys
  show f11_lostKeys_4 f11_lostKeys_74 sr_fu (nI (sm (lo w s) 0)) (nI 0) t = _
  refine pu_for (N := w.1.1) (L := fun f k => f11_lostKeys_4 f11_lostKeys_74 f (nI (sm (lo w s) k)) (nI k) t) ?_ ?_ (by unfold sr_fu; omega)
  · intro k g hk
    have wk := W3 k hk
    have e1 : F11_holdersOf (nI k) (nI 1) t = some (.inl (some (sr_i (pb (hP (w.2.2.2.2 k) (w.2.2.1 k) true) (rg_N s)))), t) := pr_holders (fl := true) (by omega) hN R.1.1.1 (fun n hn => by
      have := W4 k (by omega) n hn
      exact ⟨this.2.2.2.2.2.1, by omega⟩) wk.2.2.2.2.2 (by omega)
    have pe : pb (hP (w.2.2.2.2 k) (w.2.2.1 k) true) 24 = pb (hP (w.2.2.2.2 k) (w.2.2.1 k) true) (rg_N s) := pb_eq 24 hN (fun x h1 h2 => by
      have := (W4 k (by omega) x h2).2.2.2.2.2.2 (Or.inr h1)
      unfold hP
      rw [this]
      rfl)
    have e2 := pr_clear (t := t) (s := s) (A := pb (hP (w.2.2.2.2 k) (w.2.2.1 k) true) (rg_N s)) (x1 := nI (sm (lo w s) k)) (x2 := nI k) (K := f11_lostKeys_56 (f11_lostKeys_4 f11_lostKeys_74 g) f11_lostKeys_74) R.1 O (fun m hm h => by
      rw [pb_bs _ (by omega) m hm, Bool.and_eq_true] at h
      exact of_decide_eq_true h.1)
    show f11_lostKeys_4 f11_lostKeys_74 (g + 1) (nI (sm (lo w s) k)) (nI k) t = f11_lostKeys_4 f11_lostKeys_74 g (nI (sm (lo w s) (k + 1))) (nI (k + 1)) t
    rw [sm_s]
    have lk : lo w s k = if pb (hP (w.2.2.2.2 k) (w.2.2.1 k) true) 24 &&& uB s = nI 0 then 1 else 0 := rfl
    rw [pe] at lk
    by_cases c : pb (hP (w.2.2.2.2 k) (w.2.2.1 k) true) (rg_N s) &&& uB s = nI 0
    · rw [lk, if_pos c]
      simp (disch := omega) only [pv_lt, pu_ck, pv_bI, pv_bV, pu_bR, pv_bL, pv_nt, pu_us, pu_un, mL_0, mL_1, mL_2, mL_3, mL_4, mL_5, mL_6, mL_7, mL_8, mL_9, mL_10, mL_11, mL_12, mL_13, mL_14, mL_15, mL_16, mL_23, mL_24, mL_32, mL_48, mL_64, mL_99, mL_100, mL_200, mL_336, mL_576, mL_768, mL_800, mL_999, mL_4095, mL_4096, mL_m1, nI_leI, nI_ltI, nI_eq, nI_clamp, nI_add, pk_mul, nI_nu, bI_eq0, bI_eq1, bo_ft, Bool.true_eq_false, Bool.false_eq_true, pu_of, pu_of24, pu_onward, pu_frq, if_true, if_false, true_or, or_true, false_or, or_false, and_true, true_and, and_false, false_and, not_true_eq_false, not_false_eq_true, if_neg, if_pos, f11_lostKeys_4, h33, e1, e2]
      simp (disch := omega) only [pv_lt, pu_ck, pv_bI, pv_bV, pu_bR, pv_bL, pv_nt, pu_us, pu_un, mL_0, mL_1, mL_2, mL_3, mL_4, mL_5, mL_6, mL_7, mL_8, mL_9, mL_10, mL_11, mL_12, mL_13, mL_14, mL_15, mL_16, mL_23, mL_24, mL_32, mL_48, mL_64, mL_99, mL_100, mL_200, mL_336, mL_576, mL_768, mL_800, mL_999, mL_4095, mL_4096, mL_m1, nI_leI, nI_ltI, nI_eq, nI_clamp, nI_add, pk_mul, nI_nu, bI_eq0, bI_eq1, bo_ft, Bool.true_eq_false, Bool.false_eq_true, pu_of, pu_of24, pu_onward, pu_frq, if_true, if_false, true_or, or_true, false_or, or_false, and_true, true_and, and_false, false_and, not_true_eq_false, not_false_eq_true, if_neg, if_pos, f11_lostKeys_56, f11_lostKeys_66, c]
    · rw [lk, if_neg c]
      simp (disch := omega) only [pv_lt, pu_ck, pv_bI, pv_bV, pu_bR, pv_bL, pv_nt, pu_us, pu_un, mL_0, mL_1, mL_2, mL_3, mL_4, mL_5, mL_6, mL_7, mL_8, mL_9, mL_10, mL_11, mL_12, mL_13, mL_14, mL_15, mL_16, mL_23, mL_24, mL_32, mL_48, mL_64, mL_99, mL_100, mL_200, mL_336, mL_576, mL_768, mL_800, mL_999, mL_4095, mL_4096, mL_m1, nI_leI, nI_ltI, nI_eq, nI_clamp, nI_add, pk_mul, nI_nu, bI_eq0, bI_eq1, bo_ft, Bool.true_eq_false, Bool.false_eq_true, pu_of, pu_of24, pu_onward, pu_frq, if_true, if_false, true_or, or_true, false_or, or_false, and_true, true_and, and_false, false_and, not_true_eq_false, not_false_eq_true, if_neg, if_pos, f11_lostKeys_4, h33, e1, e2]
      simp (disch := omega) only [pv_lt, pu_ck, pv_bI, pv_bV, pu_bR, pv_bL, pv_nt, pu_us, pu_un, mL_0, mL_1, mL_2, mL_3, mL_4, mL_5, mL_6, mL_7, mL_8, mL_9, mL_10, mL_11, mL_12, mL_13, mL_14, mL_15, mL_16, mL_23, mL_24, mL_32, mL_48, mL_64, mL_99, mL_100, mL_200, mL_336, mL_576, mL_768, mL_800, mL_999, mL_4095, mL_4096, mL_m1, nI_leI, nI_ltI, nI_eq, nI_clamp, nI_add, pk_mul, nI_nu, bI_eq0, bI_eq1, bo_ft, Bool.true_eq_false, Bool.false_eq_true, pu_of, pu_of24, pu_onward, pu_frq, if_true, if_false, true_or, or_true, false_or, or_false, and_true, true_and, and_false, false_and, not_true_eq_false, not_false_eq_true, if_neg, if_pos, f11_lostKeys_56, f11_lostKeys_66, c]
  · intro g
    show f11_lostKeys_4 f11_lostKeys_74 (g + 1) (nI (sm (lo w s) w.1.1)) (nI w.1.1) t = _
    simp (disch := omega) only [pv_lt, pu_ck, pv_bI, pv_bV, pu_bR, pv_bL, pv_nt, pu_us, pu_un, mL_0, mL_1, mL_2, mL_3, mL_4, mL_5, mL_6, mL_7, mL_8, mL_9, mL_10, mL_11, mL_12, mL_13, mL_14, mL_15, mL_16, mL_23, mL_24, mL_32, mL_48, mL_64, mL_99, mL_100, mL_200, mL_336, mL_576, mL_768, mL_800, mL_999, mL_4095, mL_4096, mL_m1, nI_leI, nI_ltI, nI_eq, nI_clamp, nI_add, pk_mul, nI_nu, bI_eq0, bI_eq1, bo_ft, Bool.true_eq_false, Bool.false_eq_true, pu_of, pu_of24, pu_onward, pu_frq, if_true, if_false, true_or, or_true, false_or, or_false, and_true, true_and, and_false, false_and, not_true_eq_false, not_false_eq_true, if_neg, if_pos, f11_lostKeys_4, f11_lostKeys_74, h33]
/-! gap -/
def gn (u : Nat → Bool) (v : Nat → Nat) (c : Nat) : Nat → Nat
  | 0 => c
  | n + 1 => if u n = true ∧ v n < gn u v c n then v n else gn u v c n
theorem gn_s {u : Nat → Bool} {v : Nat → Nat} {c n : Nat} : gn u v c (n + 1) = if u n = true ∧ v n < gn u v c n then v n else gn u v c n := Eq.trans (Eq.refl _) (Eq.refl _)
theorem gn_ok {u : Nat → Bool} {v : Nat → Nat} {c : Nat} : ∀ n, gn u v c n ≤ c ∧ (∀ x, x < n → u x = true → gn u v c n ≤ v x) ∧ (gn u v c n = c ∨ ∃ x, x < n ∧ u x = true ∧ gn u v c n = v x) := by
  intro n
  induction n with
  | zero => exact ⟨Nat.le_refl _, fun x hx => by omega, Or.inl rfl⟩
  | succ n ih =>
    obtain ⟨i1, i2, i3⟩ := ih
    rw [gn_s]
    by_cases q : u n = true ∧ v n < gn u v c n
    · rw [if_pos q]
      refine ⟨by omega, fun x hx hu => ?_, Or.inr ⟨n, by omega, q.1, rfl⟩⟩
      by_cases e : x = n
      · rw [e]; exact Nat.le_refl _
      · have := i2 x (by omega) hu; omega
    · rw [if_neg q]
      refine ⟨i1, fun x hx hu => ?_, ?_⟩
      · by_cases e : x = n
        · subst e
          have : ¬ v x < gn u v c x := fun h => q ⟨hu, h⟩
          omega
        · exact i2 x (by omega) hu
      · rcases i3 with i3 | ⟨x, x1, x2⟩
        · exact Or.inl i3
        · exact Or.inr ⟨x, by omega, x2⟩
theorem gn_eq {u : Nat → Bool} {v : Nat → Nat} {c c' x n : Nat} (hx : x < n) (hu : u x = true) (h1 : v x = c) (h2 : v x < c') : gn u v c n = gn u v c' n := by
  obtain ⟨a1, a2, a3⟩ := gn_ok (u := u) (v := v) (c := c) n
  obtain ⟨b1, b2, b3⟩ := gn_ok (u := u) (v := v) (c := c') n
  have a4 := a2 x hx hu
  have b4 := b2 x hx hu
  have l1 : gn u v c' n ≤ gn u v c n := by
    rcases a3 with a3 | ⟨y, y1, y2, y3⟩
    · omega
    · have := b2 y y1 y2; omega
  have l2 : gn u v c n ≤ gn u v c' n := by
    rcases b3 with b3 | ⟨y, y1, y2, y3⟩
    · omega
    · have := a2 y y1 y2; omega
  omega
def gp (s : rg_T) : Nat := (mo (rg_u s) (lv s) (rg_N s)).2 - gn (rg_u s) (lv s) (mo (rg_u s) (lv s) (rg_N s)).2 (rg_N s)
theorem lv_up {s : rg_T} {n : Nat} (hn : n < rg_N s) (hu : rg_u s n = true) : lv s n = rg_ldR s n := if_pos ⟨hn, hu⟩
theorem pc_load7 {t : sr_t} {s : rg_T} (C : rg_C t 0 s) (K : rg_K t 0 s) (O : rg_ok s) : t.1 2 (25 * 0 + (mo (rg_u s) (lv s) (rg_N s)).1) 7 = nI (mo (rg_u s) (lv s) (rg_N s)).2 ∧ ∀ x, x < rg_N s → rg_u s x = true → t.1 2 (25 * 0 + x) 7 = nI (lv s x) := by
  have hN := O.1.1
  have k7 : ∀ x, x < rg_N s → rg_u s x = true → t.1 2 (25 * 0 + x) 7 = nI (lv s x) := fun x hx hu => by
    have := (K.2 x hx).2.2
    unfold rg_kl at this
    rw [if_pos hu, ld_eq O.1 hx hu] at this
    rw [this, lv_up hx hu]
  refine ⟨?_, k7⟩
  have nob : t.1 2 (25 * 0 + 24) 7 = nI 0 := C.1.2.1.2.2
  rcases mo_ok (u := rg_u s) (v := lv s) (rg_N s) hN with ⟨i1, i2, _⟩ | ⟨i1, i2, i3, _⟩
  · rw [i1, i2]; exact nob
  · rw [i3]; exact k7 _ (by omega) i2
theorem pc_gap {t : sr_t} {s : rg_T} (C : rg_C t 0 s) (K : rg_K t 0 s) (O : rg_ok s) : F3_gapOfLoads 0 t = some (.inl (some (sr_i (nI (gp s)))), t) := by
  have hN := O.1.1
  have h3 := C.1.1.1
  have e1 := pc_loaded C K O
  obtain ⟨m7, k7⟩ := pc_load7 C K O
  have ml := mo_le (u := rg_u s) (v := lv s) (n := rg_N s) hN
  have mb := mo_2b (u := rg_u s) (v := lv s) (c := 4096) (n := rg_N s) hN (fun x => lv_b O.1)
  unfold F3_gapOfLoads
  rw [e1, pu_bR (by omega), m7]
  unfold gp
  generalize hM : (mo (rg_u s) (lv s) (rg_N s)).2 = M at *
  show f3_gapOfLoads_12 0 (f3_gapOfLoads_50 0) sr_fu (nI M) (nI (gn (rg_u s) (lv s) M 0)) (nI 0) t = _
  refine pu_for (N := rg_N s) (L := fun f n => f3_gapOfLoads_12 0 (f3_gapOfLoads_50 0) f (nI M) (nI (gn (rg_u s) (lv s) M n)) (nI n) t) ?_ ?_ (by unfold sr_fu; omega)
  · intro n g hn
    have up := (C.1.2.2 n hn).2.1
    have gb := (gn_ok (u := rg_u s) (v := lv s) (c := M) n).1
    show f3_gapOfLoads_12 0 (f3_gapOfLoads_50 0) (g + 1) (nI M) (nI (gn (rg_u s) (lv s) M n)) (nI n) t = f3_gapOfLoads_12 0 (f3_gapOfLoads_50 0) g (nI M) (nI (gn (rg_u s) (lv s) M (n + 1))) (nI (n + 1)) t
    rw [gn_s]
    cases hu : rg_u s n with
    | false =>
      rw [hu, show bI false = nI 0 from rfl] at up
      rw [if_neg (fun q => absurd q.1 (by decide))]
      simp (disch := omega) only [pv_lt, pu_ck, pv_bI, pv_bV, pu_bR, pv_bL, pv_nt, pu_us, pu_un, mL_0, mL_1, mL_2, mL_3, mL_4, mL_5, mL_6, mL_7, mL_8, mL_9, mL_10, mL_11, mL_12, mL_13, mL_14, mL_15, mL_16, mL_23, mL_24, mL_32, mL_48, mL_64, mL_99, mL_100, mL_200, mL_336, mL_576, mL_768, mL_800, mL_999, mL_4095, mL_4096, mL_m1, nI_leI, nI_ltI, nI_eq, nI_clamp, nI_add, pk_mul, nI_nu, bI_eq0, bI_eq1, bo_ft, Bool.true_eq_false, Bool.false_eq_true, pu_of, pu_of24, pu_onward, pu_frq, if_true, if_false, true_or, or_true, false_or, or_false, and_true, true_and, and_false, false_and, not_true_eq_false, not_false_eq_true, if_neg, if_pos, f3_gapOfLoads_12, f3_gapOfLoads_44, h3, up]
    | true =>
      rw [hu, show bI true = nI 1 from rfl] at up
      have kn := k7 n hn hu
      have lb := lv_b (n := n) O.1
      by_cases c : lv s n < gn (rg_u s) (lv s) M n
      · rw [if_pos ⟨rfl, c⟩]
        simp (disch := omega) only [pv_lt, pu_ck, pv_bI, pv_bV, pu_bR, pv_bL, pv_nt, pu_us, pu_un, mL_0, mL_1, mL_2, mL_3, mL_4, mL_5, mL_6, mL_7, mL_8, mL_9, mL_10, mL_11, mL_12, mL_13, mL_14, mL_15, mL_16, mL_23, mL_24, mL_32, mL_48, mL_64, mL_99, mL_100, mL_200, mL_336, mL_576, mL_768, mL_800, mL_999, mL_4095, mL_4096, mL_m1, nI_leI, nI_ltI, nI_eq, nI_clamp, nI_add, pk_mul, nI_nu, bI_eq0, bI_eq1, bo_ft, Bool.true_eq_false, Bool.false_eq_true, pu_of, pu_of24, pu_onward, pu_frq, if_true, if_false, true_or, or_true, false_or, or_false, and_true, true_and, and_false, false_and, not_true_eq_false, not_false_eq_true, if_neg, if_pos, f3_gapOfLoads_12, f3_gapOfLoads_44, h3, up, kn]
      · rw [if_neg (fun q => c q.2)]
        simp (disch := omega) only [pv_lt, pu_ck, pv_bI, pv_bV, pu_bR, pv_bL, pv_nt, pu_us, pu_un, mL_0, mL_1, mL_2, mL_3, mL_4, mL_5, mL_6, mL_7, mL_8, mL_9, mL_10, mL_11, mL_12, mL_13, mL_14, mL_15, mL_16, mL_23, mL_24, mL_32, mL_48, mL_64, mL_99, mL_100, mL_200, mL_336, mL_576, mL_768, mL_800, mL_999, mL_4095, mL_4096, mL_m1, nI_leI, nI_ltI, nI_eq, nI_clamp, nI_add, pk_mul, nI_nu, bI_eq0, bI_eq1, bo_ft, Bool.true_eq_false, Bool.false_eq_true, pu_of, pu_of24, pu_onward, pu_frq, if_true, if_false, true_or, or_true, false_or, or_false, and_true, true_and, and_false, false_and, not_true_eq_false, not_false_eq_true, if_neg, if_pos, f3_gapOfLoads_12, f3_gapOfLoads_44, h3, up, kn]
  · intro g
    have gb := (gn_ok (u := rg_u s) (v := lv s) (c := M) (rg_N s)).1
    have sb : nI M - nI (gn (rg_u s) (lv s) M (rg_N s)) = nI (M - gn (rg_u s) (lv s) M (rg_N s)) := pk_sub gb
    show f3_gapOfLoads_12 0 (f3_gapOfLoads_50 0) (g + 1) (nI M) (nI (gn (rg_u s) (lv s) M (rg_N s))) (nI (rg_N s)) t = _
    simp (disch := omega) only [pv_lt, pu_ck, pv_bI, pv_bV, pu_bR, pv_bL, pv_nt, pu_us, pu_un, mL_0, mL_1, mL_2, mL_3, mL_4, mL_5, mL_6, mL_7, mL_8, mL_9, mL_10, mL_11, mL_12, mL_13, mL_14, mL_15, mL_16, mL_23, mL_24, mL_32, mL_48, mL_64, mL_99, mL_100, mL_200, mL_336, mL_576, mL_768, mL_800, mL_999, mL_4095, mL_4096, mL_m1, nI_leI, nI_ltI, nI_eq, nI_clamp, nI_add, pk_mul, nI_nu, bI_eq0, bI_eq1, bo_ft, Bool.true_eq_false, Bool.false_eq_true, pu_of, pu_of24, pu_onward, pu_frq, if_true, if_false, true_or, or_true, false_or, or_false, and_true, true_and, and_false, false_and, not_true_eq_false, not_false_eq_true, if_neg, if_pos, f3_gapOfLoads_12, f3_gapOfLoads_50, h3, sb]
theorem pr_gap {t : sr_t} {s : rg_T} (R : rg_RB t s) (O : rg_ok s) : F11_gap t = some (.inl (some (sr_i (nI (gp s)))), t) := by
  have hN := O.1.1
  have h3 := R.1.1
  have mb : ∀ n, n ≤ rg_N s → (mo (rg_u s) (lv s) n).2 ≤ 4096 := fun n hn => mo_2b (by omega) (fun x => lv_b O.1)
  have ru : F11_gap t = f11_gap_59 (nI (mo (rg_u s) (lv s) (rg_N s)).2) (nI (gn (rg_u s) (lv s) 100000000 (rg_N s))) t := by
    unfold F11_gap
    rw [mL_much]
    show f11_gap_8 f11_gap_59 sr_fu (nI (mo (rg_u s) (lv s) 0).2) (nI (gn (rg_u s) (lv s) 100000000 0)) (nI 0) t = _
    refine pu_for (N := rg_N s) (L := fun f n => f11_gap_8 f11_gap_59 f (nI (mo (rg_u s) (lv s) n).2) (nI (gn (rg_u s) (lv s) 100000000 n)) (nI n) t) ?_ ?_ (by unfold sr_fu; omega)
    · intro n g hn
      have up := (R.2 n hn).2.1
      have gb := (gn_ok (u := rg_u s) (v := lv s) (c := 100000000) n).1
      have mb' := mb n (by omega)
      show f11_gap_8 f11_gap_59 (g + 1) (nI (mo (rg_u s) (lv s) n).2) (nI (gn (rg_u s) (lv s) 100000000 n)) (nI n) t = f11_gap_8 f11_gap_59 g (nI (mo (rg_u s) (lv s) (n + 1)).2) (nI (gn (rg_u s) (lv s) 100000000 (n + 1))) (nI (n + 1)) t
      rw [gn_s]
      cases hu : rg_u s n with
      | false =>
        rw [hu, show bI false = nI 0 from rfl] at up
        rw [mo_2d hu, if_neg (fun q => absurd q.1 (by decide))]
        simp (disch := omega) only [pv_lt, pu_ck, pv_bI, pv_bV, pu_bR, pv_bL, pv_nt, pu_us, pu_un, mL_0, mL_1, mL_2, mL_3, mL_4, mL_5, mL_6, mL_7, mL_8, mL_9, mL_10, mL_11, mL_12, mL_13, mL_14, mL_15, mL_16, mL_23, mL_24, mL_32, mL_48, mL_64, mL_99, mL_100, mL_200, mL_336, mL_576, mL_768, mL_800, mL_999, mL_4095, mL_4096, mL_m1, nI_leI, nI_ltI, nI_eq, nI_clamp, nI_add, pk_mul, nI_nu, bI_eq0, bI_eq1, bo_ft, Bool.true_eq_false, Bool.false_eq_true, pu_of, pu_of24, pu_onward, pu_frq, if_true, if_false, true_or, or_true, false_or, or_false, and_true, true_and, and_false, false_and, not_true_eq_false, not_false_eq_true, if_neg, if_pos, f11_gap_8, f11_gap_53, h3, up, pu_ixN']
      | true =>
        rw [hu, show bI true = nI 1 from rfl] at up
        have e := pu_loadOf R O.1 hn
        rw [← lv_up hn hu] at e
        have lb := lv_b (n := n) O.1
        rw [mo_2 (by omega) hu]
        by_cases c1 : (mo (rg_u s) (lv s) n).2 < lv s n
        · rw [if_pos c1]
          by_cases c : lv s n < gn (rg_u s) (lv s) 100000000 n
          · rw [if_pos ⟨rfl, c⟩]
            simp (disch := omega) only [pv_lt, pu_ck, pv_bI, pv_bV, pu_bR, pv_bL, pv_nt, pu_us, pu_un, mL_0, mL_1, mL_2, mL_3, mL_4, mL_5, mL_6, mL_7, mL_8, mL_9, mL_10, mL_11, mL_12, mL_13, mL_14, mL_15, mL_16, mL_23, mL_24, mL_32, mL_48, mL_64, mL_99, mL_100, mL_200, mL_336, mL_576, mL_768, mL_800, mL_999, mL_4095, mL_4096, mL_m1, nI_leI, nI_ltI, nI_eq, nI_clamp, nI_add, pk_mul, nI_nu, bI_eq0, bI_eq1, bo_ft, Bool.true_eq_false, Bool.false_eq_true, pu_of, pu_of24, pu_onward, pu_frq, if_true, if_false, true_or, or_true, false_or, or_false, and_true, true_and, and_false, false_and, not_true_eq_false, not_false_eq_true, if_neg, if_pos, f11_gap_8, f11_gap_44, f11_gap_53, h3, up, e, pu_ixN']
          · rw [if_neg (fun q => c q.2)]
            simp (disch := omega) only [pv_lt, pu_ck, pv_bI, pv_bV, pu_bR, pv_bL, pv_nt, pu_us, pu_un, mL_0, mL_1, mL_2, mL_3, mL_4, mL_5, mL_6, mL_7, mL_8, mL_9, mL_10, mL_11, mL_12, mL_13, mL_14, mL_15, mL_16, mL_23, mL_24, mL_32, mL_48, mL_64, mL_99, mL_100, mL_200, mL_336, mL_576, mL_768, mL_800, mL_999, mL_4095, mL_4096, mL_m1, nI_leI, nI_ltI, nI_eq, nI_clamp, nI_add, pk_mul, nI_nu, bI_eq0, bI_eq1, bo_ft, Bool.true_eq_false, Bool.false_eq_true, pu_of, pu_of24, pu_onward, pu_frq, if_true, if_false, true_or, or_true, false_or, or_false, and_true, true_and, and_false, false_and, not_true_eq_false, not_false_eq_true, if_neg, if_pos, f11_gap_8, f11_gap_44, f11_gap_53, h3, up, e, pu_ixN']
        · rw [if_neg c1]
          by_cases c : lv s n < gn (rg_u s) (lv s) 100000000 n
          · rw [if_pos ⟨rfl, c⟩]
            simp (disch := omega) only [pv_lt, pu_ck, pv_bI, pv_bV, pu_bR, pv_bL, pv_nt, pu_us, pu_un, mL_0, mL_1, mL_2, mL_3, mL_4, mL_5, mL_6, mL_7, mL_8, mL_9, mL_10, mL_11, mL_12, mL_13, mL_14, mL_15, mL_16, mL_23, mL_24, mL_32, mL_48, mL_64, mL_99, mL_100, mL_200, mL_336, mL_576, mL_768, mL_800, mL_999, mL_4095, mL_4096, mL_m1, nI_leI, nI_ltI, nI_eq, nI_clamp, nI_add, pk_mul, nI_nu, bI_eq0, bI_eq1, bo_ft, Bool.true_eq_false, Bool.false_eq_true, pu_of, pu_of24, pu_onward, pu_frq, if_true, if_false, true_or, or_true, false_or, or_false, and_true, true_and, and_false, false_and, not_true_eq_false, not_false_eq_true, if_neg, if_pos, f11_gap_8, f11_gap_44, f11_gap_53, h3, up, e, pu_ixN']
          · rw [if_neg (fun q => c q.2)]
            simp (disch := omega) only [pv_lt, pu_ck, pv_bI, pv_bV, pu_bR, pv_bL, pv_nt, pu_us, pu_un, mL_0, mL_1, mL_2, mL_3, mL_4, mL_5, mL_6, mL_7, mL_8, mL_9, mL_10, mL_11, mL_12, mL_13, mL_14, mL_15, mL_16, mL_23, mL_24, mL_32, mL_48, mL_64, mL_99, mL_100, mL_200, mL_336, mL_576, mL_768, mL_800, mL_999, mL_4095, mL_4096, mL_m1, nI_leI, nI_ltI, nI_eq, nI_clamp, nI_add, pk_mul, nI_nu, bI_eq0, bI_eq1, bo_ft, Bool.true_eq_false, Bool.false_eq_true, pu_of, pu_of24, pu_onward, pu_frq, if_true, if_false, true_or, or_true, false_or, or_false, and_true, true_and, and_false, false_and, not_true_eq_false, not_false_eq_true, if_neg, if_pos, f11_gap_8, f11_gap_44, f11_gap_53, h3, up, e, pu_ixN']
    · intro g
      show f11_gap_8 f11_gap_59 (g + 1) (nI (mo (rg_u s) (lv s) (rg_N s)).2) (nI (gn (rg_u s) (lv s) 100000000 (rg_N s))) (nI (rg_N s)) t = _
      simp (disch := omega) only [pv_lt, pu_ck, pv_bI, pv_bV, pu_bR, pv_bL, pv_nt, pu_us, pu_un, mL_0, mL_1, mL_2, mL_3, mL_4, mL_5, mL_6, mL_7, mL_8, mL_9, mL_10, mL_11, mL_12, mL_13, mL_14, mL_15, mL_16, mL_23, mL_24, mL_32, mL_48, mL_64, mL_99, mL_100, mL_200, mL_336, mL_576, mL_768, mL_800, mL_999, mL_4095, mL_4096, mL_m1, nI_leI, nI_ltI, nI_eq, nI_clamp, nI_add, pk_mul, nI_nu, bI_eq0, bI_eq1, bo_ft, Bool.true_eq_false, Bool.false_eq_true, pu_of, pu_of24, pu_onward, pu_frq, if_true, if_false, true_or, or_true, false_or, or_false, and_true, true_and, and_false, false_and, not_true_eq_false, not_false_eq_true, if_neg, if_pos, f11_gap_8, h3]
  rw [ru]
  obtain ⟨a1, a2, a3⟩ := gn_ok (u := rg_u s) (v := lv s) (c := 100000000) (rg_N s)
  rcases mo_ok (u := rg_u s) (v := lv s) (rg_N s) hN with ⟨i1, i2, i3⟩ | ⟨i1, i2, i3, i4⟩
  · have g1 : gn (rg_u s) (lv s) 100000000 (rg_N s) = 100000000 := by
      rcases a3 with a3 | ⟨x, x1, x2, _⟩
      · exact a3
      · rw [i3 x x1] at x2; exact absurd x2 (by decide)
    have g0 : gp s = 0 := by
      unfold gp
      rw [i2]
      omega
    rw [g1, g0]
    simp (disch := omega) only [pv_lt, pu_ck, pv_bI, pv_bV, pu_bR, pv_bL, pv_nt, pu_us, pu_un, mL_0, mL_1, mL_2, mL_3, mL_4, mL_5, mL_6, mL_7, mL_8, mL_9, mL_10, mL_11, mL_12, mL_13, mL_14, mL_15, mL_16, mL_23, mL_24, mL_32, mL_48, mL_64, mL_99, mL_100, mL_200, mL_336, mL_576, mL_768, mL_800, mL_999, mL_4095, mL_4096, mL_m1, nI_leI, nI_ltI, nI_eq, nI_clamp, nI_add, pk_mul, nI_nu, bI_eq0, bI_eq1, bo_ft, Bool.true_eq_false, Bool.false_eq_true, pu_of, pu_of24, pu_onward, pu_frq, if_true, if_false, true_or, or_true, false_or, or_false, and_true, true_and, and_false, false_and, not_true_eq_false, not_false_eq_true, if_neg, if_pos, f11_gap_59, f11_gap_73, mL_much]
  · have eq := gn_eq (c := (mo (rg_u s) (lv s) (rg_N s)).2) (c' := 100000000) i1 i2 i3.symm (by have := lv_b (n := (mo (rg_u s) (lv s) (rg_N s)).1) O.1; omega)
    have a4 := a2 _ i1 i2
    have lb := lv_b (n := (mo (rg_u s) (lv s) (rg_N s)).1) O.1
    have sb : nI (mo (rg_u s) (lv s) (rg_N s)).2 - nI (gn (rg_u s) (lv s) 100000000 (rg_N s)) = nI (gp s) := by
      unfold gp
      rw [eq]
      exact pk_sub (by omega)
    simp (disch := omega) only [pv_lt, pu_ck, pv_bI, pv_bV, pu_bR, pv_bL, pv_nt, pu_us, pu_un, mL_0, mL_1, mL_2, mL_3, mL_4, mL_5, mL_6, mL_7, mL_8, mL_9, mL_10, mL_11, mL_12, mL_13, mL_14, mL_15, mL_16, mL_23, mL_24, mL_32, mL_48, mL_64, mL_99, mL_100, mL_200, mL_336, mL_576, mL_768, mL_800, mL_999, mL_4095, mL_4096, mL_m1, nI_leI, nI_ltI, nI_eq, nI_clamp, nI_add, pk_mul, nI_nu, bI_eq0, bI_eq1, bo_ft, Bool.true_eq_false, Bool.false_eq_true, pu_of, pu_of24, pu_onward, pu_frq, if_true, if_false, true_or, or_true, false_or, or_false, and_true, true_and, and_false, false_and, not_true_eq_false, not_false_eq_true, if_neg, if_pos, f11_gap_59, f11_gap_73, mL_much, sb]
/-! split -/
def spP (s : rg_T) : Nat := (rg_p s (mo (rg_u s) (lv s) (rg_N s)).1 + 4096 - (mo (rg_u s) (lv s) (rg_N s)).2 + (mo (rg_u s) (lv s) (rg_N s)).2 / 2) % 4096
def spl (s : rg_T) : Int32 := if (mo (rg_u s) (lv s) (rg_N s)).1 = 24 then nu 24 else if rg_tk s (spP s) = true then nu 24 else nI (spP s)
theorem sp_mask {p l : Nat} (hp : p < 4096) (hl : l ≤ 4096) : (nI p - nI l + nI (l / 2)) &&& 4095 = nI ((p + 4096 - l + l / 2) % 4096) := by
  rw [pk_and _ 12 (by decide)]
  congr 1
  have h0 : (nI p - nI l + nI (l / 2)).toBitVec = BitVec.ofNat 32 p - BitVec.ofNat 32 l + BitVec.ofNat 32 (l / 2) := rfl
  rw [h0]
  simp only [BitVec.toNat_add, BitVec.toNat_sub, BitVec.toNat_ofNat]
  omega
theorem pc_split {t : sr_t} {s : rg_T} (C : rg_C t 0 s) (K : rg_K t 0 s) (O : rg_ok s) : F3_placeToSplit 0 t = some (.inl (some (sr_i (spl s))), t) := by
  have hN := O.1.1
  have e1 := pc_loaded C K O
  obtain ⟨m7, k7⟩ := pc_load7 C K O
  have ml := mo_le (u := rg_u s) (v := lv s) (n := rg_N s) hN
  have mb := mo_2b (u := rg_u s) (v := lv s) (c := 4096) (n := rg_N s) hN (fun x => lv_b O.1)
  unfold F3_placeToSplit
  rw [e1, pu_bR (by omega), if_neg (by decide)]
  unfold spl
  rcases mo_ok (u := rg_u s) (v := lv s) (rg_N s) hN with ⟨i1, i2, i3⟩ | ⟨i1, i2, i3, i4⟩
  · rw [if_pos (by omega), if_pos i1]
    rfl
  · rw [if_neg (by omega), if_neg (by omega)]
    have p1 := (C.1.2.2 _ i1).1
    have pb := O.1.2.2.2.1 _ i1
    have dv : nI (mo (rg_u s) (lv s) (rg_N s)).2 / 2 = nI ((mo (rg_u s) (lv s) (rg_N s)).2 / 2) := pk_div (d := 2) (by omega) (by omega) (by omega)
    have mk : (t.1 2 (25 * 0 + (mo (rg_u s) (lv s) (rg_N s)).1) 1 - t.1 2 (25 * 0 + (mo (rg_u s) (lv s) (rg_N s)).1) 7 + t.1 2 (25 * 0 + (mo (rg_u s) (lv s) (rg_N s)).1) 7 / 2) &&& 4095 = nI (spP s) := by
      rw [p1, m7, dv]
      exact sp_mask pb mb
    have tk := pu_taken (p := spP s) C.1 O.1 (by omega) (by unfold spP; omega)
    rw [mk, tk, pv_bI]
    cases rg_tk s (spP s) with
    | true => rfl
    | false => rfl
theorem pr_split {t : sr_t} {s : rg_T} (R : rg_RB t s) (O : rg_ok s) : F11_split t = some (.inl (some (sr_i (spl s))), t) := by
  have hN := O.1.1
  have h3 := R.1.1
  have e1 := pr_loaded R O
  have mb := mo_2b (u := rg_u s) (v := lv s) (c := 4096) (n := rg_N s) hN (fun x => lv_b O.1)
  unfold F11_split
  rw [e1, pv_bI]
  unfold spl
  rcases mo_ok (u := rg_u s) (v := lv s) (rg_N s) hN with ⟨i1, i2, i3⟩ | ⟨i1, i2, i3, i4⟩
  · rw [i1, if_pos (show nu 24 = -1 from rfl), if_pos (rfl : 24 = 24)]
    rfl
  · rw [if_neg (show ¬ (mo (rg_u s) (lv s) (rg_N s)).1 = 24 by omega), nu_lt (by omega), if_neg (nI_m1 (by omega))]
    have e2 := pu_loadOf R O.1 i1
    rw [← lv_up i1 i2, ← i3] at e2
    have p1 := (R.2 _ i1).1
    have pb := O.1.2.2.2.1 _ i1
    have pl : spP s < 4096 := by unfold spP; omega
    have dv : nI (mo (rg_u s) (lv s) (rg_N s)).2 / nI 2 = nI ((mo (rg_u s) (lv s) (rg_N s)).2 / 2) := pk_div (by omega) (by omega) (by omega)
    have sb : nI (rg_p s (mo (rg_u s) (lv s) (rg_N s)).1 + 4096) - nI (mo (rg_u s) (lv s) (rg_N s)).2 = nI (rg_p s (mo (rg_u s) (lv s) (rg_N s)).1 + 4096 - (mo (rg_u s) (lv s) (rg_N s)).2) := pk_sub (by omega)
    have rm : nI (rg_p s (mo (rg_u s) (lv s) (rg_N s)).1 + 4096 - (mo (rg_u s) (lv s) (rg_N s)).2 + (mo (rg_u s) (lv s) (rg_N s)).2 / 2) - nI (rg_p s (mo (rg_u s) (lv s) (rg_N s)).1 + 4096 - (mo (rg_u s) (lv s) (rg_N s)).2 + (mo (rg_u s) (lv s) (rg_N s)).2 / 2) / nI 4096 * nI 4096 = nI (spP s) := pk_rem96 (by omega)
    have go : f11_split_43 f11_split_63 f11_split_71 sr_fu (nI (spP s)) (nI 0) t = some (.inl (some (sr_i (if rg_tk s (spP s) = true then nu 24 else nI (spP s)))), t) := by
      refine pu_forX (N := rg_N s) (L := fun f n => f11_split_43 f11_split_63 f11_split_71 f (nI (spP s)) (nI n) t) (Q := fun n => ∀ j, j < n → rg_tkn s (spP s) j = false) ?_ ?_ (by unfold sr_fu; omega) (fun j hj => by omega)
      · intro n g hn hno
        have pn := (R.2 n hn).1
        have pnb := O.1.2.2.2.1 n hn
        show (f11_split_43 f11_split_63 f11_split_71 (g + 1) (nI (spP s)) (nI n) t = f11_split_43 f11_split_63 f11_split_71 g (nI (spP s)) (nI (n + 1)) t ∧ _) ∨ f11_split_43 f11_split_63 f11_split_71 (g + 1) (nI (spP s)) (nI n) t = _
        by_cases e : rg_p s n = spP s
        · right
          have ef : fi (rg_tkn s (spP s)) (rg_N s) = n := fi_eq (by omega) hno (fun _ => decide_eq_true e)
          have et : rg_tk s (spP s) = true := by unfold rg_tk; rw [ef]; exact decide_eq_true hn
          rw [if_pos et]
          simp (disch := omega) only [pv_lt, pu_ck, pv_bI, pv_bV, pu_bR, pv_bL, pv_nt, pu_us, pu_un, mL_0, mL_1, mL_2, mL_3, mL_4, mL_5, mL_6, mL_7, mL_8, mL_9, mL_10, mL_11, mL_12, mL_13, mL_14, mL_15, mL_16, mL_23, mL_24, mL_32, mL_48, mL_64, mL_99, mL_100, mL_200, mL_336, mL_576, mL_768, mL_800, mL_999, mL_4095, mL_4096, mL_m1, nI_leI, nI_ltI, nI_eq, nI_clamp, nI_add, pk_mul, nI_nu, bI_eq0, bI_eq1, bo_ft, Bool.true_eq_false, Bool.false_eq_true, pu_of, pu_of24, pu_onward, pu_frq, if_true, if_false, true_or, or_true, false_or, or_false, and_true, true_and, and_false, false_and, not_true_eq_false, not_false_eq_true, if_neg, if_pos, f11_split_43, f11_split_63, h3, pn, e, pu_ixN']
        · left
          refine ⟨?_, fun j hj => ?_⟩
          · simp (disch := omega) only [pv_lt, pu_ck, pv_bI, pv_bV, pu_bR, pv_bL, pv_nt, pu_us, pu_un, mL_0, mL_1, mL_2, mL_3, mL_4, mL_5, mL_6, mL_7, mL_8, mL_9, mL_10, mL_11, mL_12, mL_13, mL_14, mL_15, mL_16, mL_23, mL_24, mL_32, mL_48, mL_64, mL_99, mL_100, mL_200, mL_336, mL_576, mL_768, mL_800, mL_999, mL_4095, mL_4096, mL_m1, nI_leI, nI_ltI, nI_eq, nI_clamp, nI_add, pk_mul, nI_nu, bI_eq0, bI_eq1, bo_ft, Bool.true_eq_false, Bool.false_eq_true, pu_of, pu_of24, pu_onward, pu_frq, if_true, if_false, true_or, or_true, false_or, or_false, and_true, true_and, and_false, false_and, not_true_eq_false, not_false_eq_true, if_neg, if_pos, f11_split_43, h3, pn, e, pu_ixN']
          · by_cases ej : j = n
            · rw [ej]; exact decide_eq_false e
            · exact hno j (by omega)
      · intro g hno
        have ef : fi (rg_tkn s (spP s)) (rg_N s) = rg_N s := fi_eq (by omega) hno (fun h => by omega)
        have et : rg_tk s (spP s) = false := by unfold rg_tk; rw [ef]; exact decide_eq_false (by omega)
        rw [if_neg (by rw [et]; decide)]
        show f11_split_43 f11_split_63 f11_split_71 (g + 1) (nI (spP s)) (nI (rg_N s)) t = _
        simp (disch := omega) only [pv_lt, pu_ck, pv_bI, pv_bV, pu_bR, pv_bL, pv_nt, pu_us, pu_un, mL_0, mL_1, mL_2, mL_3, mL_4, mL_5, mL_6, mL_7, mL_8, mL_9, mL_10, mL_11, mL_12, mL_13, mL_14, mL_15, mL_16, mL_23, mL_24, mL_32, mL_48, mL_64, mL_99, mL_100, mL_200, mL_336, mL_576, mL_768, mL_800, mL_999, mL_4095, mL_4096, mL_m1, nI_leI, nI_ltI, nI_eq, nI_clamp, nI_add, pk_mul, nI_nu, bI_eq0, bI_eq1, bo_ft, Bool.true_eq_false, Bool.false_eq_true, pu_of, pu_of24, pu_onward, pu_frq, if_true, if_false, true_or, or_true, false_or, or_false, and_true, true_and, and_false, false_and, not_true_eq_false, not_false_eq_true, if_neg, if_pos, f11_split_43, f11_split_71, h3]
    simp (disch := omega) only [pv_lt, pu_ck, pv_bI, pv_bV, pu_bR, pv_bL, pv_nt, pu_us, pu_un, mL_0, mL_1, mL_2, mL_3, mL_4, mL_5, mL_6, mL_7, mL_8, mL_9, mL_10, mL_11, mL_12, mL_13, mL_14, mL_15, mL_16, mL_23, mL_24, mL_32, mL_48, mL_64, mL_99, mL_100, mL_200, mL_336, mL_576, mL_768, mL_800, mL_999, mL_4095, mL_4096, mL_m1, nI_leI, nI_ltI, nI_eq, nI_clamp, nI_add, pk_mul, nI_nu, bI_eq0, bI_eq1, bo_ft, Bool.true_eq_false, Bool.false_eq_true, pu_of, pu_of24, pu_onward, pu_frq, if_true, if_false, true_or, or_true, false_or, or_false, and_true, true_and, and_false, false_and, not_true_eq_false, not_false_eq_true, if_neg, if_pos, e2, p1, dv, sb, rm, go, pu_ixN']
end
