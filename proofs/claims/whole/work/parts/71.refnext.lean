section
/-! the reference's tables, next, arc -/
/-- the reference's nodes and tables, its degree apart -/
def rg_RN (t : sr_t) (s : rg_T) : Prop := (∃ d, 1 ≤ d ∧ d ≤ 8 ∧ rg_RB t (rg_sd s d)) ∧ ∀ n, n < rg_N s → rg_rt t 27 (14 * n) (rg_t s n)
theorem rg_RN_of {t : sr_t} {s : rg_T} (R : rg_R t s) (O : rg_ok s) : rg_RN t s := ⟨⟨rg_d s, O.1.2.2.1.1, O.1.2.2.1.2, R.1⟩, R.2⟩
theorem rg_RN_hd {t : sr_t} {s : rg_T} (R : rg_RN t s) : t.1 11 0 1 = nI (rg_N s) ∧ t.1 11 0 7 = nI (2 ^ rg_b s) := by
  obtain ⟨⟨d, _, _, R1⟩, _⟩ := R
  exact ⟨R1.1.1, R1.1.2.1⟩
theorem rg_RN_nd {t : sr_t} {s : rg_T} {n : Nat} (R : rg_RN t s) (hn : n < rg_N s) : t.1 24 0 n = nI (rg_p s n) ∧ t.1 25 0 n = bI (rg_u s n) ∧ t.1 26 0 n = nI (rg_s s n) := by
  obtain ⟨⟨d, _, _, R1⟩, _⟩ := R
  exact R1.2 n hn
theorem rg_okB_sd {s : rg_T} {d : Nat} (O : rg_okB s) (h1 : 1 ≤ d) (h8 : d ≤ 8) : rg_okB (rg_sd s d) := ⟨O.1, O.2.1, ⟨h1, h8⟩, O.2.2.2⟩
theorem pn_upFrom1 {t : sr_t} {s : rg_T} {q : Nat} (R : rg_RN t s) (O : rg_okB s) (hq : q < 4096) : F11_upFrom (nI q) (nI 1) t = some (.inl (some (sr_i (nu (rg_ff s q)))), t) := by
  obtain ⟨⟨d, h1, h8, R1⟩, _⟩ := R
  exact pu_upFrom1 (s := rg_sd s d) R1 (rg_okB_sd O h1 h8) hq
theorem pn_hostOf {t : sr_t} {s : rg_T} {q : Nat} (R : rg_RN t s) (O : rg_okB s) (hq : q < 4096) : F11_hostOf (nI q) t = some (.inl (some (sr_i (nu (rg_lb s q)))), t) := by
  obtain ⟨⟨d, h1, h8, R1⟩, _⟩ := R
  exact pu_hostOf (s := rg_sd s d) R1 (rg_okB_sd O h1 h8) (by rw [pu_qn (by omega), Nat.mod_eq_of_lt hq])
theorem pn_ups {t : sr_t} {s : rg_T} (R : rg_RN t s) (O : rg_okB s) : F11_ups t = some (.inl (some (sr_i (nI (rg_up s)))), t) := by
  obtain ⟨⟨d, h1, h8, R1⟩, _⟩ := R
  exact pu_ups (s := rg_sd s d) R1 (rg_okB_sd O h1 h8)
theorem rg_RN_fr {S : Nat → Nat → Nat → Prop} {t t' : sr_t} {s : rg_T} (O : rg_ok s) (h : fr S t t') (hs : ∀ k i j, Fp_R k i j → ¬ S k i j) (R : rg_RN t s) : rg_RN t' s := by
  obtain ⟨⟨d, h1, h8, R1⟩, R2⟩ := R
  exact ⟨⟨d, h1, h8, rg_RB_fr h (fun k i j q _ => hs k i j q) R1⟩, fun n hn => rg_rt_fr (fun j _ _ => h.2 _ _ _ (hs _ _ _ (by unfold Fp_R; omega))) (O.2 n hn).2.1 (O.2 n hn).2.2.2.2.1 (R2 n hn)⟩
theorem pu_tab {t : sr_t} {n w : Nat} (hn : n < 24) (hw : w < 14) : F11_tableOf (nI n) (nI w) t = some (.inl (some (sr_i (t.1 27 0 (14 * n + w)))), t) := by
  simp (disch := omega) only [pu_lt, pu_ck, pu_bI, pu_bV, pu_bR, pu_bL, pu_nt, pu_us, pu_un, mL_0, mL_1, mL_2, mL_3, mL_4, mL_5, mL_6, mL_7, mL_8, mL_9, mL_10, mL_11, mL_12, mL_13, mL_14, mL_15, mL_16, mL_23, mL_24, mL_32, mL_48, mL_64, mL_99, mL_100, mL_200, mL_336, mL_576, mL_768, mL_800, mL_999, mL_4095, mL_4096, mL_m1, nI_leI, nI_ltI, nI_eq, nI_clamp, nI_add, pk_mul, nI_nu, bI_eq0, bI_eq1, bo_ft, pu_of, pu_of24, pu_onward, pu_frq, if_true, if_false, true_or, or_true, false_or, or_false, and_true, true_and, and_false, false_and, not_true_eq_false, not_false_eq_true, if_neg, if_pos, F11_tableOf]
theorem pu_tab' {t : sr_t} {n w : Nat} {v : Int32} (hn : n < 24) (hw : w < 14) (h : t.1 27 0 (14 * n + w) = v) : F11_tableOf (nI n) (nI w) t = some (.inl (some (sr_i v)), t) := by
  rw [pu_tab hn hw, h]
theorem pu_tb0 {t : sr_t} {s : rg_T} {n : Nat} (R : rg_RN t s) (O : rg_ok s) (hn : n < rg_N s) : F11_tableOf (nI n) (nI 0) t = some (.inl (some (sr_i (nI (rg_t s n 0)))), t) := pu_tab' (by have := O.1.1; omega) (by omega) (R.2 n hn).1
theorem pu_tb1 {t : sr_t} {s : rg_T} {n : Nat} (R : rg_RN t s) (O : rg_ok s) (hn : n < rg_N s) : F11_tableOf (nI n) (nI 1) t = some (.inl (some (sr_i (nI (rg_t s n 1)))), t) := pu_tab' (by have := O.1.1; omega) (by omega) (R.2 n hn).2.1
theorem pu_tb5 {t : sr_t} {s : rg_T} {n : Nat} (R : rg_RN t s) (O : rg_ok s) (hn : n < rg_N s) : F11_tableOf (nI n) (nI 5) t = some (.inl (some (sr_i (nI (rg_t s n 5)))), t) := pu_tab' (by have := O.1.1; omega) (by omega) (R.2 n hn).2.2.1
theorem pu_tb2 {t : sr_t} {s : rg_T} {n k : Nat} (R : rg_RN t s) (O : rg_ok s) (hn : n < rg_N s) (hk : k < rg_t s n 1) : F11_tableOf (nI n) (nI (2 + k)) t = some (.inl (some (sr_i (nI (rg_t s n (2 + k))))), t) := pu_tab' (by have := O.1.1; omega) (by have := (O.2 n hn).2.1; omega) (by rw [← Nat.add_assoc]; exact (R.2 n hn).2.2.2.1 k hk)
theorem pu_tb6 {t : sr_t} {s : rg_T} {n k : Nat} (R : rg_RN t s) (O : rg_ok s) (hn : n < rg_N s) (hk : k < rg_t s n 5) : F11_tableOf (nI n) (nI (6 + k)) t = some (.inl (some (sr_i (nI (rg_t s n (6 + k))))), t) := pu_tab' (by have := O.1.1; omega) (by have := (O.2 n hn).2.2.2.2.1; omega) (by rw [← Nat.add_assoc]; exact (R.2 n hn).2.2.2.2 k hk)
theorem pu_nextOf {t : sr_t} {s : rg_T} {n : Nat} (R : rg_RN t s) (O : rg_ok s) (hn : n < rg_N s) : F11_nextOf (nI n) t = some (.inl (some (sr_i (nu (rg_nx s n)))), t) := by
  have hN := O.1.1
  obtain ⟨o0, o1, o2, o3, o4, o5⟩ := O.2 n hn
  have tb1 := pu_tb1 R O hn
  refine rs_eq ?_
  simp (disch := omega) only [pu_lt, pu_ck, pu_bI, pu_bV, pu_bR, pu_bL, pu_nt, pu_us, pu_un, mL_0, mL_1, mL_2, mL_3, mL_4, mL_5, mL_6, mL_7, mL_8, mL_9, mL_10, mL_11, mL_12, mL_13, mL_14, mL_15, mL_16, mL_23, mL_24, mL_32, mL_48, mL_64, mL_99, mL_100, mL_200, mL_336, mL_576, mL_768, mL_800, mL_999, mL_4095, mL_4096, mL_m1, nI_leI, nI_ltI, nI_eq, nI_clamp, nI_add, pk_mul, nI_nu, bI_eq0, bI_eq1, bo_ft, pu_of, pu_of24, pu_onward, pu_frq, if_true, if_false, true_or, or_true, false_or, or_false, and_true, true_and, and_false, false_and, not_true_eq_false, not_false_eq_true, if_neg, if_pos, F11_nextOf, tb1]
  refine rs_loop (N := rg_t s n 1) (L := fun f k t' => f11_nextOf_9 (nI n) (f11_nextOf_31 (nI n)) (f11_nextOf_46 (nI n)) f (nI (rg_t s n 1)) (nI k) t') (fun k t' => t' = t ∧ ∀ j, j < k → rg_u s (rg_t s n (2 + j)) = false) ?_ ?_ (by unfold sr_fu; omega) ⟨rfl, fun j hj => by omega⟩
  · rintro k g t' hk ⟨rfl, hno⟩
    have hlt := o2 k hk
    have hat := pu_tb2 R O hn hk
    have hup := (rg_RN_nd R hlt).2.1
    by_cases hu : rg_u s (rg_t s n (2 + k)) = true
    · right
      have e : rg_nx s n = rg_t s n (2 + k) := by
        have e1 : fi (fun k => rg_u s (rg_t s n (2 + k))) (rg_t s n 1) = k := fi_eq (by omega) hno (fun _ => hu)
        unfold rg_nx
        rw [e1, if_pos hk]
      rw [hu] at hup
      have b1 : bI true = nI 1 := rfl
      show rs_to _ (f11_nextOf_9 (nI n) (f11_nextOf_31 (nI n)) (f11_nextOf_46 (nI n)) (g + 1) (nI (rg_t s n 1)) (nI k) t')
      simp (disch := omega) only [pu_lt, pu_ck, pu_bI, pu_bV, pu_bR, pu_bL, pu_nt, pu_us, pu_un, mL_0, mL_1, mL_2, mL_3, mL_4, mL_5, mL_6, mL_7, mL_8, mL_9, mL_10, mL_11, mL_12, mL_13, mL_14, mL_15, mL_16, mL_23, mL_24, mL_32, mL_48, mL_64, mL_99, mL_100, mL_200, mL_336, mL_576, mL_768, mL_800, mL_999, mL_4095, mL_4096, mL_m1, nI_leI, nI_ltI, nI_eq, nI_clamp, nI_add, pk_mul, nI_nu, bI_eq0, bI_eq1, bo_ft, pu_of, pu_of24, pu_onward, pu_frq, if_true, if_false, true_or, or_true, false_or, or_false, and_true, true_and, and_false, false_and, not_true_eq_false, not_false_eq_true, if_neg, if_pos, f11_nextOf_9, f11_nextOf_31, hat, hup, b1, pu_ixN']
      refine rs_ret ⟨?_, rfl⟩
      rw [e, nu_lt (by omega)]
    · left
      have hu' : rg_u s (rg_t s n (2 + k)) = false := by simpa using hu
      rw [hu'] at hup
      have b1 : ¬ bI false = nI 1 := by decide
      refine ⟨t', ⟨rfl, fun j hj => ?_⟩, ?_⟩
      · by_cases e : j = k
        · rw [e]; exact hu'
        · exact hno j (by omega)
      · show f11_nextOf_9 (nI n) (f11_nextOf_31 (nI n)) (f11_nextOf_46 (nI n)) (g + 1) (nI (rg_t s n 1)) (nI k) t' = f11_nextOf_9 (nI n) (f11_nextOf_31 (nI n)) (f11_nextOf_46 (nI n)) g (nI (rg_t s n 1)) (nI (k + 1)) t'
        simp (disch := omega) only [pu_lt, pu_ck, pu_bI, pu_bV, pu_bR, pu_bL, pu_nt, pu_us, pu_un, mL_0, mL_1, mL_2, mL_3, mL_4, mL_5, mL_6, mL_7, mL_8, mL_9, mL_10, mL_11, mL_12, mL_13, mL_14, mL_15, mL_16, mL_23, mL_24, mL_32, mL_48, mL_64, mL_99, mL_100, mL_200, mL_336, mL_576, mL_768, mL_800, mL_999, mL_4095, mL_4096, mL_m1, nI_leI, nI_ltI, nI_eq, nI_clamp, nI_add, pk_mul, nI_nu, bI_eq0, bI_eq1, bo_ft, pu_of, pu_of24, pu_onward, pu_frq, if_true, if_false, true_or, or_true, false_or, or_false, and_true, true_and, and_false, false_and, not_true_eq_false, not_false_eq_true, if_neg, if_pos, f11_nextOf_9, hat, hup, b1, pu_ixN']
  · rintro g t' ⟨rfl, hno⟩
    have e1 : fi (fun k => rg_u s (rg_t s n (2 + k))) (rg_t s n 1) = rg_t s n 1 := fi_eq (by omega) hno (fun h => absurd h (by omega))
    have e : rg_nx s n = if rg_t s n 1 = 0 then n else 24 := by unfold rg_nx; rw [e1, if_neg (by omega)]
    show rs_to _ (f11_nextOf_9 (nI n) (f11_nextOf_31 (nI n)) (f11_nextOf_46 (nI n)) (g + 1) (nI (rg_t s n 1)) (nI (rg_t s n 1)) t')
    rw [e]
    by_cases h0 : rg_t s n 1 = 0
    · simp (disch := omega) only [pu_lt, pu_ck, pu_bI, pu_bV, pu_bR, pu_bL, pu_nt, pu_us, pu_un, mL_0, mL_1, mL_2, mL_3, mL_4, mL_5, mL_6, mL_7, mL_8, mL_9, mL_10, mL_11, mL_12, mL_13, mL_14, mL_15, mL_16, mL_23, mL_24, mL_32, mL_48, mL_64, mL_99, mL_100, mL_200, mL_336, mL_576, mL_768, mL_800, mL_999, mL_4095, mL_4096, mL_m1, nI_leI, nI_ltI, nI_eq, nI_clamp, nI_add, pk_mul, nI_nu, bI_eq0, bI_eq1, bo_ft, pu_of, pu_of24, pu_onward, pu_frq, if_true, if_false, true_or, or_true, false_or, or_false, and_true, true_and, and_false, false_and, not_true_eq_false, not_false_eq_true, if_neg, if_pos, f11_nextOf_9, f11_nextOf_46, f11_nextOf_55, h0]
      exact rs_ret ⟨by rw [nu_lt (by omega)], rfl⟩
    · simp (disch := omega) only [pu_lt, pu_ck, pu_bI, pu_bV, pu_bR, pu_bL, pu_nt, pu_us, pu_un, mL_0, mL_1, mL_2, mL_3, mL_4, mL_5, mL_6, mL_7, mL_8, mL_9, mL_10, mL_11, mL_12, mL_13, mL_14, mL_15, mL_16, mL_23, mL_24, mL_32, mL_48, mL_64, mL_99, mL_100, mL_200, mL_336, mL_576, mL_768, mL_800, mL_999, mL_4095, mL_4096, mL_m1, nI_leI, nI_ltI, nI_eq, nI_clamp, nI_add, pk_mul, nI_nu, bI_eq0, bI_eq1, bo_ft, pu_of, pu_of24, pu_onward, pu_frq, if_true, if_false, true_or, or_true, false_or, or_false, and_true, true_and, and_false, false_and, not_true_eq_false, not_false_eq_true, if_neg, if_pos, f11_nextOf_9, f11_nextOf_46, f11_nextOf_55, h0]
      exact rs_ret ⟨rfl, rfl⟩
theorem pu_arcOf {t : sr_t} {s : rg_T} {n : Nat} (R : rg_RN t s) (O : rg_ok s) (hn : n < rg_N s) (hx : rg_nx s n ≠ 24) : F11_arcOf (nI n) t = some (.inl (some (sr_i (nI (rg_ar s n)))), t) := by
  have hN := O.1.1
  have hx' : rg_nx s n < rg_N s := by
    rcases rg_nx_cases O hn with h | h
    · exact absurd h hx
    · exact h.1
  have e1 := pu_nextOf R O hn
  rw [nu_lt (by omega)] at e1
  have n1 := (rg_RN_nd R hn).1
  have n2 := (rg_RN_nd R hx').1
  have p1 := O.1.2.2.2.1 n hn
  have p2 := O.1.2.2.2.1 _ hx'
  have q1 : (nI (rg_p s n)).toBitVec.toNat % 4096 = rg_p s n := by rw [pu_qn (by omega), Nat.mod_eq_of_lt p1]
  by_cases e : rg_nx s n = n
  · have ea : rg_ar s n = 4096 := by unfold rg_ar; rw [if_neg hx, if_pos e]
    rw [ea]
    simp (disch := omega) only [pu_lt, pu_ck, pu_bI, pu_bV, pu_bR, pu_bL, pu_nt, pu_us, pu_un, mL_0, mL_1, mL_2, mL_3, mL_4, mL_5, mL_6, mL_7, mL_8, mL_9, mL_10, mL_11, mL_12, mL_13, mL_14, mL_15, mL_16, mL_23, mL_24, mL_32, mL_48, mL_64, mL_99, mL_100, mL_200, mL_336, mL_576, mL_768, mL_800, mL_999, mL_4095, mL_4096, mL_m1, nI_leI, nI_ltI, nI_eq, nI_clamp, nI_add, pk_mul, nI_nu, bI_eq0, bI_eq1, bo_ft, pu_of, pu_of24, pu_onward, pu_frq, if_true, if_false, true_or, or_true, false_or, or_false, and_true, true_and, and_false, false_and, not_true_eq_false, not_false_eq_true, if_neg, if_pos, F11_arcOf, f11_arcOf_32, e1, e]
  · have ea : rg_ar s n = pu_d (rg_p s n) (rg_p s (rg_nx s n)) := by unfold rg_ar; rw [if_neg hx, if_neg e]
    have eq := pu_onq q1 p2
    rw [ea]
    simp (disch := omega) only [pu_lt, pu_ck, pu_bI, pu_bV, pu_bR, pu_bL, pu_nt, pu_us, pu_un, mL_0, mL_1, mL_2, mL_3, mL_4, mL_5, mL_6, mL_7, mL_8, mL_9, mL_10, mL_11, mL_12, mL_13, mL_14, mL_15, mL_16, mL_23, mL_24, mL_32, mL_48, mL_64, mL_99, mL_100, mL_200, mL_336, mL_576, mL_768, mL_800, mL_999, mL_4095, mL_4096, mL_m1, nI_leI, nI_ltI, nI_eq, nI_clamp, nI_add, pk_mul, nI_nu, bI_eq0, bI_eq1, bo_ft, pu_of, pu_of24, pu_onward, pu_frq, if_true, if_false, true_or, or_true, false_or, or_false, and_true, true_and, and_false, false_and, not_true_eq_false, not_false_eq_true, if_neg, if_pos, F11_arcOf, f11_arcOf_32, e1, e, n1, n2, pu_ixN']
    rw [← nL_4095, eq]
theorem pu_inArcR {t : sr_t} {s : rg_T} {n q : Nat} (R : rg_RN t s) (O : rg_ok s) (hn : n < rg_N s) (hx : rg_nx s n ≠ 24) (hq : q < 4096) : F11_isInArc (nI n) (nI q) t = some (.inl (some (sr_i (bI (decide (pu_d (rg_p s n) q < rg_ar s n))))), t) := by
  have hN := O.1.1
  have e1 := pu_arcOf R O hn hx
  have n1 := (rg_RN_nd R hn).1
  have p1 := O.1.2.2.2.1 n hn
  have q1 : (nI (rg_p s n)).toBitVec.toNat % 4096 = rg_p s n := by rw [pu_qn (by omega), Nat.mod_eq_of_lt p1]
  have eq := pu_onq q1 hq
  have l1 := pu_d_lt (rg_p s n) q
  have l2 := rg_ar_le (s := s) (n := n)
  have eq' : (nI q - nI (rg_p s n)) &&& nI 4095 = nI (pu_d (rg_p s n) q) := eq
  by_cases h : pu_d (rg_p s n) q < rg_ar s n
  · rw [decide_eq_true h]
    simp (disch := omega) only [pu_lt, pu_ck, pu_bI, pu_bV, pu_bR, pu_bL, pu_nt, pu_us, pu_un, mL_0, mL_1, mL_2, mL_3, mL_4, mL_5, mL_6, mL_7, mL_8, mL_9, mL_10, mL_11, mL_12, mL_13, mL_14, mL_15, mL_16, mL_23, mL_24, mL_32, mL_48, mL_64, mL_99, mL_100, mL_200, mL_336, mL_576, mL_768, mL_800, mL_999, mL_4095, mL_4096, mL_m1, nI_leI, nI_ltI, nI_eq, nI_clamp, nI_add, pk_mul, nI_nu, bI_eq0, bI_eq1, bo_ft, pu_of, pu_of24, pu_onward, pu_frq, if_true, if_false, true_or, or_true, false_or, or_false, and_true, true_and, and_false, false_and, not_true_eq_false, not_false_eq_true, if_neg, if_pos, F11_isInArc, f11_isInArc_23, e1, n1, eq', pu_ixN']
    rfl
  · rw [decide_eq_false h]
    simp (disch := omega) only [pu_lt, pu_ck, pu_bI, pu_bV, pu_bR, pu_bL, pu_nt, pu_us, pu_un, mL_0, mL_1, mL_2, mL_3, mL_4, mL_5, mL_6, mL_7, mL_8, mL_9, mL_10, mL_11, mL_12, mL_13, mL_14, mL_15, mL_16, mL_23, mL_24, mL_32, mL_48, mL_64, mL_99, mL_100, mL_200, mL_336, mL_576, mL_768, mL_800, mL_999, mL_4095, mL_4096, mL_m1, nI_leI, nI_ltI, nI_eq, nI_clamp, nI_add, pk_mul, nI_nu, bI_eq0, bI_eq1, bo_ft, pu_of, pu_of24, pu_onward, pu_frq, if_true, if_false, true_or, or_true, false_or, or_false, and_true, true_and, and_false, false_and, not_true_eq_false, not_false_eq_true, if_neg, if_pos, F11_isInArc, f11_isInArc_23, e1, n1, eq', pu_ixN']
    rfl
theorem pu_inArcC {t : sr_t} {s : rg_T} {r n q : Nat} (C : rg_C t r s) (K : rg_K t r s) (O : rg_ok s) (hn : n < rg_N s) (hu : rg_u s n = true) (hq : q < 4096) : F2_isInArc (25 * r + n) (nI q) t = some (.inl (some (sr_i (bI (decide (pu_d (rg_p s n) q < rg_ar s n))))), t) := by
  have n1 := (C.1.2.2 n hn).1
  have k1 := (K.2 n hn).2.1
  rw [rg_ka, if_pos hu] at k1
  have p1 := O.1.2.2.2.1 n hn
  have q1 : (nI (rg_p s n)).toBitVec.toNat % 4096 = rg_p s n := by rw [pu_qn (by omega), Nat.mod_eq_of_lt p1]
  have eq' : (nI q - nI (rg_p s n)) &&& nI 4095 = nI (pu_d (rg_p s n) q) := pu_onq q1 hq
  have l1 := pu_d_lt (rg_p s n) q
  have l2 := rg_ar_le (s := s) (n := n)
  by_cases h : pu_d (rg_p s n) q < rg_ar s n
  · rw [decide_eq_true h]
    simp (disch := omega) only [pu_lt, pu_ck, pu_bI, pu_bV, pu_bR, pu_bL, pu_nt, pu_us, pu_un, mL_0, mL_1, mL_2, mL_3, mL_4, mL_5, mL_6, mL_7, mL_8, mL_9, mL_10, mL_11, mL_12, mL_13, mL_14, mL_15, mL_16, mL_23, mL_24, mL_32, mL_48, mL_64, mL_99, mL_100, mL_200, mL_336, mL_576, mL_768, mL_800, mL_999, mL_4095, mL_4096, mL_m1, nI_leI, nI_ltI, nI_eq, nI_clamp, nI_add, pk_mul, nI_nu, bI_eq0, bI_eq1, bo_ft, pu_of, pu_of24, pu_onward, pu_frq, if_true, if_false, true_or, or_true, false_or, or_false, and_true, true_and, and_false, false_and, not_true_eq_false, not_false_eq_true, if_neg, if_pos, F2_isInArc, f2_isInArc_20, n1, k1, eq']
    rfl
  · rw [decide_eq_false h]
    simp (disch := omega) only [pu_lt, pu_ck, pu_bI, pu_bV, pu_bR, pu_bL, pu_nt, pu_us, pu_un, mL_0, mL_1, mL_2, mL_3, mL_4, mL_5, mL_6, mL_7, mL_8, mL_9, mL_10, mL_11, mL_12, mL_13, mL_14, mL_15, mL_16, mL_23, mL_24, mL_32, mL_48, mL_64, mL_99, mL_100, mL_200, mL_336, mL_576, mL_768, mL_800, mL_999, mL_4095, mL_4096, mL_m1, nI_leI, nI_ltI, nI_eq, nI_clamp, nI_add, pk_mul, nI_nu, bI_eq0, bI_eq1, bo_ft, pu_of, pu_of24, pu_onward, pu_frq, if_true, if_false, true_or, or_true, false_or, or_false, and_true, true_and, and_false, false_and, not_true_eq_false, not_false_eq_true, if_neg, if_pos, F2_isInArc, f2_isInArc_20, n1, k1, eq']
    rfl
/-- of an up node: the keys that it owns -/
def rg_ow (s : rg_T) (n q : Nat) : Bool := rg_u s n && decide (pu_d q (rg_p s n) < rg_ld s n)
theorem pu_ownsC {t : sr_t} {s : rg_T} {r n q : Nat} (C : rg_C t r s) (K : rg_K t r s) (O : rg_ok s) (hn : n < rg_N s) (hq : q < 4096) : F2_owns (25 * r + n) (nI q) t = some (.inl (some (sr_i (bI (rg_ow s n q)))), t) := by
  have n1 := (C.1.2.2 n hn).1
  have k1 := (K.2 n hn).2.2
  have p1 := O.1.2.2.2.1 n hn
  have q1 : (nI q).toBitVec.toNat % 4096 = q := by rw [pu_qn (by omega), Nat.mod_eq_of_lt hq]
  have eq' : (nI (rg_p s n) - nI q) &&& nI 4095 = nI (pu_d q (rg_p s n)) := pu_onq q1 p1
  have l1 := pu_d_lt q (rg_p s n)
  have l2 := rg_ld_le (s := s) (n := n)
  unfold rg_kl at k1
  unfold rg_ow
  by_cases hu : rg_u s n = true
  · rw [if_pos hu] at k1
    rw [hu]
    by_cases h : pu_d q (rg_p s n) < rg_ld s n
    · rw [decide_eq_true h]
      simp (disch := omega) only [pu_lt, pu_ck, pu_bI, pu_bV, pu_bR, pu_bL, pu_nt, pu_us, pu_un, mL_0, mL_1, mL_2, mL_3, mL_4, mL_5, mL_6, mL_7, mL_8, mL_9, mL_10, mL_11, mL_12, mL_13, mL_14, mL_15, mL_16, mL_23, mL_24, mL_32, mL_48, mL_64, mL_99, mL_100, mL_200, mL_336, mL_576, mL_768, mL_800, mL_999, mL_4095, mL_4096, mL_m1, nI_leI, nI_ltI, nI_eq, nI_clamp, nI_add, pk_mul, nI_nu, bI_eq0, bI_eq1, bo_ft, pu_of, pu_of24, pu_onward, pu_frq, if_true, if_false, true_or, or_true, false_or, or_false, and_true, true_and, and_false, false_and, not_true_eq_false, not_false_eq_true, if_neg, if_pos, F2_owns, f2_owns_20, n1, k1, eq']
      rfl
    · rw [decide_eq_false h]
      simp (disch := omega) only [pu_lt, pu_ck, pu_bI, pu_bV, pu_bR, pu_bL, pu_nt, pu_us, pu_un, mL_0, mL_1, mL_2, mL_3, mL_4, mL_5, mL_6, mL_7, mL_8, mL_9, mL_10, mL_11, mL_12, mL_13, mL_14, mL_15, mL_16, mL_23, mL_24, mL_32, mL_48, mL_64, mL_99, mL_100, mL_200, mL_336, mL_576, mL_768, mL_800, mL_999, mL_4095, mL_4096, mL_m1, nI_leI, nI_ltI, nI_eq, nI_clamp, nI_add, pk_mul, nI_nu, bI_eq0, bI_eq1, bo_ft, pu_of, pu_of24, pu_onward, pu_frq, if_true, if_false, true_or, or_true, false_or, or_false, and_true, true_and, and_false, false_and, not_true_eq_false, not_false_eq_true, if_neg, if_pos, F2_owns, f2_owns_20, n1, k1, eq']
      rfl
  · rw [if_neg hu] at k1
    rw [show rg_u s n = false by simpa using hu]
    simp (disch := omega) only [pu_lt, pu_ck, pu_bI, pu_bV, pu_bR, pu_bL, pu_nt, pu_us, pu_un, mL_0, mL_1, mL_2, mL_3, mL_4, mL_5, mL_6, mL_7, mL_8, mL_9, mL_10, mL_11, mL_12, mL_13, mL_14, mL_15, mL_16, mL_23, mL_24, mL_32, mL_48, mL_64, mL_99, mL_100, mL_200, mL_336, mL_576, mL_768, mL_800, mL_999, mL_4095, mL_4096, mL_m1, nI_leI, nI_ltI, nI_eq, nI_clamp, nI_add, pk_mul, nI_nu, bI_eq0, bI_eq1, bo_ft, pu_of, pu_of24, pu_onward, pu_frq, if_true, if_false, true_or, or_true, false_or, or_false, and_true, true_and, and_false, false_and, not_true_eq_false, not_false_eq_true, if_neg, if_pos, F2_owns, f2_owns_20, n1, k1, eq']
    rfl
theorem pu_ownsN {t : sr_t} {r q : Nat} (hb : rg_nob t r) (hp : True) : ∃ a : Int32, F2_owns (25 * r + 24) (nI q) t = some (.inl (some (sr_i a)), t) ∧ a = nI 0 := by
  have h := hb.2.2
  have h' : t.1 2 (25 * r + 24) 7 = nI 0 := h
  obtain ⟨j, hj, e⟩ := pk_andE (t.1 2 (25 * r + 24) 1 - nI q) (m := 4095) 12 (by decide)
  have e' : (t.1 2 (25 * r + 24) 1 - nI q) &&& nI 4095 = nI j := e
  refine ⟨nI 0, ?_, rfl⟩
  simp (disch := omega) only [pu_lt, pu_ck, pu_bI, pu_bV, pu_bR, pu_bL, pu_nt, pu_us, pu_un, mL_0, mL_1, mL_2, mL_3, mL_4, mL_5, mL_6, mL_7, mL_8, mL_9, mL_10, mL_11, mL_12, mL_13, mL_14, mL_15, mL_16, mL_23, mL_24, mL_32, mL_48, mL_64, mL_99, mL_100, mL_200, mL_336, mL_576, mL_768, mL_800, mL_999, mL_4095, mL_4096, mL_m1, nI_leI, nI_ltI, nI_eq, nI_clamp, nI_add, pk_mul, nI_nu, bI_eq0, bI_eq1, bo_ft, pu_of, pu_of24, pu_onward, pu_frq, if_true, if_false, true_or, or_true, false_or, or_false, and_true, true_and, and_false, false_and, not_true_eq_false, not_false_eq_true, if_neg, if_pos, F2_owns, f2_owns_20, h', e']
/-- an up node owns a key just if it is the first up node from it on -/
theorem rg_ow_ff {s : rg_T} {n q : Nat} (O : rg_okB s) (hn : n < rg_N s) (hq : q < 4096) : rg_ow s n q = decide (rg_ff s q = n) := by
  obtain ⟨hN, _, _, hp, hd, _⟩ := id O
  unfold rg_ow
  by_cases hu : rg_u s n = true
  · rw [hu, Bool.true_and, decide_eq_decide]
    obtain ⟨a1, a2, a3⟩ := rg_ff_up (q := q) O hn hu
    obtain ⟨b1, b2, b3⟩ := rg_lb_up (q := (rg_p s n + 4095) % 4096) O hn hu
    have pn := hp n hn
    have pa := hp _ a1
    have pb := hp _ b1
    constructor
    · intro h
      apply Decidable.byContradiction
      intro hne
      have c1 := a3 n hn hu
      have c2 := b3 _ a1 a2
      have c3 : rg_p s (rg_ff s q) ≠ rg_p s n := fun e => hne (hd _ _ a1 hn e)
      unfold rg_ld at h
      by_cases e : rg_lb s ((rg_p s n + 4095) % 4096) = n
      · rw [e] at c2
        unfold pu_d at c1 c2
        omega
      · rw [if_neg e] at h
        have c4 : rg_p s (rg_lb s ((rg_p s n + 4095) % 4096)) ≠ rg_p s n := fun q => e (hd _ _ b1 hn q)
        unfold pu_d at c1 c2 h
        omega
    · intro e
      have l := pu_d_lt q (rg_p s n)
      unfold rg_ld
      by_cases eb : rg_lb s ((rg_p s n + 4095) % 4096) = n
      · rw [if_pos eb]; exact l
      · rw [if_neg eb]
        have c1 := a3 _ b1 b2
        rw [e] at c1
        have c4 : rg_p s (rg_lb s ((rg_p s n + 4095) % 4096)) ≠ rg_p s n := fun q => eb (hd _ _ b1 hn q)
        unfold pu_d at c1 ⊢
        omega
  · rw [show rg_u s n = false by simpa using hu, Bool.false_and]
    symm
    rw [decide_eq_false_iff_not]
    intro e
    rcases am_cases (D := fun n => pu_d q (rg_p s n)) (u := rg_u s) (rg_N s) hN with ⟨h, _⟩ | ⟨h1, h2, _⟩
    · have : rg_ff s q = 24 := h
      omega
    · have h2' : rg_u s (rg_ff s q) = true := h2
      rw [e] at h2'
      exact hu h2'
end
