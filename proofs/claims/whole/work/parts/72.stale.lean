section
/-! stale -/
def sm (f : Nat → Nat) : Nat → Nat
  | 0 => 0
  | n + 1 => sm f n + f n
theorem sm_s {f : Nat → Nat} {n : Nat} : sm f (n + 1) = sm f n + f n := rfl
theorem sm_congr {f g : Nat → Nat} : ∀ n, (∀ k, k < n → f k = g k) → sm f n = sm g n := by
  intro n
  induction n with
  | zero => intro _; rfl
  | succ n ih => intro h; rw [sm_s, sm_s, ih (fun k hk => h k (by omega)), h n (by omega)]
theorem sm_le {f : Nat → Nat} {c : Nat} : ∀ n, (∀ k, k < n → f k ≤ c) → sm f n ≤ c * n := by
  intro n
  induction n with
  | zero => intro _; exact Nat.le_refl _
  | succ n ih =>
    intro h
    have a := ih (fun k hk => h k (by omega))
    have b := h n (by omega)
    rw [sm_s, Nat.mul_succ]
    omega
def rg_it (m : Nat) (f : Nat → Nat) (k : Nat) : Nat := if k < m then f k else 24
def rg_df (m1 : Nat) (f1 : Nat → Nat) (m2 : Nat) (f2 : Nat → Nat) (K : Nat) : Nat := rg_cu (fun k => rg_it m1 f1 k != rg_it m2 f2 k) K
theorem rg_it_le {m : Nat} {f : Nat → Nat} {k : Nat} (h : ∀ k, k < m → f k < 24) : rg_it m f k ≤ 24 := by
  unfold rg_it
  split
  · exact Nat.le_of_lt (h k (by assumption))
  · omega
theorem rg_df_le {m1 m2 : Nat} {f1 f2 : Nat → Nat} {K : Nat} : rg_df m1 f1 m2 f2 K ≤ K := rg_cu_le _ _
theorem rg_df_s {m1 m2 : Nat} {f1 f2 : Nat → Nat} {K : Nat} : rg_df m1 f1 m2 f2 (K + 1) = rg_df m1 f1 m2 f2 K + if rg_it m1 f1 K = rg_it m2 f2 K then 0 else 1 := by
  show rg_cu _ K + (if (rg_it m1 f1 K != rg_it m2 f2 K) then 1 else 0) = _
  unfold rg_df
  by_cases h : rg_it m1 f1 K = rg_it m2 f2 K
  · rw [if_pos h]; simp [h]
  · rw [if_neg h]; simp [h]
theorem rg_df_38 {m1 m2 : Nat} {f1 f2 : Nat → Nat} (h1 : m1 ≤ 3) (h2 : m2 ≤ 3) : rg_df m1 f1 m2 f2 8 = rg_df m1 f1 m2 f2 3 := by
  have e : ∀ k, 3 ≤ k → rg_it m1 f1 k = rg_it m2 f2 k := fun k hk => by
    unfold rg_it
    rw [if_neg (by omega), if_neg (by omega)]
  rw [rg_df_s, rg_df_s, rg_df_s, rg_df_s, rg_df_s, if_pos (e 3 (by omega)), if_pos (e 4 (by omega)), if_pos (e 5 (by omega)), if_pos (e 6 (by omega)), if_pos (e 7 (by omega))]
  rfl
theorem pu_atU {t : sr_t} {i m k : Nat} {f : Nat → Nat} (R : rg_row t i m f) (hm : m ≤ 8) (hf : ∀ k, k < m → f k < 24) (hk : k < 2 ^ 31) : F4_at i (nI k) t = some (.inl (some (sr_i (nu (rg_it m f k)))), t) := by
  unfold rg_it
  by_cases h : k < m
  · rw [if_pos h, nu_lt (hf k h)]; exact pu_at R hm h
  · rw [if_neg h]; exact pu_atO R hm (by omega) hk
theorem pu_diffC {t : sr_t} {i j m1 m2 : Nat} {f1 f2 : Nat → Nat} (R1 : rg_row t i m1 f1) (R2 : rg_row t j m2 f2) (h1 : m1 ≤ 8) (h2 : m2 ≤ 8) (g1 : ∀ k, k < m1 → f1 k < 24) (g2 : ∀ k, k < m2 → f2 k < 24) : F4_differencesTo i j t = some (.inl (some (sr_i (nI (rg_df m1 f1 m2 f2 8)))), t) := by
  refine pu_for (N := 8) (L := fun f n => f4_differencesTo_4 i j (f4_differencesTo_35 i j) f (nI (rg_df m1 f1 m2 f2 n)) (nI n) t) ?_ ?_ (pu_fu (by omega))
  · intro n g hn
    have a1 := pu_atU (k := n) R1 h1 g1 (by omega)
    have a2 := pu_atU (k := n) R2 h2 g2 (by omega)
    have l1 := rg_it_le (k := n) g1
    have l2 := rg_it_le (k := n) g2
    show f4_differencesTo_4 i j (f4_differencesTo_35 i j) (g + 1) (nI (rg_df m1 f1 m2 f2 n)) (nI n) t = f4_differencesTo_4 i j (f4_differencesTo_35 i j) g (nI (rg_df m1 f1 m2 f2 (n + 1))) (nI (n + 1)) t
    rw [rg_df_s]
    by_cases h : rg_it m1 f1 n = rg_it m2 f2 n
    · rw [if_pos h]
      simp (disch := omega) only [pu_lt, pu_ck, pu_bI, pu_bV, pu_bR, pu_bL, pu_nt, pu_us, pu_un, mL_0, mL_1, mL_2, mL_3, mL_4, mL_5, mL_6, mL_7, mL_8, mL_9, mL_10, mL_11, mL_12, mL_13, mL_14, mL_15, mL_16, mL_23, mL_24, mL_32, mL_48, mL_64, mL_99, mL_100, mL_200, mL_336, mL_576, mL_768, mL_800, mL_999, mL_4095, mL_4096, mL_m1, nI_leI, nI_ltI, nI_eq, nI_clamp, nI_add, pk_mul, nI_nu, bI_eq0, bI_eq1, bo_ft, pu_of, pu_of24, pu_onward, pu_frq, if_true, if_false, true_or, or_true, false_or, or_false, and_true, true_and, and_false, false_and, not_true_eq_false, not_false_eq_true, if_neg, if_pos, f4_differencesTo_4, f4_differencesTo_29, a1, a2, h, Nat.add_zero]
    · rw [if_neg h]
      have h' : ¬ nu (rg_it m1 f1 n) = nu (rg_it m2 f2 n) := fun e => h ((nu_eq l1 l2).mp e)
      simp (disch := omega) only [pu_lt, pu_ck, pu_bI, pu_bV, pu_bR, pu_bL, pu_nt, pu_us, pu_un, mL_0, mL_1, mL_2, mL_3, mL_4, mL_5, mL_6, mL_7, mL_8, mL_9, mL_10, mL_11, mL_12, mL_13, mL_14, mL_15, mL_16, mL_23, mL_24, mL_32, mL_48, mL_64, mL_99, mL_100, mL_200, mL_336, mL_576, mL_768, mL_800, mL_999, mL_4095, mL_4096, mL_m1, nI_leI, nI_ltI, nI_eq, nI_clamp, nI_add, pk_mul, nI_nu, bI_eq0, bI_eq1, bo_ft, pu_of, pu_of24, pu_onward, pu_frq, if_true, if_false, true_or, or_true, false_or, or_false, and_true, true_and, and_false, false_and, not_true_eq_false, not_false_eq_true, if_neg, if_pos, f4_differencesTo_4, f4_differencesTo_29, a1, a2, h']
  · intro g
    show f4_differencesTo_4 i j (f4_differencesTo_35 i j) (g + 1) (nI (rg_df m1 f1 m2 f2 8)) (nI 8) t = _
    simp (disch := omega) only [pu_lt, pu_ck, pu_bI, pu_bV, pu_bR, pu_bL, pu_nt, pu_us, pu_un, mL_0, mL_1, mL_2, mL_3, mL_4, mL_5, mL_6, mL_7, mL_8, mL_9, mL_10, mL_11, mL_12, mL_13, mL_14, mL_15, mL_16, mL_23, mL_24, mL_32, mL_48, mL_64, mL_99, mL_100, mL_200, mL_336, mL_576, mL_768, mL_800, mL_999, mL_4095, mL_4096, mL_m1, nI_leI, nI_ltI, nI_eq, nI_clamp, nI_add, pk_mul, nI_nu, bI_eq0, bI_eq1, bo_ft, pu_of, pu_of24, pu_onward, pu_frq, if_true, if_false, true_or, or_true, false_or, or_false, and_true, true_and, and_false, false_and, not_true_eq_false, not_false_eq_true, if_neg, if_pos, f4_differencesTo_4, f4_differencesTo_35]
def rg_sl (s : rg_T) (n : Nat) : Nat := rg_df (rg_t s n 1) (fun k => rg_t s n (2 + k)) (rg_lay s (rg_b s) (rg_d s) n 1) (fun k => rg_lay s (rg_b s) (rg_d s) n (2 + k)) 8 + rg_df (rg_t s n 5) (fun k => rg_t s n (6 + k)) (rg_lay s (rg_b s) (rg_d s) n 5) (fun k => rg_lay s (rg_b s) (rg_d s) n (6 + k)) 8 + if rg_t s n 0 = rg_lay s (rg_b s) (rg_d s) n 0 then 0 else 1
theorem rg_sl_le {s : rg_T} {n : Nat} : rg_sl s n ≤ 17 := by
  unfold rg_sl
  have a := rg_df_le (m1 := rg_t s n 1) (f1 := fun k => rg_t s n (2 + k)) (m2 := rg_lay s (rg_b s) (rg_d s) n 1) (f2 := fun k => rg_lay s (rg_b s) (rg_d s) n (2 + k)) (K := 8)
  have b := rg_df_le (m1 := rg_t s n 5) (f1 := fun k => rg_t s n (6 + k)) (m2 := rg_lay s (rg_b s) (rg_d s) n 5) (f2 := fun k => rg_lay s (rg_b s) (rg_d s) n (6 + k)) (K := 8)
  split <;> omega
theorem pu_staleC {t : sr_t} {s : rg_T} {r n : Nat} (C : rg_C t r s) (O : rg_ok s) (hr : r < 2) (hn : n < rg_N s) (hu : rg_u s n = true) : ∃ t', F3_staleOf r (25 * r + n) t = some (.inl (some (sr_i (nI (rg_sl s n)))), t') ∧ fr (S_tab (50 + r)) t t' := by
  have hN := O.1.1
  obtain ⟨t1, e1, e2, e3⟩ := pu_layInto (i1 := 50 + r) C.1 O.1 hr hn hu
  have L := rg_tokL (b := rg_b s) (d := rg_d s) O.1 hn hu O.1.2.1.2 O.1.2.2.1.1 O.1.2.2.1.2
  have T := O.2 n hn
  have C1 := rg_tab_fr e3 (fun k j => ⟨by unfold S_tab; omega, fun hk => ⟨by unfold S_tab; omega, by unfold S_tab; omega⟩⟩) (C.2 n hn)
  have d1 := pu_diffC C1.2.1 e2.2.1 (by have := T.2.1; omega) (by have := L.2.1; omega) (fun k hk => by have := T.2.2.1 k hk; omega) (fun k hk => by have := L.2.2.1 k hk; omega)
  have d2 := pu_diffC C1.2.2 e2.2.2 T.2.2.2.2.1 L.2.2.2.2.1 (fun k hk => by have := T.2.2.2.2.2 k hk; omega) (fun k hk => by have := L.2.2.2.2.2 k hk; omega)
  have b1 := C1.1
  have b2 := e2.1
  have t0 := T.1
  have l0 := L.1
  refine ⟨t1, ?_, e3⟩
  unfold rg_sl
  by_cases h : rg_t s n 0 = rg_lay s (rg_b s) (rg_d s) n 0
  · rw [if_pos h]
    simp (disch := omega) only [pu_lt, pu_ck, pu_bI, pu_bV, pu_bR, pu_bL, pu_nt, pu_us, pu_un, mL_0, mL_1, mL_2, mL_3, mL_4, mL_5, mL_6, mL_7, mL_8, mL_9, mL_10, mL_11, mL_12, mL_13, mL_14, mL_15, mL_16, mL_23, mL_24, mL_32, mL_48, mL_64, mL_99, mL_100, mL_200, mL_336, mL_576, mL_768, mL_800, mL_999, mL_4095, mL_4096, mL_m1, nI_leI, nI_ltI, nI_eq, nI_clamp, nI_add, pk_mul, nI_nu, bI_eq0, bI_eq1, bo_ft, pu_of, pu_of24, pu_onward, pu_frq, if_true, if_false, true_or, or_true, false_or, or_false, and_true, true_and, and_false, false_and, not_true_eq_false, not_false_eq_true, if_neg, if_pos, F3_staleOf, e1, F7_differencesTo, f7_differencesTo_39, d1, d2, b1, b2, h, Nat.add_zero]
  · rw [if_neg h]
    simp (disch := omega) only [pu_lt, pu_ck, pu_bI, pu_bV, pu_bR, pu_bL, pu_nt, pu_us, pu_un, mL_0, mL_1, mL_2, mL_3, mL_4, mL_5, mL_6, mL_7, mL_8, mL_9, mL_10, mL_11, mL_12, mL_13, mL_14, mL_15, mL_16, mL_23, mL_24, mL_32, mL_48, mL_64, mL_99, mL_100, mL_200, mL_336, mL_576, mL_768, mL_800, mL_999, mL_4095, mL_4096, mL_m1, nI_leI, nI_ltI, nI_eq, nI_clamp, nI_add, pk_mul, nI_nu, bI_eq0, bI_eq1, bo_ft, pu_of, pu_of24, pu_onward, pu_frq, if_true, if_false, true_or, or_true, false_or, or_false, and_true, true_and, and_false, false_and, not_true_eq_false, not_false_eq_true, if_neg, if_pos, F3_staleOf, e1, F7_differencesTo, f7_differencesTo_39, d1, d2, b1, b2, h]
theorem pu_differ {t : sr_t} {n F M m1 m2 : Nat} {f1 f2 : Nat → Nat} (hn : n < 24) (hF : F + M ≤ 14) (h1 : m1 ≤ M) (h2 : m2 ≤ M) (g1 : ∀ k, k < m1 → f1 k < 24 ∧ t.1 27 0 (14 * n + (F + k)) = nI (f1 k)) (g2 : ∀ k, k < m2 → f2 k < 24 ∧ t.1 41 0 (F + k) = nI (f2 k)) : F11_differ (nI F) (nI M) (nI n) (nI m1) (nI m2) t = some (.inl (some (sr_i (nI (rg_df m1 f1 m2 f2 M)))), t) := by
  refine pu_for (N := M) (L := fun f k => f11_differ_6 (nI F) (nI M) (nI n) (nI m1) (nI m2) (f11_differ_89 (nI F) (nI M) (nI n) (nI m1) (nI m2)) f (nI (rg_df m1 f1 m2 f2 k)) (nI k) t) ?_ ?_ (pu_fu (by omega))
  · intro k g hk
    show f11_differ_6 (nI F) (nI M) (nI n) (nI m1) (nI m2) (f11_differ_89 (nI F) (nI M) (nI n) (nI m1) (nI m2)) (g + 1) (nI (rg_df m1 f1 m2 f2 k)) (nI k) t = f11_differ_6 (nI F) (nI M) (nI n) (nI m1) (nI m2) (f11_differ_89 (nI F) (nI M) (nI n) (nI m1) (nI m2)) g (nI (rg_df m1 f1 m2 f2 (k + 1))) (nI (k + 1)) t
    rw [rg_df_s]
    by_cases a : k < m1
    · obtain ⟨a1, a2⟩ := g1 k a
      have tb := pu_tab' hn (show F + k < 14 by omega) a2
      have e1 : rg_it m1 f1 k = f1 k := if_pos a
      by_cases b : k < m2
      · obtain ⟨b1, b2⟩ := g2 k b
        have e2 : rg_it m2 f2 k = f2 k := if_pos b
        rw [e1, e2]
        by_cases h : f1 k = f2 k
        · rw [if_pos h]
          simp (disch := omega) only [pu_lt, pu_ck, pu_bI, pu_bV, pu_bR, pu_bL, pu_nt, pu_us, pu_un, mL_0, mL_1, mL_2, mL_3, mL_4, mL_5, mL_6, mL_7, mL_8, mL_9, mL_10, mL_11, mL_12, mL_13, mL_14, mL_15, mL_16, mL_23, mL_24, mL_32, mL_48, mL_64, mL_99, mL_100, mL_200, mL_336, mL_576, mL_768, mL_800, mL_999, mL_4095, mL_4096, mL_m1, nI_leI, nI_ltI, nI_eq, nI_clamp, nI_add, pk_mul, nI_nu, bI_eq0, bI_eq1, bo_ft, pu_of, pu_of24, pu_onward, pu_frq, if_true, if_false, true_or, or_true, false_or, or_false, and_true, true_and, and_false, false_and, not_true_eq_false, not_false_eq_true, if_neg, if_pos, f11_differ_6, f11_differ_24, f11_differ_38, f11_differ_79, f11_differ_80, tb, b2, h, pu_ixN', Nat.add_zero]
        · rw [if_neg h]
          simp (disch := omega) only [pu_lt, pu_ck, pu_bI, pu_bV, pu_bR, pu_bL, pu_nt, pu_us, pu_un, mL_0, mL_1, mL_2, mL_3, mL_4, mL_5, mL_6, mL_7, mL_8, mL_9, mL_10, mL_11, mL_12, mL_13, mL_14, mL_15, mL_16, mL_23, mL_24, mL_32, mL_48, mL_64, mL_99, mL_100, mL_200, mL_336, mL_576, mL_768, mL_800, mL_999, mL_4095, mL_4096, mL_m1, nI_leI, nI_ltI, nI_eq, nI_clamp, nI_add, pk_mul, nI_nu, bI_eq0, bI_eq1, bo_ft, pu_of, pu_of24, pu_onward, pu_frq, if_true, if_false, true_or, or_true, false_or, or_false, and_true, true_and, and_false, false_and, not_true_eq_false, not_false_eq_true, if_neg, if_pos, f11_differ_6, f11_differ_24, f11_differ_38, f11_differ_75, f11_differ_80, tb, b2, h, pu_ixN']
      · have e2 : rg_it m2 f2 k = 24 := if_neg b
        rw [e1, e2, if_neg (by omega)]
        simp (disch := omega) only [pu_lt, pu_ck, pu_bI, pu_bV, pu_bR, pu_bL, pu_nt, pu_us, pu_un, mL_0, mL_1, mL_2, mL_3, mL_4, mL_5, mL_6, mL_7, mL_8, mL_9, mL_10, mL_11, mL_12, mL_13, mL_14, mL_15, mL_16, mL_23, mL_24, mL_32, mL_48, mL_64, mL_99, mL_100, mL_200, mL_336, mL_576, mL_768, mL_800, mL_999, mL_4095, mL_4096, mL_m1, nI_leI, nI_ltI, nI_eq, nI_clamp, nI_add, pk_mul, nI_nu, bI_eq0, bI_eq1, bo_ft, pu_of, pu_of24, pu_onward, pu_frq, if_true, if_false, true_or, or_true, false_or, or_false, and_true, true_and, and_false, false_and, not_true_eq_false, not_false_eq_true, if_neg, if_pos, f11_differ_6, f11_differ_24, f11_differ_38, f11_differ_75, f11_differ_80]
    · have e1 : rg_it m1 f1 k = 24 := if_neg a
      by_cases b : k < m2
      · obtain ⟨b1, b2⟩ := g2 k b
        have e2 : rg_it m2 f2 k = f2 k := if_pos b
        rw [e1, e2, if_neg (by omega)]
        simp (disch := omega) only [pu_lt, pu_ck, pu_bI, pu_bV, pu_bR, pu_bL, pu_nt, pu_us, pu_un, mL_0, mL_1, mL_2, mL_3, mL_4, mL_5, mL_6, mL_7, mL_8, mL_9, mL_10, mL_11, mL_12, mL_13, mL_14, mL_15, mL_16, mL_23, mL_24, mL_32, mL_48, mL_64, mL_99, mL_100, mL_200, mL_336, mL_576, mL_768, mL_800, mL_999, mL_4095, mL_4096, mL_m1, nI_leI, nI_ltI, nI_eq, nI_clamp, nI_add, pk_mul, nI_nu, bI_eq0, bI_eq1, bo_ft, pu_of, pu_of24, pu_onward, pu_frq, if_true, if_false, true_or, or_true, false_or, or_false, and_true, true_and, and_false, false_and, not_true_eq_false, not_false_eq_true, if_neg, if_pos, f11_differ_6, f11_differ_24, f11_differ_38, f11_differ_75, f11_differ_80]
      · have e2 : rg_it m2 f2 k = 24 := if_neg b
        rw [e1, e2, if_pos rfl]
        simp (disch := omega) only [pu_lt, pu_ck, pu_bI, pu_bV, pu_bR, pu_bL, pu_nt, pu_us, pu_un, mL_0, mL_1, mL_2, mL_3, mL_4, mL_5, mL_6, mL_7, mL_8, mL_9, mL_10, mL_11, mL_12, mL_13, mL_14, mL_15, mL_16, mL_23, mL_24, mL_32, mL_48, mL_64, mL_99, mL_100, mL_200, mL_336, mL_576, mL_768, mL_800, mL_999, mL_4095, mL_4096, mL_m1, nI_leI, nI_ltI, nI_eq, nI_clamp, nI_add, pk_mul, nI_nu, bI_eq0, bI_eq1, bo_ft, pu_of, pu_of24, pu_onward, pu_frq, if_true, if_false, true_or, or_true, false_or, or_false, and_true, true_and, and_false, false_and, not_true_eq_false, not_false_eq_true, if_neg, if_pos, f11_differ_6, f11_differ_24, f11_differ_38, f11_differ_79, f11_differ_80, Nat.add_zero]
  · intro g
    show f11_differ_6 (nI F) (nI M) (nI n) (nI m1) (nI m2) (f11_differ_89 (nI F) (nI M) (nI n) (nI m1) (nI m2)) (g + 1) (nI (rg_df m1 f1 m2 f2 M)) (nI M) t = _
    simp (disch := omega) only [pu_lt, pu_ck, pu_bI, pu_bV, pu_bR, pu_bL, pu_nt, pu_us, pu_un, mL_0, mL_1, mL_2, mL_3, mL_4, mL_5, mL_6, mL_7, mL_8, mL_9, mL_10, mL_11, mL_12, mL_13, mL_14, mL_15, mL_16, mL_23, mL_24, mL_32, mL_48, mL_64, mL_99, mL_100, mL_200, mL_336, mL_576, mL_768, mL_800, mL_999, mL_4095, mL_4096, mL_m1, nI_leI, nI_ltI, nI_eq, nI_clamp, nI_add, pk_mul, nI_nu, bI_eq0, bI_eq1, bo_ft, pu_of, pu_of24, pu_onward, pu_frq, if_true, if_false, true_or, or_true, false_or, or_false, and_true, true_and, and_false, false_and, not_true_eq_false, not_false_eq_true, if_neg, if_pos, f11_differ_6, f11_differ_89]
def S_k (K k _i _j : Nat) : Prop := k = K
theorem pu_staleR {t : sr_t} {s : rg_T} {n : Nat} (R : rg_R t s) (O : rg_ok s) (hn : n < rg_N s) (hu : rg_u s n = true) : ∃ t', F11_staleOf (nI n) t = some (.inl (some (sr_i (nI (rg_sl s n)))), t') ∧ fr (S_k 41) t t' := by
  have hN := O.1.1
  have L := rg_tokL (b := rg_b s) (d := rg_d s) O.1 hn hu O.1.2.1.2 O.1.2.2.1.1 O.1.2.2.1.2
  have T := O.2 n hn
  obtain ⟨t1, e1, e2, e3⟩ := pu_lays41 (a := 0) R.1 O.1 hn hu O.1.2.1.2 O.1.2.2.1.2 (by omega)
  have R1 : rg_R t1 s := rg_R_fr O e3 (fun k i j q => by unfold Fp_R at q; unfold S_rt; omega) R
  have RN := rg_RN_of R1 O
  have hb := R.1.1.2.1
  have hd := R.1.1.2.2
  have hb1 := R1.1.1.2.1
  have q0 := pu_tb0 RN O hn
  have q1 := pu_tb1 RN O hn
  have q5 := pu_tb5 RN O hn
  have l0 : t1.1 41 0 0 = nI (rg_lay s (rg_b s) (rg_d s) n 0) := e2.1
  have l1 : t1.1 41 0 1 = nI (rg_lay s (rg_b s) (rg_d s) n 1) := e2.2.1
  have l5 : t1.1 41 0 5 = nI (rg_lay s (rg_b s) (rg_d s) n 5) := e2.2.2.1
  have d1 := pu_differ (t := t1) (n := n) (F := 2) (M := 3) (m1 := rg_t s n 1) (f1 := fun k => rg_t s n (2 + k)) (m2 := rg_lay s (rg_b s) (rg_d s) n 1) (f2 := fun k => rg_lay s (rg_b s) (rg_d s) n (2 + k)) (by omega) (by omega) T.2.1 L.2.1 (fun k hk => ⟨by have := T.2.2.1 k hk; omega, by rw [← Nat.add_assoc]; exact (RN.2 n hn).2.2.2.1 k hk⟩) (fun k hk => ⟨by have := L.2.2.1 k hk; omega, by have := e2.2.2.2.1 k hk; rw [Nat.zero_add] at this; exact this⟩)
  have d2 := pu_differ (t := t1) (n := n) (F := 6) (M := 8) (m1 := rg_t s n 5) (f1 := fun k => rg_t s n (6 + k)) (m2 := rg_lay s (rg_b s) (rg_d s) n 5) (f2 := fun k => rg_lay s (rg_b s) (rg_d s) n (6 + k)) (by omega) (by omega) T.2.2.2.2.1 L.2.2.2.2.1 (fun k hk => ⟨by have := T.2.2.2.2.2 k hk; omega, by rw [← Nat.add_assoc]; exact (RN.2 n hn).2.2.2.2 k hk⟩) (fun k hk => ⟨by have := L.2.2.2.2.2 k hk; omega, by have := e2.2.2.2.2 k hk; rw [Nat.zero_add] at this; exact this⟩)
  have t0 := T.1
  have lz := L.1
  refine ⟨t1, ?_, fr_mono e3 (fun k i j q => q.1)⟩
  unfold rg_sl
  rw [rg_df_38 T.2.1 L.2.1]
  have el : rg_lay s (rg_b s) (rg_d s) n 0 = 2 ^ rg_b s := rfl
  rw [el] at lz ⊢
  by_cases h : rg_t s n 0 = 2 ^ rg_b s
  · rw [if_pos h]
    simp (disch := omega) only [pu_lt, pu_ck, pu_bI, pu_bV, pu_bR, pu_bL, pu_nt, pu_us, pu_un, mL_0, mL_1, mL_2, mL_3, mL_4, mL_5, mL_6, mL_7, mL_8, mL_9, mL_10, mL_11, mL_12, mL_13, mL_14, mL_15, mL_16, mL_23, mL_24, mL_32, mL_48, mL_64, mL_99, mL_100, mL_200, mL_336, mL_576, mL_768, mL_800, mL_999, mL_4095, mL_4096, mL_m1, nI_leI, nI_ltI, nI_eq, nI_clamp, nI_add, pk_mul, nI_nu, bI_eq0, bI_eq1, bo_ft, pu_of, pu_of24, pu_onward, pu_frq, if_true, if_false, true_or, or_true, false_or, or_false, and_true, true_and, and_false, false_and, not_true_eq_false, not_false_eq_true, if_neg, if_pos, F11_staleOf, f11_staleOf_81, hb, hd, e1, q0, q1, q5, l1, l5, d1, d2, hb1, h, pu_ixN', Nat.add_zero]
  · rw [if_neg h]
    simp (disch := omega) only [pu_lt, pu_ck, pu_bI, pu_bV, pu_bR, pu_bL, pu_nt, pu_us, pu_un, mL_0, mL_1, mL_2, mL_3, mL_4, mL_5, mL_6, mL_7, mL_8, mL_9, mL_10, mL_11, mL_12, mL_13, mL_14, mL_15, mL_16, mL_23, mL_24, mL_32, mL_48, mL_64, mL_99, mL_100, mL_200, mL_336, mL_576, mL_768, mL_800, mL_999, mL_4095, mL_4096, mL_m1, nI_leI, nI_ltI, nI_eq, nI_clamp, nI_add, pk_mul, nI_nu, bI_eq0, bI_eq1, bo_ft, pu_of, pu_of24, pu_onward, pu_frq, if_true, if_false, true_or, or_true, false_or, or_false, and_true, true_and, and_false, false_and, not_true_eq_false, not_false_eq_true, if_neg, if_pos, F11_staleOf, f11_staleOf_81, hb, hd, e1, q0, q1, q5, l1, l5, d1, d2, hb1, h, pu_ixN']
def rg_slA (s : rg_T) : Nat := sm (fun n => if rg_u s n = true then rg_sl s n else 0) (rg_N s)
theorem pu_staleAllC {t : sr_t} {s : rg_T} {r : Nat} (C : rg_C t r s) (O : rg_ok s) (hr : r < 2) : ∃ t', F3_staleOfAll r t = some (.inl (some (sr_i (nI (rg_slA s)))), t') ∧ fr (S_tab (50 + r)) t t' := by
  have hN := O.1.1
  refine rs_via fun Q hQ => ?_
  refine rs_loop (N := rg_N s) (L := fun f n t' => f3_staleOfAll_4 r (f3_staleOfAll_41 r) f (nI (sm (fun n => if rg_u s n = true then rg_sl s n else 0) n)) (nI n) t') (fun n t' => fr (S_tab (50 + r)) t t') ?_ ?_ (by unfold sr_fu; omega) fr_rfl
  · intro n g t' hn p
    have C' := rg_C_fr hN p (fun k i j q => by unfold Fp_C at q; unfold S_tab; omega) C
    have hN' := C'.1.1.1
    have hup := (C'.1.2.2 n hn).2.1
    left
    by_cases hu : rg_u s n = true
    · obtain ⟨t1, e1, e2⟩ := pu_staleC C' O hr hn hu
      rw [hu] at hup
      have b1 : ¬ bI true = nI 0 := by decide
      refine ⟨t1, fr_trans p e2, ?_⟩
      show f3_staleOfAll_4 r (f3_staleOfAll_41 r) (g + 1) _ (nI n) t' = f3_staleOfAll_4 r (f3_staleOfAll_41 r) g (nI (sm (fun n => if rg_u s n = true then rg_sl s n else 0) (n + 1))) (nI (n + 1)) t1
      rw [sm_s, if_pos hu]
      simp (disch := omega) only [pu_lt, pu_ck, pu_bI, pu_bV, pu_bR, pu_bL, pu_nt, pu_us, pu_un, mL_0, mL_1, mL_2, mL_3, mL_4, mL_5, mL_6, mL_7, mL_8, mL_9, mL_10, mL_11, mL_12, mL_13, mL_14, mL_15, mL_16, mL_23, mL_24, mL_32, mL_48, mL_64, mL_99, mL_100, mL_200, mL_336, mL_576, mL_768, mL_800, mL_999, mL_4095, mL_4096, mL_m1, nI_leI, nI_ltI, nI_eq, nI_clamp, nI_add, pk_mul, nI_nu, bI_eq0, bI_eq1, bo_ft, pu_of, pu_of24, pu_onward, pu_frq, if_true, if_false, true_or, or_true, false_or, or_false, and_true, true_and, and_false, false_and, not_true_eq_false, not_false_eq_true, if_neg, if_pos, f3_staleOfAll_4, f3_staleOfAll_35, hN', hup, b1, e1]
    · rw [show rg_u s n = false by simpa using hu] at hup
      have b0 : bI false = nI 0 := rfl
      refine ⟨t', p, ?_⟩
      show f3_staleOfAll_4 r (f3_staleOfAll_41 r) (g + 1) _ (nI n) t' = f3_staleOfAll_4 r (f3_staleOfAll_41 r) g (nI (sm (fun n => if rg_u s n = true then rg_sl s n else 0) (n + 1))) (nI (n + 1)) t'
      rw [sm_s, if_neg hu]
      simp (disch := omega) only [pu_lt, pu_ck, pu_bI, pu_bV, pu_bR, pu_bL, pu_nt, pu_us, pu_un, mL_0, mL_1, mL_2, mL_3, mL_4, mL_5, mL_6, mL_7, mL_8, mL_9, mL_10, mL_11, mL_12, mL_13, mL_14, mL_15, mL_16, mL_23, mL_24, mL_32, mL_48, mL_64, mL_99, mL_100, mL_200, mL_336, mL_576, mL_768, mL_800, mL_999, mL_4095, mL_4096, mL_m1, nI_leI, nI_ltI, nI_eq, nI_clamp, nI_add, pk_mul, nI_nu, bI_eq0, bI_eq1, bo_ft, pu_of, pu_of24, pu_onward, pu_frq, if_true, if_false, true_or, or_true, false_or, or_false, and_true, true_and, and_false, false_and, not_true_eq_false, not_false_eq_true, if_neg, if_pos, f3_staleOfAll_4, f3_staleOfAll_35, hN', hup, b0, Nat.add_zero]
  · intro g t' p
    have C' := rg_C_fr hN p (fun k i j q => by unfold Fp_C at q; unfold S_tab; omega) C
    have hN' := C'.1.1.1
    show rs_to _ (f3_staleOfAll_4 r (f3_staleOfAll_41 r) (g + 1) (nI (sm (fun n => if rg_u s n = true then rg_sl s n else 0) (rg_N s))) (nI (rg_N s)) t')
    simp (disch := omega) only [pu_lt, pu_ck, pu_bI, pu_bV, pu_bR, pu_bL, pu_nt, pu_us, pu_un, mL_0, mL_1, mL_2, mL_3, mL_4, mL_5, mL_6, mL_7, mL_8, mL_9, mL_10, mL_11, mL_12, mL_13, mL_14, mL_15, mL_16, mL_23, mL_24, mL_32, mL_48, mL_64, mL_99, mL_100, mL_200, mL_336, mL_576, mL_768, mL_800, mL_999, mL_4095, mL_4096, mL_m1, nI_leI, nI_ltI, nI_eq, nI_clamp, nI_add, pk_mul, nI_nu, bI_eq0, bI_eq1, bo_ft, pu_of, pu_of24, pu_onward, pu_frq, if_true, if_false, true_or, or_true, false_or, or_false, and_true, true_and, and_false, false_and, not_true_eq_false, not_false_eq_true, if_neg, if_pos, f3_staleOfAll_4, f3_staleOfAll_41, hN']
    exact rs_ret (hQ _ p)
theorem pu_staleAllR {t : sr_t} {s : rg_T} (R : rg_R t s) (O : rg_ok s) : ∃ t', F11_staleAll t = some (.inl (some (sr_i (nI (rg_slA s)))), t') ∧ fr (S_k 41) t t' := by
  have hN := O.1.1
  refine rs_via fun Q hQ => ?_
  refine rs_loop (N := rg_N s) (L := fun f n t' => f11_staleAll_4 f11_staleAll_40 f (nI (sm (fun n => if rg_u s n = true then rg_sl s n else 0) n)) (nI n) t') (fun n t' => fr (S_k 41) t t') ?_ ?_ (by unfold sr_fu; omega) fr_rfl
  · intro n g t' hn p
    have R' := rg_R_fr O p (fun k i j q => by unfold Fp_R at q; unfold S_k; omega) R
    have hN' := R'.1.1.1
    have hup := (R'.1.2 n hn).2.1
    left
    by_cases hu : rg_u s n = true
    · obtain ⟨t1, e1, e2⟩ := pu_staleR R' O hn hu
      rw [hu] at hup
      have b1 : bI true = nI 1 := rfl
      refine ⟨t1, fr_trans p e2, ?_⟩
      show f11_staleAll_4 f11_staleAll_40 (g + 1) _ (nI n) t' = f11_staleAll_4 f11_staleAll_40 g (nI (sm (fun n => if rg_u s n = true then rg_sl s n else 0) (n + 1))) (nI (n + 1)) t1
      rw [sm_s, if_pos hu]
      simp (disch := omega) only [pu_lt, pu_ck, pu_bI, pu_bV, pu_bR, pu_bL, pu_nt, pu_us, pu_un, mL_0, mL_1, mL_2, mL_3, mL_4, mL_5, mL_6, mL_7, mL_8, mL_9, mL_10, mL_11, mL_12, mL_13, mL_14, mL_15, mL_16, mL_23, mL_24, mL_32, mL_48, mL_64, mL_99, mL_100, mL_200, mL_336, mL_576, mL_768, mL_800, mL_999, mL_4095, mL_4096, mL_m1, nI_leI, nI_ltI, nI_eq, nI_clamp, nI_add, pk_mul, nI_nu, bI_eq0, bI_eq1, bo_ft, pu_of, pu_of24, pu_onward, pu_frq, if_true, if_false, true_or, or_true, false_or, or_false, and_true, true_and, and_false, false_and, not_true_eq_false, not_false_eq_true, if_neg, if_pos, f11_staleAll_4, f11_staleAll_32, hN', hup, b1, e1, pu_ixN']
    · rw [show rg_u s n = false by simpa using hu] at hup
      have b0 : ¬ bI false = nI 1 := by decide
      refine ⟨t', p, ?_⟩
      show f11_staleAll_4 f11_staleAll_40 (g + 1) _ (nI n) t' = f11_staleAll_4 f11_staleAll_40 g (nI (sm (fun n => if rg_u s n = true then rg_sl s n else 0) (n + 1))) (nI (n + 1)) t'
      rw [sm_s, if_neg hu]
      simp (disch := omega) only [pu_lt, pu_ck, pu_bI, pu_bV, pu_bR, pu_bL, pu_nt, pu_us, pu_un, mL_0, mL_1, mL_2, mL_3, mL_4, mL_5, mL_6, mL_7, mL_8, mL_9, mL_10, mL_11, mL_12, mL_13, mL_14, mL_15, mL_16, mL_23, mL_24, mL_32, mL_48, mL_64, mL_99, mL_100, mL_200, mL_336, mL_576, mL_768, mL_800, mL_999, mL_4095, mL_4096, mL_m1, nI_leI, nI_ltI, nI_eq, nI_clamp, nI_add, pk_mul, nI_nu, bI_eq0, bI_eq1, bo_ft, pu_of, pu_of24, pu_onward, pu_frq, if_true, if_false, true_or, or_true, false_or, or_false, and_true, true_and, and_false, false_and, not_true_eq_false, not_false_eq_true, if_neg, if_pos, f11_staleAll_4, f11_staleAll_32, hN', hup, b0, pu_ixN', Nat.add_zero]
  · intro g t' p
    have R' := rg_R_fr O p (fun k i j q => by unfold Fp_R at q; unfold S_k; omega) R
    have hN' := R'.1.1.1
    show rs_to _ (f11_staleAll_4 f11_staleAll_40 (g + 1) (nI (sm (fun n => if rg_u s n = true then rg_sl s n else 0) (rg_N s))) (nI (rg_N s)) t')
    simp (disch := omega) only [pu_lt, pu_ck, pu_bI, pu_bV, pu_bR, pu_bL, pu_nt, pu_us, pu_un, mL_0, mL_1, mL_2, mL_3, mL_4, mL_5, mL_6, mL_7, mL_8, mL_9, mL_10, mL_11, mL_12, mL_13, mL_14, mL_15, mL_16, mL_23, mL_24, mL_32, mL_48, mL_64, mL_99, mL_100, mL_200, mL_336, mL_576, mL_768, mL_800, mL_999, mL_4095, mL_4096, mL_m1, nI_leI, nI_ltI, nI_eq, nI_clamp, nI_add, pk_mul, nI_nu, bI_eq0, bI_eq1, bo_ft, pu_of, pu_of24, pu_onward, pu_frq, if_true, if_false, true_or, or_true, false_or, or_false, and_true, true_and, and_false, false_and, not_true_eq_false, not_false_eq_true, if_neg, if_pos, f11_staleAll_4, f11_staleAll_40, hN']
    exact rs_ret (hQ _ p)
end
