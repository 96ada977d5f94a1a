section
/-! the class turns its base; a ring is copied -/
theorem pu_setBase {t : sr_t} {r b : Nat} (h1 : 1 ≤ b) (h4 : b ≤ 4) : F3_setBase r (nI (2 ^ b)) t = some (.inl none, sr_u (sr_u (sr_u t 3 r 5 (nI (2 ^ b))) 3 r 6 (nI b)) 3 r 7 (nI (12 / b))) := by
  have hb : b = 1 ∨ b = 2 ∨ b = 3 ∨ b = 4 := by omega
  rcases hb with rfl | rfl | rfl | rfl
  · simp (disch := omega) only [pu_lt, pu_ck, pu_bI, pu_bV, pu_bR, pu_bL, pu_nt, pu_us, pu_un, mL_0, mL_1, mL_2, mL_3, mL_4, mL_5, mL_6, mL_7, mL_8, mL_9, mL_10, mL_11, mL_12, mL_13, mL_14, mL_15, mL_16, mL_23, mL_24, mL_32, mL_48, mL_64, mL_99, mL_100, mL_200, mL_336, mL_576, mL_768, mL_800, mL_999, mL_4095, mL_4096, mL_m1, nI_leI, nI_ltI, nI_eq, nI_clamp, nI_add, pk_mul, nI_nu, bI_eq0, bI_eq1, bo_ft, pu_of, pu_of24, pu_onward, pu_frq, if_true, if_false, true_or, or_true, false_or, or_false, and_true, true_and, and_false, false_and, not_true_eq_false, not_false_eq_true, if_neg, if_pos, F3_setBase, F10_bitsOf, f3_setBase_32, pk_div, Nat.reducePow, Nat.reduceDiv]
  · simp (disch := omega) only [pu_lt, pu_ck, pu_bI, pu_bV, pu_bR, pu_bL, pu_nt, pu_us, pu_un, mL_0, mL_1, mL_2, mL_3, mL_4, mL_5, mL_6, mL_7, mL_8, mL_9, mL_10, mL_11, mL_12, mL_13, mL_14, mL_15, mL_16, mL_23, mL_24, mL_32, mL_48, mL_64, mL_99, mL_100, mL_200, mL_336, mL_576, mL_768, mL_800, mL_999, mL_4095, mL_4096, mL_m1, nI_leI, nI_ltI, nI_eq, nI_clamp, nI_add, pk_mul, nI_nu, bI_eq0, bI_eq1, bo_ft, pu_of, pu_of24, pu_onward, pu_frq, if_true, if_false, true_or, or_true, false_or, or_false, and_true, true_and, and_false, false_and, not_true_eq_false, not_false_eq_true, if_neg, if_pos, F3_setBase, F10_bitsOf, f3_setBase_32, pk_div, Nat.reducePow, Nat.reduceDiv]
  · simp (disch := omega) only [pu_lt, pu_ck, pu_bI, pu_bV, pu_bR, pu_bL, pu_nt, pu_us, pu_un, mL_0, mL_1, mL_2, mL_3, mL_4, mL_5, mL_6, mL_7, mL_8, mL_9, mL_10, mL_11, mL_12, mL_13, mL_14, mL_15, mL_16, mL_23, mL_24, mL_32, mL_48, mL_64, mL_99, mL_100, mL_200, mL_336, mL_576, mL_768, mL_800, mL_999, mL_4095, mL_4096, mL_m1, nI_leI, nI_ltI, nI_eq, nI_clamp, nI_add, pk_mul, nI_nu, bI_eq0, bI_eq1, bo_ft, pu_of, pu_of24, pu_onward, pu_frq, if_true, if_false, true_or, or_true, false_or, or_false, and_true, true_and, and_false, false_and, not_true_eq_false, not_false_eq_true, if_neg, if_pos, F3_setBase, F10_bitsOf, f3_setBase_32, pk_div, Nat.reducePow, Nat.reduceDiv]
  · simp (disch := omega) only [pu_lt, pu_ck, pu_bI, pu_bV, pu_bR, pu_bL, pu_nt, pu_us, pu_un, mL_0, mL_1, mL_2, mL_3, mL_4, mL_5, mL_6, mL_7, mL_8, mL_9, mL_10, mL_11, mL_12, mL_13, mL_14, mL_15, mL_16, mL_23, mL_24, mL_32, mL_48, mL_64, mL_99, mL_100, mL_200, mL_336, mL_576, mL_768, mL_800, mL_999, mL_4095, mL_4096, mL_m1, nI_leI, nI_ltI, nI_eq, nI_clamp, nI_add, pk_mul, nI_nu, bI_eq0, bI_eq1, bo_ft, pu_of, pu_of24, pu_onward, pu_frq, if_true, if_false, true_or, or_true, false_or, or_false, and_true, true_and, and_false, false_and, not_true_eq_false, not_false_eq_true, if_neg, if_pos, F3_setBase, F10_bitsOf, f3_setBase_32, pk_div, Nat.reducePow, Nat.reduceDiv]
theorem rg_C_sb {t : sr_t} {s : rg_T} {r b : Nat} (hN : rg_N s ≤ 24) (C : rg_C t r s) : rg_C (sr_u (sr_u (sr_u t 3 r 5 (nI (2 ^ b))) 3 r 6 (nI b)) 3 r 7 (nI (12 / b))) r (rg_sb s b) := by
  obtain ⟨⟨⟨h1, h2, h3, h4, h5⟩, ⟨n1, n2, n3⟩, nd⟩, tb⟩ := C
  refine ⟨⟨⟨?_, ?_, ?_, ?_, ?_⟩, ⟨fun n hn => ?_, ?_, ?_⟩, fun n hn => ⟨?_, ?_, ?_⟩⟩, fun n hn => ⟨?_, rg_row_fr ?_ (fun j => ?_) (tb n hn).2.1, rg_row_fr ?_ (fun j => ?_) (tb n hn).2.2⟩⟩
  · rw [pu_un (by omega), pu_un (by omega), pu_un (by omega)]; exact h1
  · rw [pu_un (by omega), pu_un (by omega), pu_us]; rfl
  · rw [pu_un (by omega), pu_us]; rfl
  · rw [pu_us]; rfl
  · rw [pu_un (by omega), pu_un (by omega), pu_un (by omega)]; exact h5
  · rw [pu_un (by omega), pu_un (by omega), pu_un (by omega)]; exact n1 n hn
  · rw [pu_un (by omega), pu_un (by omega), pu_un (by omega)]; exact n2
  · rw [pu_un (by omega), pu_un (by omega), pu_un (by omega)]; exact n3
  · rw [pu_un (by omega), pu_un (by omega), pu_un (by omega)]; exact (nd n hn).1
  · rw [pu_un (by omega), pu_un (by omega), pu_un (by omega)]; exact (nd n hn).2.1
  · rw [pu_un (by omega), pu_un (by omega), pu_un (by omega)]; exact (nd n hn).2.2
  · rw [pu_un (by omega), pu_un (by omega), pu_un (by omega)]; exact (tb n hn).1
  · rw [pu_un (by omega), pu_un (by omega), pu_un (by omega)]
  · rw [pu_un (by omega), pu_un (by omega), pu_un (by omega)]
  · rw [pu_un (by omega), pu_un (by omega), pu_un (by omega)]
  · rw [pu_un (by omega), pu_un (by omega), pu_un (by omega)]
theorem rg_C_sd {t : sr_t} {s : rg_T} {r d : Nat} (hN : rg_N s ≤ 24) (C : rg_C t r s) : rg_C (sr_u t 3 r 8 (nI d)) r (rg_sd s d) := by
  obtain ⟨⟨⟨h1, h2, h3, h4, h5⟩, ⟨n1, n2, n3⟩, nd⟩, tb⟩ := C
  refine ⟨⟨⟨?_, ?_, ?_, ?_, ?_⟩, ⟨fun n hn => ?_, ?_, ?_⟩, fun n hn => ⟨?_, ?_, ?_⟩⟩, fun n hn => ⟨?_, rg_row_fr ?_ (fun j => ?_) (tb n hn).2.1, rg_row_fr ?_ (fun j => ?_) (tb n hn).2.2⟩⟩
  · rw [pu_un (by omega)]; exact h1
  · rw [pu_un (by omega)]; exact h2
  · rw [pu_un (by omega)]; exact h3
  · rw [pu_un (by omega)]; exact h4
  · rw [pu_us]; rfl
  · rw [pu_un (by omega)]; exact n1 n hn
  · rw [pu_un (by omega)]; exact n2
  · rw [pu_un (by omega)]; exact n3
  · rw [pu_un (by omega)]; exact (nd n hn).1
  · rw [pu_un (by omega)]; exact (nd n hn).2.1
  · rw [pu_un (by omega)]; exact (nd n hn).2.2
  · rw [pu_un (by omega)]; exact (tb n hn).1
  · rw [pu_un (by omega)]
  · rw [pu_un (by omega)]
  · rw [pu_un (by omega)]
  · rw [pu_un (by omega)]
def S_row (i k i' _j : Nat) : Prop := (k = 4 ∨ k = 12) ∧ i' = i
theorem pu_rowCopy {t : sr_t} {i j m : Nat} {f : Nat → Nat} (hij : i ≠ j) (R : rg_row t j m f) (hm : m ≤ 8) : ∃ t', F4_copyFrom i j t = some (.inl none, t') ∧ rg_row t' i m f ∧ fr (S_row i) t t' := by
  refine rs_via fun Q hQ => ?_
  simp (disch := omega) only [pu_lt, pu_ck, pu_bI, pu_bV, pu_bR, pu_bL, pu_nt, pu_us, pu_un, mL_0, mL_1, mL_2, mL_3, mL_4, mL_5, mL_6, mL_7, mL_8, mL_9, mL_10, mL_11, mL_12, mL_13, mL_14, mL_15, mL_16, mL_23, mL_24, mL_32, mL_48, mL_64, mL_99, mL_100, mL_200, mL_336, mL_576, mL_768, mL_800, mL_999, mL_4095, mL_4096, mL_m1, nI_leI, nI_ltI, nI_eq, nI_clamp, nI_add, pk_mul, nI_nu, bI_eq0, bI_eq1, bo_ft, pu_of, pu_of24, pu_onward, pu_frq, if_true, if_false, true_or, or_true, false_or, or_false, and_true, true_and, and_false, false_and, not_true_eq_false, not_false_eq_true, if_neg, if_pos, F4_copyFrom, F4_empty]
  have f0 : fr (S_row i) t (sr_u t 4 i 1 (nI 0)) := fr_u fr_rfl (by unfold S_row; omega)
  refine rs_loop (N := m) (L := fun f k t' => f4_copyFrom_6 i j (f4_copyFrom_29 i j) f (nI k) t') (fun k t' => rg_row t' i k f ∧ fr (S_row i) t t') ?_ ?_ (by unfold sr_fu; omega) ⟨⟨pu_us, fun k hk => by omega⟩, f0⟩
  · rintro k g t' hk ⟨⟨p1, p2⟩, p3⟩
    have R' : rg_row t' j m f := rg_row_fr (p3.2 _ _ _ (by unfold S_row; omega)) (fun x => p3.2 _ _ _ (by unfold S_row; omega)) R
    have h1 := R'.1
    have h2 := pu_at R' hm hk
    have h3 := pu_add (v := nI (f k)) p1 (by omega)
    left
    refine ⟨sr_u (sr_u t' 12 i k (nI (f k))) 4 i 1 (nI (k + 1)), ⟨⟨pu_us, fun x hx => ?_⟩, fr_u (fr_u p3 (by unfold S_row; omega)) (by unfold S_row; omega)⟩, ?_⟩
    · rw [pu_un (by omega)]
      by_cases e : x = k
      · rw [e, pu_us]
      · rw [pu_un (by omega)]; exact p2 x (by omega)
    · show f4_copyFrom_6 i j (f4_copyFrom_29 i j) (g + 1) (nI k) t' = f4_copyFrom_6 i j (f4_copyFrom_29 i j) g (nI (k + 1)) _
      simp (disch := omega) only [pu_lt, pu_ck, pu_bI, pu_bV, pu_bR, pu_bL, pu_nt, pu_us, pu_un, mL_0, mL_1, mL_2, mL_3, mL_4, mL_5, mL_6, mL_7, mL_8, mL_9, mL_10, mL_11, mL_12, mL_13, mL_14, mL_15, mL_16, mL_23, mL_24, mL_32, mL_48, mL_64, mL_99, mL_100, mL_200, mL_336, mL_576, mL_768, mL_800, mL_999, mL_4095, mL_4096, mL_m1, nI_leI, nI_ltI, nI_eq, nI_clamp, nI_add, pk_mul, nI_nu, bI_eq0, bI_eq1, bo_ft, pu_of, pu_of24, pu_onward, pu_frq, if_true, if_false, true_or, or_true, false_or, or_false, and_true, true_and, and_false, false_and, not_true_eq_false, not_false_eq_true, if_neg, if_pos, f4_copyFrom_6, h1, h2, h3]
  · rintro g t' ⟨p1, p3⟩
    have R' : rg_row t' j m f := rg_row_fr (p3.2 _ _ _ (by unfold S_row; omega)) (fun x => p3.2 _ _ _ (by unfold S_row; omega)) R
    have h1 := R'.1
    show rs_to _ (f4_copyFrom_6 i j (f4_copyFrom_29 i j) (g + 1) (nI m) t')
    simp (disch := omega) only [pu_lt, pu_ck, pu_bI, pu_bV, pu_bR, pu_bL, pu_nt, pu_us, pu_un, mL_0, mL_1, mL_2, mL_3, mL_4, mL_5, mL_6, mL_7, mL_8, mL_9, mL_10, mL_11, mL_12, mL_13, mL_14, mL_15, mL_16, mL_23, mL_24, mL_32, mL_48, mL_64, mL_99, mL_100, mL_200, mL_336, mL_576, mL_768, mL_800, mL_999, mL_4095, mL_4096, mL_m1, nI_leI, nI_ltI, nI_eq, nI_clamp, nI_add, pk_mul, nI_nu, bI_eq0, bI_eq1, bo_ft, pu_of, pu_of24, pu_onward, pu_frq, if_true, if_false, true_or, or_true, false_or, or_false, and_true, true_and, and_false, false_and, not_true_eq_false, not_false_eq_true, if_neg, if_pos, f4_copyFrom_6, f4_copyFrom_29, h1]
    exact rs_ret (hQ _ ⟨p1, p3⟩)
theorem pu_tabCopy {t : sr_t} {i j : Nat} {T : Nat → Nat} (hij : i ≠ j) (R : rg_tab t j T) (h1 : T 1 ≤ 3) (h5 : T 5 ≤ 8) : ∃ t', F7_copyFrom i j t = some (.inl none, t') ∧ rg_tab t' i T ∧ fr (S_tab i) t t' := by
  have f0 : fr (S_tab i) t (sr_u t 7 i 0 (nI (T 0))) := fr_u fr_rfl (by unfold S_tab; omega)
  have R0 : rg_tab (sr_u t 7 i 0 (nI (T 0))) j T := rg_tab_fr f0 (fun k x => ⟨by unfold S_tab; omega, fun hk => ⟨by unfold S_tab; omega, by unfold S_tab; omega⟩⟩) R
  obtain ⟨t1, a1, a2, a3⟩ := pu_rowCopy (i := 2 * i) (j := 2 * j) (by omega) R0.2.1 (by omega)
  have f1 : fr (S_tab i) t t1 := fr_trans f0 (fr_mono a3 (fun k x y q => by unfold S_row at q; unfold S_tab; omega))
  have R1 : rg_tab t1 j T := rg_tab_fr f1 (fun k x => ⟨by unfold S_tab; omega, fun hk => ⟨by unfold S_tab; omega, by unfold S_tab; omega⟩⟩) R
  obtain ⟨t2, b1, b2, b3⟩ := pu_rowCopy (i := 2 * i + 1) (j := 2 * j + 1) (by omega) R1.2.2 h5
  have f2 : fr (S_tab i) t t2 := fr_trans f1 (fr_mono b3 (fun k x y q => by unfold S_row at q; unfold S_tab; omega))
  have h0 := R.1
  refine ⟨t2, ?_, ⟨?_, ?_, b2⟩, f2⟩
  · simp (disch := omega) only [pu_lt, pu_ck, pu_bI, pu_bV, pu_bR, pu_bL, pu_nt, pu_us, pu_un, mL_0, mL_1, mL_2, mL_3, mL_4, mL_5, mL_6, mL_7, mL_8, mL_9, mL_10, mL_11, mL_12, mL_13, mL_14, mL_15, mL_16, mL_23, mL_24, mL_32, mL_48, mL_64, mL_99, mL_100, mL_200, mL_336, mL_576, mL_768, mL_800, mL_999, mL_4095, mL_4096, mL_m1, nI_leI, nI_ltI, nI_eq, nI_clamp, nI_add, pk_mul, nI_nu, bI_eq0, bI_eq1, bo_ft, pu_of, pu_of24, pu_onward, pu_frq, if_true, if_false, true_or, or_true, false_or, or_false, and_true, true_and, and_false, false_and, not_true_eq_false, not_false_eq_true, if_neg, if_pos, F7_copyFrom, h0, a1, b1]
  · rw [b3.2 _ _ _ (by unfold S_row; omega), a3.2 _ _ _ (by unfold S_row; omega), pu_us]
  · exact rg_row_fr (b3.2 _ _ _ (by unfold S_row; omega)) (fun x => b3.2 _ _ _ (by unfold S_row; omega)) a2
def S_nc (i k i' j : Nat) : Prop := (k = 2 ∧ i' = i ∧ 1 ≤ j ∧ j ≤ 3) ∨ S_tab i k i' j
theorem pu_nodeCopy {t : sr_t} {s : rg_T} {i n : Nat} (C : rg_C t 0 s) (O : rg_ok s) (hn : n < rg_N s) (hi : 25 ≤ i) : ∃ t', F2_copyFrom i n t = some (.inl none, t') ∧ (t'.1 2 i 1 = nI (rg_p s n) ∧ t'.1 2 i 2 = bI (rg_u s n) ∧ t'.1 2 i 3 = nI (rg_s s n)) ∧ rg_tab t' i (rg_t s n) ∧ fr (S_nc i) t t' := by
  have hN := O.1.1
  obtain ⟨h1, h2, h3⟩ := C.1.2.2 n hn
  have e0 : 25 * 0 + n = n := by omega
  rw [e0] at h1 h2 h3
  have hT := C.2 n hn
  rw [e0] at hT
  have f3 : fr (S_nc i) t (sr_u (sr_u (sr_u t 2 i 1 (nI (rg_p s n))) 2 i 2 (bI (rg_u s n))) 2 i 3 (nI (rg_s s n))) := fr_u (fr_u (fr_u fr_rfl (by unfold S_nc; omega)) (by unfold S_nc; omega)) (by unfold S_nc; omega)
  have R3 := rg_tab_fr f3 (fun k x => ⟨by unfold S_nc S_tab; omega, fun hk => ⟨by unfold S_nc S_tab; omega, by unfold S_nc S_tab; omega⟩⟩) hT
  obtain ⟨t4, a1, a2, a3⟩ := pu_tabCopy (i := i) (j := n) (by omega) R3 (O.2 n hn).2.1 (O.2 n hn).2.2.2.2.1
  refine ⟨t4, ?_, ⟨?_, ?_, ?_⟩, a2, fr_trans f3 (fr_mono a3 (fun k x y q => Or.inr q))⟩
  · simp (disch := omega) only [pu_lt, pu_ck, pu_bI, pu_bV, pu_bR, pu_bL, pu_nt, pu_us, pu_un, mL_0, mL_1, mL_2, mL_3, mL_4, mL_5, mL_6, mL_7, mL_8, mL_9, mL_10, mL_11, mL_12, mL_13, mL_14, mL_15, mL_16, mL_23, mL_24, mL_32, mL_48, mL_64, mL_99, mL_100, mL_200, mL_336, mL_576, mL_768, mL_800, mL_999, mL_4095, mL_4096, mL_m1, nI_leI, nI_ltI, nI_eq, nI_clamp, nI_add, pk_mul, nI_nu, bI_eq0, bI_eq1, bo_ft, pu_of, pu_of24, pu_onward, pu_frq, if_true, if_false, true_or, or_true, false_or, or_false, and_true, true_and, and_false, false_and, not_true_eq_false, not_false_eq_true, if_neg, if_pos, F2_copyFrom, h1, h2, h3, bI_01', a1]
  · rw [a3.2 _ _ _ (by unfold S_tab; omega), pu_un (by omega), pu_un (by omega), pu_us]
  · rw [a3.2 _ _ _ (by unfold S_tab; omega), pu_un (by omega), pu_us]
  · rw [a3.2 _ _ _ (by unfold S_tab; omega), pu_us]
/-- ring 1, but its nodes' numbers and nobody -/
def S_r1 (k i j : Nat) : Prop := (k = 2 ∧ 25 ≤ i ∧ i < 49 ∧ 1 ≤ j) ∨ (k = 3 ∧ i = 1) ∨ (k = 7 ∧ 25 ≤ i ∧ i < 49) ∨ ((k = 4 ∨ k = 12) ∧ 50 ≤ i ∧ i < 98)
theorem rg_nob_fr {S : Nat → Nat → Nat → Prop} {t t' : sr_t} {r : Nat} (h : fr S t t') (hs : ∀ i j, 25 * r ≤ i → i ≤ 25 * r + 24 → (j = 0 ∨ (i = 25 * r + 24 ∧ (j = 2 ∨ j = 7))) → ¬ S 2 i j) (B : rg_nob t r) : rg_nob t' r := by
  refine ⟨fun n hn => ?_, ?_, ?_⟩
  · rw [h.2 _ _ _ (hs _ _ (by omega) (by omega) (by omega))]; exact B.1 n hn
  · rw [h.2 _ _ _ (hs _ _ (by omega) (by omega) (by omega))]; exact B.2.1
  · rw [h.2 _ _ _ (hs _ _ (by omega) (by omega) (by omega))]; exact B.2.2
theorem pu_copyRing {t : sr_t} {s : rg_T} (C : rg_C t 0 s) (O : rg_ok s) (hb : rg_nob t 1) : ∃ t', F3_copyFrom 1 0 t = some (.inl none, t') ∧ rg_C t' 1 s ∧ rg_K t' 1 s ∧ fr S_r1 t t' := by
  have hN := O.1.1
  obtain ⟨h1, h2, h3, h4, h5⟩ := C.1.1
  have e1 := pu_setBase (t := t) (r := 1) O.1.2.1.1 O.1.2.1.2
  refine rs_via fun Q hQ => ?_
  simp (disch := omega) only [pu_lt, pu_ck, pu_bI, pu_bV, pu_bR, pu_bL, pu_nt, pu_us, pu_un, mL_0, mL_1, mL_2, mL_3, mL_4, mL_5, mL_6, mL_7, mL_8, mL_9, mL_10, mL_11, mL_12, mL_13, mL_14, mL_15, mL_16, mL_23, mL_24, mL_32, mL_48, mL_64, mL_99, mL_100, mL_200, mL_336, mL_576, mL_768, mL_800, mL_999, mL_4095, mL_4096, mL_m1, nI_leI, nI_ltI, nI_eq, nI_clamp, nI_add, pk_mul, nI_nu, bI_eq0, bI_eq1, bo_ft, pu_of, pu_of24, pu_onward, pu_frq, if_true, if_false, true_or, or_true, false_or, or_false, and_true, true_and, and_false, false_and, not_true_eq_false, not_false_eq_true, if_neg, if_pos, F3_copyFrom, h1, h2, h5, e1]
  have f0 : fr S_r1 t (sr_u (sr_u (sr_u (sr_u (sr_u t 3 1 5 (nI (2 ^ rg_b s))) 3 1 6 (nI (rg_b s))) 3 1 7 (nI (12 / rg_b s))) 3 1 8 (nI (rg_d s))) 3 1 3 (nI (rg_N s))) := fr_u (fr_u (fr_u (fr_u (fr_u fr_rfl (by unfold S_r1; omega)) (by unfold S_r1; omega)) (by unfold S_r1; omega)) (by unfold S_r1; omega)) (by unfold S_r1; omega)
  have hd0 : rg_head (sr_u (sr_u (sr_u (sr_u (sr_u t 3 1 5 (nI (2 ^ rg_b s))) 3 1 6 (nI (rg_b s))) 3 1 7 (nI (12 / rg_b s))) 3 1 8 (nI (rg_d s))) 3 1 3 (nI (rg_N s))) 1 s := by
    refine ⟨?_, ?_, ?_, ?_, ?_⟩
    · rw [pu_us]
    · rw [pu_un (by omega), pu_un (by omega), pu_un (by omega), pu_un (by omega), pu_us]
    · rw [pu_un (by omega), pu_un (by omega), pu_un (by omega), pu_us]
    · rw [pu_un (by omega), pu_un (by omega), pu_us]
    · rw [pu_un (by omega), pu_us]
  refine rs_loop (N := rg_N s) (L := fun f n t' => f3_copyFrom_26 1 0 (f3_copyFrom_53 1 0) f (nI n) t') (fun n t' => rg_head t' 1 s ∧ (∀ m, m < n → (t'.1 2 (25 * 1 + m) 1 = nI (rg_p s m) ∧ t'.1 2 (25 * 1 + m) 2 = bI (rg_u s m) ∧ t'.1 2 (25 * 1 + m) 3 = nI (rg_s s m)) ∧ rg_tab t' (25 * 1 + m) (rg_t s m)) ∧ fr S_r1 t t') ?_ ?_ (by unfold sr_fu; omega) ⟨hd0, fun m hm => by omega, f0⟩
  · rintro n g t' hn ⟨p1, p2, p3⟩
    have C' : rg_C t' 0 s := rg_C_fr hN p3 (fun k i j q => by unfold Fp_C at q; unfold S_r1; omega) C
    obtain ⟨t1, a1, a2, a3, a4⟩ := pu_nodeCopy (i := 25 * 1 + n) C' O hn (by omega)
    have hN' := p1.1
    left
    refine ⟨t1, ⟨⟨?_, ?_, ?_, ?_, ?_⟩, fun m hm => ?_, fr_trans p3 (fr_mono a4 (fun k i j q => by unfold S_nc S_tab at q; unfold S_r1; omega))⟩, ?_⟩
    · rw [a4.2 _ _ _ (by unfold S_nc S_tab; omega)]; exact p1.1
    · rw [a4.2 _ _ _ (by unfold S_nc S_tab; omega)]; exact p1.2.1
    · rw [a4.2 _ _ _ (by unfold S_nc S_tab; omega)]; exact p1.2.2.1
    · rw [a4.2 _ _ _ (by unfold S_nc S_tab; omega)]; exact p1.2.2.2.1
    · rw [a4.2 _ _ _ (by unfold S_nc S_tab; omega)]; exact p1.2.2.2.2
    · by_cases e : m = n
      · rw [e]; exact ⟨a2, a3⟩
      · obtain ⟨⟨q1, q2, q3⟩, q4⟩ := p2 m (by omega)
        refine ⟨⟨?_, ?_, ?_⟩, rg_tab_fr a4 (fun k x => ⟨by unfold S_nc S_tab; omega, fun hk => ⟨by unfold S_nc S_tab; omega, by unfold S_nc S_tab; omega⟩⟩) q4⟩
        · rw [a4.2 _ _ _ (by unfold S_nc S_tab; omega)]; exact q1
        · rw [a4.2 _ _ _ (by unfold S_nc S_tab; omega)]; exact q2
        · rw [a4.2 _ _ _ (by unfold S_nc S_tab; omega)]; exact q3
    · show f3_copyFrom_26 1 0 (f3_copyFrom_53 1 0) (g + 1) (nI n) t' = f3_copyFrom_26 1 0 (f3_copyFrom_53 1 0) g (nI (n + 1)) t1
      have a1' : F2_copyFrom (25 * 1 + n) (25 * 0 + n) t' = some (.inl none, t1) := by
        rw [show 25 * 0 + n = n by omega]; exact a1
      simp (disch := omega) only [pu_lt, pu_ck, pu_bI, pu_bV, pu_bR, pu_bL, pu_nt, pu_us, pu_un, mL_0, mL_1, mL_2, mL_3, mL_4, mL_5, mL_6, mL_7, mL_8, mL_9, mL_10, mL_11, mL_12, mL_13, mL_14, mL_15, mL_16, mL_23, mL_24, mL_32, mL_48, mL_64, mL_99, mL_100, mL_200, mL_336, mL_576, mL_768, mL_800, mL_999, mL_4095, mL_4096, mL_m1, nI_leI, nI_ltI, nI_eq, nI_clamp, nI_add, pk_mul, nI_nu, bI_eq0, bI_eq1, bo_ft, pu_of, pu_of24, pu_onward, pu_frq, if_true, if_false, true_or, or_true, false_or, or_false, and_true, true_and, and_false, false_and, not_true_eq_false, not_false_eq_true, if_neg, if_pos, f3_copyFrom_26, hN', a1']
  · rintro g t' ⟨p1, p2, p3⟩
    have hN' := p1.1
    have nb : rg_nob t' 1 := rg_nob_fr p3 (fun i j _ _ _ => by unfold S_r1; omega) hb
    have C1 : rg_C t' 1 s := ⟨⟨p1, nb, fun n hn => (p2 n hn).1⟩, fun n hn => (p2 n hn).2⟩
    obtain ⟨t2, g1, g2, g3, g4⟩ := pu_refresh C1 O (by omega)
    show rs_to _ (f3_copyFrom_26 1 0 (f3_copyFrom_53 1 0) (g + 1) (nI (rg_N s)) t')
    simp (disch := omega) only [pu_lt, pu_ck, pu_bI, pu_bV, pu_bR, pu_bL, pu_nt, pu_us, pu_un, mL_0, mL_1, mL_2, mL_3, mL_4, mL_5, mL_6, mL_7, mL_8, mL_9, mL_10, mL_11, mL_12, mL_13, mL_14, mL_15, mL_16, mL_23, mL_24, mL_32, mL_48, mL_64, mL_99, mL_100, mL_200, mL_336, mL_576, mL_768, mL_800, mL_999, mL_4095, mL_4096, mL_m1, nI_leI, nI_ltI, nI_eq, nI_clamp, nI_add, pk_mul, nI_nu, bI_eq0, bI_eq1, bo_ft, pu_of, pu_of24, pu_onward, pu_frq, if_true, if_false, true_or, or_true, false_or, or_false, and_true, true_and, and_false, false_and, not_true_eq_false, not_false_eq_true, if_neg, if_pos, f3_copyFrom_26, f3_copyFrom_53, hN', g1]
    exact rs_ret (hQ _ ⟨g2, g3, fr_trans p3 (fr_mono g4 (fun k i j q => by unfold Fp_K at q; unfold S_r1; omega))⟩)
end
