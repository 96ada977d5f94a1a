section
/-! step: put -/
theorem pr_kY {i N q k : Nat} {t : sr_t} {w : st_T} (P : st_P i N w) (R : st_R t w) (hk : k < w.1.1) (e : w.2.1 k = q) (hj : ∀ j, j < k → w.2.1 j ≠ q) : F11_knownAs (nI q) t = some (.inl (some (sr_i (nI k))), t) := by
  obtain ⟨⟨h0, _⟩, p1, p2⟩ := P
  obtain ⟨⟨h4, h5, h6⟩, h7, h8⟩ := R
  have hq : q < 4096 := by rw [← e]; exact (p1 k hk).1
  unfold F11_knownAs
  show f11_knownAs_2 (nI q) (f11_knownAs_20 (nI q)) (f11_knownAs_28 (nI q)) sr_fu (nI 0) t = _
  refine pu_for (N := k) (L := fun f n => f11_knownAs_2 (nI q) (f11_knownAs_20 (nI q)) (f11_knownAs_28 (nI q)) f (nI n) t) ?_ ?_ (by unfold sr_fu; omega)
  · intro n g hn
    have a1 := (p1 n (by omega)).1
    have a2 := (h7 n (by omega)).1
    have ne := hj n hn
    show f11_knownAs_2 (nI q) (f11_knownAs_20 (nI q)) (f11_knownAs_28 (nI q)) (g + 1) (nI n) t = _
    simp (disch := omega) only [pv_lt, pu_ck, pv_bI, pv_bV, pu_bR, pv_bL, pv_nt, pu_us, pu_un, mL_0, mL_1, mL_2, mL_3, mL_4, mL_5, mL_6, mL_7, mL_8, mL_9, mL_10, mL_11, mL_12, mL_13, mL_14, mL_15, mL_16, mL_23, mL_24, mL_32, mL_48, mL_64, mL_99, mL_100, mL_200, mL_336, mL_576, mL_768, mL_800, mL_999, mL_4095, mL_4096, mL_m1, nI_leI, nI_ltI, nI_eq, nI_clamp, nI_add, pk_mul, nI_nu, bI_eq0, bI_eq1, bo_ft, Bool.true_eq_false, Bool.false_eq_true, pu_of, pu_of24, pu_onward, pu_frq, if_true, if_false, true_or, or_true, false_or, or_false, and_true, true_and, and_false, false_and, not_true_eq_false, not_false_eq_true, if_neg, if_pos, f11_knownAs_2, h4, a2, pu_ixN']
  · intro g
    have a2 := (h7 k hk).1
    rw [e] at a2
    show f11_knownAs_2 (nI q) (f11_knownAs_20 (nI q)) (f11_knownAs_28 (nI q)) (g + 1) (nI k) t = _
    simp (disch := omega) only [pv_lt, pu_ck, pv_bI, pv_bV, pu_bR, pv_bL, pv_nt, pu_us, pu_un, mL_0, mL_1, mL_2, mL_3, mL_4, mL_5, mL_6, mL_7, mL_8, mL_9, mL_10, mL_11, mL_12, mL_13, mL_14, mL_15, mL_16, mL_23, mL_24, mL_32, mL_48, mL_64, mL_99, mL_100, mL_200, mL_336, mL_576, mL_768, mL_800, mL_999, mL_4095, mL_4096, mL_m1, nI_leI, nI_ltI, nI_eq, nI_clamp, nI_add, pk_mul, nI_nu, bI_eq0, bI_eq1, bo_ft, Bool.true_eq_false, Bool.false_eq_true, pu_of, pu_of24, pu_onward, pu_frq, if_true, if_false, true_or, or_true, false_or, or_false, and_true, true_and, and_false, false_and, not_true_eq_false, not_false_eq_true, if_neg, if_pos, f11_knownAs_2, f11_knownAs_20, h4, a2, pu_ixN']
theorem pr_kN {i N q : Nat} {t : sr_t} {w : st_T} (P : st_P i N w) (R : st_R t w) (hq : q < 4096) (hj : ∀ j, j < w.1.1 → w.2.1 j ≠ q) : F11_knownAs (nI q) t = some (.inl (some (sr_i (nu 24))), t) := by
  obtain ⟨⟨h0, _⟩, p1, p2⟩ := P
  obtain ⟨⟨h4, h5, h6⟩, h7, h8⟩ := R
  unfold F11_knownAs
  show f11_knownAs_2 (nI q) (f11_knownAs_20 (nI q)) (f11_knownAs_28 (nI q)) sr_fu (nI 0) t = _
  refine pu_for (N := w.1.1) (L := fun f n => f11_knownAs_2 (nI q) (f11_knownAs_20 (nI q)) (f11_knownAs_28 (nI q)) f (nI n) t) ?_ ?_ (by unfold sr_fu; omega)
  · intro n g hn
    have a1 := (p1 n (by omega)).1
    have a2 := (h7 n (by omega)).1
    have ne := hj n hn
    show f11_knownAs_2 (nI q) (f11_knownAs_20 (nI q)) (f11_knownAs_28 (nI q)) (g + 1) (nI n) t = _
    simp (disch := omega) only [pv_lt, pu_ck, pv_bI, pv_bV, pu_bR, pv_bL, pv_nt, pu_us, pu_un, mL_0, mL_1, mL_2, mL_3, mL_4, mL_5, mL_6, mL_7, mL_8, mL_9, mL_10, mL_11, mL_12, mL_13, mL_14, mL_15, mL_16, mL_23, mL_24, mL_32, mL_48, mL_64, mL_99, mL_100, mL_200, mL_336, mL_576, mL_768, mL_800, mL_999, mL_4095, mL_4096, mL_m1, nI_leI, nI_ltI, nI_eq, nI_clamp, nI_add, pk_mul, nI_nu, bI_eq0, bI_eq1, bo_ft, Bool.true_eq_false, Bool.false_eq_true, pu_of, pu_of24, pu_onward, pu_frq, if_true, if_false, true_or, or_true, false_or, or_false, and_true, true_and, and_false, false_and, not_true_eq_false, not_false_eq_true, if_neg, if_pos, f11_knownAs_2, h4, a2, pu_ixN']
  · intro g
    show f11_knownAs_2 (nI q) (f11_knownAs_20 (nI q)) (f11_knownAs_28 (nI q)) (g + 1) (nI w.1.1) t = _
    simp (disch := omega) only [pv_lt, pu_ck, pv_bI, pv_bV, pu_bR, pv_bL, pv_nt, pu_us, pu_un, mL_0, mL_1, mL_2, mL_3, mL_4, mL_5, mL_6, mL_7, mL_8, mL_9, mL_10, mL_11, mL_12, mL_13, mL_14, mL_15, mL_16, mL_23, mL_24, mL_32, mL_48, mL_64, mL_99, mL_100, mL_200, mL_336, mL_576, mL_768, mL_800, mL_999, mL_4095, mL_4096, mL_m1, nI_leI, nI_ltI, nI_eq, nI_clamp, nI_add, pk_mul, nI_nu, bI_eq0, bI_eq1, bo_ft, Bool.true_eq_false, Bool.false_eq_true, pu_of, pu_of24, pu_onward, pu_frq, if_true, if_false, true_or, or_true, false_or, or_false, and_true, true_and, and_false, false_and, not_true_eq_false, not_false_eq_true, if_neg, if_pos, f11_knownAs_2, f11_knownAs_28, h4]
/-- which entry a key has, or gets -/
def kE (w : st_T) (q k : Nat) : Prop := (k < w.1.1 ∧ w.2.1 k = q ∧ ∀ j, j < k → w.2.1 j ≠ q) ∨ (k = w.1.1 ∧ k < 32 ∧ ∀ j, j < w.1.1 → w.2.1 j ≠ q)
def S_pc (k _i _j : Nat) : Prop := k = 0 ∨ k = 6 ∨ k = 20 ∨ k = 21
def S_pr (k i j : Nat) : Prop := (37 ≤ k ∧ k ≤ 40) ∨ (k = 11 ∧ i = 0 ∧ (j = 33 ∨ j = 34))
theorem pc_put {i : Nat} {t : sr_t} {s : rg_T} {e k q v : Nat} {w : st_T} (C : rg_C t 0 s) (O : rg_ok s) (he : e < rg_N s) (W : st_I i t (rg_N s) w) (hi : i < 2 ^ 20) (hq : q < 4096) (hE : kE w q k) : ∃ t', F6_keepAt 0 (25 * 0 + e) (nI q) (nI v) t = some (.inl (some (sr_i (nI (pl s e k v (st_h (st_e w k q) k e v (w.1.2.1 + 1)) (rg_t s e 1)).1))), t') ∧ st_C t' (pl s e k v (st_h (st_e w k q) k e v (w.1.2.1 + 1)) (rg_t s e 1)).2 ∧ fr S_pc t t' := by
  have hN := O.1.1
  obtain ⟨P, Cs, Rs⟩ := st_I_to W
  obtain ⟨⟨q1, q2, q3, q4⟩, p1, p2⟩ := id P
  obtain ⟨⟨c1, c2, c3⟩, c4, c5, c6⟩ := id Cs
  have x0 := C.1.2.1.1 e (by omega)
  rw [nu_lt (by omega)] at x0
  have main : ∃ t3, F6_keepAt 0 (25 * 0 + e) (nI q) (nI v) t = sr_bV (F0_hold k (nI e) (nI v) (nI (w.1.2.1 + 1)) t3) (fun t4 => f6_keepAt_56 0 (25 * 0 + e) (nI q) (nI v) (f6_keepAt_119 0 (25 * 0 + e) (nI q) (nI v)) sr_fu k (nI 1) (2 * (25 * 0 + e)) (nI 0) t4) ∧ st_C t3 (st_e w k q) ∧ fr S_pc t t3 ∧ k < 32 := by
    rcases hE with ⟨k1, k2, k3⟩ | ⟨k1, k2, k3⟩
    · have ee := pc_entryY W k1 k2 k3
      have et : F6_entryToPut (nI q) t = some (.inl (some (sr_r 0 k)), t) := by
        simp (disch := omega) only [pv_lt, pu_ck, pv_bI, pv_bV, pu_bR, pv_bL, pv_nt, pu_us, pu_un, mL_0, mL_1, mL_2, mL_3, mL_4, mL_5, mL_6, mL_7, mL_8, mL_9, mL_10, mL_11, mL_12, mL_13, mL_14, mL_15, mL_16, mL_23, mL_24, mL_32, mL_48, mL_64, mL_99, mL_100, mL_200, mL_336, mL_576, mL_768, mL_800, mL_999, mL_4095, mL_4096, mL_m1, nI_leI, nI_ltI, nI_eq, nI_clamp, nI_add, pk_mul, nI_nu, bI_eq0, bI_eq1, bo_ft, Bool.true_eq_false, Bool.false_eq_true, pu_of, pu_of24, pu_onward, pu_frq, if_true, if_false, true_or, or_true, false_or, or_false, and_true, true_and, and_false, false_and, not_true_eq_false, not_false_eq_true, if_neg, if_pos, F6_entryToPut, f6_entryToPut_47, ee]
      refine ⟨sr_u (sr_u t 6 0 3 (nI (w.1.2.1 + 1))) 0 k 1 (nI (w.1.2.1 + 1)), ?_, ?_, ⟨rfl, fun a b c h => ?_⟩, by omega⟩
      · simp (disch := omega) only [pv_lt, pu_ck, pv_bI, pv_bV, pu_bR, pv_bL, pv_nt, pu_us, pu_un, mL_0, mL_1, mL_2, mL_3, mL_4, mL_5, mL_6, mL_7, mL_8, mL_9, mL_10, mL_11, mL_12, mL_13, mL_14, mL_15, mL_16, mL_23, mL_24, mL_32, mL_48, mL_64, mL_99, mL_100, mL_200, mL_336, mL_576, mL_768, mL_800, mL_999, mL_4095, mL_4096, mL_m1, nI_leI, nI_ltI, nI_eq, nI_clamp, nI_add, pk_mul, nI_nu, bI_eq0, bI_eq1, bo_ft, Bool.true_eq_false, Bool.false_eq_true, pu_of, pu_of24, pu_onward, pu_frq, if_true, if_false, true_or, or_true, false_or, or_false, and_true, true_and, and_false, false_and, not_true_eq_false, not_false_eq_true, if_neg, if_pos, F6_keepAt, et, c2, x0]
      · refine st_C_e (t := t) Cs (by omega) (by omega) ?_ ?_ ?_ pu_us (fun a b c h => ?_)
        · rw [pu_un (by omega), pu_un (by omega), if_neg (by omega)]; exact c1
        · rw [pu_un (by omega), pu_us]
        · rw [pu_un (by omega), pu_un (by omega), (c4 k k1).1, k2]
        · rw [pu_un (by omega), pu_un (by omega)]
      · unfold S_pc at h
        rw [pu_un (by omega), pu_un (by omega)]
    · have ee := pc_entryN W hq k3
      have ea := pc_entryAt (t := t) k2
      rw [← k1] at c1
      have et : F6_entryToPut (nI q) t = some (.inl (some (sr_r 0 k)), sr_u (sr_u t 0 k 0 (nI q)) 6 0 2 (nI (k + 1))) := by
        simp (disch := omega) only [pv_lt, pu_ck, pv_bI, pv_bV, pu_bR, pv_bL, pv_nt, pu_us, pu_un, mL_0, mL_1, mL_2, mL_3, mL_4, mL_5, mL_6, mL_7, mL_8, mL_9, mL_10, mL_11, mL_12, mL_13, mL_14, mL_15, mL_16, mL_23, mL_24, mL_32, mL_48, mL_64, mL_99, mL_100, mL_200, mL_336, mL_576, mL_768, mL_800, mL_999, mL_4095, mL_4096, mL_m1, nI_leI, nI_ltI, nI_eq, nI_clamp, nI_add, pk_mul, nI_nu, bI_eq0, bI_eq1, bo_ft, Bool.true_eq_false, Bool.false_eq_true, pu_of, pu_of24, pu_onward, pu_frq, if_true, if_false, true_or, or_true, false_or, or_false, and_true, true_and, and_false, false_and, not_true_eq_false, not_false_eq_true, if_neg, if_pos, F6_entryToPut, f6_entryToPut_47, ee, c1, ea]
      refine ⟨sr_u (sr_u (sr_u (sr_u t 0 k 0 (nI q)) 6 0 2 (nI (k + 1))) 6 0 3 (nI (w.1.2.1 + 1))) 0 k 1 (nI (w.1.2.1 + 1)), ?_, ?_, ⟨rfl, fun a b c h => ?_⟩, k2⟩
      · simp (disch := omega) only [pv_lt, pu_ck, pv_bI, pv_bV, pu_bR, pv_bL, pv_nt, pu_us, pu_un, mL_0, mL_1, mL_2, mL_3, mL_4, mL_5, mL_6, mL_7, mL_8, mL_9, mL_10, mL_11, mL_12, mL_13, mL_14, mL_15, mL_16, mL_23, mL_24, mL_32, mL_48, mL_64, mL_99, mL_100, mL_200, mL_336, mL_576, mL_768, mL_800, mL_999, mL_4095, mL_4096, mL_m1, nI_leI, nI_ltI, nI_eq, nI_clamp, nI_add, pk_mul, nI_nu, bI_eq0, bI_eq1, bo_ft, Bool.true_eq_false, Bool.false_eq_true, pu_of, pu_of24, pu_onward, pu_frq, if_true, if_false, true_or, or_true, false_or, or_false, and_true, true_and, and_false, false_and, not_true_eq_false, not_false_eq_true, if_neg, if_pos, F6_keepAt, et, c2, x0]
      · refine st_C_e (t := t) Cs (by omega) (by omega) ?_ ?_ ?_ pu_us (fun a b c h => ?_)
        · rw [pu_un (by omega), pu_un (by omega), pu_us, if_pos k1, ← k1]
        · rw [pu_un (by omega), pu_us]
        · rw [pu_un (by omega), pu_un (by omega), pu_un (by omega), pu_us]
        · rw [pu_un (by omega), pu_un (by omega), pu_un (by omega), pu_un (by omega)]
      · unfold S_pc at h
        rw [pu_un (by omega), pu_un (by omega), pu_un (by omega), pu_un (by omega)]
  obtain ⟨t3, m1, m2, m3, hk⟩ := main
  obtain ⟨t4, h1, h2, h3⟩ := pc_hold (k := k) (n := e) (v := v) (x := w.1.2.1 + 1) m2 hk (by omega)
  have C4 : rg_C t4 0 s := rg_C_fr hN (fr_trans m3 (fr_mono h3 (fun k i j q => by unfold S_hc at q; unfold S_pc; omega))) (fun k i j q => by unfold Fp_C at q; unfold S_pc; omega) C
  obtain ⟨t5, g1, g2, g3⟩ := pc_keep (v := v) (a := nI q) C4 O he hk (show (st_h (st_e w k q) k e v (w.1.2.1 + 1)).1.2.2 ≤ 3 from q4) h2
  refine ⟨t5, ?_, g2, fr_trans m3 (fr_mono (fr_trans h3 g3) (fun k i j q => by unfold S_hc at q; unfold S_pc; omega))⟩
  rw [m1, h1, pv_bV, g1]
theorem pr_put {i : Nat} {t : sr_t} {s : rg_T} {e k q v : Nat} {w : st_T} {a : Int32} (R : rg_R t s) (O : rg_ok s) (he : e < rg_N s) (P : st_P i (rg_N s) w) (Rs : st_R t w) (hi : i < 2 ^ 20) (hq : q < 4096) (hE : kE w q k) (h0 : t.1 11 0 0 = nI 0) : ∃ t', f11_put_99 a (nI q) (nI v) (nI e) (nI 0) t = some (.inl (some (sr_i (nI (pl s e k v (st_h (st_e w k q) k e v (w.1.2.1 + 1)) (rg_t s e 1)).1))), t') ∧ st_R t' (pl s e k v (st_h (st_e w k q) k e v (w.1.2.1 + 1)) (rg_t s e 1)).2 ∧ fr S_pr t t' := by
  have hN := O.1.1
  obtain ⟨⟨q1, q2, q3, q4⟩, p1, p2⟩ := id P
  have tt : sr_u t 11 0 0 (nI 0) = t := by
    obtain ⟨ti, tl⟩ := t
    show ((fun a b c => if a = 11 ∧ b = 0 ∧ c = 0 then nI 0 else ti a b c), tl) = (ti, tl)
    congr 1
    funext a b c
    split
    · rename_i h
      obtain ⟨rfl, rfl, rfl⟩ := h
      exact h0.symm
    · rfl
  have main : ∃ t5, f11_put_99 a (nI q) (nI v) (nI e) (nI 0) t = sr_bV (F11_holds (nI e) (nI k) (nI v) (nI (w.1.2.1 + 1)) t5) (fun t4 => f11_put_188 a (nI q) (nI v) (f11_put_256 a (nI q) (nI v)) sr_fu (nI e) (nI k) (nI 1) (nI 0) t4) ∧ st_R t5 (st_e w k q) ∧ fr S_pr t t5 ∧ k < 32 := by
    obtain ⟨⟨c1, c2, c3⟩, c4, c5⟩ := id Rs
    rcases hE with ⟨k1, k2, k3⟩ | ⟨k1, k2, k3⟩
    · have ek := pr_kY P Rs k1 k2 k3
      have nk := nI_nm (a := k) (by omega)
      refine ⟨sr_u (sr_u t 11 0 34 (nI (w.1.2.1 + 1))) 38 0 k (nI (w.1.2.1 + 1)), ?_, ?_, ⟨rfl, fun a b c h => ?_⟩, by omega⟩
      · unfold f11_put_99
        rw [tt]
        simp (disch := omega) only [pv_lt, pu_ck, pv_bI, pv_bV, pu_bR, pv_bL, pv_nt, pu_us, pu_un, mL_0, mL_1, mL_2, mL_3, mL_4, mL_5, mL_6, mL_7, mL_8, mL_9, mL_10, mL_11, mL_12, mL_13, mL_14, mL_15, mL_16, mL_23, mL_24, mL_32, mL_48, mL_64, mL_99, mL_100, mL_200, mL_336, mL_576, mL_768, mL_800, mL_999, mL_4095, mL_4096, mL_m1, nI_leI, nI_ltI, nI_eq, nI_clamp, nI_add, pk_mul, nI_nu, bI_eq0, bI_eq1, bo_ft, Bool.true_eq_false, Bool.false_eq_true, pu_of, pu_of24, pu_onward, pu_frq, if_true, if_false, true_or, or_true, false_or, or_false, and_true, true_and, and_false, false_and, not_true_eq_false, not_false_eq_true, if_neg, if_pos, h0, ek, nk]
        simp (disch := omega) only [pv_lt, pu_ck, pv_bI, pv_bV, pu_bR, pv_bL, pv_nt, pu_us, pu_un, mL_0, mL_1, mL_2, mL_3, mL_4, mL_5, mL_6, mL_7, mL_8, mL_9, mL_10, mL_11, mL_12, mL_13, mL_14, mL_15, mL_16, mL_23, mL_24, mL_32, mL_48, mL_64, mL_99, mL_100, mL_200, mL_336, mL_576, mL_768, mL_800, mL_999, mL_4095, mL_4096, mL_m1, nI_leI, nI_ltI, nI_eq, nI_clamp, nI_add, pk_mul, nI_nu, bI_eq0, bI_eq1, bo_ft, Bool.true_eq_false, Bool.false_eq_true, pu_of, pu_of24, pu_onward, pu_frq, if_true, if_false, true_or, or_true, false_or, or_false, and_true, true_and, and_false, false_and, not_true_eq_false, not_false_eq_true, if_neg, if_pos, f11_put_148, c2, pu_ixN']
      · refine st_R_e (t := t) Rs (by omega) (by omega) ?_ ?_ ?_ pu_us (fun a b c h => ?_)
        · rw [pu_un (by omega), pu_un (by omega), if_neg (by omega)]; exact c1
        · rw [pu_un (by omega), pu_us]
        · rw [pu_un (by omega), pu_un (by omega), (c4 k k1).1, k2]
        · rw [pu_un (by omega), pu_un (by omega)]
      · unfold S_pr at h
        rw [pu_un (by omega), pu_un (by omega)]
    · have ek := pr_kN P Rs hq k3
      rw [← k1] at c1
      refine ⟨sr_u (sr_u (sr_u (sr_u t 37 0 k (nI q)) 11 0 33 (nI (k + 1))) 11 0 34 (nI (w.1.2.1 + 1))) 38 0 k (nI (w.1.2.1 + 1)), ?_, ?_, ⟨rfl, fun a b c h => ?_⟩, k2⟩
      · unfold f11_put_99
        rw [tt]
        simp (disch := omega) only [pv_lt, pu_ck, pv_bI, pv_bV, pu_bR, pv_bL, pv_nt, pu_us, pu_un, mL_0, mL_1, mL_2, mL_3, mL_4, mL_5, mL_6, mL_7, mL_8, mL_9, mL_10, mL_11, mL_12, mL_13, mL_14, mL_15, mL_16, mL_23, mL_24, mL_32, mL_48, mL_64, mL_99, mL_100, mL_200, mL_336, mL_576, mL_768, mL_800, mL_999, mL_4095, mL_4096, mL_m1, nI_leI, nI_ltI, nI_eq, nI_clamp, nI_add, pk_mul, nI_nu, bI_eq0, bI_eq1, bo_ft, Bool.true_eq_false, Bool.false_eq_true, pu_of, pu_of24, pu_onward, pu_frq, if_true, if_false, true_or, or_true, false_or, or_false, and_true, true_and, and_false, false_and, not_true_eq_false, not_false_eq_true, if_neg, if_pos, h0, ek, c1, pu_ixN']
        simp (disch := omega) only [pv_lt, pu_ck, pv_bI, pv_bV, pu_bR, pv_bL, pv_nt, pu_us, pu_un, mL_0, mL_1, mL_2, mL_3, mL_4, mL_5, mL_6, mL_7, mL_8, mL_9, mL_10, mL_11, mL_12, mL_13, mL_14, mL_15, mL_16, mL_23, mL_24, mL_32, mL_48, mL_64, mL_99, mL_100, mL_200, mL_336, mL_576, mL_768, mL_800, mL_999, mL_4095, mL_4096, mL_m1, nI_leI, nI_ltI, nI_eq, nI_clamp, nI_add, pk_mul, nI_nu, bI_eq0, bI_eq1, bo_ft, Bool.true_eq_false, Bool.false_eq_true, pu_of, pu_of24, pu_onward, pu_frq, if_true, if_false, true_or, or_true, false_or, or_false, and_true, true_and, and_false, false_and, not_true_eq_false, not_false_eq_true, if_neg, if_pos, f11_put_148, c2, pu_ixN']
      · refine st_R_e (t := t) Rs (by omega) (by omega) ?_ ?_ ?_ pu_us (fun a b c h => ?_)
        · rw [pu_un (by omega), pu_un (by omega), pu_us, if_pos k1, ← k1]
        · rw [pu_un (by omega), pu_us]
        · rw [pu_un (by omega), pu_un (by omega), pu_un (by omega), pu_us]
        · rw [pu_un (by omega), pu_un (by omega), pu_un (by omega), pu_un (by omega)]
      · unfold S_pr at h
        rw [pu_un (by omega), pu_un (by omega), pu_un (by omega), pu_un (by omega)]
  obtain ⟨t3, m1, m2, m3, hk⟩ := main
  obtain ⟨t4, h1, h2, h3⟩ := pr_holds (k := k) (n := e) (v := v) (x := w.1.2.1 + 1) m2 hk (by omega)
  have R4 : rg_R t4 s := rg_R_fr O (fr_trans m3 (fr_mono h3 (fun k i j q => by unfold S_hr at q; unfold S_pr; omega))) (fun k i j q => by unfold Fp_R at q; unfold S_pr; omega) R
  obtain ⟨t5, g1, g2, g3⟩ := pr_keep (v := v) (a := a) (b := nI q) R4 O he hk (show (st_h (st_e w k q) k e v (w.1.2.1 + 1)).1.2.2 ≤ 3 from q4) h2
  refine ⟨t5, ?_, g2, fr_trans m3 (fr_mono (fr_trans h3 g3) (fun k i j q => by unfold S_hr at q; unfold S_pr; omega))⟩
  rw [m1, h1, pv_bV, g1]
theorem pc_room {i N q : Nat} {t : sr_t} {w : st_T} (W : st_I i t N w) (hq : q < 4096) : (∃ k, kE w q k ∧ F6_hasRoomFor (nI q) t = some (.inl (some (sr_i (nI 1))), t)) ∨ (w.1.1 = 32 ∧ (∀ j, j < w.1.1 → w.2.1 j ≠ q) ∧ F6_hasRoomFor (nI q) t = some (.inl (some (sr_i (nI 0))), t)) := by
  have h1 := W.2.1.1
  have h3 := W.1.1
  rcases kn_of w q with ⟨k, k1, k2, k3⟩ | hno
  · left
    refine ⟨k, Or.inl ⟨k1, k2, k3⟩, ?_⟩
    have ee := pc_entryY W k1 k2 k3
    by_cases h : w.1.1 < 32
    · simp (disch := omega) only [pv_lt, pu_ck, pv_bI, pv_bV, pu_bR, pv_bL, pv_nt, pu_us, pu_un, mL_0, mL_1, mL_2, mL_3, mL_4, mL_5, mL_6, mL_7, mL_8, mL_9, mL_10, mL_11, mL_12, mL_13, mL_14, mL_15, mL_16, mL_23, mL_24, mL_32, mL_48, mL_64, mL_99, mL_100, mL_200, mL_336, mL_576, mL_768, mL_800, mL_999, mL_4095, mL_4096, mL_m1, nI_leI, nI_ltI, nI_eq, nI_clamp, nI_add, pk_mul, nI_nu, bI_eq0, bI_eq1, bo_ft, Bool.true_eq_false, Bool.false_eq_true, pu_of, pu_of24, pu_onward, pu_frq, if_true, if_false, true_or, or_true, false_or, or_false, and_true, true_and, and_false, false_and, not_true_eq_false, not_false_eq_true, if_neg, if_pos, F6_hasRoomFor, f6_hasRoomFor_21, f6_hasRoomFor_26, h1]
    · simp (disch := omega) only [pv_lt, pu_ck, pv_bI, pv_bV, pu_bR, pv_bL, pv_nt, pu_us, pu_un, mL_0, mL_1, mL_2, mL_3, mL_4, mL_5, mL_6, mL_7, mL_8, mL_9, mL_10, mL_11, mL_12, mL_13, mL_14, mL_15, mL_16, mL_23, mL_24, mL_32, mL_48, mL_64, mL_99, mL_100, mL_200, mL_336, mL_576, mL_768, mL_800, mL_999, mL_4095, mL_4096, mL_m1, nI_leI, nI_ltI, nI_eq, nI_clamp, nI_add, pk_mul, nI_nu, bI_eq0, bI_eq1, bo_ft, Bool.true_eq_false, Bool.false_eq_true, pu_of, pu_of24, pu_onward, pu_frq, if_true, if_false, true_or, or_true, false_or, or_false, and_true, true_and, and_false, false_and, not_true_eq_false, not_false_eq_true, if_neg, if_pos, F6_hasRoomFor, f6_hasRoomFor_21, f6_hasRoomFor_26, h1, ee]
  · have ee := pc_entryN W hq hno
    by_cases h : w.1.1 < 32
    · left
      refine ⟨w.1.1, Or.inr ⟨rfl, h, hno⟩, ?_⟩
      simp (disch := omega) only [pv_lt, pu_ck, pv_bI, pv_bV, pu_bR, pv_bL, pv_nt, pu_us, pu_un, mL_0, mL_1, mL_2, mL_3, mL_4, mL_5, mL_6, mL_7, mL_8, mL_9, mL_10, mL_11, mL_12, mL_13, mL_14, mL_15, mL_16, mL_23, mL_24, mL_32, mL_48, mL_64, mL_99, mL_100, mL_200, mL_336, mL_576, mL_768, mL_800, mL_999, mL_4095, mL_4096, mL_m1, nI_leI, nI_ltI, nI_eq, nI_clamp, nI_add, pk_mul, nI_nu, bI_eq0, bI_eq1, bo_ft, Bool.true_eq_false, Bool.false_eq_true, pu_of, pu_of24, pu_onward, pu_frq, if_true, if_false, true_or, or_true, false_or, or_false, and_true, true_and, and_false, false_and, not_true_eq_false, not_false_eq_true, if_neg, if_pos, F6_hasRoomFor, f6_hasRoomFor_21, f6_hasRoomFor_26, h1]
    · right
      refine ⟨by omega, hno, ?_⟩
      simp (disch := omega) only [pv_lt, pu_ck, pv_bI, pv_bV, pu_bR, pv_bL, pv_nt, pu_us, pu_un, mL_0, mL_1, mL_2, mL_3, mL_4, mL_5, mL_6, mL_7, mL_8, mL_9, mL_10, mL_11, mL_12, mL_13, mL_14, mL_15, mL_16, mL_23, mL_24, mL_32, mL_48, mL_64, mL_99, mL_100, mL_200, mL_336, mL_576, mL_768, mL_800, mL_999, mL_4095, mL_4096, mL_m1, nI_leI, nI_ltI, nI_eq, nI_clamp, nI_add, pk_mul, nI_nu, bI_eq0, bI_eq1, bo_ft, Bool.true_eq_false, Bool.false_eq_true, pu_of, pu_of24, pu_onward, pu_frq, if_true, if_false, true_or, or_true, false_or, or_false, and_true, true_and, and_false, false_and, not_true_eq_false, not_false_eq_true, if_neg, if_pos, F6_hasRoomFor, f6_hasRoomFor_21, f6_hasRoomFor_26, h1, ee]
theorem s_put {i : Nat} (hi : i + 4 ≤ 2048) (a b c : Int32) : sr_ok3 (sr_Inv i) (sr_Inv (i + 4)) (fun t => FL_put_23 a b c t) (fun t => F11_put a b c t) := by
  refine ok3_m hi (F := F10_put a b c) (G := F11_put a b c) (hc := hcL_put_23) (fun t s w X => ?_)
  obtain ⟨O, C, K, nb, sp, R, kp, L, W⟩ := id X
  have hN := O.1.1
  have thr : ∀ {T : sr_t} {x y z u : Int32}, u = nI 1 ∨ u = nI 2 ∨ u = nI 3 → f11_put_67 x y z u T = some (.inl (some (sr_i (nI 0))), sr_u T 11 0 0 u) := by
    intro T x y z u hu
    rcases hu with rfl | rfl | rfl <;> simp (disch := omega) only [pv_lt, pu_ck, pv_bI, pv_bV, pu_bR, pv_bL, pv_nt, pu_us, pu_un, mL_0, mL_1, mL_2, mL_3, mL_4, mL_5, mL_6, mL_7, mL_8, mL_9, mL_10, mL_11, mL_12, mL_13, mL_14, mL_15, mL_16, mL_23, mL_24, mL_32, mL_48, mL_64, mL_99, mL_100, mL_200, mL_336, mL_576, mL_768, mL_800, mL_999, mL_4095, mL_4096, mL_m1, nI_leI, nI_ltI, nI_eq, nI_clamp, nI_add, pk_mul, nI_nu, bI_eq0, bI_eq1, bo_ft, Bool.true_eq_false, Bool.false_eq_true, pu_of, pu_of24, pu_onward, pu_frq, if_true, if_false, true_or, or_true, false_or, or_false, and_true, true_and, and_false, false_and, not_true_eq_false, not_false_eq_true, if_neg, if_pos, f11_put_67]
  rcases a_node a hN with ha | ⟨n, hn, rfl⟩
  · right
    have n1 := nN_no C ha
    have i1 := iN_no R.1 O.1 ha
    refine ⟨2, nI 1, nI 0, t, sr_u t 11 0 0 (nI 1), s, w, ?_, rfl, by decide, ?_, pu_us, J_mono (J_thr X)⟩
    · unfold F10_put
      rw [n1, bVr]
    · unfold F11_put
      rw [i1, pv_bI, if_pos (show nI 0 = 0 from rfl)]
      exact thr (Or.inl rfl)
  · have n1 := nN_ok C O hn
    have i1 := iN_ok R.1 O.1 hn
    have bad : ∀ {T : sr_t}, f11_put_31 (nI n) b c T = some (.inl (some (sr_i (nI 0))), sr_u T 11 0 0 (nI 2)) := thr (Or.inr (Or.inl rfl))
    rcases a_place b with hb | ⟨q, hq, rfl⟩
    · right
      have nP := nP_no (t := t) hb
      have iP := iP_no (t := t) hb
      refine ⟨0, nI 2, nI 0, t, sr_u t 11 0 0 (nI 2), s, w, ?_, rfl, by decide, ?_, pu_us, J_mono (J_thr X)⟩
      · unfold F10_put
        rw [n1, pv_bV, nP, bVr]
      · unfold F11_put
        rw [i1, pv_bI, if_neg (show ¬ nI 1 = 0 by decide), iP, pv_bI, if_pos (show nI 0 = 0 from rfl)]
        exact bad
    · have nP := nP_ok (t := t) hq
      have iP := iP_ok (t := t) hq
      rcases a_in c 0 999 (by omega) (by omega) with hc | ⟨v, v0, v1, rfl⟩
      · right
        have iV : F11_isIn c 0 999 t = some (.inl (some (sr_i (nI 0))), t) := iIn_no hc
        refine ⟨0, nI 2, nI 0, t, sr_u t 11 0 0 (nI 2), s, w, ?_, rfl, by decide, ?_, pu_us, J_mono (J_thr X)⟩
        · unfold F10_put
          rw [n1, pv_bV, nP, pv_bV]
          by_cases h : c < 0
          · rw [if_pos h]; rfl
          · have h2 : nI 999 < c := hc.resolve_left h
            rw [if_neg h, if_neg (show ¬ c ≤ 999 from Int32.not_le.mpr h2)]; rfl
        · unfold F11_put
          rw [i1, pv_bI, if_neg (show ¬ nI 1 = 0 by decide), iP, pv_bI, if_neg (show ¬ nI 1 = 0 by decide), iV, pv_bI, if_pos (show nI 0 = 0 from rfl)]
          exact bad
      · have iV : F11_isIn (nI v) 0 999 t = some (.inl (some (sr_i (nI 1))), t) := iIn_ok (l := 0) (h := 999) v0 v1 (by omega)
        by_cases hu : rg_u s n = true
        · have nU := nU_ok C O hn hu
          have u25 : ∀ {T : sr_t}, rg_R T s → T.1 25 0 n = nI 1 := fun RT => by
            have := (RT.1.2 n hn).2.1
            rw [hu] at this
            exact this
          rcases pc_room W hq with ⟨k, hE, hr⟩ | ⟨hr1, hr2, hr3⟩
          · obtain ⟨t1, e1, f1, C1, W1, R1, ref⟩ := lk_pair X hn hu hq
            have head : F10_put (nI n) (nI q) (nI v) t = sr_bR 2 50 (F10_endOfLookup (nI n) (nI q) t) (fun n5 t5 => (sr_bI (F6_keepAt 0 n5 (nI q) (nI v) t5) (fun v6 t6 => (some (.inl (some (sr_i v6)), t6))))) := by
              simp (disch := omega) only [pv_lt, pu_ck, pv_bI, pv_bV, pu_bR, pv_bL, pv_nt, pu_us, pu_un, mL_0, mL_1, mL_2, mL_3, mL_4, mL_5, mL_6, mL_7, mL_8, mL_9, mL_10, mL_11, mL_12, mL_13, mL_14, mL_15, mL_16, mL_23, mL_24, mL_32, mL_48, mL_64, mL_99, mL_100, mL_200, mL_336, mL_576, mL_768, mL_800, mL_999, mL_4095, mL_4096, mL_m1, nI_leI, nI_ltI, nI_eq, nI_clamp, nI_add, pk_mul, nI_nu, bI_eq0, bI_eq1, bo_ft, Bool.true_eq_false, Bool.false_eq_true, pu_of, pu_of24, pu_onward, pu_frq, if_true, if_false, true_or, or_true, false_or, or_false, and_true, true_and, and_false, false_and, not_true_eq_false, not_false_eq_true, if_neg, if_pos, F10_put, n1, nP, nU, hr]
            have rhead : ∀ {T : sr_t}, rg_R T s → st_R T w → F11_put (nI n) (nI q) (nI v) T = f11_put_67 (nI n) (nI q) (nI v) (nI 0) T := by
              intro T RT RsT
              have i1 := iN_ok RT.1 O.1 hn
              have iP := iP_ok (t := T) hq
              have iV := iIn_ok (t := T) v0 v1 (by omega)
              have u := u25 RT
              have h33 := RsT.1.1
              rcases hE with ⟨k1, k2, k3⟩ | ⟨k1, k2, k3⟩
              · have ek := pr_kY (st_I_to W).1 RsT k1 k2 k3
                have := W.1.1
                have nk := nI_nm (a := k) (by omega)
                simp (disch := omega) only [pv_lt, pu_ck, pv_bI, pv_bV, pu_bR, pv_bL, pv_nt, pu_us, pu_un, mL_0, mL_1, mL_2, mL_3, mL_4, mL_5, mL_6, mL_7, mL_8, mL_9, mL_10, mL_11, mL_12, mL_13, mL_14, mL_15, mL_16, mL_23, mL_24, mL_32, mL_48, mL_64, mL_99, mL_100, mL_200, mL_336, mL_576, mL_768, mL_800, mL_999, mL_4095, mL_4096, mL_m1, nI_leI, nI_ltI, nI_eq, nI_clamp, nI_add, pk_mul, nI_nu, bI_eq0, bI_eq1, bo_ft, Bool.true_eq_false, Bool.false_eq_true, pu_of, pu_of24, pu_onward, pu_frq, if_true, if_false, true_or, or_true, false_or, or_false, and_true, true_and, and_false, false_and, not_true_eq_false, not_false_eq_true, if_neg, if_pos, F11_put, i1, iP, iV, u, ek, nk, pu_ixN']
                simp (disch := omega) only [pv_lt, pu_ck, pv_bI, pv_bV, pu_bR, pv_bL, pv_nt, pu_us, pu_un, mL_0, mL_1, mL_2, mL_3, mL_4, mL_5, mL_6, mL_7, mL_8, mL_9, mL_10, mL_11, mL_12, mL_13, mL_14, mL_15, mL_16, mL_23, mL_24, mL_32, mL_48, mL_64, mL_99, mL_100, mL_200, mL_336, mL_576, mL_768, mL_800, mL_999, mL_4095, mL_4096, mL_m1, nI_leI, nI_ltI, nI_eq, nI_clamp, nI_add, pk_mul, nI_nu, bI_eq0, bI_eq1, bo_ft, Bool.true_eq_false, Bool.false_eq_true, pu_of, pu_of24, pu_onward, pu_frq, if_true, if_false, true_or, or_true, false_or, or_false, and_true, true_and, and_false, false_and, not_true_eq_false, not_false_eq_true, if_neg, if_pos, f11_put_66]
              · have ek := pr_kN (st_I_to W).1 RsT hq k3
                simp (disch := omega) only [pv_lt, pu_ck, pv_bI, pv_bV, pu_bR, pv_bL, pv_nt, pu_us, pu_un, mL_0, mL_1, mL_2, mL_3, mL_4, mL_5, mL_6, mL_7, mL_8, mL_9, mL_10, mL_11, mL_12, mL_13, mL_14, mL_15, mL_16, mL_23, mL_24, mL_32, mL_48, mL_64, mL_99, mL_100, mL_200, mL_336, mL_576, mL_768, mL_800, mL_999, mL_4095, mL_4096, mL_m1, nI_leI, nI_ltI, nI_eq, nI_clamp, nI_add, pk_mul, nI_nu, bI_eq0, bI_eq1, bo_ft, Bool.true_eq_false, Bool.false_eq_true, pu_of, pu_of24, pu_onward, pu_frq, if_true, if_false, true_or, or_true, false_or, or_false, and_true, true_and, and_false, false_and, not_true_eq_false, not_false_eq_true, if_neg, if_pos, F11_put, i1, iP, iV, u, ek, h33, pu_ixN']
                simp (disch := omega) only [pv_lt, pu_ck, pv_bI, pv_bV, pu_bR, pv_bL, pv_nt, pu_us, pu_un, mL_0, mL_1, mL_2, mL_3, mL_4, mL_5, mL_6, mL_7, mL_8, mL_9, mL_10, mL_11, mL_12, mL_13, mL_14, mL_15, mL_16, mL_23, mL_24, mL_32, mL_48, mL_64, mL_99, mL_100, mL_200, mL_336, mL_576, mL_768, mL_800, mL_999, mL_4095, mL_4096, mL_m1, nI_leI, nI_ltI, nI_eq, nI_clamp, nI_add, pk_mul, nI_nu, bI_eq0, bI_eq1, bo_ft, Bool.true_eq_false, Bool.false_eq_true, pu_of, pu_of24, pu_onward, pu_frq, if_true, if_false, true_or, or_true, false_or, or_false, and_true, true_and, and_false, false_and, not_true_eq_false, not_false_eq_true, if_neg, if_pos, f11_put_66]
            rcases lk_e_cases (key := q) (best := true) O hn hu with he | he
            · left
              have x1 := pc_endY (by omega) (by omega) e1
              generalize lk_e s q true n = e at *
              rw [cI_lt (by omega)] at ref
              obtain ⟨t2, k1, k2, k3⟩ := pc_put (v := v) C1 O he W1 (by omega) hq hE
              refine ⟨nI (pl s e k v (st_h (st_e w k q) k e v (w.1.2.1 + 1)) (rg_t s e 1)).1, t2, ?_, fun T hT => ?_⟩
              · rw [head, x1, pu_bR (by omega), k1, pv_bI]
              · have fT : frI S_pc t1 T := fun k i j h => by rw [hT]; exact k3.2 k i j h
                obtain ⟨t3, e3, l3, f3, J3⟩ := ref T (frI_mono fT (fun k i j q => by unfold S_pc at q; unfold S_sto; omega))
                have RT : rg_R T s := rg_R_fI O fT (fun k i j q => by unfold Fp_R at q; unfold S_pc; omega) R1
                obtain ⟨P1, Cs1, Rs1⟩ := st_I_to W1
                have RsT : st_R T w := st_R_fr fT (fun k i j q => by unfold S_pc; omega) Rs1
                have CsT : st_C T (pl s e k v (st_h (st_e w k q) k e v (w.1.2.1 + 1)) (rg_t s e 1)).2 := st_C_fr (S := fun _ _ _ => False) (t := t2) (fun k i j _ => by rw [hT]) (fun _ _ _ _ h => h) k2
                have f4 : frI (fun k i j => (k = 11 ∧ i = 0 ∧ j = 0) ∨ S_ll k i j) T (sr_u t3 11 0 0 (nI 0)) := fun k i j h => by rw [pu_un (fun q => h (Or.inl q))]; exact f3 k i j h
                have J4 : JL (sr_u t3 11 0 0 (nI 0)) s := JL_st (t := t3) (fun k i j h => pu_un (fun q => h (by unfold S_sto; omega))) J3
                have Rs4 : st_R (sr_u t3 11 0 0 (nI 0)) w := st_R_fr f4 (fun k i j q => by unfold S_ll; omega) RsT
                have Cs4 := st_C_fr f4 (fun k i j q => by unfold S_ll; omega) CsT
                obtain ⟨t5, g1, g2, g3⟩ := pr_put (v := v) (a := nI n) J4.2.2.2.2.2.1 O he P1 Rs4 (by omega) hq hE pu_us
                have hk1 : k < (st_e w k q).1.1 := by
                  show k < if k = w.1.1 then w.1.1 + 1 else w.1.1
                  rcases hE with ⟨k1, _⟩ | ⟨k1, _⟩
                  · rw [if_neg (by omega)]; exact k1
                  · rw [if_pos k1]; omega
                have hk32 : k ≤ w.1.1 ∧ k < 32 := by
                  have := W.1.1
                  rcases hE with ⟨k1, _⟩ | ⟨k1, k2, _⟩ <;> omega
                have P5 : st_P (i + 4) (rg_N s) (pl s e k v (st_h (st_e w k q) k e v (w.1.2.1 + 1)) (rg_t s e 1)).2 := pl_P (st_P_h (st_P_e P1 hk32.1 hk32.2 hq) v1 (Nat.le_refl _) (Or.inl ⟨hk1, he⟩)) v1 hk1 (rg_t s e 1) (O.2 e he).2.2.1
                refine ⟨t5, s, (pl s e k v (st_h (st_e w k q) k e v (w.1.2.1 + 1)) (rg_t s e 1)).2, ?_, ?_, ?_, J_of (JL_st (frI_mono g3.2 (fun k i j q => by unfold S_pr at q; unfold S_sto; omega)) J4) (st_I_of P5 (st_C_fr g3.2 (fun k i j q => by unfold S_pr; omega) Cs4) g2)⟩
                · rw [rhead RT RsT]
                  have r2 : f11_put_67 (nI n) (nI q) (nI v) (nI 0) T = f11_put_99 (nI n) (nI q) (nI v) (nI e) (nI 0) t3 := by
                    simp (disch := omega) only [pv_lt, pu_ck, pv_bI, pv_bV, pu_bR, pv_bL, pv_nt, pu_us, pu_un, mL_0, mL_1, mL_2, mL_3, mL_4, mL_5, mL_6, mL_7, mL_8, mL_9, mL_10, mL_11, mL_12, mL_13, mL_14, mL_15, mL_16, mL_23, mL_24, mL_32, mL_48, mL_64, mL_99, mL_100, mL_200, mL_336, mL_576, mL_768, mL_800, mL_999, mL_4095, mL_4096, mL_m1, nI_leI, nI_ltI, nI_eq, nI_clamp, nI_add, pk_mul, nI_nu, bI_eq0, bI_eq1, bo_ft, Bool.true_eq_false, Bool.false_eq_true, pu_of, pu_of24, pu_onward, pu_frq, if_true, if_false, true_or, or_true, false_or, or_false, and_true, true_and, and_false, false_and, not_true_eq_false, not_false_eq_true, if_neg, if_pos, f11_put_67, e3]
                  have r3 : f11_put_99 (nI n) (nI q) (nI v) (nI e) (nI 0) t3 = f11_put_99 (nI n) (nI q) (nI v) (nI e) (nI 0) (sr_u t3 11 0 0 (nI 0)) := by
                    have uu : sr_u (sr_u t3 11 0 0 (nI 0)) 11 0 0 (nI 0) = sr_u t3 11 0 0 (nI 0) := by
                      unfold sr_u
                      refine Prod.ext ?_ rfl
                      funext a b c
                      show (if a = 11 ∧ b = 0 ∧ c = 0 then nI 0 else if a = 11 ∧ b = 0 ∧ c = 0 then nI 0 else t3.1 a b c) = if a = 11 ∧ b = 0 ∧ c = 0 then nI 0 else t3.1 a b c
                      split <;> rfl
                    unfold f11_put_99
                    rw [pv_lt, pv_lt, uu]
                  rw [r2, r3, g1]
                · rw [g3.2 _ _ _ (by unfold S_pr; omega), pu_us]
                · rw [g3.1]; exact l3
            · right
              have x1 := pc_endN (by omega) he e1
              obtain ⟨t3, e3, l3, f3, J3⟩ := ref t1 (fun k i j _ => rfl)
              have ng : ¬ nI 0 ≤ cI (lk_e s q true n) := by rcases he with r | r <;> rw [r] <;> decide
              have W3 : st_I i t3 (rg_N s) w := st_I_fr f3 (fun k i j q q' => by unfold S_ll at q'; omega) W1
              have X3 : J i t3 s w := J_of J3 W3
              refine ⟨1, nI 3, nI 0, t1, sr_u t3 11 0 0 (nI 3), s, w, ?_, rfl, by decide, ?_, pu_us, J_mono (J_thr X3)⟩
              · rw [head, x1, bRr]
              · rw [rhead R1 (st_I_to W1).2.2]
                simp (disch := omega) only [pv_lt, pu_ck, pv_bI, pv_bV, pu_bR, pv_bL, pv_nt, pu_us, pu_un, mL_0, mL_1, mL_2, mL_3, mL_4, mL_5, mL_6, mL_7, mL_8, mL_9, mL_10, mL_11, mL_12, mL_13, mL_14, mL_15, mL_16, mL_23, mL_24, mL_32, mL_48, mL_64, mL_99, mL_100, mL_200, mL_336, mL_576, mL_768, mL_800, mL_999, mL_4095, mL_4096, mL_m1, nI_leI, nI_ltI, nI_eq, nI_clamp, nI_add, pk_mul, nI_nu, bI_eq0, bI_eq1, bo_ft, Bool.true_eq_false, Bool.false_eq_true, pu_of, pu_of24, pu_onward, pu_frq, if_true, if_false, true_or, or_true, false_or, or_false, and_true, true_and, and_false, false_and, not_true_eq_false, not_false_eq_true, if_neg, if_pos, f11_put_67, e3, ng]
                simp (disch := omega) only [pv_lt, pu_ck, pv_bI, pv_bV, pu_bR, pv_bL, pv_nt, pu_us, pu_un, mL_0, mL_1, mL_2, mL_3, mL_4, mL_5, mL_6, mL_7, mL_8, mL_9, mL_10, mL_11, mL_12, mL_13, mL_14, mL_15, mL_16, mL_23, mL_24, mL_32, mL_48, mL_64, mL_99, mL_100, mL_200, mL_336, mL_576, mL_768, mL_800, mL_999, mL_4095, mL_4096, mL_m1, nI_leI, nI_ltI, nI_eq, nI_clamp, nI_add, pk_mul, nI_nu, bI_eq0, bI_eq1, bo_ft, Bool.true_eq_false, Bool.false_eq_true, pu_of, pu_of24, pu_onward, pu_frq, if_true, if_false, true_or, or_true, false_or, or_false, and_true, true_and, and_false, false_and, not_true_eq_false, not_false_eq_true, if_neg, if_pos, f11_put_99]
          · right
            have ek := pr_knownN W hq hr2
            have u := u25 R
            have h33 := W.2.2.1.1
            rw [hr1] at h33
            refine ⟨1, nI 3, nI 0, t, sr_u t 11 0 0 (nI 3), s, w, ?_, rfl, by decide, ?_, pu_us, J_mono (J_thr X)⟩
            · simp (disch := omega) only [pv_lt, pu_ck, pv_bI, pv_bV, pu_bR, pv_bL, pv_nt, pu_us, pu_un, mL_0, mL_1, mL_2, mL_3, mL_4, mL_5, mL_6, mL_7, mL_8, mL_9, mL_10, mL_11, mL_12, mL_13, mL_14, mL_15, mL_16, mL_23, mL_24, mL_32, mL_48, mL_64, mL_99, mL_100, mL_200, mL_336, mL_576, mL_768, mL_800, mL_999, mL_4095, mL_4096, mL_m1, nI_leI, nI_ltI, nI_eq, nI_clamp, nI_add, pk_mul, nI_nu, bI_eq0, bI_eq1, bo_ft, Bool.true_eq_false, Bool.false_eq_true, pu_of, pu_of24, pu_onward, pu_frq, if_true, if_false, true_or, or_true, false_or, or_false, and_true, true_and, and_false, false_and, not_true_eq_false, not_false_eq_true, if_neg, if_pos, F10_put, n1, nP, nU, hr3]
            · have iV := iIn_ok (t := t) v0 v1 (by omega)
              simp (disch := omega) only [pv_lt, pu_ck, pv_bI, pv_bV, pu_bR, pv_bL, pv_nt, pu_us, pu_un, mL_0, mL_1, mL_2, mL_3, mL_4, mL_5, mL_6, mL_7, mL_8, mL_9, mL_10, mL_11, mL_12, mL_13, mL_14, mL_15, mL_16, mL_23, mL_24, mL_32, mL_48, mL_64, mL_99, mL_100, mL_200, mL_336, mL_576, mL_768, mL_800, mL_999, mL_4095, mL_4096, mL_m1, nI_leI, nI_ltI, nI_eq, nI_clamp, nI_add, pk_mul, nI_nu, bI_eq0, bI_eq1, bo_ft, Bool.true_eq_false, Bool.false_eq_true, pu_of, pu_of24, pu_onward, pu_frq, if_true, if_false, true_or, or_true, false_or, or_false, and_true, true_and, and_false, false_and, not_true_eq_false, not_false_eq_true, if_neg, if_pos, F11_put, i1, iP, iV, u, ek, h33, pu_ixN']
              exact thr (Or.inr (Or.inr rfl))
        · right
          have hu' : rg_u s n = false := by simpa using hu
          have nU := nU_no C O hn hu'
          have u := (R.1.2 n hn).2.1
          rw [hu'] at u
          have bf : bI false = nI 0 := rfl
          rw [bf] at u
          refine ⟨1, nI 3, nI 0, t, sr_u t 11 0 0 (nI 3), s, w, ?_, rfl, by decide, ?_, pu_us, J_mono (J_thr X)⟩
          · simp (disch := omega) only [pv_lt, pu_ck, pv_bI, pv_bV, pu_bR, pv_bL, pv_nt, pu_us, pu_un, mL_0, mL_1, mL_2, mL_3, mL_4, mL_5, mL_6, mL_7, mL_8, mL_9, mL_10, mL_11, mL_12, mL_13, mL_14, mL_15, mL_16, mL_23, mL_24, mL_32, mL_48, mL_64, mL_99, mL_100, mL_200, mL_336, mL_576, mL_768, mL_800, mL_999, mL_4095, mL_4096, mL_m1, nI_leI, nI_ltI, nI_eq, nI_clamp, nI_add, pk_mul, nI_nu, bI_eq0, bI_eq1, bo_ft, Bool.true_eq_false, Bool.false_eq_true, pu_of, pu_of24, pu_onward, pu_frq, if_true, if_false, true_or, or_true, false_or, or_false, and_true, true_and, and_false, false_and, not_true_eq_false, not_false_eq_true, if_neg, if_pos, F10_put, n1, nP, nU, bVr]
          · have iV := iIn_ok (t := t) v0 v1 (by omega)
            simp (disch := omega) only [pv_lt, pu_ck, pv_bI, pv_bV, pu_bR, pv_bL, pv_nt, pu_us, pu_un, mL_0, mL_1, mL_2, mL_3, mL_4, mL_5, mL_6, mL_7, mL_8, mL_9, mL_10, mL_11, mL_12, mL_13, mL_14, mL_15, mL_16, mL_23, mL_24, mL_32, mL_48, mL_64, mL_99, mL_100, mL_200, mL_336, mL_576, mL_768, mL_800, mL_999, mL_4095, mL_4096, mL_m1, nI_leI, nI_ltI, nI_eq, nI_clamp, nI_add, pk_mul, nI_nu, bI_eq0, bI_eq1, bo_ft, Bool.true_eq_false, Bool.false_eq_true, pu_of, pu_of24, pu_onward, pu_frq, if_true, if_false, true_or, or_true, false_or, or_false, and_true, true_and, and_false, false_and, not_true_eq_false, not_false_eq_true, if_neg, if_pos, F11_put, i1, iP, iV, u, pu_ixN']
            exact thr (Or.inr (Or.inr rfl))
end
