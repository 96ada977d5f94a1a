section
/-! tables are laid: the class's way, the reference's way -/
def rg_hg (s : rg_T) (b n : Nat) : Nat := rg_lb s (rg_p s n * 2 ^ b % 4096)
def rg_lay (s : rg_T) (b d n : Nat) : Nat → Nat := fun i => if i = 0 then 2 ^ b else if i = 1 then min 3 (rg_up s - 1) else if i = 5 then min d (rg_up s) else if i < 5 then rg_cy s n (i - 1) else rg_cy s (rg_hg s b n) (i - 6)
theorem rl_0 {s : rg_T} {b d n : Nat} : rg_lay s b d n 0 = 2 ^ b := rfl
theorem rl_1 {s : rg_T} {b d n : Nat} : rg_lay s b d n 1 = min 3 (rg_up s - 1) := rfl
theorem rl_5 {s : rg_T} {b d n : Nat} : rg_lay s b d n 5 = min d (rg_up s) := rfl
theorem rl_2 {s : rg_T} {b d n k : Nat} (h : k < 3) : rg_lay s b d n (2 + k) = rg_cy s n (k + 1) := by
  unfold rg_lay
  rw [if_neg (by omega), if_neg (by omega), if_neg (by omega), if_pos (by omega), show 2 + k - 1 = k + 1 by omega]
theorem rl_6 {s : rg_T} {b d n k : Nat} : rg_lay s b d n (6 + k) = rg_cy s (rg_hg s b n) k := by
  unfold rg_lay
  rw [if_neg (by omega), if_neg (by omega), if_neg (by omega), if_neg (by omega), show 6 + k - 6 = k by omega]
theorem rg_tokL {s : rg_T} {b d n : Nat} (O : rg_okB s) (hn : n < rg_N s) (hu : rg_u s n = true) (hb : b ≤ 4) (hd : 1 ≤ d) (hd8 : d ≤ 8) : rg_tok (rg_N s) (rg_lay s b d n) := by
  have h1 := rg_up1 hn hu
  have hh := rg_lb_up (q := rg_p s n * 2 ^ b % 4096) O hn hu
  have h2 : 2 ^ b ≤ 16 := by
    have : 2 ^ b ≤ 2 ^ 4 := Nat.pow_le_pow_right (by decide) hb
    omega
  refine ⟨h2, ?_, ?_, ?_, ?_, ?_⟩
  · rw [rl_1]; omega
  · intro k hk
    rw [rl_1] at hk
    rw [rl_2 (by omega)]
    exact (rg_cyc O hn hu (k + 1) (by omega)).1
  · rw [rl_5]; omega
  · rw [rl_5]; omega
  · intro k hk
    rw [rl_5] at hk
    rw [rl_6]
    exact (rg_cyc O hh.1 hh.2.1 k (by omega)).1
theorem rg_B_of {t t' : sr_t} {r : Nat} {s : rg_T} (h2 : ∀ i j, t'.1 2 i j = t.1 2 i j) (h3 : ∀ i j, t'.1 3 i j = t.1 3 i j) (B : rg_B t r s) : rg_B t' r s := by
  unfold rg_B rg_head rg_nob rg_nod at *
  simp only [h2, h3]
  exact B
theorem rg_RB_of {t t' : sr_t} {s : rg_T} (h1 : ∀ i j, t'.1 11 i j = t.1 11 i j) (h2 : ∀ i j, t'.1 24 i j = t.1 24 i j) (h3 : ∀ i j, t'.1 25 i j = t.1 25 i j) (h4 : ∀ i j, t'.1 26 i j = t.1 26 i j) (B : rg_RB t s) : rg_RB t' s := by
  unfold rg_RB at *
  simp only [h1, h2, h3, h4]
  exact B
theorem pu_add {t : sr_t} {i m : Nat} {v : Int32} (h : t.1 4 i 1 = nI m) (hm : m < 8) : F4_add i v t = some (.inl none, sr_u (sr_u t 12 i m v) 4 i 1 (nI (m + 1))) := by
  simp (disch := omega) only [pu_lt, pu_ck, pu_bI, pu_bV, pu_bR, pu_bL, pu_nt, pu_us, pu_un, nL_0, nL_1, nL_2, nL_3, nL_4, nL_5, nL_6, nL_7, nL_8, nL_9, nL_10, nL_11, nL_12, nL_13, nL_14, nL_15, nL_16, nL_23, nL_24, nL_32, nL_48, nL_64, nL_99, nL_100, nL_200, nL_336, nL_576, nL_768, nL_800, nL_999, nL_4095, nL_4096, nL_m1, nI_leI, nI_ltI, nI_eq, nI_clamp, nI_add, pk_mul, nI_nu, bI_eq0, bI_eq1, if_true, if_false, if_neg, if_pos, F4_add, f4_add_39, h]
/-- what a table of the class is -/
def S_tab (i : Nat) (k i' _j : Nat) : Prop := (k = 7 ∧ i' = i) ∨ ((k = 4 ∨ k = 12) ∧ (i' = 2 * i ∨ i' = 2 * i + 1))
theorem pu_ffn {t : sr_t} {s : rg_T} {r m : Nat} (B : rg_B t r s) (O : rg_okB s) (hr : r < 2) (hm : m < rg_N s) : F3_firstFrom r (nI (rg_p s m + 1)) t = some (.inl (some (sr_r 2 (25 * r + rg_sc s m))), t) := by
  have hp := O.2.2.2.1 m hm
  exact pu_firstFrom B O hr (pu_qn (by omega))
set_option maxHeartbeats 1000000 in
theorem pu_lay1 {t : sr_t} {s : rg_T} {r n i1 : Nat} {K : sr_t → sr_Rs} {Q : sr_O → sr_t → Prop} (B : rg_B t r s) (O : rg_okB s) (hr : r < 2) (hn : n < rg_N s) (hu : rg_u s n = true) (h0 : t.1 4 (2 * i1) 1 = nI 0)
    (hK : ∀ t', t'.1 4 (2 * i1) 1 = nI (min 3 (rg_up s - 1)) → (∀ j, j < min 3 (rg_up s - 1) → t'.1 12 (2 * i1) j = nI (rg_cy s n (j + 1))) → t'.1 7 i1 0 = t.1 7 i1 0 → fr (S_tab i1) t t' → rs_to Q (K t')) : rs_to Q (f3_layInto_29 r i1 (25 * r + n) K sr_fu (25 * r + rg_sc s n) (nI 0) t) := by
  have hN := O.1
  have hU := rg_up1 hn hu
  refine rs_loop (N := 3) (L := fun f k t' => f3_layInto_29 r i1 (25 * r + n) K f (25 * r + rg_cy s n (k + 1)) (nI k) t') (fun k t' => t'.1 4 (2 * i1) 1 = nI k ∧ (∀ j, j < k → t'.1 12 (2 * i1) j = nI (rg_cy s n (j + 1))) ∧ t'.1 7 i1 0 = t.1 7 i1 0 ∧ fr (S_tab i1) t t' ∧ k + 1 ≤ rg_up s) ?_ ?_ (by unfold sr_fu; omega) ⟨h0, fun j hj => by omega, rfl, fr_rfl, hU⟩
  · rintro k g t' hk ⟨p1, p2, p3, p4, p5⟩
    by_cases hx : k + 1 = rg_up s
    · refine Or.inr ?_
      have e : rg_cy s n (k + 1) = n := by rw [hx]; exact rg_cyU O hn hu
      show rs_to Q (f3_layInto_29 r i1 (25 * r + n) K (g + 1) (25 * r + rg_cy s n (k + 1)) (nI k) t')
      simp (disch := omega) only [pu_lt, pu_ck, pu_bI, pu_bV, pu_bR, pu_bL, pu_nt, pu_us, pu_un, nL_0, nL_1, nL_2, nL_3, nL_4, nL_5, nL_6, nL_7, nL_8, nL_9, nL_10, nL_11, nL_12, nL_13, nL_14, nL_15, nL_16, nL_23, nL_24, nL_32, nL_48, nL_64, nL_99, nL_100, nL_200, nL_336, nL_576, nL_768, nL_800, nL_999, nL_4095, nL_4096, nL_m1, nI_leI, nI_ltI, nI_eq, nI_clamp, nI_add, pk_mul, nI_nu, bI_eq0, bI_eq1, if_true, if_false, if_neg, if_pos, f3_layInto_29, e]
      have e2 : min 3 (rg_up s - 1) = k := by omega
      exact hK t' (by rw [e2]; exact p1) (by rw [e2]; exact p2) p3 p4
    · refine Or.inl ⟨sr_u (sr_u t' 12 (2 * i1) k (nI (rg_cy s n (k + 1)))) 4 (2 * i1) 1 (nI (k + 1)), ⟨?_, ?_, ?_, ?_, by omega⟩, ?_⟩
      · rw [pu_us]
      · intro j hj
        rw [pu_un (by omega)]
        by_cases e : j = k
        · subst e; rw [pu_us]
        · rw [pu_un (by omega)]; exact p2 j (by omega)
      · rw [pu_un (by omega), pu_un (by omega)]; exact p3
      · exact fr_u (fr_u p4 (by unfold S_tab; omega)) (by unfold S_tab; omega)
      · obtain ⟨c1, c2, c3⟩ := rg_cyc O hn hu (k + 1) (by omega)
        have hne : rg_cy s n (k + 1) ≠ n := fun e => absurd ((rg_cyI O hn hu (i := k + 1) (j := 0) (by omega) (by omega)).mp e) (by omega)
        have B' : rg_B t' r s := rg_B_of (fun i j => p4.2 2 i j (by unfold S_tab; omega)) (fun i j => p4.2 3 i j (by unfold S_tab; omega)) B
        have B1 : rg_B (sr_u (sr_u t' 12 (2 * i1) k (nI (rg_cy s n (k + 1)))) 4 (2 * i1) 1 (nI (k + 1))) r s := rg_B_of (fun i j => by rw [pu_un (by omega), pu_un (by omega)]) (fun i j => by rw [pu_un (by omega), pu_un (by omega)]) B'
        have b1 := B'.2.1.1 (rg_cy s n (k + 1)) (by omega)
        have b2 := (B'.2.2 (rg_cy s n (k + 1)) c1).1
        rw [nu_lt (by omega)] at b1
        have c4 : rg_sc s (rg_cy s n (k + 1)) < rg_N s := (rg_ff_up (q := (rg_p s (rg_cy s n (k + 1)) + 1) % 4096) O c1 c2).1
        show f3_layInto_29 r i1 (25 * r + n) K (g + 1) (25 * r + rg_cy s n (k + 1)) (nI k) t' = f3_layInto_29 r i1 (25 * r + n) K g (25 * r + rg_cy s n (k + 1 + 1)) (nI (k + 1)) _
        simp (disch := omega) only [pu_lt, pu_ck, pu_bI, pu_bV, pu_bR, pu_bL, pu_nt, pu_us, pu_un, nL_0, nL_1, nL_2, nL_3, nL_4, nL_5, nL_6, nL_7, nL_8, nL_9, nL_10, nL_11, nL_12, nL_13, nL_14, nL_15, nL_16, nL_23, nL_24, nL_32, nL_48, nL_64, nL_99, nL_100, nL_200, nL_336, nL_576, nL_768, nL_800, nL_999, nL_4095, nL_4096, nL_m1, nI_leI, nI_ltI, nI_eq, nI_clamp, nI_add, pk_mul, nI_nu, bI_eq0, bI_eq1, if_true, if_false, if_neg, if_pos, f3_layInto_29, b1, pu_add p1, b2, pu_ffn B1 O hr c1]
        rfl
  · rintro g t' ⟨p1, p2, p3, p4, p5⟩
    show rs_to Q (f3_layInto_29 r i1 (25 * r + n) K (g + 1) (25 * r + rg_cy s n (3 + 1)) (nI 3) t')
    simp (disch := omega) only [pu_lt, pu_ck, pu_bI, pu_bV, pu_bR, pu_bL, pu_nt, pu_us, pu_un, nL_0, nL_1, nL_2, nL_3, nL_4, nL_5, nL_6, nL_7, nL_8, nL_9, nL_10, nL_11, nL_12, nL_13, nL_14, nL_15, nL_16, nL_23, nL_24, nL_32, nL_48, nL_64, nL_99, nL_100, nL_200, nL_336, nL_576, nL_768, nL_800, nL_999, nL_4095, nL_4096, nL_m1, nI_leI, nI_ltI, nI_eq, nI_clamp, nI_add, pk_mul, nI_nu, bI_eq0, bI_eq1, if_true, if_false, if_neg, if_pos, f3_layInto_29]
    have e2 : min 3 (rg_up s - 1) = 3 := by omega
    exact hK t' (by rw [e2]; exact p1) (by rw [e2]; exact p2) p3 p4
set_option maxHeartbeats 1000000 in
theorem pu_lay2 {t : sr_t} {s : rg_T} {r h i1 i2 : Nat} (B : rg_B t r s) (O : rg_okB s) (hr : r < 2) (hn : h < rg_N s) (hu : rg_u s h = true) (h0 : t.1 4 (2 * i1 + 1) 1 = nI 0) : ∃ t', f3_layInto_96 r i1 i2 (f3_layInto_144 r i1 i2) sr_fu (25 * r + h) (25 * r + h) (nI 0) t = some (.inl none, t') ∧ t'.1 4 (2 * i1 + 1) 1 = nI (min (rg_d s) (rg_up s)) ∧ (∀ j, j < min (rg_d s) (rg_up s) → t'.1 12 (2 * i1 + 1) j = nI (rg_cy s h j)) ∧ fr (fun k i _ => (k = 4 ∨ k = 12) ∧ i = 2 * i1 + 1) t t' := by
  have hN := O.1
  have hd := O.2.2.1
  have hU := rg_up1 hn hu
  refine rs_of ?_
  refine rs_loop (N := min (rg_d s) (rg_up s)) (L := fun f k t' => f3_layInto_96 r i1 i2 (f3_layInto_144 r i1 i2) f (25 * r + rg_cy s h k) (25 * r + h) (nI k) t') (fun k t' => t'.1 4 (2 * i1 + 1) 1 = nI k ∧ (∀ j, j < k → t'.1 12 (2 * i1 + 1) j = nI (rg_cy s h j)) ∧ fr (fun k i _ => (k = 4 ∨ k = 12) ∧ i = 2 * i1 + 1) t t') ?_ ?_ (by unfold sr_fu; omega) ⟨h0, fun j hj => by omega, fr_rfl⟩
  · rintro k g t' hk ⟨p1, p2, p4⟩
    refine Or.inl ⟨sr_u (sr_u t' 12 (2 * i1 + 1) k (nI (rg_cy s h k))) 4 (2 * i1 + 1) 1 (nI (k + 1)), ⟨?_, ?_, ?_⟩, ?_⟩
    · rw [pu_us]
    · intro j hj
      rw [pu_un (by omega)]
      by_cases e : j = k
      · subst e; rw [pu_us]
      · rw [pu_un (by omega)]; exact p2 j (by omega)
    · exact fr_u (fr_u p4 (by simp)) (by simp)
    · obtain ⟨c1, c2, c3⟩ := rg_cyc O hn hu k (by omega)
      have B' : rg_B t' r s := rg_B_of (fun i j => p4.2 2 i j (by simp)) (fun i j => p4.2 3 i j (by simp)) B
      have B1 : rg_B (sr_u (sr_u t' 12 (2 * i1 + 1) k (nI (rg_cy s h k))) 4 (2 * i1 + 1) 1 (nI (k + 1))) r s := rg_B_of (fun i j => by rw [pu_un (by omega), pu_un (by omega)]) (fun i j => by rw [pu_un (by omega), pu_un (by omega)]) B'
      have b0 := B'.1.2.2.2.2
      have b1 := B'.2.1.1 (rg_cy s h k) (by omega)
      have b2 := (B'.2.2 (rg_cy s h k) c1).1
      rw [nu_lt (by omega)] at b1
      have c4 : rg_sc s (rg_cy s h k) < rg_N s := (rg_ff_up (q := (rg_p s (rg_cy s h k) + 1) % 4096) O c1 c2).1
      show f3_layInto_96 r i1 i2 (f3_layInto_144 r i1 i2) (g + 1) (25 * r + rg_cy s h k) (25 * r + h) (nI k) t' = f3_layInto_96 r i1 i2 (f3_layInto_144 r i1 i2) g (25 * r + rg_cy s h (k + 1)) (25 * r + h) (nI (k + 1)) _
      by_cases hk0 : k = 0
      · subst hk0
        simp (disch := omega) only [pu_lt, pu_ck, pu_bI, pu_bV, pu_bR, pu_bL, pu_nt, pu_us, pu_un, nL_0, nL_1, nL_2, nL_3, nL_4, nL_5, nL_6, nL_7, nL_8, nL_9, nL_10, nL_11, nL_12, nL_13, nL_14, nL_15, nL_16, nL_23, nL_24, nL_32, nL_48, nL_64, nL_99, nL_100, nL_200, nL_336, nL_576, nL_768, nL_800, nL_999, nL_4095, nL_4096, nL_m1, nI_leI, nI_ltI, nI_eq, nI_clamp, nI_add, pk_mul, nI_nu, bI_eq0, bI_eq1, if_true, if_false, if_neg, if_pos, f3_layInto_96, f3_layInto_116, b0, b1, pu_add p1, b2, pu_ffn B1 O hr c1]
        rfl
      · have hne : rg_cy s h k ≠ h := fun e => absurd ((rg_cyI O hn hu (i := k) (j := 0) (by omega) (by omega)).mp e) (by omega)
        simp (disch := omega) only [pu_lt, pu_ck, pu_bI, pu_bV, pu_bR, pu_bL, pu_nt, pu_us, pu_un, nL_0, nL_1, nL_2, nL_3, nL_4, nL_5, nL_6, nL_7, nL_8, nL_9, nL_10, nL_11, nL_12, nL_13, nL_14, nL_15, nL_16, nL_23, nL_24, nL_32, nL_48, nL_64, nL_99, nL_100, nL_200, nL_336, nL_576, nL_768, nL_800, nL_999, nL_4095, nL_4096, nL_m1, nI_leI, nI_ltI, nI_eq, nI_clamp, nI_add, pk_mul, nI_nu, bI_eq0, bI_eq1, if_true, if_false, if_neg, if_pos, f3_layInto_96, f3_layInto_116, b0, b1, pu_add p1, b2, pu_ffn B1 O hr c1]
        rfl
  · rintro g t' ⟨p1, p2, p4⟩
    have B' : rg_B t' r s := rg_B_of (fun i j => p4.2 2 i j (by simp)) (fun i j => p4.2 3 i j (by simp)) B
    have b0 := B'.1.2.2.2.2
    show rs_to _ (f3_layInto_96 r i1 i2 (f3_layInto_144 r i1 i2) (g + 1) (25 * r + rg_cy s h (min (rg_d s) (rg_up s))) (25 * r + h) (nI (min (rg_d s) (rg_up s))) t')
    have fin : rs_to (fun o t_1 => o = Sum.inl none ∧ t_1.1 4 (2 * i1 + 1) 1 = nI (min (rg_d s) (rg_up s)) ∧ (∀ j, j < min (rg_d s) (rg_up s) → t_1.1 12 (2 * i1 + 1) j = nI (rg_cy s h j)) ∧ fr (fun k i _ => (k = 4 ∨ k = 12) ∧ i = 2 * i1 + 1) t t_1) (f3_layInto_144 r i1 i2 t') := rs_ret ⟨rfl, p1, p2, p4⟩
    by_cases hd2 : rg_d s ≤ rg_up s
    · have e : min (rg_d s) (rg_up s) = rg_d s := by omega
      rw [e] at fin ⊢
      simp (disch := omega) only [pu_lt, pu_ck, pu_bI, pu_bV, pu_bR, pu_bL, pu_nt, pu_us, pu_un, nL_0, nL_1, nL_2, nL_3, nL_4, nL_5, nL_6, nL_7, nL_8, nL_9, nL_10, nL_11, nL_12, nL_13, nL_14, nL_15, nL_16, nL_23, nL_24, nL_32, nL_48, nL_64, nL_99, nL_100, nL_200, nL_336, nL_576, nL_768, nL_800, nL_999, nL_4095, nL_4096, nL_m1, nI_leI, nI_ltI, nI_eq, nI_clamp, nI_add, pk_mul, nI_nu, bI_eq0, bI_eq1, if_true, if_false, if_neg, if_pos, f3_layInto_96, b0]
      exact fin
    · have e : min (rg_d s) (rg_up s) = rg_up s := by omega
      have e2 : rg_cy s h (rg_up s) = h := rg_cyU O hn hu
      rw [e] at fin ⊢
      simp (disch := omega) only [pu_lt, pu_ck, pu_bI, pu_bV, pu_bR, pu_bL, pu_nt, pu_us, pu_un, nL_0, nL_1, nL_2, nL_3, nL_4, nL_5, nL_6, nL_7, nL_8, nL_9, nL_10, nL_11, nL_12, nL_13, nL_14, nL_15, nL_16, nL_23, nL_24, nL_32, nL_48, nL_64, nL_99, nL_100, nL_200, nL_336, nL_576, nL_768, nL_800, nL_999, nL_4095, nL_4096, nL_m1, nI_leI, nI_ltI, nI_eq, nI_clamp, nI_add, pk_mul, nI_nu, bI_eq0, bI_eq1, if_true, if_false, if_neg, if_pos, f3_layInto_96, b0, e2]
      exact fin
theorem rg_qb {p b : Nat} (hp : p < 4096) (hb : b ≤ 4) : p * 2 ^ b < 2 ^ 17 := by
  have : 2 ^ b ≤ 2 ^ 4 := Nat.pow_le_pow_right (by decide) hb
  have h2 : p * 2 ^ b ≤ 4096 * 2 ^ 4 := Nat.mul_le_mul (by omega) this
  omega
set_option maxHeartbeats 1000000 in
theorem pu_layInto {t : sr_t} {s : rg_T} {r n i1 : Nat} (B : rg_B t r s) (O : rg_okB s) (hr : r < 2) (hn : n < rg_N s) (hu : rg_u s n = true) : ∃ t', F3_layInto r i1 (25 * r + n) t = some (.inl none, t') ∧ rg_tab t' i1 (rg_lay s (rg_b s) (rg_d s) n) ∧ fr (S_tab i1) t t' := by
  have hN := O.1
  have hb := O.2.1
  have hp := O.2.2.2.1 n hn
  have hh := rg_lb_up (q := rg_p s n * 2 ^ rg_b s % 4096) O hn hu
  have b1 := B.1.2.1
  have b2 := (B.2.2 n hn).1
  have B0 : rg_B (sr_u (sr_u t 7 i1 0 (nI (2 ^ rg_b s))) 4 (2 * i1) 1 (nI 0)) r s := rg_B_of (fun i j => by rw [pu_un (by omega), pu_un (by omega)]) (fun i j => by rw [pu_un (by omega), pu_un (by omega)]) B
  have c4 : rg_sc s n < rg_N s := (rg_ff_up (q := (rg_p s n + 1) % 4096) O hn hu).1
  refine rs_of ?_
  simp (disch := omega) only [pu_lt, pu_ck, pu_bI, pu_bV, pu_bR, pu_bL, pu_nt, pu_us, pu_un, nL_0, nL_1, nL_2, nL_3, nL_4, nL_5, nL_6, nL_7, nL_8, nL_9, nL_10, nL_11, nL_12, nL_13, nL_14, nL_15, nL_16, nL_23, nL_24, nL_32, nL_48, nL_64, nL_99, nL_100, nL_200, nL_336, nL_576, nL_768, nL_800, nL_999, nL_4095, nL_4096, nL_m1, nI_leI, nI_ltI, nI_eq, nI_clamp, nI_add, pk_mul, nI_nu, bI_eq0, bI_eq1, if_true, if_false, if_neg, if_pos, F3_layInto, F4_empty, b1, b2, pu_ffn B0 O hr hn]
  refine pu_lay1 B0 O hr hn hu (by rw [pu_us]) ?_
  intro t' q1 q2 q3 q4
  have B1 : rg_B (sr_u t' 4 (2 * i1 + 1) 1 (nI 0)) r s := rg_B_of (fun i j => by rw [pu_un (by omega)]; exact q4.2 2 i j (by unfold S_tab; omega)) (fun i j => by rw [pu_un (by omega)]; exact q4.2 3 i j (by unfold S_tab; omega)) B0
  have c1 := B1.1.2.1
  have c2 := (B1.2.2 n hn).1
  rw [pu_un (by omega)] at c1 c2
  have lb := pu_lastBack (a0 := nI (rg_p s n * 2 ^ rg_b s)) B1 O hr (pu_qn (by have := rg_qb hp hb.2; omega))
  obtain ⟨t2, f1, f2, f3, f4⟩ := pu_lay2 (i1 := i1) (i2 := 25 * r + n) B1 O hr hh.1 hh.2.1 (by rw [pu_us])
  have h50 : 25 * r + rg_lb s (rg_p s n * 2 ^ rg_b s % 4096) < 50 := by omega
  simp (disch := omega) only [pu_lt, pu_ck, pu_bI, pu_bV, pu_bR, pu_bL, pu_nt, pu_us, pu_un, nL_0, nL_1, nL_2, nL_3, nL_4, nL_5, nL_6, nL_7, nL_8, nL_9, nL_10, nL_11, nL_12, nL_13, nL_14, nL_15, nL_16, nL_23, nL_24, nL_32, nL_48, nL_64, nL_99, nL_100, nL_200, nL_336, nL_576, nL_768, nL_800, nL_999, nL_4095, nL_4096, nL_m1, nI_leI, nI_ltI, nI_eq, nI_clamp, nI_add, pk_mul, nI_nu, bI_eq0, bI_eq1, if_true, if_false, if_neg, if_pos, f3_layInto_68, F4_empty, c1, c2, lb, pu_bR h50, f1]
  refine rs_ret ⟨rfl, ⟨?_, ⟨?_, ?_⟩, ?_, ?_⟩, ?_⟩
  · rw [f4.2 7 i1 0 (by simp), pu_un (by omega), q3, pu_un (by omega), pu_us]; rfl
  · rw [f4.2 4 (2 * i1) 1 (by omega), pu_un (by omega), q1]; rfl
  · intro k hk
    rw [rl_1] at hk
    rw [f4.2 12 (2 * i1) k (by omega), pu_un (by omega), q2 k hk]
    exact congrArg nI (rl_2 (show k < 3 by omega)).symm
  · rw [f2]; rfl
  · intro k hk
    rw [rl_5] at hk
    rw [f3 k hk]
    exact congrArg nI rl_6.symm
  · exact fr_trans (fr_trans (fr_u (fr_u fr_rfl (by unfold S_tab; omega)) (by unfold S_tab; omega)) (fr_u q4 (by unfold S_tab; omega))) (fr_mono f4 (fun k i j q => by unfold S_tab; omega))
end
