section
/-! the reference lays a row of fourteen -/
theorem pu_up0 {t : sr_t} {s : rg_T} {q : Nat} (R : rg_RB t s) (O : rg_okB s) (hq : q < 4096) : F11_upFrom (nI q) (nI 0) t = some (.inl (some (sr_i (nu (rg_fb s q)))), t) := pu_upFrom0 R O hq
def S_rt (K a : Nat) (k i j : Nat) : Prop := k = K ∧ i = 0 ∧ a ≤ j ∧ j < a + 14
set_option maxHeartbeats 1000000 in
theorem pu_lf27 {t : sr_t} {Q : sr_O → sr_t → Prop} {n b d a : Nat} {K : sr_t → sr_Rs} (ha : a + 14 ≤ 336) (hK : ∀ t', fr (S_rt 27 a) t t' → rs_to Q (K t')) : rs_to Q (f11_lays_27_3 (nI n) (nI b) (nI d) (nI a) K sr_fu (nI 0) t) := by
  refine rs_loop (N := 14) (L := fun f k t' => f11_lays_27_3 (nI n) (nI b) (nI d) (nI a) K f (nI k) t') (fun _ t' => fr (S_rt 27 a) t t') ?_ ?_ (by unfold sr_fu; omega) fr_rfl
  · intro k g t' hk p
    refine Or.inl ⟨sr_u t' 27 0 (a + k) (nu 24), fr_u p (by unfold S_rt; omega), ?_⟩
    show f11_lays_27_3 (nI n) (nI b) (nI d) (nI a) K (g + 1) (nI k) t' = f11_lays_27_3 (nI n) (nI b) (nI d) (nI a) K g (nI (k + 1)) _
    simp (disch := omega) only [pu_lt, pu_ck, pu_bI, pu_bV, pu_bR, pu_bL, pu_nt, pu_us, pu_un, nL_0, nL_1, nL_2, nL_3, nL_4, nL_5, nL_6, nL_7, nL_8, nL_9, nL_10, nL_11, nL_12, nL_13, nL_14, nL_15, nL_16, nL_23, nL_24, nL_32, nL_48, nL_64, nL_99, nL_100, nL_200, nL_336, nL_576, nL_768, nL_800, nL_999, nL_4095, nL_4096, nL_m1, nI_leI, nI_ltI, nI_eq, nI_clamp, nI_add, pk_mul, nI_nu, bI_eq0, bI_eq1, if_true, if_false, if_neg, if_pos, f11_lays_27_3, pu_ixN']
  · intro g t' p
    show rs_to Q (f11_lays_27_3 (nI n) (nI b) (nI d) (nI a) K (g + 1) (nI 14) t')
    simp (disch := omega) only [pu_lt, pu_ck, pu_bI, pu_bV, pu_bR, pu_bL, pu_nt, pu_us, pu_un, nL_0, nL_1, nL_2, nL_3, nL_4, nL_5, nL_6, nL_7, nL_8, nL_9, nL_10, nL_11, nL_12, nL_13, nL_14, nL_15, nL_16, nL_23, nL_24, nL_32, nL_48, nL_64, nL_99, nL_100, nL_200, nL_336, nL_576, nL_768, nL_800, nL_999, nL_4095, nL_4096, nL_m1, nI_leI, nI_ltI, nI_eq, nI_clamp, nI_add, pk_mul, nI_nu, bI_eq0, bI_eq1, if_true, if_false, if_neg, if_pos, f11_lays_27_3]
    exact hK t' p
set_option maxHeartbeats 2000000 in
theorem pu_ls27 {t : sr_t} {s : rg_T} {Q : sr_O → sr_t → Prop} {n b d a : Nat} {K : Int32 → sr_t → sr_Rs} (R : rg_RB t s) (O : rg_okB s) (hn : n < rg_N s) (hu : rg_u s n = true) (ha : a + 14 ≤ 336)
    (hK : ∀ t', (∀ j, j < min 3 (rg_up s - 1) → t'.1 27 0 (a + 2 + j) = nI (rg_cy s n (j + 1))) → t'.1 27 0 a = t.1 27 0 a → fr (S_rt 27 a) t t' → rs_to Q (K (nI (min 3 (rg_up s - 1))) t')) : rs_to Q (f11_lays_27_49 (nI n) (nI b) (nI d) (nI a) K sr_fu (nI 0) (nu (rg_fb s (rg_p s n))) t) := by
  have hN := O.1
  have hU := rg_up1 hn hu
  have e0 : nu (rg_fb s (rg_p s n)) = nu (if rg_up s = 1 then 24 else rg_cy s n (0 + 1)) := by rw [rg_fb_sc O hn hu]; rfl
  rw [e0]
  refine rs_loop (N := 3) (L := fun f k t' => f11_lays_27_49 (nI n) (nI b) (nI d) (nI a) K f (nI k) (nu (if rg_up s = 1 then 24 else rg_cy s n (k + 1))) t') (fun k t' => (∀ j, j < k → t'.1 27 0 (a + 2 + j) = nI (rg_cy s n (j + 1))) ∧ t'.1 27 0 a = t.1 27 0 a ∧ fr (S_rt 27 a) t t' ∧ k + 1 ≤ rg_up s) ?_ ?_ (by unfold sr_fu; omega) ⟨fun j hj => by omega, rfl, fr_rfl, hU⟩
  · rintro k g t' hk ⟨p1, p2, p3, p4⟩
    by_cases h1 : rg_up s = 1
    · refine Or.inr ?_
      have hk0 : k = 0 := by omega
      subst hk0
      show rs_to Q (f11_lays_27_49 (nI n) (nI b) (nI d) (nI a) K (g + 1) (nI 0) (nu (if rg_up s = 1 then 24 else rg_cy s n (0 + 1))) t')
      rw [if_pos h1]
      simp (disch := omega) only [pu_lt, pu_ck, pu_bI, pu_bV, pu_bR, pu_bL, pu_nt, pu_us, pu_un, nL_0, nL_1, nL_2, nL_3, nL_4, nL_5, nL_6, nL_7, nL_8, nL_9, nL_10, nL_11, nL_12, nL_13, nL_14, nL_15, nL_16, nL_23, nL_24, nL_32, nL_48, nL_64, nL_99, nL_100, nL_200, nL_336, nL_576, nL_768, nL_800, nL_999, nL_4095, nL_4096, nL_m1, nI_leI, nI_ltI, nI_eq, nI_clamp, nI_add, pk_mul, nI_nu, bI_eq0, bI_eq1, if_true, if_false, if_neg, if_pos, f11_lays_27_49]
      have e2 : min 3 (rg_up s - 1) = 0 := by omega
      have := hK t' (by rw [e2]; exact p1) p2 p3
      rw [e2] at this
      exact this
    · by_cases hx : k + 1 = rg_up s
      · refine Or.inr ?_
        have e : rg_cy s n (k + 1) = n := by rw [hx]; exact rg_cyU O hn hu
        show rs_to Q (f11_lays_27_49 (nI n) (nI b) (nI d) (nI a) K (g + 1) (nI k) (nu (if rg_up s = 1 then 24 else rg_cy s n (k + 1))) t')
        rw [if_neg h1, e, nu_lt (by omega)]
        simp (disch := omega) only [pu_lt, pu_ck, pu_bI, pu_bV, pu_bR, pu_bL, pu_nt, pu_us, pu_un, nL_0, nL_1, nL_2, nL_3, nL_4, nL_5, nL_6, nL_7, nL_8, nL_9, nL_10, nL_11, nL_12, nL_13, nL_14, nL_15, nL_16, nL_23, nL_24, nL_32, nL_48, nL_64, nL_99, nL_100, nL_200, nL_336, nL_576, nL_768, nL_800, nL_999, nL_4095, nL_4096, nL_m1, nI_leI, nI_ltI, nI_eq, nI_clamp, nI_add, pk_mul, nI_nu, bI_eq0, bI_eq1, if_true, if_false, if_neg, if_pos, f11_lays_27_49]
        have e2 : min 3 (rg_up s - 1) = k := by omega
        have := hK t' (by rw [e2]; exact p1) p2 p3
        rw [e2] at this
        exact this
      · obtain ⟨c1, c2, c3⟩ := rg_cyc O hn hu (k + 1) (by omega)
        have hne : rg_cy s n (k + 1) ≠ n := fun e => absurd ((rg_cyI O hn hu (i := k + 1) (j := 0) (by omega) (by omega)).mp e) (by omega)
        have R1 : rg_RB (sr_u t' 27 0 (a + 2 + k) (nI (rg_cy s n (k + 1)))) s := rg_RB_of (fun i j => by rw [pu_un (by omega)]; exact p3.2 _ i j (by unfold S_rt; omega)) (fun i j => by rw [pu_un (by omega)]; exact p3.2 _ i j (by unfold S_rt; omega)) (fun i j => by rw [pu_un (by omega)]; exact p3.2 _ i j (by unfold S_rt; omega)) (fun i j => by rw [pu_un (by omega)]; exact p3.2 _ i j (by unfold S_rt; omega)) R
        have r1 := (R1.2 _ c1).1
        rw [pu_un (by omega)] at r1
        have f1 := pu_up0 R1 O (O.2.2.2.1 _ c1)
        rw [rg_fb_sc O c1 c2, if_neg h1] at f1
        have c1' : rg_sc s (rg_cy s n (k + 1)) < 24 := by
          have := (rg_ff_up (q := (rg_p s (rg_cy s n (k + 1)) + 1) % 4096) O c1 c2).1
          exact Nat.lt_of_lt_of_le this hN
        rw [nu_lt c1'] at f1
        have hf : rg_sc s (rg_cy s n (k + 1)) ≠ rg_cy s n 1 := by
          intro e
          by_cases h2 : k + 2 = rg_up s
          · have e3 : rg_cy s n (k + 2) = n := by rw [h2]; exact rg_cyU O hn hu
            have e4 : rg_cy s n 1 = n := e.symm.trans e3
            exact absurd ((rg_cyI O hn hu (i := 1) (j := 0) (by omega) (by omega)).mp e4) (by omega)
          · exact absurd ((rg_cyI O hn hu (i := k + 2) (j := 1) (by omega) (by omega)).mp e) (by omega)
        have hw : (sr_u t' 27 0 (a + 2 + k) (nI (rg_cy s n (k + 1)))).1 27 0 (a + 2) = nI (rg_cy s n 1) := by
          by_cases hk0 : k = 0
          · subst hk0; exact pu_us
          · rw [pu_un (by omega)]; exact p1 0 (by omega)
        have cy1 : rg_cy s n 1 < 24 := by
          have := (rg_cyc O hn hu 1 (by omega)).1
          omega
        refine Or.inl ⟨sr_u t' 27 0 (a + 2 + k) (nI (rg_cy s n (k + 1))), ⟨?_, ?_, ?_, by omega⟩, ?_⟩
        · intro j hj
          by_cases e : j = k
          · subst e; rw [pu_us]
          · rw [pu_un (by omega)]; exact p1 j (by omega)
        · rw [pu_un (by omega)]; exact p2
        · exact fr_u p3 (by unfold S_rt; omega)
        · show f11_lays_27_49 (nI n) (nI b) (nI d) (nI a) K (g + 1) (nI k) (nu (if rg_up s = 1 then 24 else rg_cy s n (k + 1))) t' = f11_lays_27_49 (nI n) (nI b) (nI d) (nI a) K g (nI (k + 1)) (nu (if rg_up s = 1 then 24 else rg_sc s (rg_cy s n (k + 1)))) _
          rw [if_neg h1, if_neg h1, nu_lt (by omega), nu_lt c1']
          simp (disch := omega) only [pu_lt, pu_ck, pu_bI, pu_bV, pu_bR, pu_bL, pu_nt, pu_us, pu_un, nL_0, nL_1, nL_2, nL_3, nL_4, nL_5, nL_6, nL_7, nL_8, nL_9, nL_10, nL_11, nL_12, nL_13, nL_14, nL_15, nL_16, nL_23, nL_24, nL_32, nL_48, nL_64, nL_99, nL_100, nL_200, nL_336, nL_576, nL_768, nL_800, nL_999, nL_4095, nL_4096, nL_m1, nI_leI, nI_ltI, nI_eq, nI_clamp, nI_add, pk_mul, nI_nu, bI_eq0, bI_eq1, if_true, if_false, if_neg, if_pos, f11_lays_27_49, pu_ixN', r1, f1, hw]
  · rintro g t' ⟨p1, p2, p3, p4⟩
    show rs_to Q (f11_lays_27_49 (nI n) (nI b) (nI d) (nI a) K (g + 1) (nI 3) (nu (if rg_up s = 1 then 24 else rg_cy s n (3 + 1))) t')
    simp (disch := omega) only [pu_lt, pu_ck, pu_bI, pu_bV, pu_bR, pu_bL, pu_nt, pu_us, pu_un, nL_0, nL_1, nL_2, nL_3, nL_4, nL_5, nL_6, nL_7, nL_8, nL_9, nL_10, nL_11, nL_12, nL_13, nL_14, nL_15, nL_16, nL_23, nL_24, nL_32, nL_48, nL_64, nL_99, nL_100, nL_200, nL_336, nL_576, nL_768, nL_800, nL_999, nL_4095, nL_4096, nL_m1, nI_leI, nI_ltI, nI_eq, nI_clamp, nI_add, pk_mul, nI_nu, bI_eq0, bI_eq1, if_true, if_false, if_neg, if_pos, f11_lays_27_49]
    have e2 : min 3 (rg_up s - 1) = 3 := by omega
    have := hK t' (by rw [e2]; exact p1) p2 p3
    rw [e2] at this
    exact this
set_option maxHeartbeats 2000000 in
theorem pu_lp27 {t : sr_t} {s : rg_T} {n b d a h : Nat} (R : rg_RB t s) (O : rg_okB s) (hn : h < rg_N s) (hu : rg_u s h = true) (hd : d ≤ 8) (ha : a + 14 ≤ 336) : ∃ t', f11_lays_27_149 (nI n) (nI b) (nI d) (nI a) (f11_lays_27_210 (nI n) (nI b) (nI d) (nI a)) sr_fu (nI h) (nI 0) t = some (.inl none, t') ∧ t'.1 27 0 (a + 5) = nI (min d (rg_up s)) ∧ (∀ j, j < min d (rg_up s) → t'.1 27 0 (a + 6 + j) = nI (rg_cy s h j)) ∧ fr (fun k i j => k = 27 ∧ i = 0 ∧ a + 5 ≤ j ∧ j < a + 14) t t' := by
  have hN := O.1
  have hU := rg_up1 hn hu
  have hUN := rg_upN (s := s)
  refine rs_of ?_
  refine rs_loop (N := min d (rg_up s)) (L := fun f k t' => f11_lays_27_149 (nI n) (nI b) (nI d) (nI a) (f11_lays_27_210 (nI n) (nI b) (nI d) (nI a)) f (nI (rg_cy s h k)) (nI k) t') (fun k t' => (∀ j, j < k → t'.1 27 0 (a + 6 + j) = nI (rg_cy s h j)) ∧ fr (fun k i j => k = 27 ∧ i = 0 ∧ a + 5 ≤ j ∧ j < a + 14) t t') ?_ ?_ (by unfold sr_fu; omega) ⟨fun j hj => by omega, fr_rfl⟩
  · rintro k g t' hk ⟨p1, p3⟩
    obtain ⟨c1, c2, c3⟩ := rg_cyc O hn hu k (by omega)
    have R0 : rg_RB t' s := rg_RB_of (fun i j => p3.2 _ i j (by omega)) (fun i j => p3.2 _ i j (by omega)) (fun i j => p3.2 _ i j (by omega)) (fun i j => p3.2 _ i j (by omega)) R
    have R1 : rg_RB (sr_u t' 27 0 (a + 6 + k) (nI (rg_cy s h k))) s := rg_RB_of (fun i j => by rw [pu_un (by omega)]) (fun i j => by rw [pu_un (by omega)]) (fun i j => by rw [pu_un (by omega)]) (fun i j => by rw [pu_un (by omega)]) R0
    have u0 := pu_ups R0 O
    have u1 := pu_ups R1 O
    have r1 := (R1.2 _ c1).1
    rw [pu_un (by omega)] at r1
    have f1 := pu_up0 R1 O (O.2.2.2.1 _ c1)
    rw [rg_fb_sc O c1 c2] at f1
    have eU : rg_cu (rg_u s) (rg_N s) = rg_up s := rfl
    rw [eU] at u0 u1
    have c1' : rg_sc s (rg_cy s h k) < 24 := by
      have := (rg_ff_up (q := (rg_p s (rg_cy s h k) + 1) % 4096) O c1 c2).1
      exact Nat.lt_of_lt_of_le this hN
    refine Or.inl ⟨sr_u t' 27 0 (a + 6 + k) (nI (rg_cy s h k)), ⟨?_, ?_⟩, ?_⟩
    · intro j hj
      by_cases e : j = k
      · subst e; rw [pu_us]
      · rw [pu_un (by omega)]; exact p1 j (by omega)
    · exact fr_u p3 (by omega)
    · show f11_lays_27_149 (nI n) (nI b) (nI d) (nI a) (f11_lays_27_210 (nI n) (nI b) (nI d) (nI a)) (g + 1) (nI (rg_cy s h k)) (nI k) t' = f11_lays_27_149 (nI n) (nI b) (nI d) (nI a) (f11_lays_27_210 (nI n) (nI b) (nI d) (nI a)) g (nI (rg_sc s (rg_cy s h k))) (nI (k + 1)) _
      by_cases h1 : rg_up s = 1
      · have hk0 : k = 0 := by omega
        subst hk0
        have e : rg_sc s (rg_cy s h 0) = rg_cy s h 0 := by
          have := rg_cyU O hn hu
          rw [h1] at this
          exact this
        rw [e]
        simp (disch := omega) only [pu_lt, pu_ck, pu_bI, pu_bV, pu_bR, pu_bL, pu_nt, pu_us, pu_un, nL_0, nL_1, nL_2, nL_3, nL_4, nL_5, nL_6, nL_7, nL_8, nL_9, nL_10, nL_11, nL_12, nL_13, nL_14, nL_15, nL_16, nL_23, nL_24, nL_32, nL_48, nL_64, nL_99, nL_100, nL_200, nL_336, nL_576, nL_768, nL_800, nL_999, nL_4095, nL_4096, nL_m1, nI_leI, nI_ltI, nI_eq, nI_clamp, nI_add, pk_mul, nI_nu, bI_eq0, bI_eq1, if_true, if_false, if_neg, if_pos, f11_lays_27_149, f11_lays_27_205, pu_ixN', u0, u1]
      · rw [if_neg h1, nu_lt c1'] at f1
        simp (disch := omega) only [pu_lt, pu_ck, pu_bI, pu_bV, pu_bR, pu_bL, pu_nt, pu_us, pu_un, nL_0, nL_1, nL_2, nL_3, nL_4, nL_5, nL_6, nL_7, nL_8, nL_9, nL_10, nL_11, nL_12, nL_13, nL_14, nL_15, nL_16, nL_23, nL_24, nL_32, nL_48, nL_64, nL_99, nL_100, nL_200, nL_336, nL_576, nL_768, nL_800, nL_999, nL_4095, nL_4096, nL_m1, nI_leI, nI_ltI, nI_eq, nI_clamp, nI_add, pk_mul, nI_nu, bI_eq0, bI_eq1, if_true, if_false, if_neg, if_pos, f11_lays_27_149, f11_lays_27_205, pu_ixN', u0, u1, r1, f1]
  · rintro g t' ⟨p1, p3⟩
    have R0 : rg_RB t' s := rg_RB_of (fun i j => p3.2 _ i j (by omega)) (fun i j => p3.2 _ i j (by omega)) (fun i j => p3.2 _ i j (by omega)) (fun i j => p3.2 _ i j (by omega)) R
    have u0 := pu_ups R0 O
    have eU : rg_cu (rg_u s) (rg_N s) = rg_up s := rfl
    rw [eU] at u0
    show rs_to _ (f11_lays_27_149 (nI n) (nI b) (nI d) (nI a) (f11_lays_27_210 (nI n) (nI b) (nI d) (nI a)) (g + 1) (nI (rg_cy s h (min d (rg_up s)))) (nI (min d (rg_up s))) t')
    have fin : rs_to (fun o t_1 => o = Sum.inl none ∧ t_1.1 27 0 (a + 5) = nI (min d (rg_up s)) ∧ (∀ j, j < min d (rg_up s) → t_1.1 27 0 (a + 6 + j) = nI (rg_cy s h j)) ∧ fr (fun k i j => k = 27 ∧ i = 0 ∧ a + 5 ≤ j ∧ j < a + 14) t t_1) (f11_lays_27_210 (nI n) (nI b) (nI d) (nI a) (nI (min d (rg_up s))) t') := by
      simp (disch := omega) only [pu_lt, pu_ck, pu_bI, pu_bV, pu_bR, pu_bL, pu_nt, pu_us, pu_un, nL_0, nL_1, nL_2, nL_3, nL_4, nL_5, nL_6, nL_7, nL_8, nL_9, nL_10, nL_11, nL_12, nL_13, nL_14, nL_15, nL_16, nL_23, nL_24, nL_32, nL_48, nL_64, nL_99, nL_100, nL_200, nL_336, nL_576, nL_768, nL_800, nL_999, nL_4095, nL_4096, nL_m1, nI_leI, nI_ltI, nI_eq, nI_clamp, nI_add, pk_mul, nI_nu, bI_eq0, bI_eq1, if_true, if_false, if_neg, if_pos, f11_lays_27_210, pu_ixN']
      refine rs_ret ⟨rfl, pu_us, fun j hj => ?_, fr_u p3 (by omega)⟩
      rw [pu_un (by omega)]
      exact p1 j hj
    by_cases hd2 : d ≤ rg_up s
    · have e : min d (rg_up s) = d := by omega
      rw [e] at fin ⊢
      simp (disch := omega) only [pu_lt, pu_ck, pu_bI, pu_bV, pu_bR, pu_bL, pu_nt, pu_us, pu_un, nL_0, nL_1, nL_2, nL_3, nL_4, nL_5, nL_6, nL_7, nL_8, nL_9, nL_10, nL_11, nL_12, nL_13, nL_14, nL_15, nL_16, nL_23, nL_24, nL_32, nL_48, nL_64, nL_99, nL_100, nL_200, nL_336, nL_576, nL_768, nL_800, nL_999, nL_4095, nL_4096, nL_m1, nI_leI, nI_ltI, nI_eq, nI_clamp, nI_add, pk_mul, nI_nu, bI_eq0, bI_eq1, if_true, if_false, if_neg, if_pos, f11_lays_27_149]
      exact fin
    · have e : min d (rg_up s) = rg_up s := by omega
      rw [e] at fin ⊢
      simp (disch := omega) only [pu_lt, pu_ck, pu_bI, pu_bV, pu_bR, pu_bL, pu_nt, pu_us, pu_un, nL_0, nL_1, nL_2, nL_3, nL_4, nL_5, nL_6, nL_7, nL_8, nL_9, nL_10, nL_11, nL_12, nL_13, nL_14, nL_15, nL_16, nL_23, nL_24, nL_32, nL_48, nL_64, nL_99, nL_100, nL_200, nL_336, nL_576, nL_768, nL_800, nL_999, nL_4095, nL_4096, nL_m1, nI_leI, nI_ltI, nI_eq, nI_clamp, nI_add, pk_mul, nI_nu, bI_eq0, bI_eq1, if_true, if_false, if_neg, if_pos, f11_lays_27_149, u0]
      exact fin
set_option maxHeartbeats 1000000 in
theorem pu_lays27 {t : sr_t} {s : rg_T} {n b d a : Nat} (R : rg_RB t s) (O : rg_okB s) (hn : n < rg_N s) (hu : rg_u s n = true) (hb : b ≤ 4) (hd : d ≤ 8) (ha : a + 14 ≤ 336) : ∃ t', F11_lays_27 (nI n) (nI (2 ^ b)) (nI d) (nI a) t = some (.inl none, t') ∧ rg_rt t' 27 a (rg_lay s b d n) ∧ fr (S_rt 27 a) t t' := by
  have hN := O.1
  have hp := O.2.2.2.1 n hn
  have hqb := rg_qb hp hb
  have hh := rg_lb_up (q := rg_p s n * 2 ^ b % 4096) O hn hu
  refine rs_of ?_
  unfold F11_lays_27
  refine pu_lf27 ha ?_
  intro t1 q1
  have R1 : rg_RB (sr_u t1 27 0 a (nI (2 ^ b))) s := rg_RB_of (fun i j => by rw [pu_un (by omega)]; exact q1.2 _ i j (by unfold S_rt; omega)) (fun i j => by rw [pu_un (by omega)]; exact q1.2 _ i j (by unfold S_rt; omega)) (fun i j => by rw [pu_un (by omega)]; exact q1.2 _ i j (by unfold S_rt; omega)) (fun i j => by rw [pu_un (by omega)]; exact q1.2 _ i j (by unfold S_rt; omega)) R
  have r1 := (R1.2 n hn).1
  rw [pu_un (by omega)] at r1
  have f1 := pu_up0 R1 O hp
  simp (disch := omega) only [pu_lt, pu_ck, pu_bI, pu_bV, pu_bR, pu_bL, pu_nt, pu_us, pu_un, nL_0, nL_1, nL_2, nL_3, nL_4, nL_5, nL_6, nL_7, nL_8, nL_9, nL_10, nL_11, nL_12, nL_13, nL_14, nL_15, nL_16, nL_23, nL_24, nL_32, nL_48, nL_64, nL_99, nL_100, nL_200, nL_336, nL_576, nL_768, nL_800, nL_999, nL_4095, nL_4096, nL_m1, nI_leI, nI_ltI, nI_eq, nI_clamp, nI_add, pk_mul, nI_nu, bI_eq0, bI_eq1, if_true, if_false, if_neg, if_pos, f11_lays_27_25, pu_ixN', Nat.add_zero, r1, f1]
  refine pu_ls27 R1 O hn hu ha ?_
  intro t2 a1 a2 a3
  have R2 : rg_RB (sr_u t2 27 0 (a + 1) (nI (min 3 (rg_up s - 1)))) s := rg_RB_of (fun i j => by rw [pu_un (by omega)]; exact a3.2 _ i j (by unfold S_rt; omega)) (fun i j => by rw [pu_un (by omega)]; exact a3.2 _ i j (by unfold S_rt; omega)) (fun i j => by rw [pu_un (by omega)]; exact a3.2 _ i j (by unfold S_rt; omega)) (fun i j => by rw [pu_un (by omega)]; exact a3.2 _ i j (by unfold S_rt; omega)) R1
  have r2 := (R2.2 n hn).1
  rw [pu_un (by omega)] at r2
  have h0 := pu_hostOf (a0 := nI (rg_p s n * 2 ^ b % 4096)) R2 O (pu_qn (by omega))
  rw [Nat.mod_mod] at h0
  have hl : rg_lb s (rg_p s n * 2 ^ b % 4096) < 24 := by omega
  rw [nu_lt hl] at h0
  obtain ⟨t3, f1, f2, f3, f4⟩ := pu_lp27 (n := n) (b := 2 ^ b) (a := a) R2 O hh.1 hh.2.1 hd ha
  have e96 : ¬ (nI 4096 = nI 0) := by decide
  simp (disch := omega) only [pu_lt, pu_ck, pu_bI, pu_bV, pu_bR, pu_bL, pu_nt, pu_us, pu_un, nL_0, nL_1, nL_2, nL_3, nL_4, nL_5, nL_6, nL_7, nL_8, nL_9, nL_10, nL_11, nL_12, nL_13, nL_14, nL_15, nL_16, nL_23, nL_24, nL_32, nL_48, nL_64, nL_99, nL_100, nL_200, nL_336, nL_576, nL_768, nL_800, nL_999, nL_4095, nL_4096, nL_m1, nI_leI, nI_ltI, nI_eq, nI_clamp, nI_add, pk_mul, nI_nu, bI_eq0, bI_eq1, if_true, if_false, if_neg, if_pos, f11_lays_27_119, pu_ixN', e96, r2, pk_rem96, h0, f1]
  refine rs_ret ⟨rfl, ⟨?_, ?_, ?_, ?_, ?_⟩, ?_⟩
  · rw [f4.2 _ _ _ (by omega), pu_un (by omega), a2, pu_us]; rfl
  · rw [f4.2 _ _ _ (by omega), pu_us]; rfl
  · rw [f2]; rfl
  · intro j hj
    rw [rl_1] at hj
    rw [f4.2 _ _ _ (by omega), pu_un (by omega), a1 j hj, rl_2 (by omega)]
  · intro j hj
    rw [rl_5] at hj
    rw [f3 j hj, rl_6]; rfl
  · exact fr_trans (fr_trans (fr_u q1 (by unfold S_rt; omega)) (fr_u a3 (by unfold S_rt; omega))) (fr_mono f4 (fun k i j q => by unfold S_rt; omega))
set_option maxHeartbeats 1000000 in
theorem pu_lf41 {t : sr_t} {Q : sr_O → sr_t → Prop} {n b d a : Nat} {K : sr_t → sr_Rs} (ha : a + 14 ≤ 14) (hK : ∀ t', fr (S_rt 41 a) t t' → rs_to Q (K t')) : rs_to Q (f11_lays_41_3 (nI n) (nI b) (nI d) (nI a) K sr_fu (nI 0) t) := by
  refine rs_loop (N := 14) (L := fun f k t' => f11_lays_41_3 (nI n) (nI b) (nI d) (nI a) K f (nI k) t') (fun _ t' => fr (S_rt 41 a) t t') ?_ ?_ (by unfold sr_fu; omega) fr_rfl
  · intro k g t' hk p
    refine Or.inl ⟨sr_u t' 41 0 (a + k) (nu 24), fr_u p (by unfold S_rt; omega), ?_⟩
    show f11_lays_41_3 (nI n) (nI b) (nI d) (nI a) K (g + 1) (nI k) t' = f11_lays_41_3 (nI n) (nI b) (nI d) (nI a) K g (nI (k + 1)) _
    simp (disch := omega) only [pu_lt, pu_ck, pu_bI, pu_bV, pu_bR, pu_bL, pu_nt, pu_us, pu_un, nL_0, nL_1, nL_2, nL_3, nL_4, nL_5, nL_6, nL_7, nL_8, nL_9, nL_10, nL_11, nL_12, nL_13, nL_14, nL_15, nL_16, nL_23, nL_24, nL_32, nL_48, nL_64, nL_99, nL_100, nL_200, nL_336, nL_576, nL_768, nL_800, nL_999, nL_4095, nL_4096, nL_m1, nI_leI, nI_ltI, nI_eq, nI_clamp, nI_add, pk_mul, nI_nu, bI_eq0, bI_eq1, if_true, if_false, if_neg, if_pos, f11_lays_41_3, pu_ixN']
  · intro g t' p
    show rs_to Q (f11_lays_41_3 (nI n) (nI b) (nI d) (nI a) K (g + 1) (nI 14) t')
    simp (disch := omega) only [pu_lt, pu_ck, pu_bI, pu_bV, pu_bR, pu_bL, pu_nt, pu_us, pu_un, nL_0, nL_1, nL_2, nL_3, nL_4, nL_5, nL_6, nL_7, nL_8, nL_9, nL_10, nL_11, nL_12, nL_13, nL_14, nL_15, nL_16, nL_23, nL_24, nL_32, nL_48, nL_64, nL_99, nL_100, nL_200, nL_336, nL_576, nL_768, nL_800, nL_999, nL_4095, nL_4096, nL_m1, nI_leI, nI_ltI, nI_eq, nI_clamp, nI_add, pk_mul, nI_nu, bI_eq0, bI_eq1, if_true, if_false, if_neg, if_pos, f11_lays_41_3]
    exact hK t' p
set_option maxHeartbeats 2000000 in
theorem pu_ls41 {t : sr_t} {s : rg_T} {Q : sr_O → sr_t → Prop} {n b d a : Nat} {K : Int32 → sr_t → sr_Rs} (R : rg_RB t s) (O : rg_okB s) (hn : n < rg_N s) (hu : rg_u s n = true) (ha : a + 14 ≤ 14)
    (hK : ∀ t', (∀ j, j < min 3 (rg_up s - 1) → t'.1 41 0 (a + 2 + j) = nI (rg_cy s n (j + 1))) → t'.1 41 0 a = t.1 41 0 a → fr (S_rt 41 a) t t' → rs_to Q (K (nI (min 3 (rg_up s - 1))) t')) : rs_to Q (f11_lays_41_49 (nI n) (nI b) (nI d) (nI a) K sr_fu (nI 0) (nu (rg_fb s (rg_p s n))) t) := by
  have hN := O.1
  have hU := rg_up1 hn hu
  have e0 : nu (rg_fb s (rg_p s n)) = nu (if rg_up s = 1 then 24 else rg_cy s n (0 + 1)) := by rw [rg_fb_sc O hn hu]; rfl
  rw [e0]
  refine rs_loop (N := 3) (L := fun f k t' => f11_lays_41_49 (nI n) (nI b) (nI d) (nI a) K f (nI k) (nu (if rg_up s = 1 then 24 else rg_cy s n (k + 1))) t') (fun k t' => (∀ j, j < k → t'.1 41 0 (a + 2 + j) = nI (rg_cy s n (j + 1))) ∧ t'.1 41 0 a = t.1 41 0 a ∧ fr (S_rt 41 a) t t' ∧ k + 1 ≤ rg_up s) ?_ ?_ (by unfold sr_fu; omega) ⟨fun j hj => by omega, rfl, fr_rfl, hU⟩
  · rintro k g t' hk ⟨p1, p2, p3, p4⟩
    by_cases h1 : rg_up s = 1
    · refine Or.inr ?_
      have hk0 : k = 0 := by omega
      subst hk0
      show rs_to Q (f11_lays_41_49 (nI n) (nI b) (nI d) (nI a) K (g + 1) (nI 0) (nu (if rg_up s = 1 then 24 else rg_cy s n (0 + 1))) t')
      rw [if_pos h1]
      simp (disch := omega) only [pu_lt, pu_ck, pu_bI, pu_bV, pu_bR, pu_bL, pu_nt, pu_us, pu_un, nL_0, nL_1, nL_2, nL_3, nL_4, nL_5, nL_6, nL_7, nL_8, nL_9, nL_10, nL_11, nL_12, nL_13, nL_14, nL_15, nL_16, nL_23, nL_24, nL_32, nL_48, nL_64, nL_99, nL_100, nL_200, nL_336, nL_576, nL_768, nL_800, nL_999, nL_4095, nL_4096, nL_m1, nI_leI, nI_ltI, nI_eq, nI_clamp, nI_add, pk_mul, nI_nu, bI_eq0, bI_eq1, if_true, if_false, if_neg, if_pos, f11_lays_41_49]
      have e2 : min 3 (rg_up s - 1) = 0 := by omega
      have := hK t' (by rw [e2]; exact p1) p2 p3
      rw [e2] at this
      exact this
    · by_cases hx : k + 1 = rg_up s
      · refine Or.inr ?_
        have e : rg_cy s n (k + 1) = n := by rw [hx]; exact rg_cyU O hn hu
        show rs_to Q (f11_lays_41_49 (nI n) (nI b) (nI d) (nI a) K (g + 1) (nI k) (nu (if rg_up s = 1 then 24 else rg_cy s n (k + 1))) t')
        rw [if_neg h1, e, nu_lt (by omega)]
        simp (disch := omega) only [pu_lt, pu_ck, pu_bI, pu_bV, pu_bR, pu_bL, pu_nt, pu_us, pu_un, nL_0, nL_1, nL_2, nL_3, nL_4, nL_5, nL_6, nL_7, nL_8, nL_9, nL_10, nL_11, nL_12, nL_13, nL_14, nL_15, nL_16, nL_23, nL_24, nL_32, nL_48, nL_64, nL_99, nL_100, nL_200, nL_336, nL_576, nL_768, nL_800, nL_999, nL_4095, nL_4096, nL_m1, nI_leI, nI_ltI, nI_eq, nI_clamp, nI_add, pk_mul, nI_nu, bI_eq0, bI_eq1, if_true, if_false, if_neg, if_pos, f11_lays_41_49]
        have e2 : min 3 (rg_up s - 1) = k := by omega
        have := hK t' (by rw [e2]; exact p1) p2 p3
        rw [e2] at this
        exact this
      · obtain ⟨c1, c2, c3⟩ := rg_cyc O hn hu (k + 1) (by omega)
        have hne : rg_cy s n (k + 1) ≠ n := fun e => absurd ((rg_cyI O hn hu (i := k + 1) (j := 0) (by omega) (by omega)).mp e) (by omega)
        have R1 : rg_RB (sr_u t' 41 0 (a + 2 + k) (nI (rg_cy s n (k + 1)))) s := rg_RB_of (fun i j => by rw [pu_un (by omega)]; exact p3.2 _ i j (by unfold S_rt; omega)) (fun i j => by rw [pu_un (by omega)]; exact p3.2 _ i j (by unfold S_rt; omega)) (fun i j => by rw [pu_un (by omega)]; exact p3.2 _ i j (by unfold S_rt; omega)) (fun i j => by rw [pu_un (by omega)]; exact p3.2 _ i j (by unfold S_rt; omega)) R
        have r1 := (R1.2 _ c1).1
        rw [pu_un (by omega)] at r1
        have f1 := pu_up0 R1 O (O.2.2.2.1 _ c1)
        rw [rg_fb_sc O c1 c2, if_neg h1] at f1
        have c1' : rg_sc s (rg_cy s n (k + 1)) < 24 := by
          have := (rg_ff_up (q := (rg_p s (rg_cy s n (k + 1)) + 1) % 4096) O c1 c2).1
          exact Nat.lt_of_lt_of_le this hN
        rw [nu_lt c1'] at f1
        have hf : rg_sc s (rg_cy s n (k + 1)) ≠ rg_cy s n 1 := by
          intro e
          by_cases h2 : k + 2 = rg_up s
          · have e3 : rg_cy s n (k + 2) = n := by rw [h2]; exact rg_cyU O hn hu
            have e4 : rg_cy s n 1 = n := e.symm.trans e3
            exact absurd ((rg_cyI O hn hu (i := 1) (j := 0) (by omega) (by omega)).mp e4) (by omega)
          · exact absurd ((rg_cyI O hn hu (i := k + 2) (j := 1) (by omega) (by omega)).mp e) (by omega)
        have hw : (sr_u t' 41 0 (a + 2 + k) (nI (rg_cy s n (k + 1)))).1 41 0 (a + 2) = nI (rg_cy s n 1) := by
          by_cases hk0 : k = 0
          · subst hk0; exact pu_us
          · rw [pu_un (by omega)]; exact p1 0 (by omega)
        have cy1 : rg_cy s n 1 < 24 := by
          have := (rg_cyc O hn hu 1 (by omega)).1
          omega
        refine Or.inl ⟨sr_u t' 41 0 (a + 2 + k) (nI (rg_cy s n (k + 1))), ⟨?_, ?_, ?_, by omega⟩, ?_⟩
        · intro j hj
          by_cases e : j = k
          · subst e; rw [pu_us]
          · rw [pu_un (by omega)]; exact p1 j (by omega)
        · rw [pu_un (by omega)]; exact p2
        · exact fr_u p3 (by unfold S_rt; omega)
        · show f11_lays_41_49 (nI n) (nI b) (nI d) (nI a) K (g + 1) (nI k) (nu (if rg_up s = 1 then 24 else rg_cy s n (k + 1))) t' = f11_lays_41_49 (nI n) (nI b) (nI d) (nI a) K g (nI (k + 1)) (nu (if rg_up s = 1 then 24 else rg_sc s (rg_cy s n (k + 1)))) _
          rw [if_neg h1, if_neg h1, nu_lt (by omega), nu_lt c1']
          simp (disch := omega) only [pu_lt, pu_ck, pu_bI, pu_bV, pu_bR, pu_bL, pu_nt, pu_us, pu_un, nL_0, nL_1, nL_2, nL_3, nL_4, nL_5, nL_6, nL_7, nL_8, nL_9, nL_10, nL_11, nL_12, nL_13, nL_14, nL_15, nL_16, nL_23, nL_24, nL_32, nL_48, nL_64, nL_99, nL_100, nL_200, nL_336, nL_576, nL_768, nL_800, nL_999, nL_4095, nL_4096, nL_m1, nI_leI, nI_ltI, nI_eq, nI_clamp, nI_add, pk_mul, nI_nu, bI_eq0, bI_eq1, if_true, if_false, if_neg, if_pos, f11_lays_41_49, pu_ixN', r1, f1, hw]
  · rintro g t' ⟨p1, p2, p3, p4⟩
    show rs_to Q (f11_lays_41_49 (nI n) (nI b) (nI d) (nI a) K (g + 1) (nI 3) (nu (if rg_up s = 1 then 24 else rg_cy s n (3 + 1))) t')
    simp (disch := omega) only [pu_lt, pu_ck, pu_bI, pu_bV, pu_bR, pu_bL, pu_nt, pu_us, pu_un, nL_0, nL_1, nL_2, nL_3, nL_4, nL_5, nL_6, nL_7, nL_8, nL_9, nL_10, nL_11, nL_12, nL_13, nL_14, nL_15, nL_16, nL_23, nL_24, nL_32, nL_48, nL_64, nL_99, nL_100, nL_200, nL_336, nL_576, nL_768, nL_800, nL_999, nL_4095, nL_4096, nL_m1, nI_leI, nI_ltI, nI_eq, nI_clamp, nI_add, pk_mul, nI_nu, bI_eq0, bI_eq1, if_true, if_false, if_neg, if_pos, f11_lays_41_49]
    have e2 : min 3 (rg_up s - 1) = 3 := by omega
    have := hK t' (by rw [e2]; exact p1) p2 p3
    rw [e2] at this
    exact this
set_option maxHeartbeats 2000000 in
theorem pu_lp41 {t : sr_t} {s : rg_T} {n b d a h : Nat} (R : rg_RB t s) (O : rg_okB s) (hn : h < rg_N s) (hu : rg_u s h = true) (hd : d ≤ 8) (ha : a + 14 ≤ 14) : ∃ t', f11_lays_41_149 (nI n) (nI b) (nI d) (nI a) (f11_lays_41_210 (nI n) (nI b) (nI d) (nI a)) sr_fu (nI h) (nI 0) t = some (.inl none, t') ∧ t'.1 41 0 (a + 5) = nI (min d (rg_up s)) ∧ (∀ j, j < min d (rg_up s) → t'.1 41 0 (a + 6 + j) = nI (rg_cy s h j)) ∧ fr (fun k i j => k = 41 ∧ i = 0 ∧ a + 5 ≤ j ∧ j < a + 14) t t' := by
  have hN := O.1
  have hU := rg_up1 hn hu
  have hUN := rg_upN (s := s)
  refine rs_of ?_
  refine rs_loop (N := min d (rg_up s)) (L := fun f k t' => f11_lays_41_149 (nI n) (nI b) (nI d) (nI a) (f11_lays_41_210 (nI n) (nI b) (nI d) (nI a)) f (nI (rg_cy s h k)) (nI k) t') (fun k t' => (∀ j, j < k → t'.1 41 0 (a + 6 + j) = nI (rg_cy s h j)) ∧ fr (fun k i j => k = 41 ∧ i = 0 ∧ a + 5 ≤ j ∧ j < a + 14) t t') ?_ ?_ (by unfold sr_fu; omega) ⟨fun j hj => by omega, fr_rfl⟩
  · rintro k g t' hk ⟨p1, p3⟩
    obtain ⟨c1, c2, c3⟩ := rg_cyc O hn hu k (by omega)
    have R0 : rg_RB t' s := rg_RB_of (fun i j => p3.2 _ i j (by omega)) (fun i j => p3.2 _ i j (by omega)) (fun i j => p3.2 _ i j (by omega)) (fun i j => p3.2 _ i j (by omega)) R
    have R1 : rg_RB (sr_u t' 41 0 (a + 6 + k) (nI (rg_cy s h k))) s := rg_RB_of (fun i j => by rw [pu_un (by omega)]) (fun i j => by rw [pu_un (by omega)]) (fun i j => by rw [pu_un (by omega)]) (fun i j => by rw [pu_un (by omega)]) R0
    have u0 := pu_ups R0 O
    have u1 := pu_ups R1 O
    have r1 := (R1.2 _ c1).1
    rw [pu_un (by omega)] at r1
    have f1 := pu_up0 R1 O (O.2.2.2.1 _ c1)
    rw [rg_fb_sc O c1 c2] at f1
    have eU : rg_cu (rg_u s) (rg_N s) = rg_up s := rfl
    rw [eU] at u0 u1
    have c1' : rg_sc s (rg_cy s h k) < 24 := by
      have := (rg_ff_up (q := (rg_p s (rg_cy s h k) + 1) % 4096) O c1 c2).1
      exact Nat.lt_of_lt_of_le this hN
    refine Or.inl ⟨sr_u t' 41 0 (a + 6 + k) (nI (rg_cy s h k)), ⟨?_, ?_⟩, ?_⟩
    · intro j hj
      by_cases e : j = k
      · subst e; rw [pu_us]
      · rw [pu_un (by omega)]; exact p1 j (by omega)
    · exact fr_u p3 (by omega)
    · show f11_lays_41_149 (nI n) (nI b) (nI d) (nI a) (f11_lays_41_210 (nI n) (nI b) (nI d) (nI a)) (g + 1) (nI (rg_cy s h k)) (nI k) t' = f11_lays_41_149 (nI n) (nI b) (nI d) (nI a) (f11_lays_41_210 (nI n) (nI b) (nI d) (nI a)) g (nI (rg_sc s (rg_cy s h k))) (nI (k + 1)) _
      by_cases h1 : rg_up s = 1
      · have hk0 : k = 0 := by omega
        subst hk0
        have e : rg_sc s (rg_cy s h 0) = rg_cy s h 0 := by
          have := rg_cyU O hn hu
          rw [h1] at this
          exact this
        rw [e]
        simp (disch := omega) only [pu_lt, pu_ck, pu_bI, pu_bV, pu_bR, pu_bL, pu_nt, pu_us, pu_un, nL_0, nL_1, nL_2, nL_3, nL_4, nL_5, nL_6, nL_7, nL_8, nL_9, nL_10, nL_11, nL_12, nL_13, nL_14, nL_15, nL_16, nL_23, nL_24, nL_32, nL_48, nL_64, nL_99, nL_100, nL_200, nL_336, nL_576, nL_768, nL_800, nL_999, nL_4095, nL_4096, nL_m1, nI_leI, nI_ltI, nI_eq, nI_clamp, nI_add, pk_mul, nI_nu, bI_eq0, bI_eq1, if_true, if_false, if_neg, if_pos, f11_lays_41_149, f11_lays_41_205, pu_ixN', u0, u1]
      · rw [if_neg h1, nu_lt c1'] at f1
        simp (disch := omega) only [pu_lt, pu_ck, pu_bI, pu_bV, pu_bR, pu_bL, pu_nt, pu_us, pu_un, nL_0, nL_1, nL_2, nL_3, nL_4, nL_5, nL_6, nL_7, nL_8, nL_9, nL_10, nL_11, nL_12, nL_13, nL_14, nL_15, nL_16, nL_23, nL_24, nL_32, nL_48, nL_64, nL_99, nL_100, nL_200, nL_336, nL_576, nL_768, nL_800, nL_999, nL_4095, nL_4096, nL_m1, nI_leI, nI_ltI, nI_eq, nI_clamp, nI_add, pk_mul, nI_nu, bI_eq0, bI_eq1, if_true, if_false, if_neg, if_pos, f11_lays_41_149, f11_lays_41_205, pu_ixN', u0, u1, r1, f1]
  · rintro g t' ⟨p1, p3⟩
    have R0 : rg_RB t' s := rg_RB_of (fun i j => p3.2 _ i j (by omega)) (fun i j => p3.2 _ i j (by omega)) (fun i j => p3.2 _ i j (by omega)) (fun i j => p3.2 _ i j (by omega)) R
    have u0 := pu_ups R0 O
    have eU : rg_cu (rg_u s) (rg_N s) = rg_up s := rfl
    rw [eU] at u0
    show rs_to _ (f11_lays_41_149 (nI n) (nI b) (nI d) (nI a) (f11_lays_41_210 (nI n) (nI b) (nI d) (nI a)) (g + 1) (nI (rg_cy s h (min d (rg_up s)))) (nI (min d (rg_up s))) t')
    have fin : rs_to (fun o t_1 => o = Sum.inl none ∧ t_1.1 41 0 (a + 5) = nI (min d (rg_up s)) ∧ (∀ j, j < min d (rg_up s) → t_1.1 41 0 (a + 6 + j) = nI (rg_cy s h j)) ∧ fr (fun k i j => k = 41 ∧ i = 0 ∧ a + 5 ≤ j ∧ j < a + 14) t t_1) (f11_lays_41_210 (nI n) (nI b) (nI d) (nI a) (nI (min d (rg_up s))) t') := by
      simp (disch := omega) only [pu_lt, pu_ck, pu_bI, pu_bV, pu_bR, pu_bL, pu_nt, pu_us, pu_un, nL_0, nL_1, nL_2, nL_3, nL_4, nL_5, nL_6, nL_7, nL_8, nL_9, nL_10, nL_11, nL_12, nL_13, nL_14, nL_15, nL_16, nL_23, nL_24, nL_32, nL_48, nL_64, nL_99, nL_100, nL_200, nL_336, nL_576, nL_768, nL_800, nL_999, nL_4095, nL_4096, nL_m1, nI_leI, nI_ltI, nI_eq, nI_clamp, nI_add, pk_mul, nI_nu, bI_eq0, bI_eq1, if_true, if_false, if_neg, if_pos, f11_lays_41_210, pu_ixN']
      refine rs_ret ⟨rfl, pu_us, fun j hj => ?_, fr_u p3 (by omega)⟩
      rw [pu_un (by omega)]
      exact p1 j hj
    by_cases hd2 : d ≤ rg_up s
    · have e : min d (rg_up s) = d := by omega
      rw [e] at fin ⊢
      simp (disch := omega) only [pu_lt, pu_ck, pu_bI, pu_bV, pu_bR, pu_bL, pu_nt, pu_us, pu_un, nL_0, nL_1, nL_2, nL_3, nL_4, nL_5, nL_6, nL_7, nL_8, nL_9, nL_10, nL_11, nL_12, nL_13, nL_14, nL_15, nL_16, nL_23, nL_24, nL_32, nL_48, nL_64, nL_99, nL_100, nL_200, nL_336, nL_576, nL_768, nL_800, nL_999, nL_4095, nL_4096, nL_m1, nI_leI, nI_ltI, nI_eq, nI_clamp, nI_add, pk_mul, nI_nu, bI_eq0, bI_eq1, if_true, if_false, if_neg, if_pos, f11_lays_41_149]
      exact fin
    · have e : min d (rg_up s) = rg_up s := by omega
      rw [e] at fin ⊢
      simp (disch := omega) only [pu_lt, pu_ck, pu_bI, pu_bV, pu_bR, pu_bL, pu_nt, pu_us, pu_un, nL_0, nL_1, nL_2, nL_3, nL_4, nL_5, nL_6, nL_7, nL_8, nL_9, nL_10, nL_11, nL_12, nL_13, nL_14, nL_15, nL_16, nL_23, nL_24, nL_32, nL_48, nL_64, nL_99, nL_100, nL_200, nL_336, nL_576, nL_768, nL_800, nL_999, nL_4095, nL_4096, nL_m1, nI_leI, nI_ltI, nI_eq, nI_clamp, nI_add, pk_mul, nI_nu, bI_eq0, bI_eq1, if_true, if_false, if_neg, if_pos, f11_lays_41_149, u0]
      exact fin
set_option maxHeartbeats 1000000 in
theorem pu_lays41 {t : sr_t} {s : rg_T} {n b d a : Nat} (R : rg_RB t s) (O : rg_okB s) (hn : n < rg_N s) (hu : rg_u s n = true) (hb : b ≤ 4) (hd : d ≤ 8) (ha : a + 14 ≤ 14) : ∃ t', F11_lays_41 (nI n) (nI (2 ^ b)) (nI d) (nI a) t = some (.inl none, t') ∧ rg_rt t' 41 a (rg_lay s b d n) ∧ fr (S_rt 41 a) t t' := by
  have hN := O.1
  have hp := O.2.2.2.1 n hn
  have hqb := rg_qb hp hb
  have hh := rg_lb_up (q := rg_p s n * 2 ^ b % 4096) O hn hu
  refine rs_of ?_
  unfold F11_lays_41
  refine pu_lf41 ha ?_
  intro t1 q1
  have R1 : rg_RB (sr_u t1 41 0 a (nI (2 ^ b))) s := rg_RB_of (fun i j => by rw [pu_un (by omega)]; exact q1.2 _ i j (by unfold S_rt; omega)) (fun i j => by rw [pu_un (by omega)]; exact q1.2 _ i j (by unfold S_rt; omega)) (fun i j => by rw [pu_un (by omega)]; exact q1.2 _ i j (by unfold S_rt; omega)) (fun i j => by rw [pu_un (by omega)]; exact q1.2 _ i j (by unfold S_rt; omega)) R
  have r1 := (R1.2 n hn).1
  rw [pu_un (by omega)] at r1
  have f1 := pu_up0 R1 O hp
  simp (disch := omega) only [pu_lt, pu_ck, pu_bI, pu_bV, pu_bR, pu_bL, pu_nt, pu_us, pu_un, nL_0, nL_1, nL_2, nL_3, nL_4, nL_5, nL_6, nL_7, nL_8, nL_9, nL_10, nL_11, nL_12, nL_13, nL_14, nL_15, nL_16, nL_23, nL_24, nL_32, nL_48, nL_64, nL_99, nL_100, nL_200, nL_336, nL_576, nL_768, nL_800, nL_999, nL_4095, nL_4096, nL_m1, nI_leI, nI_ltI, nI_eq, nI_clamp, nI_add, pk_mul, nI_nu, bI_eq0, bI_eq1, if_true, if_false, if_neg, if_pos, f11_lays_41_25, pu_ixN', Nat.add_zero, r1, f1]
  refine pu_ls41 R1 O hn hu ha ?_
  intro t2 a1 a2 a3
  have R2 : rg_RB (sr_u t2 41 0 (a + 1) (nI (min 3 (rg_up s - 1)))) s := rg_RB_of (fun i j => by rw [pu_un (by omega)]; exact a3.2 _ i j (by unfold S_rt; omega)) (fun i j => by rw [pu_un (by omega)]; exact a3.2 _ i j (by unfold S_rt; omega)) (fun i j => by rw [pu_un (by omega)]; exact a3.2 _ i j (by unfold S_rt; omega)) (fun i j => by rw [pu_un (by omega)]; exact a3.2 _ i j (by unfold S_rt; omega)) R1
  have r2 := (R2.2 n hn).1
  rw [pu_un (by omega)] at r2
  have h0 := pu_hostOf (a0 := nI (rg_p s n * 2 ^ b % 4096)) R2 O (pu_qn (by omega))
  rw [Nat.mod_mod] at h0
  have hl : rg_lb s (rg_p s n * 2 ^ b % 4096) < 24 := by omega
  rw [nu_lt hl] at h0
  obtain ⟨t3, f1, f2, f3, f4⟩ := pu_lp41 (n := n) (b := 2 ^ b) (a := a) R2 O hh.1 hh.2.1 hd ha
  have e96 : ¬ (nI 4096 = nI 0) := by decide
  simp (disch := omega) only [pu_lt, pu_ck, pu_bI, pu_bV, pu_bR, pu_bL, pu_nt, pu_us, pu_un, nL_0, nL_1, nL_2, nL_3, nL_4, nL_5, nL_6, nL_7, nL_8, nL_9, nL_10, nL_11, nL_12, nL_13, nL_14, nL_15, nL_16, nL_23, nL_24, nL_32, nL_48, nL_64, nL_99, nL_100, nL_200, nL_336, nL_576, nL_768, nL_800, nL_999, nL_4095, nL_4096, nL_m1, nI_leI, nI_ltI, nI_eq, nI_clamp, nI_add, pk_mul, nI_nu, bI_eq0, bI_eq1, if_true, if_false, if_neg, if_pos, f11_lays_41_119, pu_ixN', e96, r2, pk_rem96, h0, f1]
  refine rs_ret ⟨rfl, ⟨?_, ?_, ?_, ?_, ?_⟩, ?_⟩
  · rw [f4.2 _ _ _ (by omega), pu_un (by omega), a2, pu_us]; rfl
  · rw [f4.2 _ _ _ (by omega), pu_us]; rfl
  · rw [f2]; rfl
  · intro j hj
    rw [rl_1] at hj
    rw [f4.2 _ _ _ (by omega), pu_un (by omega), a1 j hj, rl_2 (by omega)]
  · intro j hj
    rw [rl_5] at hj
    rw [f3 j hj, rl_6]; rfl
  · exact fr_trans (fr_trans (fr_u q1 (by unfold S_rt; omega)) (fr_u a3 (by unfold S_rt; omega))) (fr_mono f4 (fun k i j q => by unfold S_rt; omega))
end
