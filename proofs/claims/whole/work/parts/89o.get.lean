section
/-! step: get -/
def JL (t : sr_t) (s : rg_T) : Prop := rg_ok s ∧ rg_C t 0 s ∧ rg_K t 0 s ∧ rg_nob t 1 ∧ (∀ n, rg_N s ≤ n → n < 24 → t.1 2 n 3 = nI 0) ∧ rg_R t s ∧ t.1 11 0 22 = nI 0 ∧ la_I t
theorem J_of {i : Nat} {t : sr_t} {s : rg_T} {w : st_T} (X : JL t s) (W : st_I i t (rg_N s) w) : J i t s w := by
  obtain ⟨O, C, K, nb, sp, R, kp, L⟩ := X
  exact ⟨O, C, K, nb, sp, R, kp, L, W⟩
theorem JL_of {i : Nat} {t : sr_t} {s : rg_T} {w : st_T} (X : J i t s w) : JL t s := by
  obtain ⟨O, C, K, nb, sp, R, kp, L, W⟩ := X
  exact ⟨O, C, K, nb, sp, R, kp, L⟩
def S_sto (k i j : Nat) : Prop := k = 0 ∨ k = 6 ∨ k = 20 ∨ k = 21 ∨ (37 ≤ k ∧ k ≤ 40) ∨ (k = 11 ∧ i = 0 ∧ (j = 0 ∨ j = 33 ∨ j = 34))
theorem JL_st {t t' : sr_t} {s : rg_T} (h : frI S_sto t t') (X : JL t s) : JL t' s := by
  obtain ⟨O, C, K, nb, sp, R, kp, L⟩ := X
  have hN := O.1.1
  refine ⟨O, rg_C_fI hN h (fun k i j q => by unfold Fp_C at q; unfold S_sto; omega) C, rg_K_fI hN h (fun k i j q => by unfold Fp_K at q; unfold S_sto; omega) K, rg_nob_fI h (fun i j a b c => by unfold S_sto; omega) nb, fun n h1 h2 => ?_, rg_R_fI O h (fun k i j q => by unfold Fp_R at q; unfold S_sto; omega) R, ?_, la_I_fr h (fun k i j q => by unfold S_sto; omega) L⟩
  · rw [h _ _ _ (by unfold S_sto; omega)]; exact sp n h1 h2
  · rw [h _ _ _ (by unfold S_sto; omega)]; exact kp
theorem lk_e_cases {s : rg_T} {key n : Nat} {best : Bool} (O : rg_ok s) (hn : n < rg_N s) (hu : rg_u s n = true) : lk_e s key best n < rg_N s ∨ lk_e s key best n = 26 ∨ lk_e s key best n = 27 := by
  have oe := lk_ok (key := key) (best := best) O hn hu (lk_n s key best n) (Nat.le_refl _)
  rcases lk_c_cases (key := key) O oe.1 with h | h | h
  · exact Or.inl h.1
  · exact Or.inr (Or.inl h)
  · exact Or.inr (Or.inr h)
theorem lk_pair {i : Nat} {t : sr_t} {s : rg_T} {w : st_T} {n q : Nat} (X : J i t s w) (hn : n < rg_N s) (hu : rg_u s n = true) (hq : q < 4096) : ∃ t1, F8_travel 0 0 (25 * 0 + n) (nI q) (nI 1) t = some (.inl (some (sr_i (cI (lk_e s q true n)))), t1) ∧ fr (S_tp 0) t t1 ∧ rg_C t1 0 s ∧ st_I i t1 (rg_N s) w ∧ rg_R t1 s ∧ ∀ T, frI S_sto t1 T → ∃ t3, F11_latestLook (nI n) (nI q) (nI 1) (sr_u T 11 0 0 (nI 0)) = some (.inl (some (sr_i (cI (lk_e s q true n)))), t3) ∧ t3.2 = T.2 ∧ frI (fun k i j => (k = 11 ∧ i = 0 ∧ j = 0) ∨ S_ll k i j) T t3 ∧ JL t3 s := by
  obtain ⟨O, C, K, nb, sp, R, kp, L, W⟩ := X
  have hN := O.1.1
  obtain ⟨t1, e1, D, f1⟩ := pu_travel (i0 := 0) (best := true) C K O (by omega) (by omega) hn hu hq
  refine ⟨t1, e1, f1, rg_C_fI hN f1.2 (fun k i j q q' => by unfold Fp_C at q; unfold S_tp at q'; omega) C, st_I_fr f1.2 (fun k i j q q' => by unfold S_tp at q'; omega) W, rg_R_fI O f1.2 (fun k i j q q' => by unfold Fp_R at q; unfold S_tp at q'; omega) R, fun T hT => ?_⟩
  have fT : frI (fun k i j => S_tp 0 k i j ∨ S_sto k i j) t T := frI_trans (frI_mono f1.2 (fun k i j q => Or.inl q)) (frI_mono hT (fun k i j q => Or.inr q))
  have RT : rg_R T s := rg_R_fI O fT (fun k i j h q => by unfold Fp_R at h; unfold S_tp S_sto at q; omega) R
  have R0 : rg_R (sr_u T 11 0 0 (nI 0)) s := rg_R_fr O Sr_0 (fun k i j h => by unfold Fp_R at h; unfold Sr; omega) RT
  obtain ⟨t3, e3, L3, f3⟩ := pu_latestLook (best := true) (rg_RN_of R0 O) O hn hu hq
  have f2 : frI (fun k i j => (k = 11 ∧ i = 0 ∧ j = 0) ∨ S_ll k i j) T t3 := fun k i j h => by rw [f3.2 _ _ _ (fun e => h (Or.inr e)), pu_un (fun e => h (Or.inl e))]
  refine ⟨t3, e3, f3.1, f2, ?_⟩
  have f : frI (fun k i j => (S_tp 0 k i j ∨ S_sto k i j) ∨ (k = 11 ∧ i = 0 ∧ j = 0) ∨ S_ll k i j) t t3 := frI_trans (frI_mono fT (fun k i j q => Or.inl q)) (frI_mono f2 (fun k i j q => Or.inr q))
  have D3 : la_I t3 := by
    have fd : frI (fun k i j => S_sto k i j ∨ (k = 11 ∧ i = 0 ∧ j = 0) ∨ S_ll k i j) t1 t3 := frI_trans (frI_mono hT (fun k i j q => Or.inl q)) (frI_mono f2 (fun k i j q => Or.inr q))
    exact la_make O hn hu D L3 (fun k j h => fd _ _ _ (fun q => by unfold S_sto S_ll at q; omega)) (fun k j h => fd _ _ _ (fun q => by unfold S_sto S_ll at q; omega))
  refine ⟨O, rg_C_fI hN f (fun k i j q q' => by unfold Fp_C at q; unfold S_tp S_sto S_ll at q'; omega) C, rg_K_fI hN f (fun k i j q q' => by unfold Fp_K at q; unfold S_tp S_sto S_ll at q'; omega) K, rg_nob_fI f (fun i j _ _ _ q' => by unfold S_tp S_sto S_ll at q'; omega) nb, fun m h1 h2 => ?_, rg_R_fI O f (fun k i j q q' => by unfold Fp_R at q; unfold S_tp S_sto S_ll at q'; omega) R, L3.2.2.2.2.2, D3⟩
  rw [f _ _ _ (fun q' => by unfold S_tp S_sto S_ll at q'; omega)]; exact sp m h1 h2
def vo (v x : Nat → Nat) (n : Nat) : Int32 := if v n = 0 then nu 24 else nI (x n)
def gl (v x : Nat → Nat) (s : rg_T) (e : Nat) : Nat → Int32
  | 0 => vo v x e
  | j + 1 => if gl v x s e j = nu 24 then (if rg_u s (rg_t s e (2 + j)) = true then vo v x (rg_t s e (2 + j)) else nu 24) else gl v x s e j
theorem gl_s {v x : Nat → Nat} {s : rg_T} {e j : Nat} : gl v x s e (j + 1) = if gl v x s e j = nu 24 then (if rg_u s (rg_t s e (2 + j)) = true then vo v x (rg_t s e (2 + j)) else nu 24) else gl v x s e j := Eq.trans (Eq.refl _) (Eq.refl _)
theorem gl_stay {v x : Nat → Nat} {s : rg_T} {e j : Nat} (h : gl v x s e j ≠ nu 24) : ∀ m, j ≤ m → gl v x s e m = gl v x s e j := by
  intro m
  induction m with
  | zero => intro hm; rw [show j = 0 by omega]
  | succ m ih =>
    intro hm
    by_cases e' : j = m + 1
    · rw [e']
    · have := ih (by omega)
      rw [gl_s, if_neg (by rw [this]; exact h), this]
theorem vo_n {v x : Nat → Nat} {n : Nat} (h : v n = 0) : vo v x n = nu 24 := if_pos h
theorem vo_y {v x : Nat → Nat} {n : Nat} (h : v n ≠ 0) : vo v x n = nI (x n) := if_neg h
theorem nI_nm {a : Nat} (h : a < 2 ^ 31) : ¬ nI a = nu 24 := fun e => nI_neg (z := nu 24) h (by decide) e
def hk_C (t : sr_t) (k : Nat) (v x : Nat → Nat) : Prop := ∀ n, n < 24 → t.1 21 k n = nI (v n) ∧ v n < 2 ^ 31 ∧ (v n ≠ 0 → t.1 20 k n = nI (x n) ∧ x n ≤ 999)
theorem pc_tell {t : sr_t} {s : rg_T} {k e q : Nat} {v x : Nat → Nat} (C : rg_C t 0 s) (O : rg_ok s) (he : e < rg_N s) (hk : k < 33) (H : hk_C t k v x) (ee : F6_entryOf (nI q) t = some (.inl (some (sr_r 0 k)), t)) : F6_tellAt 0 (25 * 0 + e) (nI q) t = some (.inl (some (sr_i (gl v x s e (rg_t s e 1)))), t) := by
  have hN := O.1.1
  obtain ⟨g1, g2, g3, g4, g5, g6⟩ := O.2 e he
  have x0 := C.1.2.1.1 e (by omega)
  rw [nu_lt (by omega)] at x0
  obtain ⟨v1, v2, v3⟩ := H e (by omega)
  by_cases h0 : v e = 0
  · rw [h0] at v1
    have eh := pc_heldN (t := t) (k := k) (n := e) (by omega) v1
    have tb := (C.2 e he).2.1
    have st : F6_tellAt 0 (25 * 0 + e) (nI q) t = f6_tellAt_41 0 (25 * 0 + e) (nI q) (f6_tellAt_82 0 (25 * 0 + e) (nI q)) (f6_tellAt_96 0 (25 * 0 + e) (nI q)) sr_fu k (2 * (25 * 0 + e)) (nI 0) t := by
      unfold F6_tellAt
      rw [ee, pu_bR hk, x0, eh, pv_bI, if_pos (show nI 0 = 0 from rfl)]
      rfl
    rw [st]
    refine pu_forX (N := rg_t s e 1) (L := fun f j => f6_tellAt_41 0 (25 * 0 + e) (nI q) (f6_tellAt_82 0 (25 * 0 + e) (nI q)) (f6_tellAt_96 0 (25 * 0 + e) (nI q)) f k (2 * (25 * 0 + e)) (nI j) t) (Q := fun j => gl v x s e j = nu 24) ?_ ?_ (by unfold sr_fu; omega) (vo_n h0)
    · intro j g hj qj
      have hb := g3 j hj
      have a1 := pu_at tb (by omega) hj
      have a0 := tb.1
      have up := (C.1.2.2 _ hb).2.1
      have gs := gl_s (v := v) (x := x) (s := s) (e := e) (j := j)
      rw [if_pos qj] at gs
      obtain ⟨y1, y2, y3⟩ := H (rg_t s e (2 + j)) (by omega)
      show (f6_tellAt_41 0 (25 * 0 + e) (nI q) _ _ (g + 1) k (2 * (25 * 0 + e)) (nI j) t = f6_tellAt_41 0 (25 * 0 + e) (nI q) _ _ g k (2 * (25 * 0 + e)) (nI (j + 1)) t ∧ _) ∨ f6_tellAt_41 0 (25 * 0 + e) (nI q) _ _ (g + 1) k (2 * (25 * 0 + e)) (nI j) t = _
      cases hu : rg_u s (rg_t s e (2 + j)) with
      | false =>
        left
        rw [hu] at up gs
        have bf : bI false = nI 0 := rfl
        rw [bf] at up
        refine ⟨?_, gs⟩
        simp (disch := omega) only [pv_lt, pu_ck, pv_bI, pv_bV, pu_bR, pv_bL, pv_nt, pu_us, pu_un, mL_0, mL_1, mL_2, mL_3, mL_4, mL_5, mL_6, mL_7, mL_8, mL_9, mL_10, mL_11, mL_12, mL_13, mL_14, mL_15, mL_16, mL_23, mL_24, mL_32, mL_48, mL_64, mL_99, mL_100, mL_200, mL_336, mL_576, mL_768, mL_800, mL_999, mL_4095, mL_4096, mL_m1, nI_leI, nI_ltI, nI_eq, nI_clamp, nI_add, pk_mul, nI_nu, bI_eq0, bI_eq1, bo_ft, Bool.true_eq_false, Bool.false_eq_true, pu_of, pu_of24, pu_onward, pu_frq, if_true, if_false, true_or, or_true, false_or, or_false, and_true, true_and, and_false, false_and, not_true_eq_false, not_false_eq_true, if_neg, if_pos, f6_tellAt_41, f6_tellAt_90, a0, a1, up]
      | true =>
        rw [hu] at up gs
        rw [if_pos rfl] at gs
        have bt : bI true = nI 1 := rfl
        rw [bt] at up
        by_cases hv : v (rg_t s e (2 + j)) = 0
        · left
          rw [hv] at y1
          rw [vo_n hv] at gs
          have eh := pc_heldN (t := t) (k := k) (n := rg_t s e (2 + j)) (by omega) y1
          refine ⟨?_, gs⟩
          simp (disch := omega) only [pv_lt, pu_ck, pv_bI, pv_bV, pu_bR, pv_bL, pv_nt, pu_us, pu_un, mL_0, mL_1, mL_2, mL_3, mL_4, mL_5, mL_6, mL_7, mL_8, mL_9, mL_10, mL_11, mL_12, mL_13, mL_14, mL_15, mL_16, mL_23, mL_24, mL_32, mL_48, mL_64, mL_99, mL_100, mL_200, mL_336, mL_576, mL_768, mL_800, mL_999, mL_4095, mL_4096, mL_m1, nI_leI, nI_ltI, nI_eq, nI_clamp, nI_add, pk_mul, nI_nu, bI_eq0, bI_eq1, bo_ft, Bool.true_eq_false, Bool.false_eq_true, pu_of, pu_of24, pu_onward, pu_frq, if_true, if_false, true_or, or_true, false_or, or_false, and_true, true_and, and_false, false_and, not_true_eq_false, not_false_eq_true, if_neg, if_pos, f6_tellAt_41, f6_tellAt_90, a0, a1, up, eh]
        · right
          obtain ⟨y4, y5⟩ := y3 hv
          have eh := pc_heldY (t := t) (k := k) (n := rg_t s e (2 + j)) (by omega) y2 y1 (by omega)
          have el := pc_val (t := t) (k := k) (n := rg_t s e (2 + j)) (by omega) y4
          rw [vo_y hv] at gs
          rw [gl_stay (j := j + 1) (by rw [gs]; exact nI_nm (by omega)) (rg_t s e 1) (by omega), gs]
          simp (disch := omega) only [pv_lt, pu_ck, pv_bI, pv_bV, pu_bR, pv_bL, pv_nt, pu_us, pu_un, mL_0, mL_1, mL_2, mL_3, mL_4, mL_5, mL_6, mL_7, mL_8, mL_9, mL_10, mL_11, mL_12, mL_13, mL_14, mL_15, mL_16, mL_23, mL_24, mL_32, mL_48, mL_64, mL_99, mL_100, mL_200, mL_336, mL_576, mL_768, mL_800, mL_999, mL_4095, mL_4096, mL_m1, nI_leI, nI_ltI, nI_eq, nI_clamp, nI_add, pk_mul, nI_nu, bI_eq0, bI_eq1, bo_ft, Bool.true_eq_false, Bool.false_eq_true, pu_of, pu_of24, pu_onward, pu_frq, if_true, if_false, true_or, or_true, false_or, or_false, and_true, true_and, and_false, false_and, not_true_eq_false, not_false_eq_true, if_neg, if_pos, f6_tellAt_41, f6_tellAt_82, a0, a1, up, eh, el]
    · intro g qj
      have a0 := tb.1
      show f6_tellAt_41 0 (25 * 0 + e) (nI q) _ _ (g + 1) k (2 * (25 * 0 + e)) (nI (rg_t s e 1)) t = _
      rw [qj]
      simp (disch := omega) only [pv_lt, pu_ck, pv_bI, pv_bV, pu_bR, pv_bL, pv_nt, pu_us, pu_un, mL_0, mL_1, mL_2, mL_3, mL_4, mL_5, mL_6, mL_7, mL_8, mL_9, mL_10, mL_11, mL_12, mL_13, mL_14, mL_15, mL_16, mL_23, mL_24, mL_32, mL_48, mL_64, mL_99, mL_100, mL_200, mL_336, mL_576, mL_768, mL_800, mL_999, mL_4095, mL_4096, mL_m1, nI_leI, nI_ltI, nI_eq, nI_clamp, nI_add, pk_mul, nI_nu, bI_eq0, bI_eq1, bo_ft, Bool.true_eq_false, Bool.false_eq_true, pu_of, pu_of24, pu_onward, pu_frq, if_true, if_false, true_or, or_true, false_or, or_false, and_true, true_and, and_false, false_and, not_true_eq_false, not_false_eq_true, if_neg, if_pos, f6_tellAt_41, f6_tellAt_96, a0]
  · obtain ⟨y4, y5⟩ := v3 h0
    have eh := pc_heldY (t := t) (k := k) (n := e) (by omega) v2 v1 (by omega)
    have el := pc_val (t := t) (k := k) (n := e) (by omega) y4
    have g0 : gl v x s e 0 = nI (x e) := vo_y h0
    rw [gl_stay (j := 0) (by rw [g0]; exact nI_nm (by omega)) (rg_t s e 1) (by omega), g0]
    simp (disch := omega) only [pv_lt, pu_ck, pv_bI, pv_bV, pu_bR, pv_bL, pv_nt, pu_us, pu_un, mL_0, mL_1, mL_2, mL_3, mL_4, mL_5, mL_6, mL_7, mL_8, mL_9, mL_10, mL_11, mL_12, mL_13, mL_14, mL_15, mL_16, mL_23, mL_24, mL_32, mL_48, mL_64, mL_99, mL_100, mL_200, mL_336, mL_576, mL_768, mL_800, mL_999, mL_4095, mL_4096, mL_m1, nI_leI, nI_ltI, nI_eq, nI_clamp, nI_add, pk_mul, nI_nu, bI_eq0, bI_eq1, bo_ft, Bool.true_eq_false, Bool.false_eq_true, pu_of, pu_of24, pu_onward, pu_frq, if_true, if_false, true_or, or_true, false_or, or_false, and_true, true_and, and_false, false_and, not_true_eq_false, not_false_eq_true, if_neg, if_pos, F6_tellAt, ee, x0, eh, el]
def hk_R (t : sr_t) (k : Nat) (v x : Nat → Nat) : Prop := ∀ n, n < 24 → t.1 40 0 (32 * n + k) = nI (v n) ∧ v n < 2 ^ 31 ∧ t.1 39 0 (32 * n + k) = nI (x n) ∧ x n ≤ 999
theorem pr_value {t : sr_t} {k n : Nat} {v x : Nat → Nat} (H : hk_R t k v x) (hk : k < 32) (hn : n < 24) : F11_valueOf (nI n) (nI k) t = some (.inl (some (sr_i (vo v x n))), t) := by
  obtain ⟨v1, v2, v3, v4⟩ := H n hn
  by_cases h0 : v n = 0
  · rw [vo_n h0]
    rw [h0] at v1
    simp (disch := omega) only [pv_lt, pu_ck, pv_bI, pv_bV, pu_bR, pv_bL, pv_nt, pu_us, pu_un, mL_0, mL_1, mL_2, mL_3, mL_4, mL_5, mL_6, mL_7, mL_8, mL_9, mL_10, mL_11, mL_12, mL_13, mL_14, mL_15, mL_16, mL_23, mL_24, mL_32, mL_48, mL_64, mL_99, mL_100, mL_200, mL_336, mL_576, mL_768, mL_800, mL_999, mL_4095, mL_4096, mL_m1, nI_leI, nI_ltI, nI_eq, nI_clamp, nI_add, pk_mul, nI_nu, bI_eq0, bI_eq1, bo_ft, Bool.true_eq_false, Bool.false_eq_true, pu_of, pu_of24, pu_onward, pu_frq, if_true, if_false, true_or, or_true, false_or, or_false, and_true, true_and, and_false, false_and, not_true_eq_false, not_false_eq_true, if_neg, if_pos, F11_valueOf, f11_valueOf_27, pr_cell, v1, pu_ixN']
  · rw [vo_y h0]
    simp (disch := omega) only [pv_lt, pu_ck, pv_bI, pv_bV, pu_bR, pv_bL, pv_nt, pu_us, pu_un, mL_0, mL_1, mL_2, mL_3, mL_4, mL_5, mL_6, mL_7, mL_8, mL_9, mL_10, mL_11, mL_12, mL_13, mL_14, mL_15, mL_16, mL_23, mL_24, mL_32, mL_48, mL_64, mL_99, mL_100, mL_200, mL_336, mL_576, mL_768, mL_800, mL_999, mL_4095, mL_4096, mL_m1, nI_leI, nI_ltI, nI_eq, nI_clamp, nI_add, pk_mul, nI_nu, bI_eq0, bI_eq1, bo_ft, Bool.true_eq_false, Bool.false_eq_true, pu_of, pu_of24, pu_onward, pu_frq, if_true, if_false, true_or, or_true, false_or, or_false, and_true, true_and, and_false, false_and, not_true_eq_false, not_false_eq_true, if_neg, if_pos, F11_valueOf, f11_valueOf_27, pr_cell, v1, v3, pu_ixN']
theorem pr_tell {t : sr_t} {s : rg_T} {k e : Nat} {v x : Nat → Nat} {a b : Int32} (R : rg_R t s) (O : rg_ok s) (he : e < rg_N s) (hk : k < 32) (H : hk_R t k v x) : f11_get_76 a b (f11_get_135 a b) sr_fu (nI e) (nI k) (gl v x s e 0) (nI 0) t = some (.inl (some (sr_i (gl v x s e (rg_t s e 1)))), t) := by
  have hN := O.1.1
  obtain ⟨g1, g2, g3, g4, g5, g6⟩ := O.2 e he
  refine pu_forX (N := rg_t s e 1) (L := fun f j => f11_get_76 a b (f11_get_135 a b) f (nI e) (nI k) (gl v x s e j) (nI j) t) (Q := fun j => True) ?_ ?_ (by unfold sr_fu; omega) trivial
  · intro j g hj _
    have hb := g3 j hj
    have a1 := pu_tb1 (rg_RN_of R O) O he
    have a2 := pu_tb2 (rg_RN_of R O) O he hj
    have up := (R.1.2 _ hb).2.1
    have gs := gl_s (v := v) (x := x) (s := s) (e := e) (j := j)
    have el := pr_value H hk (n := rg_t s e (2 + j)) (by omega)
    show (f11_get_76 a b (f11_get_135 a b) (g + 1) (nI e) (nI k) (gl v x s e j) (nI j) t = f11_get_76 a b (f11_get_135 a b) g (nI e) (nI k) (gl v x s e (j + 1)) (nI (j + 1)) t ∧ _) ∨ f11_get_76 a b (f11_get_135 a b) (g + 1) (nI e) (nI k) (gl v x s e j) (nI j) t = _
    by_cases qj : gl v x s e j = nu 24
    · left
      rw [if_pos qj] at gs
      refine ⟨?_, trivial⟩
      rw [qj, gs]
      cases hu : rg_u s (rg_t s e (2 + j)) with
      | false =>
        rw [hu] at up
        have bf : ¬ bI false = nI 1 := by decide
        simp (disch := omega) only [pv_lt, pu_ck, pv_bI, pv_bV, pu_bR, pv_bL, pv_nt, pu_us, pu_un, mL_0, mL_1, mL_2, mL_3, mL_4, mL_5, mL_6, mL_7, mL_8, mL_9, mL_10, mL_11, mL_12, mL_13, mL_14, mL_15, mL_16, mL_23, mL_24, mL_32, mL_48, mL_64, mL_99, mL_100, mL_200, mL_336, mL_576, mL_768, mL_800, mL_999, mL_4095, mL_4096, mL_m1, nI_leI, nI_ltI, nI_eq, nI_clamp, nI_add, pk_mul, nI_nu, bI_eq0, bI_eq1, bo_ft, Bool.true_eq_false, Bool.false_eq_true, pu_of, pu_of24, pu_onward, pu_frq, if_true, if_false, true_or, or_true, false_or, or_false, and_true, true_and, and_false, false_and, not_true_eq_false, not_false_eq_true, if_neg, if_pos, f11_get_76, f11_get_127, a1, a2, up, bf, pu_ixN']
      | true =>
        rw [hu] at up
        have bt : (bI true = nI 1) = True := eq_true rfl
        simp (disch := omega) only [pv_lt, pu_ck, pv_bI, pv_bV, pu_bR, pv_bL, pv_nt, pu_us, pu_un, mL_0, mL_1, mL_2, mL_3, mL_4, mL_5, mL_6, mL_7, mL_8, mL_9, mL_10, mL_11, mL_12, mL_13, mL_14, mL_15, mL_16, mL_23, mL_24, mL_32, mL_48, mL_64, mL_99, mL_100, mL_200, mL_336, mL_576, mL_768, mL_800, mL_999, mL_4095, mL_4096, mL_m1, nI_leI, nI_ltI, nI_eq, nI_clamp, nI_add, pk_mul, nI_nu, bI_eq0, bI_eq1, bo_ft, Bool.true_eq_false, Bool.false_eq_true, pu_of, pu_of24, pu_onward, pu_frq, if_true, if_false, true_or, or_true, false_or, or_false, and_true, true_and, and_false, false_and, not_true_eq_false, not_false_eq_true, if_neg, if_pos, f11_get_76, f11_get_127, a1, a2, up, bt, el, pu_ixN']
    · right
      rw [gl_stay (j := j) qj (rg_t s e 1) (by omega)]
      simp (disch := omega) only [pv_lt, pu_ck, pv_bI, pv_bV, pu_bR, pv_bL, pv_nt, pu_us, pu_un, mL_0, mL_1, mL_2, mL_3, mL_4, mL_5, mL_6, mL_7, mL_8, mL_9, mL_10, mL_11, mL_12, mL_13, mL_14, mL_15, mL_16, mL_23, mL_24, mL_32, mL_48, mL_64, mL_99, mL_100, mL_200, mL_336, mL_576, mL_768, mL_800, mL_999, mL_4095, mL_4096, mL_m1, nI_leI, nI_ltI, nI_eq, nI_clamp, nI_add, pk_mul, nI_nu, bI_eq0, bI_eq1, bo_ft, Bool.true_eq_false, Bool.false_eq_true, pu_of, pu_of24, pu_onward, pu_frq, if_true, if_false, true_or, or_true, false_or, or_false, and_true, true_and, and_false, false_and, not_true_eq_false, not_false_eq_true, if_neg, if_pos, f11_get_76, f11_get_135, a1, qj]
  · intro g _
    have a1 := pu_tb1 (rg_RN_of R O) O he
    show f11_get_76 a b (f11_get_135 a b) (g + 1) (nI e) (nI k) (gl v x s e (rg_t s e 1)) (nI (rg_t s e 1)) t = _
    simp (disch := omega) only [pv_lt, pu_ck, pv_bI, pv_bV, pu_bR, pv_bL, pv_nt, pu_us, pu_un, mL_0, mL_1, mL_2, mL_3, mL_4, mL_5, mL_6, mL_7, mL_8, mL_9, mL_10, mL_11, mL_12, mL_13, mL_14, mL_15, mL_16, mL_23, mL_24, mL_32, mL_48, mL_64, mL_99, mL_100, mL_200, mL_336, mL_576, mL_768, mL_800, mL_999, mL_4095, mL_4096, mL_m1, nI_leI, nI_ltI, nI_eq, nI_clamp, nI_add, pk_mul, nI_nu, bI_eq0, bI_eq1, bo_ft, Bool.true_eq_false, Bool.false_eq_true, pu_of, pu_of24, pu_onward, pu_frq, if_true, if_false, true_or, or_true, false_or, or_false, and_true, true_and, and_false, false_and, not_true_eq_false, not_false_eq_true, if_neg, if_pos, f11_get_76, f11_get_135, a1]
end
