section
/-! links between those that are up -/
theorem rb_bs {f : Nat → Nat} {y : Nat} (hy : y < 32) : ∀ m, (∀ k, k < m → f k < 24) → bs (rb f m) y = true → ∃ k, k < m ∧ f k = y := by
  intro m
  induction m with
  | zero => intro _ h; exact absurd h (by rw [show bs (rb f 0) y = false from bs_0]; decide)
  | succ m ih =>
    intro hf h
    rw [rb_s, bs_or, bs_ob (by have := hf m (by omega); omega) hy] at h
    by_cases e : y = f m
    · exact ⟨m, by omega, e.symm⟩
    · rw [decide_eq_false e, Bool.or_false] at h
      obtain ⟨k, k1, k2⟩ := ih (fun k hk => hf k (by omega)) h
      exact ⟨k, by omega, k2⟩
theorem lB_lt {s : rg_T} {n y : Nat} (O : rg_ok s) (hn : n < rg_N s) (hy : y < 32) (h : bs (lB s n) y = true) : y < rg_N s := by
  have hN := O.1.1
  obtain ⟨g1, g2, g3, g4, g5, g6⟩ := O.2 n hn
  unfold lB at h
  rw [bs_and, bs_or, Bool.and_eq_true, Bool.or_eq_true] at h
  rcases h.1 with h | h
  · obtain ⟨k, k1, k2⟩ := rb_bs hy _ (fun k hk => by have := g3 k hk; omega) h
    rw [← k2]; exact g3 k k1
  · obtain ⟨k, k1, k2⟩ := rb_bs hy _ (fun k hk => by have := g6 k hk; omega) h
    rw [← k2]; exact g6 k k1
theorem lB_ne {s : rg_T} {n : Nat} (hn : n < 24) : bs (lB s n) n = false := by
  unfold lB
  rw [bs_and, bs_not (by omega), bs_ob (by omega) (by omega), decide_eq_true rfl, Bool.not_true, Bool.and_false]
def uB (s : rg_T) : Int32 := pb (rg_u s) (rg_N s)
theorem uB_bs {s : rg_T} {m : Nat} (O : rg_ok s) (hm : m < 32) : bs (uB s) m = (decide (m < rg_N s) && rg_u s m) := pb_bs _ (by have := O.1.1; omega) m hm
def UL (s : rg_T) (n : Nat) : Int32 := if n < rg_N s ∧ rg_u s n = true then lB s n &&& uB s else nI 0
theorem UL_bs {s : rg_T} {x y : Nat} (O : rg_ok s) (hy : y < 32) (h : bs (UL s x) y = true) : x < rg_N s ∧ y < rg_N s ∧ rg_u s x = true ∧ rg_u s y = true ∧ x ≠ y := by
  have hN := O.1.1
  unfold UL at h
  split at h
  · rename_i q
    rw [bs_and, Bool.and_eq_true, uB_bs O hy, Bool.and_eq_true] at h
    refine ⟨q.1, of_decide_eq_true h.2.1, q.2, h.2.2, fun e => ?_⟩
    subst e
    rw [lB_ne (by omega)] at h
    exact absurd h.1 (by decide)
  · rw [bs_0] at h
    exact absurd h (by decide)
theorem pc_upBits {t : sr_t} {s : rg_T} (C : rg_C t 0 s) (O : rg_ok s) : F3_upBits 0 t = some (.inl (some (sr_i (uB s))), t) := by
  have hN := O.1.1
  have h3 := C.1.1.1
  unfold F3_upBits
  show f3_upBits_4 0 (f3_upBits_36 0) sr_fu (pb (rg_u s) 0) (nI 0) t = _
  refine pu_for (N := rg_N s) (L := fun g x => f3_upBits_4 0 (f3_upBits_36 0) g (pb (rg_u s) x) (nI x) t) ?_ ?_ (by unfold sr_fu; omega)
  · intro x g hx
    have up := (C.1.2.2 x hx).2.1
    show f3_upBits_4 0 (f3_upBits_36 0) (g + 1) (pb (rg_u s) x) (nI x) t = f3_upBits_4 0 (f3_upBits_36 0) g (pb (rg_u s) (x + 1)) (nI (x + 1)) t
    rw [pb_s]
    cases hu : rg_u s x with
    | false =>
      rw [hu, show bI false = nI 0 from rfl] at up
      rw [if_neg (by decide)]
      simp (disch := omega) only [pv_lt, pu_ck, pv_bI, pv_bV, pu_bR, pv_bL, pv_nt, pu_us, pu_un, mL_0, mL_1, mL_2, mL_3, mL_4, mL_5, mL_6, mL_7, mL_8, mL_9, mL_10, mL_11, mL_12, mL_13, mL_14, mL_15, mL_16, mL_23, mL_24, mL_32, mL_48, mL_64, mL_99, mL_100, mL_200, mL_336, mL_576, mL_768, mL_800, mL_999, mL_4095, mL_4096, mL_m1, nI_leI, nI_ltI, nI_eq, nI_clamp, nI_add, pk_mul, nI_nu, bI_eq0, bI_eq1, bo_ft, Bool.true_eq_false, Bool.false_eq_true, pu_of, pu_of24, pu_onward, pu_frq, if_true, if_false, true_or, or_true, false_or, or_false, and_true, true_and, and_false, false_and, not_true_eq_false, not_false_eq_true, if_neg, if_pos, f3_upBits_4, f3_upBits_30, h3, up]
    | true =>
      rw [hu, show bI true = nI 1 from rfl] at up
      rw [if_pos rfl]
      simp (disch := omega) only [pv_lt, pu_ck, pv_bI, pv_bV, pu_bR, pv_bL, pv_nt, pu_us, pu_un, mL_0, mL_1, mL_2, mL_3, mL_4, mL_5, mL_6, mL_7, mL_8, mL_9, mL_10, mL_11, mL_12, mL_13, mL_14, mL_15, mL_16, mL_23, mL_24, mL_32, mL_48, mL_64, mL_99, mL_100, mL_200, mL_336, mL_576, mL_768, mL_800, mL_999, mL_4095, mL_4096, mL_m1, nI_leI, nI_ltI, nI_eq, nI_clamp, nI_add, pk_mul, nI_nu, bI_eq0, bI_eq1, bo_ft, Bool.true_eq_false, Bool.false_eq_true, pu_of, pu_of24, pu_onward, pu_frq, if_true, if_false, true_or, or_true, false_or, or_false, and_true, true_and, and_false, false_and, not_true_eq_false, not_false_eq_true, if_neg, if_pos, f3_upBits_4, f3_upBits_30, h3, up, pu_bit]
  · intro g
    show f3_upBits_4 0 (f3_upBits_36 0) (g + 1) (pb (rg_u s) (rg_N s)) (nI (rg_N s)) t = _
    simp (disch := omega) only [pv_lt, pu_ck, pv_bI, pv_bV, pu_bR, pv_bL, pv_nt, pu_us, pu_un, mL_0, mL_1, mL_2, mL_3, mL_4, mL_5, mL_6, mL_7, mL_8, mL_9, mL_10, mL_11, mL_12, mL_13, mL_14, mL_15, mL_16, mL_23, mL_24, mL_32, mL_48, mL_64, mL_99, mL_100, mL_200, mL_336, mL_576, mL_768, mL_800, mL_999, mL_4095, mL_4096, mL_m1, nI_leI, nI_ltI, nI_eq, nI_clamp, nI_add, pk_mul, nI_nu, bI_eq0, bI_eq1, bo_ft, Bool.true_eq_false, Bool.false_eq_true, pu_of, pu_of24, pu_onward, pu_frq, if_true, if_false, true_or, or_true, false_or, or_false, and_true, true_and, and_false, false_and, not_true_eq_false, not_false_eq_true, if_neg, if_pos, f3_upBits_4, f3_upBits_36, h3]
    rfl
def S_17 (k _i _j : Nat) : Prop := k = 17
theorem pc_read {t : sr_t} {s : rg_T} (C : rg_C t 0 s) (O : rg_ok s) : ∃ t', F9_readLinks 0 t = some (.inl none, t') ∧ (∀ n, n < 24 → t'.1 17 0 n = UL s n) ∧ fr S_17 t t' := by
  have hN := O.1.1
  have e0 := pc_upBits C O
  have main : ∃ t', ((∀ n, n < 24 → t'.1 17 0 n = UL s n) ∧ fr S_17 t t') ∧ f9_readLinks_7 0 (f9_readLinks_50 0) sr_fu (uB s) (nI 0) t = some (.inl none, t') := by
    refine pu_forR (N := 24) (L := fun f n t' => f9_readLinks_7 0 (f9_readLinks_50 0) f (uB s) (nI n) t') (fin := fun t' => some (.inl none, t')) (P := fun k t' => (∀ n, n < k → t'.1 17 0 n = UL s n) ∧ fr S_17 t t') ?_ ?_ (by unfold sr_fu; omega) ⟨fun n hn => by omega, fr_rfl⟩
    · rintro n g t' hn ⟨p1, p2⟩
      have C' : rg_C t' 0 s := rg_C_fr hN p2 (fun k i j q => by unfold Fp_C at q; unfold S_17; omega) C
      have hb := pu_hasBit (t := t') (x := uB s) (k := n) (by omega)
      rw [uB_bs O (by omega)] at hb
      have fin : ∀ v : Int32, v = UL s n → ((∀ m, m < n + 1 → (sr_u t' 17 0 n v).1 17 0 m = UL s m) ∧ fr S_17 t (sr_u t' 17 0 n v)) := by
        rintro v rfl
        refine ⟨fun m hm => ?_, fr_u p2 rfl⟩
        by_cases e : m = n
        · subst e; rw [pu_us]
        · rw [pu_un (by omega)]; exact p1 m (by omega)
      show ∃ t2, ((∀ m, m < n + 1 → t2.1 17 0 m = UL s m) ∧ fr S_17 t t2) ∧ f9_readLinks_7 0 (f9_readLinks_50 0) (g + 1) (uB s) (nI n) t' = f9_readLinks_7 0 (f9_readLinks_50 0) g (uB s) (nI (n + 1)) t2
      by_cases q : n < rg_N s ∧ rg_u s n = true
      · rw [decide_eq_true q.1, q.2, show bI (true && true) = nI 1 from rfl] at hb
        have e1 := pc_links C' O q.1
        have ul : lB s n &&& uB s = UL s n := (if_pos q).symm
        refine ⟨sr_u t' 17 0 n (UL s n), fin _ rfl, ?_⟩
        simp (disch := omega) only [pv_lt, pu_ck, pv_bI, pv_bV, pu_bR, pv_bL, pv_nt, pu_us, pu_un, mL_0, mL_1, mL_2, mL_3, mL_4, mL_5, mL_6, mL_7, mL_8, mL_9, mL_10, mL_11, mL_12, mL_13, mL_14, mL_15, mL_16, mL_23, mL_24, mL_32, mL_48, mL_64, mL_99, mL_100, mL_200, mL_336, mL_576, mL_768, mL_800, mL_999, mL_4095, mL_4096, mL_m1, nI_leI, nI_ltI, nI_eq, nI_clamp, nI_add, pk_mul, nI_nu, bI_eq0, bI_eq1, bo_ft, Bool.true_eq_false, Bool.false_eq_true, pu_of, pu_of24, pu_onward, pu_frq, if_true, if_false, true_or, or_true, false_or, or_false, and_true, true_and, and_false, false_and, not_true_eq_false, not_false_eq_true, if_neg, if_pos, f9_readLinks_7, f9_readLinks_43, hb, e1, ul, pu_ixN']
      · have hz : (decide (n < rg_N s) && rg_u s n) = false := by
          by_cases h1 : n < rg_N s
          · have h2 : rg_u s n = false := by
              cases hu : rg_u s n with
              | false => rfl
              | true => exact absurd ⟨h1, hu⟩ q
            rw [h2, Bool.and_false]
          · rw [decide_eq_false h1, Bool.false_and]
        rw [hz, show bI false = nI 0 from rfl] at hb
        have ul : nI 0 = UL s n := (if_neg q).symm
        refine ⟨sr_u t' 17 0 n (nI 0), fin _ ul, ?_⟩
        simp (disch := omega) only [pv_lt, pu_ck, pv_bI, pv_bV, pu_bR, pv_bL, pv_nt, pu_us, pu_un, mL_0, mL_1, mL_2, mL_3, mL_4, mL_5, mL_6, mL_7, mL_8, mL_9, mL_10, mL_11, mL_12, mL_13, mL_14, mL_15, mL_16, mL_23, mL_24, mL_32, mL_48, mL_64, mL_99, mL_100, mL_200, mL_336, mL_576, mL_768, mL_800, mL_999, mL_4095, mL_4096, mL_m1, nI_leI, nI_ltI, nI_eq, nI_clamp, nI_add, pk_mul, nI_nu, bI_eq0, bI_eq1, bo_ft, Bool.true_eq_false, Bool.false_eq_true, pu_of, pu_of24, pu_onward, pu_frq, if_true, if_false, true_or, or_true, false_or, or_false, and_true, true_and, and_false, false_and, not_true_eq_false, not_false_eq_true, if_neg, if_pos, f9_readLinks_7, f9_readLinks_43, hb, pu_ixN']
    · rintro g t' _
      show f9_readLinks_7 0 (f9_readLinks_50 0) (g + 1) (uB s) (nI 24) t' = _
      simp (disch := omega) only [pv_lt, pu_ck, pv_bI, pv_bV, pu_bR, pv_bL, pv_nt, pu_us, pu_un, mL_0, mL_1, mL_2, mL_3, mL_4, mL_5, mL_6, mL_7, mL_8, mL_9, mL_10, mL_11, mL_12, mL_13, mL_14, mL_15, mL_16, mL_23, mL_24, mL_32, mL_48, mL_64, mL_99, mL_100, mL_200, mL_336, mL_576, mL_768, mL_800, mL_999, mL_4095, mL_4096, mL_m1, nI_leI, nI_ltI, nI_eq, nI_clamp, nI_add, pk_mul, nI_nu, bI_eq0, bI_eq1, bo_ft, Bool.true_eq_false, Bool.false_eq_true, pu_of, pu_of24, pu_onward, pu_frq, if_true, if_false, true_or, or_true, false_or, or_false, and_true, true_and, and_false, false_and, not_true_eq_false, not_false_eq_true, if_neg, if_pos, f9_readLinks_7, f9_readLinks_50]
  obtain ⟨t', p, e⟩ := main
  refine ⟨t', ?_, p.1, p.2⟩
  unfold F9_readLinks
  rw [e0, pv_bI]
  exact e
/-- the reference's links between those that are up -/
theorem pr_upLinks {t : sr_t} {s : rg_T} {x : Nat} (R : rg_R t s) (O : rg_ok s) (hx : x < rg_N s) (hu : rg_u s x = true) : F11_upLinks (nI x) t = some (.inl (some (sr_i (UL s x))), t) := by
  have hN := O.1.1
  have h3 := R.1.1.1
  have e0 := pr_links (rg_RN_of R O) O hx
  have main : ∃ X : Int32, (∀ m, m < 32 → bs X m = (bs (lB s x) m && (decide (rg_N s ≤ m) || rg_u s m))) ∧ f11_upLinks_8 (nI x) (f11_upLinks_39 (nI x)) sr_fu (lB s x) (nI 0) t = f11_upLinks_39 (nI x) X t := by
    refine pu_forR (α := Int32) (N := rg_N s) (L := fun f n X => f11_upLinks_8 (nI x) (f11_upLinks_39 (nI x)) f X (nI n) t) (fin := fun X => f11_upLinks_39 (nI x) X t) (P := fun n X => ∀ m, m < 32 → bs X m = (bs (lB s x) m && (decide (n ≤ m) || rg_u s m))) ?_ ?_ (by unfold sr_fu; omega) (fun m hm => by rw [decide_eq_true (Nat.zero_le m), Bool.true_or, Bool.and_true])
    · intro n g X hn p
      have up := (R.1.2 n hn).2.1
      show ∃ X', (∀ m, m < 32 → bs X' m = (bs (lB s x) m && (decide (n + 1 ≤ m) || rg_u s m))) ∧ f11_upLinks_8 (nI x) (f11_upLinks_39 (nI x)) (g + 1) X (nI n) t = f11_upLinks_8 (nI x) (f11_upLinks_39 (nI x)) g X' (nI (n + 1)) t
      cases hun : rg_u s n with
      | false =>
        rw [hun, show bI false = nI 0 from rfl] at up
        refine ⟨X &&& (ob n ^^^ nu 24), fun m hm => ?_, ?_⟩
        · rw [bs_and, p m hm, bs_not hm, bs_ob (by omega) hm]
          by_cases e : m = n
          · subst e
            rw [hun, decide_eq_true rfl, decide_eq_false (by omega : ¬ m + 1 ≤ m)]
            simp
          · rw [decide_eq_false e]
            by_cases q : n ≤ m
            · rw [decide_eq_true q, decide_eq_true (by omega : n + 1 ≤ m)]; simp
            · rw [decide_eq_false q, decide_eq_false (by omega : ¬ n + 1 ≤ m)]; simp
        · simp (disch := omega) only [pv_lt, pu_ck, pv_bI, pv_bV, pu_bR, pv_bL, pv_nt, pu_us, pu_un, mL_0, mL_1, mL_2, mL_3, mL_4, mL_5, mL_6, mL_7, mL_8, mL_9, mL_10, mL_11, mL_12, mL_13, mL_14, mL_15, mL_16, mL_23, mL_24, mL_32, mL_48, mL_64, mL_99, mL_100, mL_200, mL_336, mL_576, mL_768, mL_800, mL_999, mL_4095, mL_4096, mL_m1, nI_leI, nI_ltI, nI_eq, nI_clamp, nI_add, pk_mul, nI_nu, bI_eq0, bI_eq1, bo_ft, Bool.true_eq_false, Bool.false_eq_true, pu_of, pu_of24, pu_onward, pu_frq, if_true, if_false, true_or, or_true, false_or, or_false, and_true, true_and, and_false, false_and, not_true_eq_false, not_false_eq_true, if_neg, if_pos, f11_upLinks_8, f11_upLinks_33, h3, up, ob_f, pu_ixN']
      | true =>
        rw [hun, show bI true = nI 1 from rfl] at up
        refine ⟨X, fun m hm => ?_, ?_⟩
        · rw [p m hm]
          by_cases e : m = n
          · subst e
            rw [hun, Bool.or_true, Bool.or_true]
          · by_cases q : n ≤ m
            · rw [decide_eq_true q, decide_eq_true (by omega : n + 1 ≤ m)]
            · rw [decide_eq_false q, decide_eq_false (by omega : ¬ n + 1 ≤ m)]
        · simp (disch := omega) only [pv_lt, pu_ck, pv_bI, pv_bV, pu_bR, pv_bL, pv_nt, pu_us, pu_un, mL_0, mL_1, mL_2, mL_3, mL_4, mL_5, mL_6, mL_7, mL_8, mL_9, mL_10, mL_11, mL_12, mL_13, mL_14, mL_15, mL_16, mL_23, mL_24, mL_32, mL_48, mL_64, mL_99, mL_100, mL_200, mL_336, mL_576, mL_768, mL_800, mL_999, mL_4095, mL_4096, mL_m1, nI_leI, nI_ltI, nI_eq, nI_clamp, nI_add, pk_mul, nI_nu, bI_eq0, bI_eq1, bo_ft, Bool.true_eq_false, Bool.false_eq_true, pu_of, pu_of24, pu_onward, pu_frq, if_true, if_false, true_or, or_true, false_or, or_false, and_true, true_and, and_false, false_and, not_true_eq_false, not_false_eq_true, if_neg, if_pos, f11_upLinks_8, f11_upLinks_33, h3, up, pu_ixN']
    · intro g X p
      show f11_upLinks_8 (nI x) (f11_upLinks_39 (nI x)) (g + 1) X (nI (rg_N s)) t = _
      simp (disch := omega) only [pv_lt, pu_ck, pv_bI, pv_bV, pu_bR, pv_bL, pv_nt, pu_us, pu_un, mL_0, mL_1, mL_2, mL_3, mL_4, mL_5, mL_6, mL_7, mL_8, mL_9, mL_10, mL_11, mL_12, mL_13, mL_14, mL_15, mL_16, mL_23, mL_24, mL_32, mL_48, mL_64, mL_99, mL_100, mL_200, mL_336, mL_576, mL_768, mL_800, mL_999, mL_4095, mL_4096, mL_m1, nI_leI, nI_ltI, nI_eq, nI_clamp, nI_add, pk_mul, nI_nu, bI_eq0, bI_eq1, bo_ft, Bool.true_eq_false, Bool.false_eq_true, pu_of, pu_of24, pu_onward, pu_frq, if_true, if_false, true_or, or_true, false_or, or_false, and_true, true_and, and_false, false_and, not_true_eq_false, not_false_eq_true, if_neg, if_pos, f11_upLinks_8, h3]
  obtain ⟨X, p, e⟩ := main
  have hX : X = UL s x := by
    refine bs_ext (fun m hm => ?_)
    rw [p m hm]
    unfold UL
    rw [if_pos ⟨hx, hu⟩, bs_and, uB_bs O hm]
    cases hb : bs (lB s x) m with
    | false => rfl
    | true =>
      have := lB_lt O hx hm hb
      rw [decide_eq_true this, decide_eq_false (by omega : ¬ rg_N s ≤ m)]
      simp
  unfold F11_upLinks
  rw [e0, pv_bI]
  refine e.trans ?_
  rw [hX]
  rfl
end
