section
/-! who is to keep a key, who holds it -/
theorem up0 {s : rg_T} (h : rg_up s = 0) : ∀ n, n < rg_N s → rg_u s n = false := by
  intro n hn
  cases e : rg_u s n with
  | false => rfl
  | true =>
    have := rg_up1 hn e
    omega
theorem ff0 {s : rg_T} {q : Nat} (O : rg_okB s) (h : rg_up s = 0) : rg_ff s q = 24 := am_none O.1 (up0 h)
theorem up_ex {s : rg_T} (h : rg_up s ≠ 0) : ∃ n, n < rg_N s ∧ rg_u s n = true := by
  apply Decidable.byContradiction
  intro q
  have a : ∀ n, n < rg_N s → rg_u s n = false := fun n hn => by
    cases e : rg_u s n with
    | false => rfl
    | true => exact absurd ⟨n, hn, e⟩ q
  have : ∀ m, m ≤ rg_N s → rg_cu (rg_u s) m = 0 := by
    intro m
    induction m with
    | zero => intro _; rfl
    | succ m ih =>
      intro hm
      show rg_cu (rg_u s) m + (if rg_u s m = true then 1 else 0) = 0
      rw [ih (by omega), a m (by omega)]
      rfl
  exact h (this _ (Nat.le_refl _))
theorem cy_up {s : rg_T} {h : Nat} (O : rg_okB s) (hh : h < rg_N s) (hu : rg_u s h = true) : ∀ k, rg_cy s h k < rg_N s ∧ rg_u s (rg_cy s h k) = true := by
  intro k
  induction k with
  | zero => exact ⟨hh, hu⟩
  | succ k ih =>
    have := rg_ff_up (q := (rg_p s (rg_cy s h k) + 1) % 4096) O ih.1 ih.2
    exact ⟨this.1, this.2.1⟩
theorem cy_per {s : rg_T} {h : Nat} (O : rg_okB s) (hh : h < rg_N s) (hu : rg_u s h = true) : ∀ k, rg_cy s h (rg_up s + k) = rg_cy s h k := by
  intro k
  induction k with
  | zero => exact rg_cyU O hh hu
  | succ k ih =>
    show rg_sc s (rg_cy s h (rg_up s + k)) = rg_sc s (rg_cy s h k)
    rw [ih]
theorem cy_in {s : rg_T} {h : Nat} (O : rg_okB s) (hh : h < rg_N s) (hu : rg_u s h = true) : ∀ m k, k ≤ m → ∃ j, j < rg_up s ∧ rg_cy s h k = rg_cy s h j := by
  have h1 := rg_up1 hh hu
  intro m
  induction m with
  | zero => intro k hk; exact ⟨0, by omega, by rw [show k = 0 by omega]⟩
  | succ m ih =>
    intro k hk
    by_cases e : k < rg_up s
    · exact ⟨k, e, rfl⟩
    · obtain ⟨j, j1, j2⟩ := ih (k - rg_up s) (by omega)
      refine ⟨j, j1, ?_⟩
      have := cy_per O hh hu (k - rg_up s)
      rw [show rg_up s + (k - rg_up s) = k by omega] at this
      rw [this, j2]
def kb (s : rg_T) (h : Nat) : Nat → Int32
  | 0 => nI 0
  | n + 1 => kb s h n ||| ob (rg_cy s h n)
theorem kb_s {s : rg_T} {h n : Nat} : kb s h (n + 1) = kb s h n ||| ob (rg_cy s h n) := Eq.trans (Eq.refl _) (Eq.refl _)
theorem kb_mem {s : rg_T} {h : Nat} : ∀ n j, j < n → kb s h n ||| ob (rg_cy s h j) = kb s h n := by
  intro n
  induction n with
  | zero => intro j hj; omega
  | succ n ih =>
    intro j hj
    rw [kb_s]
    by_cases e : j = n
    · rw [e, Int32.or_assoc, Int32.or_self]
    · rw [Int32.or_assoc, Int32.or_comm (ob (rg_cy s h n)), ← Int32.or_assoc, ih j (by omega)]
theorem kb_stop {s : rg_T} {h : Nat} (O : rg_okB s) (hh : h < rg_N s) (hu : rg_u s h = true) : ∀ n, kb s h (rg_up s + n) = kb s h (rg_up s) := by
  intro n
  induction n with
  | zero => rfl
  | succ n ih =>
    obtain ⟨j, j1, j2⟩ := cy_in O hh hu (rg_up s + n) (rg_up s + n) (Nat.le_refl _)
    rw [show rg_up s + (n + 1) = rg_up s + n + 1 by omega, kb_s, ih, j2, kb_mem _ j j1]
def kB (s : rg_T) (q c : Nat) : Int32 := if rg_up s = 0 then nI 0 else kb s (rg_ff s q) c
theorem pc_keepers {t : sr_t} {s : rg_T} {r q c : Nat} (C : rg_B t r s) (O : rg_okB s) (hr : r < 2) (hq : q < 4096) (hc : c ≤ 3) : F3_keeperBits r (nI q) (nI c) t = some (.inl (some (sr_i (kB s q c))), t) := by
  have hN := O.1
  have e1 := pu_firstFrom (a0 := nI q) C O hr (pu_qn (by omega))
  rw [Nat.mod_eq_of_lt hq] at e1
  by_cases h0 : rg_up s = 0
  · rw [ff0 O h0] at e1
    unfold kB
    rw [if_pos h0]
    unfold F3_keeperBits
    rw [e1, pu_bR (by omega)]
    show f3_keeperBits_12 r (nI q) (nI c) (f3_keeperBits_57 r (nI q) (nI c)) (999999 + 1) (nI 0) (25 * r + 24) (nI 0) t = _
    unfold f3_keeperBits_12
    rw [if_pos (rfl : 25 * r + 24 = 25 * r + 24)]
    by_cases hh : nI c ≤ nI 0
    · rw [if_pos hh]; rfl
    · rw [if_neg hh]; rfl
  · obtain ⟨m, hm, hu⟩ := up_ex h0
    obtain ⟨f1, f2, _⟩ := rg_ff_up (q := q) O hm hu
    unfold kB
    rw [if_neg h0]
    generalize hh : rg_ff s q = h at *
    unfold F3_keeperBits
    rw [e1, pu_bR (by omega)]
    show f3_keeperBits_12 r (nI q) (nI c) (f3_keeperBits_57 r (nI q) (nI c)) sr_fu (kb s h 0) (25 * r + rg_cy s h 0) (nI 0) t = _
    refine pu_for (N := c) (L := fun f n => f3_keeperBits_12 r (nI q) (nI c) (f3_keeperBits_57 r (nI q) (nI c)) f (kb s h n) (25 * r + rg_cy s h n) (nI n) t) ?_ ?_ (by unfold sr_fu; omega)
    · intro n g hn
      obtain ⟨c1, c2⟩ := cy_up O f1 f2 n
      have x0 := C.2.1.1 (rg_cy s h n) (by omega)
      rw [nu_lt (by omega)] at x0
      have x1 := (C.2.2 (rg_cy s h n) c1).1
      have x2 := pu_ffn C O hr c1
      have x3 := (cy_up O f1 f2 (n + 1)).1
      have x4 : rg_cy s h (n + 1) = rg_sc s (rg_cy s h n) := rfl
      rw [x4] at x3
      show f3_keeperBits_12 r (nI q) (nI c) (f3_keeperBits_57 r (nI q) (nI c)) (g + 1) (kb s h n) (25 * r + rg_cy s h n) (nI n) t = f3_keeperBits_12 r (nI q) (nI c) (f3_keeperBits_57 r (nI q) (nI c)) g (kb s h (n + 1)) (25 * r + rg_cy s h (n + 1)) (nI (n + 1)) t
      rw [kb_s, x4]
      simp (disch := omega) only [pv_lt, pu_ck, pv_bI, pv_bV, pu_bR, pv_bL, pv_nt, pu_us, pu_un, mL_0, mL_1, mL_2, mL_3, mL_4, mL_5, mL_6, mL_7, mL_8, mL_9, mL_10, mL_11, mL_12, mL_13, mL_14, mL_15, mL_16, mL_23, mL_24, mL_32, mL_48, mL_64, mL_99, mL_100, mL_200, mL_336, mL_576, mL_768, mL_800, mL_999, mL_4095, mL_4096, mL_m1, nI_leI, nI_ltI, nI_eq, nI_clamp, nI_add, pk_mul, nI_nu, bI_eq0, bI_eq1, bo_ft, Bool.true_eq_false, Bool.false_eq_true, pu_of, pu_of24, pu_onward, pu_frq, if_true, if_false, true_or, or_true, false_or, or_false, and_true, true_and, and_false, false_and, not_true_eq_false, not_false_eq_true, if_neg, if_pos, f3_keeperBits_12, pu_bit, x0, x1, x2]
    · intro g
      show f3_keeperBits_12 r (nI q) (nI c) (f3_keeperBits_57 r (nI q) (nI c)) (g + 1) (kb s h c) (25 * r + rg_cy s h c) (nI c) t = _
      simp (disch := omega) only [pv_lt, pu_ck, pv_bI, pv_bV, pu_bR, pv_bL, pv_nt, pu_us, pu_un, mL_0, mL_1, mL_2, mL_3, mL_4, mL_5, mL_6, mL_7, mL_8, mL_9, mL_10, mL_11, mL_12, mL_13, mL_14, mL_15, mL_16, mL_23, mL_24, mL_32, mL_48, mL_64, mL_99, mL_100, mL_200, mL_336, mL_576, mL_768, mL_800, mL_999, mL_4095, mL_4096, mL_m1, nI_leI, nI_ltI, nI_eq, nI_clamp, nI_add, pk_mul, nI_nu, bI_eq0, bI_eq1, bo_ft, Bool.true_eq_false, Bool.false_eq_true, pu_of, pu_of24, pu_onward, pu_frq, if_true, if_false, true_or, or_true, false_or, or_false, and_true, true_and, and_false, false_and, not_true_eq_false, not_false_eq_true, if_neg, if_pos, f3_keeperBits_12, f3_keeperBits_57]
theorem pr_keepers {t : sr_t} {s : rg_T} {q c : Nat} (R : rg_RB t s) (O : rg_okB s) (hq : q < 4096) (hc : c ≤ 3) (h9 : t.1 11 0 9 = nI c) : F11_keepersOf (nI q) t = some (.inl (some (sr_i (kB s q c))), t) := by
  have hN := O.1
  have hU := rg_upN (s := s)
  have e1 : F11_upFrom (nI q) (nI 1) t = _ := pu_upFrom1 R O hq
  have e2 : F11_ups t = some (.inl (some (sr_i (nI (rg_up s)))), t) := pu_ups R O
  by_cases h0 : rg_up s = 0
  · unfold kB
    rw [if_pos h0]
    rw [h0] at e2
    unfold F11_keepersOf
    rw [mL_1, e1, pv_bI]
    obtain ⟨g, hg⟩ : ∃ g, sr_fu = g + 1 := ⟨999999, rfl⟩
    rw [hg]
    show f11_keepersOf_12 (nI q) (f11_keepersOf_66 (nI q)) (g + 1) (nI 0) (nu (rg_ff s q)) (nI 0) t = _
    by_cases hh : c ≤ 0
    · simp (disch := omega) only [pv_lt, pu_ck, pv_bI, pv_bV, pu_bR, pv_bL, pv_nt, pu_us, pu_un, mL_0, mL_1, mL_2, mL_3, mL_4, mL_5, mL_6, mL_7, mL_8, mL_9, mL_10, mL_11, mL_12, mL_13, mL_14, mL_15, mL_16, mL_23, mL_24, mL_32, mL_48, mL_64, mL_99, mL_100, mL_200, mL_336, mL_576, mL_768, mL_800, mL_999, mL_4095, mL_4096, mL_m1, nI_leI, nI_ltI, nI_eq, nI_clamp, nI_add, pk_mul, nI_nu, bI_eq0, bI_eq1, bo_ft, Bool.true_eq_false, Bool.false_eq_true, pu_of, pu_of24, pu_onward, pu_frq, if_true, if_false, true_or, or_true, false_or, or_false, and_true, true_and, and_false, false_and, not_true_eq_false, not_false_eq_true, if_neg, if_pos, f11_keepersOf_12, f11_keepersOf_66, h9]
    · simp (disch := omega) only [pv_lt, pu_ck, pv_bI, pv_bV, pu_bR, pv_bL, pv_nt, pu_us, pu_un, mL_0, mL_1, mL_2, mL_3, mL_4, mL_5, mL_6, mL_7, mL_8, mL_9, mL_10, mL_11, mL_12, mL_13, mL_14, mL_15, mL_16, mL_23, mL_24, mL_32, mL_48, mL_64, mL_99, mL_100, mL_200, mL_336, mL_576, mL_768, mL_800, mL_999, mL_4095, mL_4096, mL_m1, nI_leI, nI_ltI, nI_eq, nI_clamp, nI_add, pk_mul, nI_nu, bI_eq0, bI_eq1, bo_ft, Bool.true_eq_false, Bool.false_eq_true, pu_of, pu_of24, pu_onward, pu_frq, if_true, if_false, true_or, or_true, false_or, or_false, and_true, true_and, and_false, false_and, not_true_eq_false, not_false_eq_true, if_neg, if_pos, f11_keepersOf_12, f11_keepersOf_66, h9, e2]
  · obtain ⟨m, hm, hu⟩ := up_ex h0
    obtain ⟨f1, f2, _⟩ := rg_ff_up (q := q) O hm hu
    unfold kB
    rw [if_neg h0]
    generalize hh : rg_ff s q = h at *
    rw [nu_lt (by omega)] at e1
    obtain ⟨M, hM⟩ : ∃ M, M = min c (rg_up s) := ⟨_, rfl⟩
    have ke : kb s h c = kb s h M := by
      by_cases e : c ≤ rg_up s
      · rw [hM, Nat.min_eq_left e]
      · have := kb_stop O f1 f2 (c - rg_up s)
        rw [show rg_up s + (c - rg_up s) = c by omega] at this
        rw [this, hM, Nat.min_eq_right (by omega)]
    rw [ke]
    unfold F11_keepersOf
    rw [mL_1, e1, pv_bI]
    show f11_keepersOf_12 (nI q) (f11_keepersOf_66 (nI q)) sr_fu (kb s h 0) (nI (rg_cy s h 0)) (nI 0) t = _
    refine pu_for (N := M) (L := fun f n => f11_keepersOf_12 (nI q) (f11_keepersOf_66 (nI q)) f (kb s h n) (nI (rg_cy s h n)) (nI n) t) ?_ ?_ (by unfold sr_fu; omega)
    · intro n g hn
      obtain ⟨c1, c2⟩ := cy_up O f1 f2 n
      have pp := O.2.2.2.1 _ c1
      have x1 := (R.2 _ c1).1
      have x2 := pu_up0 R O pp
      have x3 := (cy_up O f1 f2 (n + 1)).1
      have x4 : rg_cy s h (n + 1) = rg_sc s (rg_cy s h n) := rfl
      rw [rg_fb_sc O c1 c2] at x2
      show f11_keepersOf_12 (nI q) (f11_keepersOf_66 (nI q)) (g + 1) (kb s h n) (nI (rg_cy s h n)) (nI n) t = f11_keepersOf_12 (nI q) (f11_keepersOf_66 (nI q)) g (kb s h (n + 1)) (nI (rg_cy s h (n + 1))) (nI (n + 1)) t
      by_cases u1 : rg_up s = 1
      · have n0 : n = 0 := by omega
        subst n0
        have cc : rg_cy s h (0 + 1) = rg_cy s h 0 := by
          have := rg_cyU O f1 f2
          rw [u1] at this
          exact this
        rw [kb_s, cc]
        simp (disch := omega) only [pv_lt, pu_ck, pv_bI, pv_bV, pu_bR, pv_bL, pv_nt, pu_us, pu_un, mL_0, mL_1, mL_2, mL_3, mL_4, mL_5, mL_6, mL_7, mL_8, mL_9, mL_10, mL_11, mL_12, mL_13, mL_14, mL_15, mL_16, mL_23, mL_24, mL_32, mL_48, mL_64, mL_99, mL_100, mL_200, mL_336, mL_576, mL_768, mL_800, mL_999, mL_4095, mL_4096, mL_m1, nI_leI, nI_ltI, nI_eq, nI_clamp, nI_add, pk_mul, nI_nu, bI_eq0, bI_eq1, bo_ft, Bool.true_eq_false, Bool.false_eq_true, pu_of, pu_of24, pu_onward, pu_frq, if_true, if_false, true_or, or_true, false_or, or_false, and_true, true_and, and_false, false_and, not_true_eq_false, not_false_eq_true, if_neg, if_pos, f11_keepersOf_12, f11_keepersOf_59, h9, e2, ob_f]
      · rw [if_neg u1, ← x4, nu_lt (by omega)] at x2
        rw [kb_s]
        simp (disch := omega) only [pv_lt, pu_ck, pv_bI, pv_bV, pu_bR, pv_bL, pv_nt, pu_us, pu_un, mL_0, mL_1, mL_2, mL_3, mL_4, mL_5, mL_6, mL_7, mL_8, mL_9, mL_10, mL_11, mL_12, mL_13, mL_14, mL_15, mL_16, mL_23, mL_24, mL_32, mL_48, mL_64, mL_99, mL_100, mL_200, mL_336, mL_576, mL_768, mL_800, mL_999, mL_4095, mL_4096, mL_m1, nI_leI, nI_ltI, nI_eq, nI_clamp, nI_add, pk_mul, nI_nu, bI_eq0, bI_eq1, bo_ft, Bool.true_eq_false, Bool.false_eq_true, pu_of, pu_of24, pu_onward, pu_frq, if_true, if_false, true_or, or_true, false_or, or_false, and_true, true_and, and_false, false_and, not_true_eq_false, not_false_eq_true, if_neg, if_pos, f11_keepersOf_12, f11_keepersOf_59, h9, e2, x1, x2, ob_f, pu_ixN']
    · intro g
      show f11_keepersOf_12 (nI q) (f11_keepersOf_66 (nI q)) (g + 1) (kb s h M) (nI (rg_cy s h M)) (nI M) t = _
      by_cases e : c ≤ M
      · simp (disch := omega) only [pv_lt, pu_ck, pv_bI, pv_bV, pu_bR, pv_bL, pv_nt, pu_us, pu_un, mL_0, mL_1, mL_2, mL_3, mL_4, mL_5, mL_6, mL_7, mL_8, mL_9, mL_10, mL_11, mL_12, mL_13, mL_14, mL_15, mL_16, mL_23, mL_24, mL_32, mL_48, mL_64, mL_99, mL_100, mL_200, mL_336, mL_576, mL_768, mL_800, mL_999, mL_4095, mL_4096, mL_m1, nI_leI, nI_ltI, nI_eq, nI_clamp, nI_add, pk_mul, nI_nu, bI_eq0, bI_eq1, bo_ft, Bool.true_eq_false, Bool.false_eq_true, pu_of, pu_of24, pu_onward, pu_frq, if_true, if_false, true_or, or_true, false_or, or_false, and_true, true_and, and_false, false_and, not_true_eq_false, not_false_eq_true, if_neg, if_pos, f11_keepersOf_12, f11_keepersOf_66, h9]
      · simp (disch := omega) only [pv_lt, pu_ck, pv_bI, pv_bV, pu_bR, pv_bL, pv_nt, pu_us, pu_un, mL_0, mL_1, mL_2, mL_3, mL_4, mL_5, mL_6, mL_7, mL_8, mL_9, mL_10, mL_11, mL_12, mL_13, mL_14, mL_15, mL_16, mL_23, mL_24, mL_32, mL_48, mL_64, mL_99, mL_100, mL_200, mL_336, mL_576, mL_768, mL_800, mL_999, mL_4095, mL_4096, mL_m1, nI_leI, nI_ltI, nI_eq, nI_clamp, nI_add, pk_mul, nI_nu, bI_eq0, bI_eq1, bo_ft, Bool.true_eq_false, Bool.false_eq_true, pu_of, pu_of24, pu_onward, pu_frq, if_true, if_false, true_or, or_true, false_or, or_false, and_true, true_and, and_false, false_and, not_true_eq_false, not_false_eq_true, if_neg, if_pos, f11_keepersOf_12, f11_keepersOf_66, h9, e2]
/-! bits of those for which something holds -/
def pb (P : Nat → Bool) : Nat → Int32
  | 0 => nI 0
  | n + 1 => if P n = true then pb P n ||| ob n else pb P n
theorem pb_s {P : Nat → Bool} {n : Nat} : pb P (n + 1) = if P n = true then pb P n ||| ob n else pb P n := Eq.trans (Eq.refl _) (Eq.refl _)
theorem pb_bs {P : Nat → Bool} : ∀ n, n ≤ 32 → ∀ m, m < 32 → bs (pb P n) m = (decide (m < n) && P m) := by
  intro n
  induction n with
  | zero => intro _ m hm; exact bs_0
  | succ n ih =>
    intro hn m hm
    have i := ih (by omega) m hm
    rw [pb_s]
    by_cases e : m = n
    · subst e
      rw [decide_eq_false (by omega : ¬ m < m), Bool.false_and] at i
      rw [decide_eq_true (by omega : m < m + 1), Bool.true_and]
      cases hp : P m with
      | true => rw [if_pos rfl, bs_or, bs_ob hm hm, i, decide_eq_true rfl]; rfl
      | false => rw [if_neg (by decide), i]
    · have d : decide (m < n + 1) = decide (m < n) := by
        by_cases q : m < n
        · rw [decide_eq_true q, decide_eq_true (by omega)]
        · rw [decide_eq_false q, decide_eq_false (by omega)]
      rw [d]
      split
      · rw [bs_or, bs_ob (by omega) hm, decide_eq_false e, Bool.or_false, i]
      · exact i
theorem pb_eq {P : Nat → Bool} {n : Nat} : ∀ m, n ≤ m → (∀ x, n ≤ x → x < m → P x = false) → pb P m = pb P n := by
  intro m
  induction m with
  | zero => intro h _; rw [show n = 0 by omega]
  | succ m ih =>
    intro h hx
    by_cases e : n = m + 1
    · rw [e]
    · rw [pb_s, if_neg (by rw [hx m (by omega) (by omega)]; decide)]
      exact ih (by omega) (fun x a b => hx x a (by omega))
theorem pb_congr {P Q : Nat → Bool} : ∀ n, (∀ x, x < n → P x = Q x) → pb P n = pb Q n := by
  intro n
  induction n with
  | zero => intro _; rfl
  | succ n ih =>
    intro h
    rw [pb_s, pb_s, h n (by omega), ih (fun x hx => h x (by omega))]
def hP (v : Nat → Nat) (l : Nat) (fl : Bool) (n : Nat) : Bool := decide (0 < v n) && (decide (v n = l) == fl)
theorem pc_holders {t : sr_t} {k l : Nat} {v : Nat → Nat} {fl : Bool} (h : ∀ n, n < 24 → t.1 21 k n = nI (v n) ∧ v n < 2 ^ 31) (hl : t.1 0 k 1 = nI l) (hl3 : l < 2 ^ 31) : F0_bitsOfHolders k (bI fl) t = some (.inl (some (sr_i (pb (hP v l fl) 24))), t) := by
  unfold F0_bitsOfHolders
  show f0_bitsOfHolders_4 k (bI fl) (f0_bitsOfHolders_55 k (bI fl)) sr_fu (pb (hP v l fl) 0) (nI 0) t = _
  refine pu_for (N := 24) (L := fun f n => f0_bitsOfHolders_4 k (bI fl) (f0_bitsOfHolders_55 k (bI fl)) f (pb (hP v l fl) n) (nI n) t) ?_ ?_ (by unfold sr_fu; omega)
  · intro n g hn
    obtain ⟨a1, a2⟩ := h n hn
    show f0_bitsOfHolders_4 k (bI fl) (f0_bitsOfHolders_55 k (bI fl)) (g + 1) (pb (hP v l fl) n) (nI n) t = f0_bitsOfHolders_4 k (bI fl) (f0_bitsOfHolders_55 k (bI fl)) g (pb (hP v l fl) (n + 1)) (nI (n + 1)) t
    rw [pb_s]
    by_cases h0 : v n = 0
    · rw [h0] at a1
      have eh := pc_heldN hn a1
      have p : ¬ hP v l fl n = true := by unfold hP; rw [h0]; simp
      rw [if_neg p]
      simp (disch := omega) only [pv_lt, pu_ck, pv_bI, pv_bV, pu_bR, pv_bL, pv_nt, pu_us, pu_un, mL_0, mL_1, mL_2, mL_3, mL_4, mL_5, mL_6, mL_7, mL_8, mL_9, mL_10, mL_11, mL_12, mL_13, mL_14, mL_15, mL_16, mL_23, mL_24, mL_32, mL_48, mL_64, mL_99, mL_100, mL_200, mL_336, mL_576, mL_768, mL_800, mL_999, mL_4095, mL_4096, mL_m1, nI_leI, nI_ltI, nI_eq, nI_clamp, nI_add, pk_mul, nI_nu, bI_eq0, bI_eq1, bo_ft, Bool.true_eq_false, Bool.false_eq_true, pu_of, pu_of24, pu_onward, pu_frq, if_true, if_false, true_or, or_true, false_or, or_false, and_true, true_and, and_false, false_and, not_true_eq_false, not_false_eq_true, if_neg, if_pos, f0_bitsOfHolders_4, f0_bitsOfHolders_49, eh]
    · have eh := pc_heldY hn a2 a1 (by omega)
      have ev := pc_ver hn a1
      by_cases hvl : v n = l
      · have p : hP v l fl n = fl := by unfold hP; rw [hvl, decide_eq_true rfl, decide_eq_true (by omega)]; cases fl <;> rfl
        rw [p]
        rw [hvl] at ev
        cases fl with
        | true =>
          have e1 : (nI 1 = bI true) = True := eq_true rfl
          simp (disch := omega) only [pv_lt, pu_ck, pv_bI, pv_bV, pu_bR, pv_bL, pv_nt, pu_us, pu_un, mL_0, mL_1, mL_2, mL_3, mL_4, mL_5, mL_6, mL_7, mL_8, mL_9, mL_10, mL_11, mL_12, mL_13, mL_14, mL_15, mL_16, mL_23, mL_24, mL_32, mL_48, mL_64, mL_99, mL_100, mL_200, mL_336, mL_576, mL_768, mL_800, mL_999, mL_4095, mL_4096, mL_m1, nI_leI, nI_ltI, nI_eq, nI_clamp, nI_add, pk_mul, nI_nu, bI_eq0, bI_eq1, bo_ft, Bool.true_eq_false, Bool.false_eq_true, pu_of, pu_of24, pu_onward, pu_frq, if_true, if_false, true_or, or_true, false_or, or_false, and_true, true_and, and_false, false_and, not_true_eq_false, not_false_eq_true, if_neg, if_pos, f0_bitsOfHolders_4, f0_bitsOfHolders_38, f0_bitsOfHolders_49, eh, ev, hl, pu_bit, e1]
        | false =>
          have e1 : ¬ nI 1 = bI false := by decide
          simp (disch := omega) only [pv_lt, pu_ck, pv_bI, pv_bV, pu_bR, pv_bL, pv_nt, pu_us, pu_un, mL_0, mL_1, mL_2, mL_3, mL_4, mL_5, mL_6, mL_7, mL_8, mL_9, mL_10, mL_11, mL_12, mL_13, mL_14, mL_15, mL_16, mL_23, mL_24, mL_32, mL_48, mL_64, mL_99, mL_100, mL_200, mL_336, mL_576, mL_768, mL_800, mL_999, mL_4095, mL_4096, mL_m1, nI_leI, nI_ltI, nI_eq, nI_clamp, nI_add, pk_mul, nI_nu, bI_eq0, bI_eq1, bo_ft, Bool.true_eq_false, Bool.false_eq_true, pu_of, pu_of24, pu_onward, pu_frq, if_true, if_false, true_or, or_true, false_or, or_false, and_true, true_and, and_false, false_and, not_true_eq_false, not_false_eq_true, if_neg, if_pos, f0_bitsOfHolders_4, f0_bitsOfHolders_38, f0_bitsOfHolders_49, eh, ev, hl, pu_bit, e1]
      · have p : hP v l fl n = !fl := by unfold hP; rw [decide_eq_false hvl, decide_eq_true (by omega)]; cases fl <;> rfl
        rw [p]
        cases fl with
        | true =>
          have e1 : ¬ nI 0 = bI true := by decide
          simp (disch := omega) only [pv_lt, pu_ck, pv_bI, pv_bV, pu_bR, pv_bL, pv_nt, pu_us, pu_un, mL_0, mL_1, mL_2, mL_3, mL_4, mL_5, mL_6, mL_7, mL_8, mL_9, mL_10, mL_11, mL_12, mL_13, mL_14, mL_15, mL_16, mL_23, mL_24, mL_32, mL_48, mL_64, mL_99, mL_100, mL_200, mL_336, mL_576, mL_768, mL_800, mL_999, mL_4095, mL_4096, mL_m1, nI_leI, nI_ltI, nI_eq, nI_clamp, nI_add, pk_mul, nI_nu, bI_eq0, bI_eq1, bo_ft, Bool.true_eq_false, Bool.false_eq_true, pu_of, pu_of24, pu_onward, pu_frq, if_true, if_false, true_or, or_true, false_or, or_false, and_true, true_and, and_false, false_and, not_true_eq_false, not_false_eq_true, if_neg, if_pos, f0_bitsOfHolders_4, f0_bitsOfHolders_38, f0_bitsOfHolders_49, eh, ev, hl, pu_bit, e1, Bool.not_true]
        | false =>
          have e1 : (nI 0 = bI false) = True := eq_true rfl
          simp (disch := omega) only [pv_lt, pu_ck, pv_bI, pv_bV, pu_bR, pv_bL, pv_nt, pu_us, pu_un, mL_0, mL_1, mL_2, mL_3, mL_4, mL_5, mL_6, mL_7, mL_8, mL_9, mL_10, mL_11, mL_12, mL_13, mL_14, mL_15, mL_16, mL_23, mL_24, mL_32, mL_48, mL_64, mL_99, mL_100, mL_200, mL_336, mL_576, mL_768, mL_800, mL_999, mL_4095, mL_4096, mL_m1, nI_leI, nI_ltI, nI_eq, nI_clamp, nI_add, pk_mul, nI_nu, bI_eq0, bI_eq1, bo_ft, Bool.true_eq_false, Bool.false_eq_true, pu_of, pu_of24, pu_onward, pu_frq, if_true, if_false, true_or, or_true, false_or, or_false, and_true, true_and, and_false, false_and, not_true_eq_false, not_false_eq_true, if_neg, if_pos, f0_bitsOfHolders_4, f0_bitsOfHolders_38, f0_bitsOfHolders_49, eh, ev, hl, pu_bit, e1, Bool.not_false]
  · intro g
    show f0_bitsOfHolders_4 k (bI fl) (f0_bitsOfHolders_55 k (bI fl)) (g + 1) (pb (hP v l fl) 24) (nI 24) t = _
    simp (disch := omega) only [pv_lt, pu_ck, pv_bI, pv_bV, pu_bR, pv_bL, pv_nt, pu_us, pu_un, mL_0, mL_1, mL_2, mL_3, mL_4, mL_5, mL_6, mL_7, mL_8, mL_9, mL_10, mL_11, mL_12, mL_13, mL_14, mL_15, mL_16, mL_23, mL_24, mL_32, mL_48, mL_64, mL_99, mL_100, mL_200, mL_336, mL_576, mL_768, mL_800, mL_999, mL_4095, mL_4096, mL_m1, nI_leI, nI_ltI, nI_eq, nI_clamp, nI_add, pk_mul, nI_nu, bI_eq0, bI_eq1, bo_ft, Bool.true_eq_false, Bool.false_eq_true, pu_of, pu_of24, pu_onward, pu_frq, if_true, if_false, true_or, or_true, false_or, or_false, and_true, true_and, and_false, false_and, not_true_eq_false, not_false_eq_true, if_neg, if_pos, f0_bitsOfHolders_4, f0_bitsOfHolders_55]
theorem pr_holders {t : sr_t} {k l N : Nat} {v : Nat → Nat} {fl : Bool} (hk : k < 32) (hN : N ≤ 24) (h1 : t.1 11 0 1 = nI N) (h : ∀ n, n < 24 → t.1 40 0 (32 * n + k) = nI (v n) ∧ v n < 2 ^ 31) (hl : t.1 38 0 k = nI l) (hl3 : l < 2 ^ 31) : F11_holdersOf (nI k) (bI fl) t = some (.inl (some (sr_i (pb (hP v l fl) N))), t) := by
  unfold F11_holdersOf
  show f11_holdersOf_5 (nI k) (bI fl) (f11_holdersOf_74 (nI k) (bI fl)) sr_fu (pb (hP v l fl) 0) (nI 0) t = _
  have or0 : ∀ x : Int32, x ||| nI 0 = x := fun x => Int32.or_zero
  have nk : ¬ nI k = nu 24 := fun e => by
    have := (nu_nI (a := 24) (b := k)) 
    exact absurd e (fun e => nI_neg (z := nu 24) (by omega) (by decide) e)
  refine pu_for (N := N) (L := fun f n => f11_holdersOf_5 (nI k) (bI fl) (f11_holdersOf_74 (nI k) (bI fl)) f (pb (hP v l fl) n) (nI n) t) ?_ ?_ (by unfold sr_fu; omega)
  · intro n g hn
    obtain ⟨a1, a2⟩ := h n (by omega)
    show f11_holdersOf_5 (nI k) (bI fl) (f11_holdersOf_74 (nI k) (bI fl)) (g + 1) (pb (hP v l fl) n) (nI n) t = f11_holdersOf_5 (nI k) (bI fl) (f11_holdersOf_74 (nI k) (bI fl)) g (pb (hP v l fl) (n + 1)) (nI (n + 1)) t
    rw [pb_s]
    by_cases h0 : v n = 0
    · rw [h0] at a1
      have p : ¬ hP v l fl n = true := by unfold hP; rw [h0]; simp
      rw [if_neg p]
      simp (disch := omega) only [pv_lt, pu_ck, pv_bI, pv_bV, pu_bR, pv_bL, pv_nt, pu_us, pu_un, mL_0, mL_1, mL_2, mL_3, mL_4, mL_5, mL_6, mL_7, mL_8, mL_9, mL_10, mL_11, mL_12, mL_13, mL_14, mL_15, mL_16, mL_23, mL_24, mL_32, mL_48, mL_64, mL_99, mL_100, mL_200, mL_336, mL_576, mL_768, mL_800, mL_999, mL_4095, mL_4096, mL_m1, nI_leI, nI_ltI, nI_eq, nI_clamp, nI_add, pk_mul, nI_nu, bI_eq0, bI_eq1, bo_ft, Bool.true_eq_false, Bool.false_eq_true, pu_of, pu_of24, pu_onward, pu_frq, if_true, if_false, true_or, or_true, false_or, or_false, and_true, true_and, and_false, false_and, not_true_eq_false, not_false_eq_true, if_neg, if_pos, f11_holdersOf_5, f11_holdersOf_65, f11_holdersOf_66, h1, nk, pr_cell, a1, or0, pu_ixN']
    · by_cases hvl : v n = l
      · have p : hP v l fl n = fl := by unfold hP; rw [hvl, decide_eq_true rfl, decide_eq_true (by omega)]; cases fl <;> rfl
        rw [p]
        rw [hvl] at a1
        cases fl with
        | true =>
          have e1 : (nI 1 = bI true) = True := eq_true rfl
          simp (disch := omega) only [pv_lt, pu_ck, pv_bI, pv_bV, pu_bR, pv_bL, pv_nt, pu_us, pu_un, mL_0, mL_1, mL_2, mL_3, mL_4, mL_5, mL_6, mL_7, mL_8, mL_9, mL_10, mL_11, mL_12, mL_13, mL_14, mL_15, mL_16, mL_23, mL_24, mL_32, mL_48, mL_64, mL_99, mL_100, mL_200, mL_336, mL_576, mL_768, mL_800, mL_999, mL_4095, mL_4096, mL_m1, nI_leI, nI_ltI, nI_eq, nI_clamp, nI_add, pk_mul, nI_nu, bI_eq0, bI_eq1, bo_ft, Bool.true_eq_false, Bool.false_eq_true, pu_of, pu_of24, pu_onward, pu_frq, if_true, if_false, true_or, or_true, false_or, or_false, and_true, true_and, and_false, false_and, not_true_eq_false, not_false_eq_true, if_neg, if_pos, f11_holdersOf_5, f11_holdersOf_54, f11_holdersOf_66, h1, nk, pr_cell, a1, hl, ob_f, pu_ixN', e1]
        | false =>
          have e1 : ¬ nI 1 = bI false := by decide
          simp (disch := omega) only [pv_lt, pu_ck, pv_bI, pv_bV, pu_bR, pv_bL, pv_nt, pu_us, pu_un, mL_0, mL_1, mL_2, mL_3, mL_4, mL_5, mL_6, mL_7, mL_8, mL_9, mL_10, mL_11, mL_12, mL_13, mL_14, mL_15, mL_16, mL_23, mL_24, mL_32, mL_48, mL_64, mL_99, mL_100, mL_200, mL_336, mL_576, mL_768, mL_800, mL_999, mL_4095, mL_4096, mL_m1, nI_leI, nI_ltI, nI_eq, nI_clamp, nI_add, pk_mul, nI_nu, bI_eq0, bI_eq1, bo_ft, Bool.true_eq_false, Bool.false_eq_true, pu_of, pu_of24, pu_onward, pu_frq, if_true, if_false, true_or, or_true, false_or, or_false, and_true, true_and, and_false, false_and, not_true_eq_false, not_false_eq_true, if_neg, if_pos, f11_holdersOf_5, f11_holdersOf_54, f11_holdersOf_65, f11_holdersOf_66, h1, nk, pr_cell, a1, hl, ob_f, or0, pu_ixN', e1]
      · have p : hP v l fl n = !fl := by unfold hP; rw [decide_eq_false hvl, decide_eq_true (by omega)]; cases fl <;> rfl
        rw [p]
        cases fl with
        | true =>
          have e1 : ¬ nI 0 = bI true := by decide
          simp (disch := omega) only [pv_lt, pu_ck, pv_bI, pv_bV, pu_bR, pv_bL, pv_nt, pu_us, pu_un, mL_0, mL_1, mL_2, mL_3, mL_4, mL_5, mL_6, mL_7, mL_8, mL_9, mL_10, mL_11, mL_12, mL_13, mL_14, mL_15, mL_16, mL_23, mL_24, mL_32, mL_48, mL_64, mL_99, mL_100, mL_200, mL_336, mL_576, mL_768, mL_800, mL_999, mL_4095, mL_4096, mL_m1, nI_leI, nI_ltI, nI_eq, nI_clamp, nI_add, pk_mul, nI_nu, bI_eq0, bI_eq1, bo_ft, Bool.true_eq_false, Bool.false_eq_true, pu_of, pu_of24, pu_onward, pu_frq, if_true, if_false, true_or, or_true, false_or, or_false, and_true, true_and, and_false, false_and, not_true_eq_false, not_false_eq_true, if_neg, if_pos, f11_holdersOf_5, f11_holdersOf_54, f11_holdersOf_65, f11_holdersOf_66, h1, nk, pr_cell, a1, hl, ob_f, or0, pu_ixN', e1, Bool.not_true]
        | false =>
          have e1 : (nI 0 = bI false) = True := eq_true rfl
          simp (disch := omega) only [pv_lt, pu_ck, pv_bI, pv_bV, pu_bR, pv_bL, pv_nt, pu_us, pu_un, mL_0, mL_1, mL_2, mL_3, mL_4, mL_5, mL_6, mL_7, mL_8, mL_9, mL_10, mL_11, mL_12, mL_13, mL_14, mL_15, mL_16, mL_23, mL_24, mL_32, mL_48, mL_64, mL_99, mL_100, mL_200, mL_336, mL_576, mL_768, mL_800, mL_999, mL_4095, mL_4096, mL_m1, nI_leI, nI_ltI, nI_eq, nI_clamp, nI_add, pk_mul, nI_nu, bI_eq0, bI_eq1, bo_ft, Bool.true_eq_false, Bool.false_eq_true, pu_of, pu_of24, pu_onward, pu_frq, if_true, if_false, true_or, or_true, false_or, or_false, and_true, true_and, and_false, false_and, not_true_eq_false, not_false_eq_true, if_neg, if_pos, f11_holdersOf_5, f11_holdersOf_54, f11_holdersOf_65, f11_holdersOf_66, h1, nk, pr_cell, a1, hl, ob_f, or0, pu_ixN', e1, Bool.not_false]
  · intro g
    show f11_holdersOf_5 (nI k) (bI fl) (f11_holdersOf_74 (nI k) (bI fl)) (g + 1) (pb (hP v l fl) N) (nI N) t = _
    simp (disch := omega) only [pv_lt, pu_ck, pv_bI, pv_bV, pu_bR, pv_bL, pv_nt, pu_us, pu_un, mL_0, mL_1, mL_2, mL_3, mL_4, mL_5, mL_6, mL_7, mL_8, mL_9, mL_10, mL_11, mL_12, mL_13, mL_14, mL_15, mL_16, mL_23, mL_24, mL_32, mL_48, mL_64, mL_99, mL_100, mL_200, mL_336, mL_576, mL_768, mL_800, mL_999, mL_4095, mL_4096, mL_m1, nI_leI, nI_ltI, nI_eq, nI_clamp, nI_add, pk_mul, nI_nu, bI_eq0, bI_eq1, bo_ft, Bool.true_eq_false, Bool.false_eq_true, pu_of, pu_of24, pu_onward, pu_frq, if_true, if_false, true_or, or_true, false_or, or_false, and_true, true_and, and_false, false_and, not_true_eq_false, not_false_eq_true, if_neg, if_pos, f11_holdersOf_5, f11_holdersOf_74, h1]
theorem pr_holdersN {t : sr_t} {N : Nat} {a : Int32} (hN : N ≤ 24) (h1 : t.1 11 0 1 = nI N) : F11_holdersOf (nu 24) a t = some (.inl (some (sr_i (nI 0))), t) := by
  obtain ⟨g, hg⟩ : ∃ g, sr_fu = g + 1 := ⟨999999, rfl⟩
  unfold F11_holdersOf
  rw [hg]
  show f11_holdersOf_5 (nu 24) a (f11_holdersOf_74 (nu 24) a) (g + 1) (nI 0) (nI 0) t = _
  by_cases h : N ≤ 0
  · simp (disch := omega) only [pv_lt, pu_ck, pv_bI, pv_bV, pu_bR, pv_bL, pv_nt, pu_us, pu_un, mL_0, mL_1, mL_2, mL_3, mL_4, mL_5, mL_6, mL_7, mL_8, mL_9, mL_10, mL_11, mL_12, mL_13, mL_14, mL_15, mL_16, mL_23, mL_24, mL_32, mL_48, mL_64, mL_99, mL_100, mL_200, mL_336, mL_576, mL_768, mL_800, mL_999, mL_4095, mL_4096, mL_m1, nI_leI, nI_ltI, nI_eq, nI_clamp, nI_add, pk_mul, nI_nu, bI_eq0, bI_eq1, bo_ft, Bool.true_eq_false, Bool.false_eq_true, pu_of, pu_of24, pu_onward, pu_frq, if_true, if_false, true_or, or_true, false_or, or_false, and_true, true_and, and_false, false_and, not_true_eq_false, not_false_eq_true, if_neg, if_pos, f11_holdersOf_5, f11_holdersOf_74, h1]
  · simp (disch := omega) only [pv_lt, pu_ck, pv_bI, pv_bV, pu_bR, pv_bL, pv_nt, pu_us, pu_un, mL_0, mL_1, mL_2, mL_3, mL_4, mL_5, mL_6, mL_7, mL_8, mL_9, mL_10, mL_11, mL_12, mL_13, mL_14, mL_15, mL_16, mL_23, mL_24, mL_32, mL_48, mL_64, mL_99, mL_100, mL_200, mL_336, mL_576, mL_768, mL_800, mL_999, mL_4095, mL_4096, mL_m1, nI_leI, nI_ltI, nI_eq, nI_clamp, nI_add, pk_mul, nI_nu, bI_eq0, bI_eq1, bo_ft, Bool.true_eq_false, Bool.false_eq_true, pu_of, pu_of24, pu_onward, pu_frq, if_true, if_false, true_or, or_true, false_or, or_false, and_true, true_and, and_false, false_and, not_true_eq_false, not_false_eq_true, if_neg, if_pos, f11_holdersOf_5, f11_holdersOf_74, h1]
end
