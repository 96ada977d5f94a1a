section
/-! count: which has most -/
def mo (u : Nat → Bool) (v : Nat → Nat) : Nat → Nat × Nat
  | 0 => (24, 0)
  | n + 1 => if u n = true ∧ ((mo u v n).1 = 24 ∨ (mo u v n).2 < v n) then (n, v n) else mo u v n
theorem mo_s {u : Nat → Bool} {v : Nat → Nat} {n : Nat} : mo u v (n + 1) = if u n = true ∧ ((mo u v n).1 = 24 ∨ (mo u v n).2 < v n) then (n, v n) else mo u v n := Eq.trans (Eq.refl _) (Eq.refl _)
theorem mo_ok {u : Nat → Bool} {v : Nat → Nat} : ∀ n, n ≤ 24 → ((mo u v n).1 = 24 ∧ (mo u v n).2 = 0 ∧ ∀ x, x < n → u x = false) ∨ ((mo u v n).1 < n ∧ u (mo u v n).1 = true ∧ (mo u v n).2 = v (mo u v n).1 ∧ ∀ x, x < n → u x = true → v x ≤ (mo u v n).2) := by
  intro n
  induction n with
  | zero => intro _; exact Or.inl ⟨rfl, rfl, fun x hx => by omega⟩
  | succ n ih =>
    intro hn
    have i := ih (by omega)
    rw [mo_s]
    by_cases c : u n = true ∧ ((mo u v n).1 = 24 ∨ (mo u v n).2 < v n)
    · rw [if_pos c]
      right
      refine ⟨by show n < n + 1; omega, c.1, rfl, fun x hx hu => ?_⟩
      show v x ≤ v n
      by_cases e : x = n
      · rw [e]; exact Nat.le_refl _
      · rcases i with ⟨_, _, i3⟩ | ⟨i1, _, _, i4⟩
        · rw [i3 x (by omega)] at hu; exact absurd hu (by decide)
        · have := i4 x (by omega) hu
          rcases c.2 with c2 | c2 <;> omega
    · rw [if_neg c]
      rcases i with ⟨i1, i2, i3⟩ | ⟨i1, i2, i3, i4⟩
      · left
        refine ⟨i1, i2, fun x hx => ?_⟩
        by_cases e : x = n
        · subst e
          cases hu : u x with
          | false => rfl
          | true => exact absurd ⟨hu, Or.inl i1⟩ c
        · exact i3 x (by omega)
      · right
        refine ⟨by omega, i2, i3, fun x hx hu => ?_⟩
        by_cases e : x = n
        · subst e
          have : ¬ (mo u v x).2 < v x := fun q => c ⟨hu, Or.inr q⟩
          omega
        · exact i4 x (by omega) hu
theorem mo_congr {u : Nat → Bool} {v v' : Nat → Nat} : ∀ n, (∀ x, x < n → u x = true → v x = v' x) → mo u v n = mo u v' n := by
  intro n
  induction n with
  | zero => intro _; rfl
  | succ n ih =>
    intro h
    rw [mo_s, mo_s, ih (fun x hx => h x (by omega))]
    by_cases hu : u n = true
    · rw [h n (by omega) hu]
    · rw [if_neg (fun q => hu q.1), if_neg (fun q => hu q.1)]
def moV (x : Nat × Nat) : Int32 := if x.1 = 24 then nu 24 else nI x.2
theorem moV_lt {u : Nat → Bool} {v : Nat → Nat} {n : Nat} (hn : n < 24) (hv : ∀ x, x < 24 → v x < 2 ^ 31) : moV (mo u v n) < nI (v n) ↔ ((mo u v n).1 = 24 ∨ (mo u v n).2 < v n) := by
  have hvn := hv n hn
  unfold moV
  rcases mo_ok (u := u) (v := v) n (by omega) with ⟨i1, i2, i3⟩ | ⟨i1, i2, i3, i4⟩
  · rw [if_pos i1]
    refine ⟨fun _ => Or.inl i1, fun _ => ?_⟩
    have : (nu 24) < 0 := by decide
    exact Int32.lt_of_lt_of_le this (nI_pos' hvn)
  · have h1 := hv _ (show (mo u v n).1 < 24 by omega)
    rw [if_neg (by omega), nI_ltI (by omega) hvn]
    constructor
    · intro h; exact Or.inr h
    · rintro (h | h)
      · omega
      · exact h
theorem pr_most {t : sr_t} {s : rg_T} {v : Nat → Nat} {k : Int32} (P : sr_t → Prop) (O : rg_ok s) (p0 : P t) (hR : ∀ t', P t' → rg_RB t' s) (hv : ∀ x, x < 24 → v x < 2 ^ 31) (hm : ∀ n t', n < rg_N s → rg_u s n = true → P t' → ∃ t2, F11_measure (nI n) k t' = some (.inl (some (sr_i (nI (v n)))), t2) ∧ P t2) : ∃ t', F11_mostOf k t = some (.inl (some (sr_i (nu (mo (rg_u s) v (rg_N s)).1))), t') ∧ P t' := by
  have hN := O.1.1
  have main : ∃ t', P t' ∧ f11_mostOf_7 k (f11_mostOf_59 k) sr_fu (nu (mo (rg_u s) v 0).1) (moV (mo (rg_u s) v 0)) (nI 0) t = some (.inl (some (sr_i (nu (mo (rg_u s) v (rg_N s)).1))), t') := by
    refine pu_forR (N := rg_N s) (L := fun f n t' => f11_mostOf_7 k (f11_mostOf_59 k) f (nu (mo (rg_u s) v n).1) (moV (mo (rg_u s) v n)) (nI n) t') (fin := fun t' => some (.inl (some (sr_i (nu (mo (rg_u s) v (rg_N s)).1))), t')) (P := fun _ t' => P t') ?_ ?_ (by unfold sr_fu; omega) p0
    · intro n g t' hn p
      have R' := hR t' p
      have h3 := R'.1.1
      have up := (R'.2 n hn).2.1
      show ∃ t2, P t2 ∧ f11_mostOf_7 k (f11_mostOf_59 k) (g + 1) (nu (mo (rg_u s) v n).1) (moV (mo (rg_u s) v n)) (nI n) t' = f11_mostOf_7 k (f11_mostOf_59 k) g (nu (mo (rg_u s) v (n + 1)).1) (moV (mo (rg_u s) v (n + 1))) (nI (n + 1)) t2
      rw [mo_s]
      cases hu : rg_u s n with
      | false =>
        rw [hu, show bI false = nI 0 from rfl] at up
        refine ⟨t', p, ?_⟩
        rw [if_neg (fun q => absurd q.1 (by decide))]
        simp (disch := omega) only [pv_lt, pu_ck, pv_bI, pv_bV, pu_bR, pv_bL, pv_nt, pu_us, pu_un, mL_0, mL_1, mL_2, mL_3, mL_4, mL_5, mL_6, mL_7, mL_8, mL_9, mL_10, mL_11, mL_12, mL_13, mL_14, mL_15, mL_16, mL_23, mL_24, mL_32, mL_48, mL_64, mL_99, mL_100, mL_200, mL_336, mL_576, mL_768, mL_800, mL_999, mL_4095, mL_4096, mL_m1, nI_leI, nI_ltI, nI_eq, nI_clamp, nI_add, pk_mul, nI_nu, bI_eq0, bI_eq1, bo_ft, Bool.true_eq_false, Bool.false_eq_true, pu_of, pu_of24, pu_onward, pu_frq, if_true, if_false, true_or, or_true, false_or, or_false, and_true, true_and, and_false, false_and, not_true_eq_false, not_false_eq_true, if_neg, if_pos, f11_mostOf_7, f11_mostOf_53, h3, up, pu_ixN']
      | true =>
        rw [hu, show bI true = nI 1 from rfl] at up
        obtain ⟨t2, e2, p2⟩ := hm n t' hn hu p
        have lt := moV_lt (u := rg_u s) (v := v) (n := n) (by omega) hv
        refine ⟨t2, p2, ?_⟩
        by_cases c : (mo (rg_u s) v n).1 = 24 ∨ (mo (rg_u s) v n).2 < v n
        · rw [if_pos ⟨rfl, c⟩]
          have l := lt.mpr c
          have e3 : nu (n, v n).1 = nI n := nu_lt (show n < 24 by omega)
          have e4 : moV (n, v n) = nI (v n) := if_neg (show ¬ n = 24 by omega)
          rw [e3, e4]
          simp (disch := omega) only [pv_lt, pu_ck, pv_bI, pv_bV, pu_bR, pv_bL, pv_nt, pu_us, pu_un, mL_0, mL_1, mL_2, mL_3, mL_4, mL_5, mL_6, mL_7, mL_8, mL_9, mL_10, mL_11, mL_12, mL_13, mL_14, mL_15, mL_16, mL_23, mL_24, mL_32, mL_48, mL_64, mL_99, mL_100, mL_200, mL_336, mL_576, mL_768, mL_800, mL_999, mL_4095, mL_4096, mL_m1, nI_leI, nI_ltI, nI_eq, nI_clamp, nI_add, pk_mul, nI_nu, bI_eq0, bI_eq1, bo_ft, Bool.true_eq_false, Bool.false_eq_true, pu_of, pu_of24, pu_onward, pu_frq, if_true, if_false, true_or, or_true, false_or, or_false, and_true, true_and, and_false, false_and, not_true_eq_false, not_false_eq_true, if_neg, if_pos, f11_mostOf_7, f11_mostOf_53, h3, up, e2, l, pu_ixN']
        · rw [if_neg (fun q => c q.2)]
          have l : ¬ moV (mo (rg_u s) v n) < nI (v n) := fun q => c (lt.mp q)
          simp (disch := omega) only [pv_lt, pu_ck, pv_bI, pv_bV, pu_bR, pv_bL, pv_nt, pu_us, pu_un, mL_0, mL_1, mL_2, mL_3, mL_4, mL_5, mL_6, mL_7, mL_8, mL_9, mL_10, mL_11, mL_12, mL_13, mL_14, mL_15, mL_16, mL_23, mL_24, mL_32, mL_48, mL_64, mL_99, mL_100, mL_200, mL_336, mL_576, mL_768, mL_800, mL_999, mL_4095, mL_4096, mL_m1, nI_leI, nI_ltI, nI_eq, nI_clamp, nI_add, pk_mul, nI_nu, bI_eq0, bI_eq1, bo_ft, Bool.true_eq_false, Bool.false_eq_true, pu_of, pu_of24, pu_onward, pu_frq, if_true, if_false, true_or, or_true, false_or, or_false, and_true, true_and, and_false, false_and, not_true_eq_false, not_false_eq_true, if_neg, if_pos, f11_mostOf_7, f11_mostOf_53, h3, up, e2, l, pu_ixN']
    · intro g t' p
      have h3 := (hR t' p).1.1
      show f11_mostOf_7 k (f11_mostOf_59 k) (g + 1) (nu (mo (rg_u s) v (rg_N s)).1) (moV (mo (rg_u s) v (rg_N s))) (nI (rg_N s)) t' = _
      simp (disch := omega) only [pv_lt, pu_ck, pv_bI, pv_bV, pu_bR, pv_bL, pv_nt, pu_us, pu_un, mL_0, mL_1, mL_2, mL_3, mL_4, mL_5, mL_6, mL_7, mL_8, mL_9, mL_10, mL_11, mL_12, mL_13, mL_14, mL_15, mL_16, mL_23, mL_24, mL_32, mL_48, mL_64, mL_99, mL_100, mL_200, mL_336, mL_576, mL_768, mL_800, mL_999, mL_4095, mL_4096, mL_m1, nI_leI, nI_ltI, nI_eq, nI_clamp, nI_add, pk_mul, nI_nu, bI_eq0, bI_eq1, bo_ft, Bool.true_eq_false, Bool.false_eq_true, pu_of, pu_of24, pu_onward, pu_frq, if_true, if_false, true_or, or_true, false_or, or_false, and_true, true_and, and_false, false_and, not_true_eq_false, not_false_eq_true, if_neg, if_pos, f11_mostOf_7, f11_mostOf_59, h3]
  obtain ⟨t', p, e⟩ := main
  exact ⟨t', e, p⟩
/-! the load -/
theorem ld_b {s : rg_T} {n : Nat} (O : rg_okB s) (hn : n < rg_N s) (hu : rg_u s n = true) : 1 ≤ rg_ldR s n ∧ rg_ldR s n ≤ 4096 := by
  have hN := O.1
  unfold rg_ldR
  rcases am_cases (D := fun x => pu_d (rg_p s x) (rg_p s n)) (u := fun x => rg_u s x && x != n) (rg_N s) hN with ⟨h1, h2⟩ | ⟨h1, h2, h3⟩
  · have e1 : rg_bk s n = 24 := h1
    rw [if_pos e1]
    omega
  · have hb : rg_bk s n < rg_N s := h1
    simp only [Bool.and_eq_true, bne_iff_ne] at h2
    have hne : rg_bk s n ≠ n := h2.2
    rw [if_neg (show ¬ rg_bk s n = 24 by omega)]
    have pn := O.2.2.2.1 n hn
    have px := O.2.2.2.1 _ hb
    have ne : rg_p s (rg_bk s n) ≠ rg_p s n := fun e => hne (O.2.2.2.2.1 _ _ hb hn e)
    unfold pu_d
    omega
def lv (s : rg_T) (n : Nat) : Nat := if n < rg_N s ∧ rg_u s n = true then rg_ldR s n else 0
theorem lv_b {s : rg_T} {n : Nat} (O : rg_okB s) : lv s n ≤ 4096 := by
  unfold lv
  split
  · rename_i h; exact (ld_b O h.1 h.2).2
  · omega
theorem pr_loaded {t : sr_t} {s : rg_T} (R : rg_RB t s) (O : rg_ok s) : F11_mostOf 0 t = some (.inl (some (sr_i (nu (mo (rg_u s) (lv s) (rg_N s)).1))), t) := by
  have hm : ∀ n t', n < rg_N s → rg_u s n = true → t' = t → ∃ t2, F11_measure (nI n) 0 t' = some (.inl (some (sr_i (nI (lv s n)))), t2) ∧ t2 = t := by
    intro n t' hn hu p
    subst p
    refine ⟨t', ?_, rfl⟩
    have e := pu_loadOf R O.1 hn
    have l : lv s n = rg_ldR s n := if_pos ⟨hn, hu⟩
    unfold F11_measure
    rw [show (0 : Int32) = nI 0 from rfl, sw_in (by omega) (by omega) (by omega)]
    show sr_bI (F11_loadOf (nI n) t') (fun v1 t1 => (some (.inl (some (sr_i v1)), t1))) = _
    rw [e, pv_bI, l]
  obtain ⟨t', e, p⟩ := pr_most (k := 0) (v := lv s) (fun t' => t' = t) O rfl (fun t' p => by rw [p]; exact R) (fun x _ => by have := lv_b (n := x) O.1; omega) hm
  rw [p] at e
  exact e
theorem pc_loaded {t : sr_t} {s : rg_T} (C : rg_C t 0 s) (K : rg_K t 0 s) (O : rg_ok s) : F3_mostLoaded 0 t = some (.inl (some (sr_r 2 (25 * 0 + (mo (rg_u s) (lv s) (rg_N s)).1))), t) := by
  have hN := O.1.1
  have h3 := C.1.1.1
  have k7 : ∀ x, x < rg_N s → rg_u s x = true → t.1 2 (25 * 0 + x) 7 = nI (lv s x) := fun x hx hu => by
    have := (K.2 x hx).2.2
    unfold rg_kl at this
    rw [if_pos hu, ld_eq O.1 hx hu] at this
    rw [this]
    unfold lv
    rw [if_pos ⟨hx, hu⟩]
  have nob : t.1 2 (25 * 0 + 24) 7 = nI 0 := C.1.2.1.2.2
  unfold F3_mostLoaded
  show f3_mostLoaded_7 0 (f3_mostLoaded_53 0) sr_fu (25 * 0 + (mo (rg_u s) (lv s) 0).1) (nI 0) t = _
  refine pu_for (N := rg_N s) (L := fun f n => f3_mostLoaded_7 0 (f3_mostLoaded_53 0) f (25 * 0 + (mo (rg_u s) (lv s) n).1) (nI n) t) ?_ ?_ (by unfold sr_fu; omega)
  · intro n g hn
    have up := (C.1.2.2 n hn).2.1
    have mk := mo_ok (u := rg_u s) (v := lv s) n (by omega)
    show f3_mostLoaded_7 0 (f3_mostLoaded_53 0) (g + 1) (25 * 0 + (mo (rg_u s) (lv s) n).1) (nI n) t = f3_mostLoaded_7 0 (f3_mostLoaded_53 0) g (25 * 0 + (mo (rg_u s) (lv s) (n + 1)).1) (nI (n + 1)) t
    rw [mo_s]
    cases hu : rg_u s n with
    | false =>
      rw [hu, show bI false = nI 0 from rfl] at up
      rw [if_neg (fun q => absurd q.1 (by decide))]
      simp (disch := omega) only [pv_lt, pu_ck, pv_bI, pv_bV, pu_bR, pv_bL, pv_nt, pu_us, pu_un, mL_0, mL_1, mL_2, mL_3, mL_4, mL_5, mL_6, mL_7, mL_8, mL_9, mL_10, mL_11, mL_12, mL_13, mL_14, mL_15, mL_16, mL_23, mL_24, mL_32, mL_48, mL_64, mL_99, mL_100, mL_200, mL_336, mL_576, mL_768, mL_800, mL_999, mL_4095, mL_4096, mL_m1, nI_leI, nI_ltI, nI_eq, nI_clamp, nI_add, pk_mul, nI_nu, bI_eq0, bI_eq1, bo_ft, Bool.true_eq_false, Bool.false_eq_true, pu_of, pu_of24, pu_onward, pu_frq, if_true, if_false, true_or, or_true, false_or, or_false, and_true, true_and, and_false, false_and, not_true_eq_false, not_false_eq_true, if_neg, if_pos, f3_mostLoaded_7, f3_mostLoaded_47, h3, up]
    | true =>
      rw [hu, show bI true = nI 1 from rfl] at up
      have kn := k7 n hn hu
      have lb := lv_b (n := n) O.1
      have kj : t.1 2 (25 * 0 + (mo (rg_u s) (lv s) n).1) 7 = nI (mo (rg_u s) (lv s) n).2 ∧ (mo (rg_u s) (lv s) n).2 ≤ 4096 := by
        rcases mk with ⟨i1, i2, _⟩ | ⟨i1, i2, i3, _⟩
        · rw [i1, i2]; exact ⟨nob, by omega⟩
        · rw [i3]; exact ⟨k7 _ (by omega) i2, lv_b O.1⟩
      have mle : (mo (rg_u s) (lv s) n).1 ≤ 24 := by rcases mk with ⟨i1, _⟩ | ⟨i1, _⟩ <;> omega
      have ln1 : 1 ≤ lv s n := by unfold lv; rw [if_pos ⟨hn, hu⟩]; exact (ld_b O.1 hn hu).1
      obtain ⟨kj1, kj2⟩ := kj
      by_cases c : (mo (rg_u s) (lv s) n).1 = 24 ∨ (mo (rg_u s) (lv s) n).2 < lv s n
      · have c2 : (mo (rg_u s) (lv s) n).2 < lv s n := by
          rcases c with c | c
          · rcases mk with ⟨i1, i2, _⟩ | ⟨i1, _⟩
            · omega
            · omega
          · exact c
        rw [if_pos ⟨rfl, c⟩]
        show f3_mostLoaded_7 0 (f3_mostLoaded_53 0) (g + 1) (25 * 0 + (mo (rg_u s) (lv s) n).1) (nI n) t = f3_mostLoaded_7 0 (f3_mostLoaded_53 0) g (25 * 0 + n) (nI (n + 1)) t
        simp (disch := omega) only [pv_lt, pu_ck, pv_bI, pv_bV, pu_bR, pv_bL, pv_nt, pu_us, pu_un, mL_0, mL_1, mL_2, mL_3, mL_4, mL_5, mL_6, mL_7, mL_8, mL_9, mL_10, mL_11, mL_12, mL_13, mL_14, mL_15, mL_16, mL_23, mL_24, mL_32, mL_48, mL_64, mL_99, mL_100, mL_200, mL_336, mL_576, mL_768, mL_800, mL_999, mL_4095, mL_4096, mL_m1, nI_leI, nI_ltI, nI_eq, nI_clamp, nI_add, pk_mul, nI_nu, bI_eq0, bI_eq1, bo_ft, Bool.true_eq_false, Bool.false_eq_true, pu_of, pu_of24, pu_onward, pu_frq, if_true, if_false, true_or, or_true, false_or, or_false, and_true, true_and, and_false, false_and, not_true_eq_false, not_false_eq_true, if_neg, if_pos, f3_mostLoaded_7, f3_mostLoaded_47, h3, up, kn, kj1]
      · rw [if_neg (fun q => c q.2)]
        have c2 : ¬ (mo (rg_u s) (lv s) n).2 < lv s n := fun q => c (Or.inr q)
        simp (disch := omega) only [pv_lt, pu_ck, pv_bI, pv_bV, pu_bR, pv_bL, pv_nt, pu_us, pu_un, mL_0, mL_1, mL_2, mL_3, mL_4, mL_5, mL_6, mL_7, mL_8, mL_9, mL_10, mL_11, mL_12, mL_13, mL_14, mL_15, mL_16, mL_23, mL_24, mL_32, mL_48, mL_64, mL_99, mL_100, mL_200, mL_336, mL_576, mL_768, mL_800, mL_999, mL_4095, mL_4096, mL_m1, nI_leI, nI_ltI, nI_eq, nI_clamp, nI_add, pk_mul, nI_nu, bI_eq0, bI_eq1, bo_ft, Bool.true_eq_false, Bool.false_eq_true, pu_of, pu_of24, pu_onward, pu_frq, if_true, if_false, true_or, or_true, false_or, or_false, and_true, true_and, and_false, false_and, not_true_eq_false, not_false_eq_true, if_neg, if_pos, f3_mostLoaded_7, f3_mostLoaded_47, h3, up, kn, kj1]
  · intro g
    show f3_mostLoaded_7 0 (f3_mostLoaded_53 0) (g + 1) (25 * 0 + (mo (rg_u s) (lv s) (rg_N s)).1) (nI (rg_N s)) t = _
    simp (disch := omega) only [pv_lt, pu_ck, pv_bI, pv_bV, pu_bR, pv_bL, pv_nt, pu_us, pu_un, mL_0, mL_1, mL_2, mL_3, mL_4, mL_5, mL_6, mL_7, mL_8, mL_9, mL_10, mL_11, mL_12, mL_13, mL_14, mL_15, mL_16, mL_23, mL_24, mL_32, mL_48, mL_64, mL_99, mL_100, mL_200, mL_336, mL_576, mL_768, mL_800, mL_999, mL_4095, mL_4096, mL_m1, nI_leI, nI_ltI, nI_eq, nI_clamp, nI_add, pk_mul, nI_nu, bI_eq0, bI_eq1, bo_ft, Bool.true_eq_false, Bool.false_eq_true, pu_of, pu_of24, pu_onward, pu_frq, if_true, if_false, true_or, or_true, false_or, or_false, and_true, true_and, and_false, false_and, not_true_eq_false, not_false_eq_true, if_neg, if_pos, f3_mostLoaded_7, f3_mostLoaded_53, h3]
end
