section
/-! the reference's queue -/
def bf_I (s : rg_T) (a : Nat) (q : Nat → Nat) (tl : Nat) (d : Nat → Nat) : Prop := (1 ≤ tl ∧ tl = rg_cu (fun y => d y != 24) (rg_N s)) ∧ (∀ i, i < tl → q i < rg_N s ∧ rg_u s (q i) = true ∧ d (q i) ≤ i) ∧ (∀ y, y < rg_N s → d y ≤ 24 ∧ (d y < 24 → ∃ i, i < tl ∧ q i = y)) ∧ (∀ i j, i ≤ j → j < tl → d (q i) ≤ d (q j)) ∧ (∀ y, y < rg_N s → d y < 24 → bs (Se s a (d y)) y = true) ∧ d a = 0
def bf_P (s : rg_T) (q : Nat → Nat) (d : Nat → Nat) (h : Nat) : Prop := ∀ i, i < h → ∀ y, y < 32 → bs (UL s (q i)) y = true → d y < 24 ∧ d y ≤ d (q i) + 1
theorem bf_tl {s : rg_T} {a tl : Nat} {q d : Nat → Nat} (I : bf_I s a q tl d) : tl ≤ rg_N s := by
  rw [I.1.2]
  exact rg_cu_le _ _
theorem bf_new {s : rg_T} {a tl h y : Nat} {q d : Nat → Nat} (O : rg_ok s) (I : bf_I s a q tl d) (hh : h < tl) (hmx : ∀ j, j < tl → d (q j) ≤ d (q h) + 1) (hy : y < rg_N s) (hd : d y = 24) (hu : rg_u s y = true) (he : bs (UL s (q h)) y = true) : bf_I s a (fun i => if i = tl then y else q i) (tl + 1) (fun z => if z = y then d (q h) + 1 else d z) ∧ tl < rg_N s ∧ d (q h) + 1 < 24 := by
  have hN := O.1.1
  obtain ⟨⟨i0, i1⟩, i2, i3, i4, i5, i6⟩ := I
  have lt : tl < rg_N s := by
    have := cu_ins (u := fun z => d z != 24) (v := fun z => (d z != 24) || z == y) (m := y) (rg_N s) hy (by simp [hd]) (by simp) (fun k _ hk => by simp [hk])
    have le := rg_cu_le (fun z => (d z != 24) || z == y) (rg_N s)
    omega
  have dx := (i2 h hh).2.2
  have qne : ∀ i, i < tl → q i ≠ y := fun i hi e => by
    have := (i2 i hi).2.2
    rw [e, hd] at this
    omega
  have dq : ∀ i, i < tl → (if q i = y then d (q h) + 1 else d (q i)) = d (q i) := fun i hi => if_neg (qne i hi)
  refine ⟨⟨⟨by omega, ?_⟩, fun i hi => ?_, fun z hz => ?_, fun i j hij hj => ?_, fun z hz hzd => ?_, ?_⟩, lt, by omega⟩
  · show tl + 1 = rg_cu (fun z => (if z = y then d (q h) + 1 else d z) != 24) (rg_N s)
    have := cu_ins (u := fun z => d z != 24) (v := fun z => (if z = y then d (q h) + 1 else d z) != 24) (m := y) (rg_N s) hy (by simp [hd]) (by simp; omega) (fun k _ hk => by simp [hk])
    omega
  · show (if i = tl then y else q i) < rg_N s ∧ rg_u s (if i = tl then y else q i) = true ∧ (if (if i = tl then y else q i) = y then d (q h) + 1 else d (if i = tl then y else q i)) ≤ i
    by_cases e : i = tl
    · rw [if_pos e, if_pos rfl]
      exact ⟨hy, hu, by omega⟩
    · rw [if_neg e, dq i (by omega)]
      exact i2 i (by omega)
  · show (if z = y then d (q h) + 1 else d z) ≤ 24 ∧ ((if z = y then d (q h) + 1 else d z) < 24 → ∃ i, i < tl + 1 ∧ (if i = tl then y else q i) = z)
    by_cases e : z = y
    · rw [if_pos e]
      exact ⟨by omega, fun _ => ⟨tl, by omega, by rw [if_pos rfl, e]⟩⟩
    · rw [if_neg e]
      refine ⟨(i3 z hz).1, fun hz24 => ?_⟩
      obtain ⟨i, k1, k2⟩ := (i3 z hz).2 hz24
      exact ⟨i, by omega, by rw [if_neg (by omega)]; exact k2⟩
  · show (if (if i = tl then y else q i) = y then d (q h) + 1 else d (if i = tl then y else q i)) ≤ (if (if j = tl then y else q j) = y then d (q h) + 1 else d (if j = tl then y else q j))
    by_cases ej : j = tl
    · rw [if_pos ej, if_pos rfl]
      by_cases ei : i = tl
      · rw [if_pos ei, if_pos rfl]; omega
      · rw [if_neg ei, dq i (by omega)]
        exact hmx i (by omega)
    · rw [if_neg ej, dq j (by omega), if_neg (show ¬ i = tl by omega), dq i (by omega)]
      exact i4 i j hij (by omega)
  · show bs (Se s a (if z = y then d (q h) + 1 else d z)) z = true
    have hzd' : (if z = y then d (q h) + 1 else d z) < 24 := hzd
    by_cases e : z = y
    · rw [if_pos e, e, Se_bs]
      right
      have hq := i2 h hh
      exact ⟨q h, by omega, i5 (q h) hq.1 (by omega), he⟩
    · rw [if_neg e] at hzd' ⊢
      exact i5 z hz hzd'
  · show (if a = y then d (q h) + 1 else d a) = 0
    rw [if_neg (fun e => by rw [e, hd] at i6; omega)]
    exact i6
theorem bf_end {s : rg_T} {a tl : Nat} {q d : Nat → Nat} (O : rg_ok s) (ha : a < rg_N s) (I : bf_I s a q tl d) (P : bf_P s q d tl) : ∀ y, y < rg_N s → d y = dst s a y := by
  have hN := O.1.1
  obtain ⟨⟨i0, i1⟩, i2, i3, i4, i5, i6⟩ := I
  have comp : ∀ k y, y < 32 → bs (Se s a k) y = true → y < rg_N s ∧ d y < 24 ∧ d y ≤ k := by
    intro k
    induction k with
    | zero =>
      intro y hy h
      have : bs (ob a) y = true := h
      rw [bs_ob (by omega) hy] at this
      have e := of_decide_eq_true this
      subst e
      exact ⟨ha, by omega, by omega⟩
    | succ k ih =>
      intro y hy h
      rcases Se_bs.mp h with h | ⟨x, x1, x2, x3⟩
      · obtain ⟨a1, a2, a3⟩ := ih y hy h
        exact ⟨a1, a2, by omega⟩
      · obtain ⟨a1, a2, a3⟩ := ih x (by omega) x2
        obtain ⟨i, k1, k2⟩ := (i3 x a1).2 a2
        have := P i k1 y hy (by rw [k2]; exact x3)
        rw [k2] at this
        exact ⟨(UL_bs O hy x3).2.1, this.1, by omega⟩
  intro y hy
  symm
  refine fi_eq (i3 y hy).1 (fun j hj => ?_) (fun h => i5 y hy h)
  cases hb : bs (Se s a j) y with
  | false => rfl
  | true =>
    have := comp j y (by omega) hb
    omega
def S_bf (k _i _j : Nat) : Prop := k = 43 ∨ k = 44
def bf_H (s : rg_T) (t0 : sr_t) (q : Nat → Nat) (tl : Nat) (d : Nat → Nat) (t : sr_t) : Prop := (∀ i, i < tl → t.1 44 0 i = nI (q i)) ∧ (∀ y, y < rg_N s → t.1 43 0 y = nu (d y)) ∧ fr S_bf t0 t
abbrev bf_A : Type := (Nat → Nat) × Nat × (Nat → Nat) × sr_t
theorem nu_s {k : Nat} (h : k < 23) : nu k + nI 1 = nu (k + 1) := by
  rw [nu_lt (by omega), nu_lt (by omega), nI_add]
theorem pr_ahead {s : rg_T} {t0 : sr_t} {a h : Nat} {z : bf_A} {b : Int32} {K : Int32 → Int32 → sr_t → sr_Rs} (R : rg_R t0 s) (O : rg_ok s) (I : bf_I s a z.1 z.2.1 z.2.2.1) (hh : h < z.2.1) (P : bf_P s z.1 z.2.2.1 h) (hmx : ∀ j, j < z.2.1 → z.2.2.1 (z.1 j) ≤ z.2.2.1 (z.1 h) + 1) (H : bf_H s t0 z.1 z.2.1 z.2.2.1 z.2.2.2) : ∃ z' : bf_A, (bf_I s a z'.1 z'.2.1 z'.2.2.1 ∧ h < z'.2.1 ∧ bf_P s z'.1 z'.2.2.1 (h + 1) ∧ (∀ j, j < z'.2.1 → z'.2.2.1 (z'.1 j) ≤ z'.2.2.1 (z'.1 h) + 1) ∧ bf_H s t0 z'.1 z'.2.1 z'.2.2.1 z'.2.2.2) ∧ f11_spreads_63 b K sr_fu (nI z.2.1) (nI h) (UL s (z.1 h)) (nI 0) z.2.2.2 = K (nI z'.2.1) (nI h) z'.2.2.2 := by
  have hN := O.1.1
  obtain ⟨x, hx⟩ : ∃ x, x = z.1 h := ⟨_, rfl⟩
  rw [← hx]
  have main : ∃ z' : bf_A, (bf_I s a z'.1 z'.2.1 z'.2.2.1 ∧ h < z'.2.1 ∧ z'.1 h = x ∧ bf_P s z'.1 z'.2.2.1 h ∧ (∀ j, j < z'.2.1 → z'.2.2.1 (z'.1 j) ≤ z'.2.2.1 x + 1) ∧ bf_H s t0 z'.1 z'.2.1 z'.2.2.1 z'.2.2.2 ∧ ∀ y, y < rg_N s → bs (UL s x) y = true → z'.2.2.1 y < 24 ∧ z'.2.2.1 y ≤ z'.2.2.1 x + 1) ∧ f11_spreads_63 b K sr_fu (nI z.2.1) (nI h) (UL s x) (nI 0) z.2.2.2 = K (nI z'.2.1) (nI h) z'.2.2.2 := by
    refine pu_forR (α := bf_A) (N := rg_N s) (L := fun f n z => f11_spreads_63 b K f (nI z.2.1) (nI h) (UL s x) (nI n) z.2.2.2) (fin := fun z => K (nI z.2.1) (nI h) z.2.2.2) (P := fun n z' => bf_I s a z'.1 z'.2.1 z'.2.2.1 ∧ h < z'.2.1 ∧ z'.1 h = x ∧ bf_P s z'.1 z'.2.2.1 h ∧ (∀ j, j < z'.2.1 → z'.2.2.1 (z'.1 j) ≤ z'.2.2.1 x + 1) ∧ bf_H s t0 z'.1 z'.2.1 z'.2.2.1 z'.2.2.2 ∧ ∀ y, y < n → bs (UL s x) y = true → z'.2.2.1 y < 24 ∧ z'.2.2.1 y ≤ z'.2.2.1 x + 1) ?_ ?_ (by unfold sr_fu; omega) ⟨I, hh, hx.symm, P, by rw [hx]; exact hmx, H, fun y hy => by omega⟩
    · rintro n g ⟨q, tl, d, t⟩ hn ⟨I, hh, hx, P, hmx, ⟨H1, H2, H3⟩, E⟩
      have I : bf_I s a q tl d := I
      have hh : h < tl := hh
      have hx : q h = x := hx
      have P : bf_P s q d h := P
      have hmx : ∀ j, j < tl → d (q j) ≤ d x + 1 := hmx
      have H1 : ∀ i, i < tl → t.1 44 0 i = nI (q i) := H1
      have H2 : ∀ y, y < rg_N s → t.1 43 0 y = nu (d y) := H2
      have H3 : fr S_bf t0 t := H3
      have E : ∀ y, y < n → bs (UL s x) y = true → d y < 24 ∧ d y ≤ d x + 1 := E
      have R' : rg_R t s := rg_R_fr O H3 (fun k i j q => by unfold Fp_R at q; unfold S_bf; omega) R
      have h3 := R'.1.1.1
      have tlN := bf_tl I
      have hb := bs_shr (x := UL s x) (k := n) (by omega)
      have d43 := H2 n hn
      have q44 := H1 h hh
      have xq := I.2.1 h hh
      rw [hx] at q44 xq
      have d43x := H2 x xq.1
      show ∃ z' : bf_A, (bf_I s a z'.1 z'.2.1 z'.2.2.1 ∧ h < z'.2.1 ∧ z'.1 h = x ∧ bf_P s z'.1 z'.2.2.1 h ∧ (∀ j, j < z'.2.1 → z'.2.2.1 (z'.1 j) ≤ z'.2.2.1 x + 1) ∧ bf_H s t0 z'.1 z'.2.1 z'.2.2.1 z'.2.2.2 ∧ ∀ y, y < n + 1 → bs (UL s x) y = true → z'.2.2.1 y < 24 ∧ z'.2.2.1 y ≤ z'.2.2.1 x + 1) ∧ f11_spreads_63 b K (g + 1) (nI tl) (nI h) (UL s x) (nI n) t = f11_spreads_63 b K g (nI z'.2.1) (nI h) (UL s x) (nI (n + 1)) z'.2.2.2
      cases hbs : bs (UL s x) n with
      | false =>
        rw [hbs, show bI false = nI 0 from rfl] at hb
        refine ⟨(q, tl, d, t), ⟨I, hh, hx, P, hmx, ⟨H1, H2, H3⟩, fun y hy e => ?_⟩, ?_⟩
        · by_cases ey : y = n
          · subst ey; rw [hbs] at e; exact absurd e (by decide)
          · exact E y (by omega) e
        · show f11_spreads_63 b K (g + 1) (nI tl) (nI h) (UL s x) (nI n) t = f11_spreads_63 b K g (nI tl) (nI h) (UL s x) (nI (n + 1)) t
          simp (disch := omega) only [pv_lt, pu_ck, pv_bI, pv_bV, pu_bR, pv_bL, pv_nt, pu_us, pu_un, mL_0, mL_1, mL_2, mL_3, mL_4, mL_5, mL_6, mL_7, mL_8, mL_9, mL_10, mL_11, mL_12, mL_13, mL_14, mL_15, mL_16, mL_23, mL_24, mL_32, mL_48, mL_64, mL_99, mL_100, mL_200, mL_336, mL_576, mL_768, mL_800, mL_999, mL_4095, mL_4096, mL_m1, nI_leI, nI_ltI, nI_eq, nI_clamp, nI_add, pk_mul, nI_nu, bI_eq0, bI_eq1, bo_ft, Bool.true_eq_false, Bool.false_eq_true, pu_of, pu_of24, pu_onward, pu_frq, if_true, if_false, true_or, or_true, false_or, or_false, and_true, true_and, and_false, false_and, not_true_eq_false, not_false_eq_true, if_neg, if_pos, f11_spreads_63, f11_spreads_127, h3, hb]
      | true =>
        rw [hbs, show bI true = nI 1 from rfl] at hb
        have ul := UL_bs O (by omega) hbs
        by_cases hd : d n = 24
        · have nw := bf_new O I hh (by rw [hx]; exact hmx) hn hd ul.2.2.2.1 (by rw [hx]; exact hbs)
          rw [hx] at nw
          obtain ⟨I', ltN, lt24⟩ := nw
          rw [hd] at d43
          have xn : x ≠ n := fun e => by rw [e, hd] at lt24; omega
          have qne : ∀ i, i < tl → q i ≠ n := fun i hi e => by
            have := (I.2.1 i hi).2.2
            rw [e, hd] at this
            omega
          refine ⟨(fun i => if i = tl then n else q i, tl + 1, fun z => if z = n then d x + 1 else d z, sr_u (sr_u t 43 0 n (nu (d x + 1))) 44 0 tl (nI n)), ⟨I', by show h < tl + 1; omega, ?_, fun i hi y hy e => ?_, fun j hj => ?_, ⟨fun i hi => ?_, fun y hy => ?_, fr_u (fr_u H3 (Or.inl rfl)) (Or.inr rfl)⟩, fun y hy e => ?_⟩, ?_⟩
          · show (if h = tl then n else q h) = x
            rw [if_neg (by omega)]; exact hx
          · show (if y = n then d x + 1 else d y) < 24 ∧ (if y = n then d x + 1 else d y) ≤ (if (if i = tl then n else q i) = n then d x + 1 else d (if i = tl then n else q i)) + 1
            have e' : bs (UL s (if i = tl then n else q i)) y = true := e
            rw [if_neg (show ¬ i = tl by omega)] at e' ⊢
            rw [if_neg (qne i (by omega))]
            have p := P i hi y hy e'
            by_cases ey : y = n
            · subst ey; omega
            · rw [if_neg ey]; exact p
          · show (if (if j = tl then n else q j) = n then d x + 1 else d (if j = tl then n else q j)) ≤ (if x = n then d x + 1 else d x) + 1
            rw [if_neg xn]
            by_cases ej : j = tl
            · rw [if_pos ej, if_pos rfl]; omega
            · have hj' : j < tl + 1 := hj
              rw [if_neg ej, if_neg (qne j (by omega))]
              exact hmx j (by omega)
          · show (sr_u (sr_u t 43 0 n (nu (d x + 1))) 44 0 tl (nI n)).1 44 0 i = nI (if i = tl then n else q i)
            have hi' : i < tl + 1 := hi
            by_cases ei : i = tl
            · rw [if_pos ei, ei, pu_us]
            · rw [if_neg ei, pu_un (by omega), pu_un (by omega)]; exact H1 i (by omega)
          · show (sr_u (sr_u t 43 0 n (nu (d x + 1))) 44 0 tl (nI n)).1 43 0 y = nu (if y = n then d x + 1 else d y)
            rw [pu_un (by omega)]
            by_cases ey : y = n
            · rw [if_pos ey, ey, pu_us]
            · rw [if_neg ey, pu_un (by omega)]; exact H2 y hy
          · show (if y = n then d x + 1 else d y) < 24 ∧ (if y = n then d x + 1 else d y) ≤ (if x = n then d x + 1 else d x) + 1
            rw [if_neg xn]
            by_cases ey : y = n
            · rw [if_pos ey]; omega
            · rw [if_neg ey]; exact E y (by omega) e
          · show f11_spreads_63 b K (g + 1) (nI tl) (nI h) (UL s x) (nI n) t = f11_spreads_63 b K g (nI (tl + 1)) (nI h) (UL s x) (nI (n + 1)) (sr_u (sr_u t 43 0 n (nu (d x + 1))) 44 0 tl (nI n))
            have ns := nu_s (k := d x) (by omega)
            simp (disch := omega) only [pv_lt, pu_ck, pv_bI, pv_bV, pu_bR, pv_bL, pv_nt, pu_us, pu_un, mL_0, mL_1, mL_2, mL_3, mL_4, mL_5, mL_6, mL_7, mL_8, mL_9, mL_10, mL_11, mL_12, mL_13, mL_14, mL_15, mL_16, mL_23, mL_24, mL_32, mL_48, mL_64, mL_99, mL_100, mL_200, mL_336, mL_576, mL_768, mL_800, mL_999, mL_4095, mL_4096, mL_m1, nI_leI, nI_ltI, nI_eq, nI_clamp, nI_add, pk_mul, nI_nu, bI_eq0, bI_eq1, bo_ft, Bool.true_eq_false, Bool.false_eq_true, pu_of, pu_of24, pu_onward, pu_frq, if_true, if_false, true_or, or_true, false_or, or_false, and_true, true_and, and_false, false_and, not_true_eq_false, not_false_eq_true, if_neg, if_pos, f11_spreads_63, f11_spreads_127, h3, hb, d43, q44, d43x, ns, pu_ixN']
        · have dn := (I.2.2.1 n hn).1
          have nn : ¬ nu (d n) = nu 24 := fun e => hd ((nu_eq24 dn).mp e)
          refine ⟨(q, tl, d, t), ⟨I, hh, hx, P, hmx, ⟨H1, H2, H3⟩, fun y hy e => ?_⟩, ?_⟩
          · show d y < 24 ∧ d y ≤ d x + 1
            by_cases ey : y = n
            · subst ey
              have lt : d y < 24 := by omega
              obtain ⟨i, k1, k2⟩ := (I.2.2.1 y hn).2 lt
              have := hmx i k1
              rw [k2] at this
              exact ⟨lt, this⟩
            · exact E y (by omega) e
          · show f11_spreads_63 b K (g + 1) (nI tl) (nI h) (UL s x) (nI n) t = f11_spreads_63 b K g (nI tl) (nI h) (UL s x) (nI (n + 1)) t
            simp (disch := omega) only [pv_lt, pu_ck, pv_bI, pv_bV, pu_bR, pv_bL, pv_nt, pu_us, pu_un, mL_0, mL_1, mL_2, mL_3, mL_4, mL_5, mL_6, mL_7, mL_8, mL_9, mL_10, mL_11, mL_12, mL_13, mL_14, mL_15, mL_16, mL_23, mL_24, mL_32, mL_48, mL_64, mL_99, mL_100, mL_200, mL_336, mL_576, mL_768, mL_800, mL_999, mL_4095, mL_4096, mL_m1, nI_leI, nI_ltI, nI_eq, nI_clamp, nI_add, pk_mul, nI_nu, bI_eq0, bI_eq1, bo_ft, Bool.true_eq_false, Bool.false_eq_true, pu_of, pu_of24, pu_onward, pu_frq, if_true, if_false, true_or, or_true, false_or, or_false, and_true, true_and, and_false, false_and, not_true_eq_false, not_false_eq_true, if_neg, if_pos, f11_spreads_63, f11_spreads_127, h3, hb, d43, nn, pu_ixN']
    · rintro g ⟨q, tl, d, t⟩ ⟨I, hh, hx, P, hmx, ⟨H1, H2, H3⟩, E⟩
      have H3 : fr S_bf t0 t := H3
      have R' : rg_R t s := rg_R_fr O H3 (fun k i j q => by unfold Fp_R at q; unfold S_bf; omega) R
      have h3 := R'.1.1.1
      show f11_spreads_63 b K (g + 1) (nI tl) (nI h) (UL s x) (nI (rg_N s)) t = K (nI tl) (nI h) t
      simp (disch := omega) only [pv_lt, pu_ck, pv_bI, pv_bV, pu_bR, pv_bL, pv_nt, pu_us, pu_un, mL_0, mL_1, mL_2, mL_3, mL_4, mL_5, mL_6, mL_7, mL_8, mL_9, mL_10, mL_11, mL_12, mL_13, mL_14, mL_15, mL_16, mL_23, mL_24, mL_32, mL_48, mL_64, mL_99, mL_100, mL_200, mL_336, mL_576, mL_768, mL_800, mL_999, mL_4095, mL_4096, mL_m1, nI_leI, nI_ltI, nI_eq, nI_clamp, nI_add, pk_mul, nI_nu, bI_eq0, bI_eq1, bo_ft, Bool.true_eq_false, Bool.false_eq_true, pu_of, pu_of24, pu_onward, pu_frq, if_true, if_false, true_or, or_true, false_or, or_false, and_true, true_and, and_false, false_and, not_true_eq_false, not_false_eq_true, if_neg, if_pos, f11_spreads_63, h3]
  obtain ⟨z', ⟨I', h', x', P', m', H', E'⟩, e⟩ := main
  refine ⟨z', ⟨I', h', fun i hi y hy eb => ?_, fun j hj => by rw [x']; exact m' j hj, H'⟩, e⟩
  by_cases ei : i = h
  · subst ei
    rw [x'] at eb ⊢
    exact E' y (UL_bs O hy eb).2.1 eb
  · exact P' i (by omega) y hy eb
end
