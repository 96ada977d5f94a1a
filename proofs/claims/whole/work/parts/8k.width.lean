section
/-! count: the width -/
theorem Se_mono {s : rg_T} {a y j : Nat} : ∀ d, bs (Se s a j) y = true → bs (Se s a (j + d)) y = true := by
  intro d
  induction d with
  | zero => intro h; exact h
  | succ d ih => intro h; exact Se_bs.mpr (Or.inl (ih h))
theorem uB_all {s : rg_T} {X : Int32} (O : rg_ok s) : uB s &&& (X ^^^ nu 24) = nI 0 ↔ ∀ b, b < rg_N s → rg_u s b = true → bs X b = true := by
  have hN := O.1.1
  constructor
  · intro e b hb hu
    have h : bs (uB s &&& (X ^^^ nu 24)) b = false := by rw [e]; exact bs_0
    rw [bs_and, uB_bs O (by omega), bs_not (by omega), decide_eq_true hb, hu] at h
    simpa using h
  · intro h
    refine bs_ext (fun m hm => ?_)
    rw [bs_and, uB_bs O hm, bs_not hm, bs_0]
    by_cases hb : m < rg_N s
    · cases hu : rg_u s m with
      | false => simp
      | true => rw [h m hb hu]; simp
    · rw [decide_eq_false hb]; rfl
def gx (u : Nat → Bool) (f : Nat → Nat) (c : Nat) : Nat → Nat
  | 0 => c
  | n + 1 => if u n = true ∧ gx u f c n < f n then f n else gx u f c n
theorem gx_s {u : Nat → Bool} {f : Nat → Nat} {c n : Nat} : gx u f c (n + 1) = if u n = true ∧ gx u f c n < f n then f n else gx u f c n := Eq.trans (Eq.refl _) (Eq.refl _)
theorem gx_ok {u : Nat → Bool} {f : Nat → Nat} {c : Nat} : ∀ n, c ≤ gx u f c n ∧ (∀ x, x < n → u x = true → f x ≤ gx u f c n) ∧ (gx u f c n = c ∨ ∃ x, x < n ∧ u x = true ∧ gx u f c n = f x) := by
  intro n
  induction n with
  | zero => exact ⟨Nat.le_refl _, fun x hx => by omega, Or.inl rfl⟩
  | succ n ih =>
    obtain ⟨i1, i2, i3⟩ := ih
    rw [gx_s]
    by_cases q : u n = true ∧ gx u f c n < f n
    · rw [if_pos q]
      refine ⟨by omega, fun x hx hu => ?_, Or.inr ⟨n, by omega, q.1, rfl⟩⟩
      by_cases e : x = n
      · rw [e]; exact Nat.le_refl _
      · have := i2 x (by omega) hu; omega
    · rw [if_neg q]
      refine ⟨i1, fun x hx hu => ?_, ?_⟩
      · by_cases e : x = n
        · subst e
          have : ¬ gx u f c x < f x := fun h => q ⟨hu, h⟩
          omega
        · exact i2 x (by omega) hu
      · rcases i3 with i3 | ⟨x, x1, x2⟩
        · exact Or.inl i3
        · exact Or.inr ⟨x, by omega, x2⟩
theorem gx_0 {u : Nat → Bool} {f : Nat → Nat} {c n : Nat} : gx u f c n = if c < gx u f 0 n then gx u f 0 n else c := by
  obtain ⟨a1, a2, a3⟩ := gx_ok (u := u) (f := f) (c := c) n
  obtain ⟨b1, b2, b3⟩ := gx_ok (u := u) (f := f) (c := 0) n
  have l1 : gx u f 0 n ≤ gx u f c n := by
    rcases b3 with b3 | ⟨y, y1, y2, y3⟩
    · omega
    · have := a2 y y1 y2; omega
  by_cases q : c < gx u f 0 n
  · rw [if_pos q]
    rcases a3 with a3 | ⟨y, y1, y2, y3⟩
    · omega
    · have := b2 y y1 y2; omega
  · rw [if_neg q]
    rcases a3 with a3 | ⟨y, y1, y2, y3⟩
    · exact a3
    · have := b2 y y1 y2; omega
theorem tA_no {s : rg_T} {a b : Nat} (O : rg_ok s) (hb : b < rg_N s) (hu : rg_u s b = true) (h : dst s a b = 24) : tA s a (uB s) = 24 := by
  refine fi_eq (Nat.le_refl _) (fun j hj => ?_) (fun q => by omega)
  refine decide_eq_false (fun e => ?_)
  have h1 := (uB_all O).mp e b hb hu
  have h2 : bs (Se s a j) b = false := fi_no (P := fun k => bs (Se s a k) b) (m := 24) (by
    have : fi (fun k => bs (Se s a k) b) 24 = 24 := h
    omega)
  rw [h2] at h1
  exact absurd h1 (by decide)
theorem tA_yes {s : rg_T} {a : Nat} (O : rg_ok s) (h : ∀ b, b < rg_N s → rg_u s b = true → dst s a b < 24) : tA s a (uB s) = gx (rg_u s) (dst s a) 0 (rg_N s) ∧ gx (rg_u s) (dst s a) 0 (rg_N s) < 24 := by
  obtain ⟨b1, b2, b3⟩ := gx_ok (u := rg_u s) (f := dst s a) (c := 0) (rg_N s)
  have lt : gx (rg_u s) (dst s a) 0 (rg_N s) < 24 := by
    rcases b3 with b3 | ⟨y, y1, y2, y3⟩
    · omega
    · have := h y y1 y2; omega
  refine ⟨fi_eq (by omega) (fun j hj => ?_) (fun _ => ?_), lt⟩
  · refine decide_eq_false (fun e => ?_)
    rcases b3 with b3 | ⟨y, y1, y2, y3⟩
    · omega
    · have h1 := (uB_all O).mp e y y1 y2
      have h2 : bs (Se s a j) y = false := fi_no (P := fun k => bs (Se s a k) y) (m := 24) (by
        have : gx (rg_u s) (dst s a) 0 (rg_N s) = fi (fun k => bs (Se s a k) y) 24 := y3
        omega)
      rw [h2] at h1
      exact absurd h1 (by decide)
  · refine decide_eq_true ((uB_all O).mpr (fun b hb hu => ?_))
    have d1 := h b hb hu
    have d2 := b2 b hb hu
    have h1 : bs (Se s a (dst s a b)) b = true := fi_yes (P := fun k => bs (Se s a k) b) (m := 24) d1
    have h2 := Se_mono (gx (rg_u s) (dst s a) 0 (rg_N s) - dst s a b) h1
    rw [show dst s a b + (gx (rg_u s) (dst s a) 0 (rg_N s) - dst s a b) = gx (rg_u s) (dst s a) 0 (rg_N s) by omega] at h2
    exact h2
theorem tA_le {s : rg_T} {a : Nat} {W : Int32} : tA s a W ≤ 24 := fi_le _ _
def wd (s : rg_T) : Nat → Nat
  | 0 => 0
  | n + 1 => if wd s n = 24 then 24 else if rg_u s n = true then (if tA s n (uB s) = 24 then 24 else if wd s n < tA s n (uB s) then tA s n (uB s) else wd s n) else wd s n
theorem wd_s {s : rg_T} {n : Nat} : wd s (n + 1) = if wd s n = 24 then 24 else if rg_u s n = true then (if tA s n (uB s) = 24 then 24 else if wd s n < tA s n (uB s) then tA s n (uB s) else wd s n) else wd s n := Eq.trans (Eq.refl _) (Eq.refl _)
theorem wd_24 {s : rg_T} {n : Nat} (h : wd s n = 24) : ∀ d, wd s (n + d) = 24 := by
  intro d
  induction d with
  | zero => exact h
  | succ d ih => rw [show n + (d + 1) = n + d + 1 by omega, wd_s, if_pos ih]
theorem wd_le {s : rg_T} : ∀ n, wd s n ≤ 24 := by
  intro n
  induction n with
  | zero => show 0 ≤ 24; omega
  | succ n ih =>
    have := tA_le (s := s) (a := n) (W := uB s)
    rw [wd_s]
    split
    · omega
    · split
      · split
        · omega
        · split <;> omega
      · omega
theorem pc_width {t : sr_t} {s : rg_T} (C : rg_C t 0 s) (O : rg_ok s) : ∃ t1, F9_widthOf 0 t = some (.inl (some (sr_i (nu (wd s (rg_N s))))), t1) ∧ fr S_17 t t1 := by
  have hN := O.1.1
  obtain ⟨t1, e1, h1, f1⟩ := pc_read C O
  have C1 : rg_C t1 0 s := rg_C_fr hN f1 (fun k i j q => by unfold Fp_C at q; unfold S_17; omega) C
  have h3 := C1.1.1.1
  have eu := pc_upBits C1 O
  refine ⟨t1, ?_, f1⟩
  unfold F9_widthOf
  rw [e1, pv_bV, eu, pv_bI]
  show f9_widthOf_15 0 (f9_widthOf_52 0) (f9_widthOf_67 0) sr_fu (uB s) (nI (wd s 0)) (nI 0) t1 = _
  refine pu_forX (N := rg_N s) (L := fun f n => f9_widthOf_15 0 (f9_widthOf_52 0) (f9_widthOf_67 0) f (uB s) (nI (wd s n)) (nI n) t1) (Q := fun n => wd s n < 24) ?_ ?_ (by unfold sr_fu; omega) (by show 0 < 24; omega)
  · intro n g hn q
    have hb := pu_hasBit (t := t1) (x := uB s) (k := n) (by omega)
    rw [uB_bs O (by omega), decide_eq_true hn, Bool.true_and] at hb
    have e2 := pc_toAll (W := uB s) h1 (show n < 24 by omega)
    have tl := tA_le (s := s) (a := n) (W := uB s)
    show (f9_widthOf_15 0 (f9_widthOf_52 0) (f9_widthOf_67 0) (g + 1) (uB s) (nI (wd s n)) (nI n) t1 = f9_widthOf_15 0 (f9_widthOf_52 0) (f9_widthOf_67 0) g (uB s) (nI (wd s (n + 1))) (nI (n + 1)) t1 ∧ wd s (n + 1) < 24) ∨ f9_widthOf_15 0 (f9_widthOf_52 0) (f9_widthOf_67 0) (g + 1) (uB s) (nI (wd s n)) (nI n) t1 = _
    have ws : wd s (n + 1) = _ := wd_s
    rw [if_neg (by omega)] at ws
    cases hu : rg_u s n with
    | false =>
      left
      rw [hu, show bI false = nI 0 from rfl] at hb
      rw [hu, if_neg (by decide)] at ws
      rw [ws]
      refine ⟨?_, q⟩
      simp (disch := omega) only [pv_lt, pu_ck, pv_bI, pv_bV, pu_bR, pv_bL, pv_nt, pu_us, pu_un, mL_0, mL_1, mL_2, mL_3, mL_4, mL_5, mL_6, mL_7, mL_8, mL_9, mL_10, mL_11, mL_12, mL_13, mL_14, mL_15, mL_16, mL_23, mL_24, mL_32, mL_48, mL_64, mL_99, mL_100, mL_200, mL_336, mL_576, mL_768, mL_800, mL_999, mL_4095, mL_4096, mL_m1, nI_leI, nI_ltI, nI_eq, nI_clamp, nI_add, pk_mul, nI_nu, bI_eq0, bI_eq1, bo_ft, Bool.true_eq_false, Bool.false_eq_true, pu_of, pu_of24, pu_onward, pu_frq, if_true, if_false, true_or, or_true, false_or, or_false, and_true, true_and, and_false, false_and, not_true_eq_false, not_false_eq_true, if_neg, if_pos, f9_widthOf_15, f9_widthOf_44, h3, hb]
    | true =>
      rw [hu, show bI true = nI 1 from rfl] at hb
      rw [hu, if_pos rfl] at ws
      by_cases c : tA s n (uB s) = 24
      · right
        rw [if_pos c] at ws
        have wN := wd_24 ws (rg_N s - (n + 1))
        rw [show n + 1 + (rg_N s - (n + 1)) = rg_N s by omega] at wN
        rw [wN]
        rw [c] at e2
        simp (disch := omega) only [pv_lt, pu_ck, pv_bI, pv_bV, pu_bR, pv_bL, pv_nt, pu_us, pu_un, mL_0, mL_1, mL_2, mL_3, mL_4, mL_5, mL_6, mL_7, mL_8, mL_9, mL_10, mL_11, mL_12, mL_13, mL_14, mL_15, mL_16, mL_23, mL_24, mL_32, mL_48, mL_64, mL_99, mL_100, mL_200, mL_336, mL_576, mL_768, mL_800, mL_999, mL_4095, mL_4096, mL_m1, nI_leI, nI_ltI, nI_eq, nI_clamp, nI_add, pk_mul, nI_nu, bI_eq0, bI_eq1, bo_ft, Bool.true_eq_false, Bool.false_eq_true, pu_of, pu_of24, pu_onward, pu_frq, if_true, if_false, true_or, or_true, false_or, or_false, and_true, true_and, and_false, false_and, not_true_eq_false, not_false_eq_true, if_neg, if_pos, f9_widthOf_15, f9_widthOf_44, f9_widthOf_52, h3, hb, e2]
      · left
        rw [if_neg c] at ws
        rw [nu_lt (by omega)] at e2
        by_cases c2 : wd s n < tA s n (uB s)
        · rw [if_pos c2] at ws
          rw [ws]
          refine ⟨?_, by omega⟩
          simp (disch := omega) only [pv_lt, pu_ck, pv_bI, pv_bV, pu_bR, pv_bL, pv_nt, pu_us, pu_un, mL_0, mL_1, mL_2, mL_3, mL_4, mL_5, mL_6, mL_7, mL_8, mL_9, mL_10, mL_11, mL_12, mL_13, mL_14, mL_15, mL_16, mL_23, mL_24, mL_32, mL_48, mL_64, mL_99, mL_100, mL_200, mL_336, mL_576, mL_768, mL_800, mL_999, mL_4095, mL_4096, mL_m1, nI_leI, nI_ltI, nI_eq, nI_clamp, nI_add, pk_mul, nI_nu, bI_eq0, bI_eq1, bo_ft, Bool.true_eq_false, Bool.false_eq_true, pu_of, pu_of24, pu_onward, pu_frq, if_true, if_false, true_or, or_true, false_or, or_false, and_true, true_and, and_false, false_and, not_true_eq_false, not_false_eq_true, if_neg, if_pos, f9_widthOf_15, f9_widthOf_44, h3, hb, e2, c2]
        · rw [if_neg c2] at ws
          rw [ws]
          refine ⟨?_, q⟩
          simp (disch := omega) only [pv_lt, pu_ck, pv_bI, pv_bV, pu_bR, pv_bL, pv_nt, pu_us, pu_un, mL_0, mL_1, mL_2, mL_3, mL_4, mL_5, mL_6, mL_7, mL_8, mL_9, mL_10, mL_11, mL_12, mL_13, mL_14, mL_15, mL_16, mL_23, mL_24, mL_32, mL_48, mL_64, mL_99, mL_100, mL_200, mL_336, mL_576, mL_768, mL_800, mL_999, mL_4095, mL_4096, mL_m1, nI_leI, nI_ltI, nI_eq, nI_clamp, nI_add, pk_mul, nI_nu, bI_eq0, bI_eq1, bo_ft, Bool.true_eq_false, Bool.false_eq_true, pu_of, pu_of24, pu_onward, pu_frq, if_true, if_false, true_or, or_true, false_or, or_false, and_true, true_and, and_false, false_and, not_true_eq_false, not_false_eq_true, if_neg, if_pos, f9_widthOf_15, f9_widthOf_44, h3, hb, e2, c2]
  · intro g q
    show f9_widthOf_15 0 (f9_widthOf_52 0) (f9_widthOf_67 0) (g + 1) (uB s) (nI (wd s (rg_N s))) (nI (rg_N s)) t1 = _
    rw [nu_lt q]
    simp (disch := omega) only [pv_lt, pu_ck, pv_bI, pv_bV, pu_bR, pv_bL, pv_nt, pu_us, pu_un, mL_0, mL_1, mL_2, mL_3, mL_4, mL_5, mL_6, mL_7, mL_8, mL_9, mL_10, mL_11, mL_12, mL_13, mL_14, mL_15, mL_16, mL_23, mL_24, mL_32, mL_48, mL_64, mL_99, mL_100, mL_200, mL_336, mL_576, mL_768, mL_800, mL_999, mL_4095, mL_4096, mL_m1, nI_leI, nI_ltI, nI_eq, nI_clamp, nI_add, pk_mul, nI_nu, bI_eq0, bI_eq1, bo_ft, Bool.true_eq_false, Bool.false_eq_true, pu_of, pu_of24, pu_onward, pu_frq, if_true, if_false, true_or, or_true, false_or, or_false, and_true, true_and, and_false, false_and, not_true_eq_false, not_false_eq_true, if_neg, if_pos, f9_widthOf_15, f9_widthOf_67, h3]
theorem pr_wrow {t : sr_t} {s : rg_T} {a m : Nat} {x2 : Int32} {K1 : sr_t → sr_Rs} {K2 : Int32 → Int32 → sr_t → sr_Rs} (R : rg_RB t s) (O : rg_ok s) (h43 : ∀ y, y < rg_N s → t.1 43 0 y = nu (dst s a y)) (hm : m < 24) : f11_width_31 K1 K2 sr_fu (nI m) x2 (nI 0) t = if tA s a (uB s) = 24 then K1 t else K2 (nI (if m < tA s a (uB s) then tA s a (uB s) else m)) x2 t := by
  have hN := O.1.1
  have h3 := R.1.1
  refine pu_forX (N := rg_N s) (L := fun f n => f11_width_31 K1 K2 f (nI (gx (rg_u s) (dst s a) m n)) x2 (nI n) t) (Q := fun n => gx (rg_u s) (dst s a) m n < 24 ∧ ∀ b, b < n → rg_u s b = true → dst s a b < 24) ?_ ?_ (by unfold sr_fu; omega) ⟨hm, fun b hb => by omega⟩
  · intro n g hn q
    have up := (R.2 n hn).2.1
    have d43 := h43 n hn
    have dl := dst_le (s := s) (a := a) (y := n)
    have q1 := q.1
    show (f11_width_31 K1 K2 (g + 1) (nI (gx (rg_u s) (dst s a) m n)) x2 (nI n) t = f11_width_31 K1 K2 g (nI (gx (rg_u s) (dst s a) m (n + 1))) x2 (nI (n + 1)) t ∧ (gx (rg_u s) (dst s a) m (n + 1) < 24 ∧ ∀ b, b < n + 1 → rg_u s b = true → dst s a b < 24)) ∨ f11_width_31 K1 K2 (g + 1) (nI (gx (rg_u s) (dst s a) m n)) x2 (nI n) t = _
    rw [gx_s]
    cases hu : rg_u s n with
    | false =>
      left
      rw [hu, show bI false = nI 0 from rfl] at up
      rw [if_neg (fun q => absurd q.1 (by decide))]
      refine ⟨?_, q.1, fun b hb hub => ?_⟩
      · simp (disch := omega) only [pv_lt, pu_ck, pv_bI, pv_bV, pu_bR, pv_bL, pv_nt, pu_us, pu_un, mL_0, mL_1, mL_2, mL_3, mL_4, mL_5, mL_6, mL_7, mL_8, mL_9, mL_10, mL_11, mL_12, mL_13, mL_14, mL_15, mL_16, mL_23, mL_24, mL_32, mL_48, mL_64, mL_99, mL_100, mL_200, mL_336, mL_576, mL_768, mL_800, mL_999, mL_4095, mL_4096, mL_m1, nI_leI, nI_ltI, nI_eq, nI_clamp, nI_add, pk_mul, nI_nu, bI_eq0, bI_eq1, bo_ft, Bool.true_eq_false, Bool.false_eq_true, pu_of, pu_of24, pu_onward, pu_frq, if_true, if_false, true_or, or_true, false_or, or_false, and_true, true_and, and_false, false_and, not_true_eq_false, not_false_eq_true, if_neg, if_pos, f11_width_31, f11_width_80, h3, up, pu_ixN']
      · by_cases e : b = n
        · rw [e, hu] at hub; exact absurd hub (by decide)
        · exact q.2 b (by omega) hub
    | true =>
      rw [hu, show bI true = nI 1 from rfl] at up
      by_cases c : dst s a n = 24
      · right
        rw [if_pos (tA_no O hn hu c)]
        rw [c] at d43
        simp (disch := omega) only [pv_lt, pu_ck, pv_bI, pv_bV, pu_bR, pv_bL, pv_nt, pu_us, pu_un, mL_0, mL_1, mL_2, mL_3, mL_4, mL_5, mL_6, mL_7, mL_8, mL_9, mL_10, mL_11, mL_12, mL_13, mL_14, mL_15, mL_16, mL_23, mL_24, mL_32, mL_48, mL_64, mL_99, mL_100, mL_200, mL_336, mL_576, mL_768, mL_800, mL_999, mL_4095, mL_4096, mL_m1, nI_leI, nI_ltI, nI_eq, nI_clamp, nI_add, pk_mul, nI_nu, bI_eq0, bI_eq1, bo_ft, Bool.true_eq_false, Bool.false_eq_true, pu_of, pu_of24, pu_onward, pu_frq, if_true, if_false, true_or, or_true, false_or, or_false, and_true, true_and, and_false, false_and, not_true_eq_false, not_false_eq_true, if_neg, if_pos, f11_width_31, h3, up, d43, pu_ixN']
      · left
        rw [nu_lt (by omega)] at d43
        have all : ∀ b, b < n + 1 → rg_u s b = true → dst s a b < 24 := fun b hb hub => by
          by_cases e : b = n
          · rw [e]; omega
          · exact q.2 b (by omega) hub
        by_cases c2 : gx (rg_u s) (dst s a) m n < dst s a n
        · rw [if_pos ⟨rfl, c2⟩]
          refine ⟨?_, by omega, all⟩
          simp (disch := omega) only [pv_lt, pu_ck, pv_bI, pv_bV, pu_bR, pv_bL, pv_nt, pu_us, pu_un, mL_0, mL_1, mL_2, mL_3, mL_4, mL_5, mL_6, mL_7, mL_8, mL_9, mL_10, mL_11, mL_12, mL_13, mL_14, mL_15, mL_16, mL_23, mL_24, mL_32, mL_48, mL_64, mL_99, mL_100, mL_200, mL_336, mL_576, mL_768, mL_800, mL_999, mL_4095, mL_4096, mL_m1, nI_leI, nI_ltI, nI_eq, nI_clamp, nI_add, pk_mul, nI_nu, bI_eq0, bI_eq1, bo_ft, Bool.true_eq_false, Bool.false_eq_true, pu_of, pu_of24, pu_onward, pu_frq, if_true, if_false, true_or, or_true, false_or, or_false, and_true, true_and, and_false, false_and, not_true_eq_false, not_false_eq_true, if_neg, if_pos, f11_width_31, f11_width_80, h3, up, d43, pu_ixN']
        · rw [if_neg (fun q => c2 q.2)]
          refine ⟨?_, q.1, all⟩
          simp (disch := omega) only [pv_lt, pu_ck, pv_bI, pv_bV, pu_bR, pv_bL, pv_nt, pu_us, pu_un, mL_0, mL_1, mL_2, mL_3, mL_4, mL_5, mL_6, mL_7, mL_8, mL_9, mL_10, mL_11, mL_12, mL_13, mL_14, mL_15, mL_16, mL_23, mL_24, mL_32, mL_48, mL_64, mL_99, mL_100, mL_200, mL_336, mL_576, mL_768, mL_800, mL_999, mL_4095, mL_4096, mL_m1, nI_leI, nI_ltI, nI_eq, nI_clamp, nI_add, pk_mul, nI_nu, bI_eq0, bI_eq1, bo_ft, Bool.true_eq_false, Bool.false_eq_true, pu_of, pu_of24, pu_onward, pu_frq, if_true, if_false, true_or, or_true, false_or, or_false, and_true, true_and, and_false, false_and, not_true_eq_false, not_false_eq_true, if_neg, if_pos, f11_width_31, f11_width_80, h3, up, d43, pu_ixN']
  · intro g q
    obtain ⟨t1, t2⟩ := tA_yes O q.2
    show f11_width_31 K1 K2 (g + 1) (nI (gx (rg_u s) (dst s a) m (rg_N s))) x2 (nI (rg_N s)) t = _
    rw [t1, if_neg (by omega), ← gx_0]
    simp (disch := omega) only [pv_lt, pu_ck, pv_bI, pv_bV, pu_bR, pv_bL, pv_nt, pu_us, pu_un, mL_0, mL_1, mL_2, mL_3, mL_4, mL_5, mL_6, mL_7, mL_8, mL_9, mL_10, mL_11, mL_12, mL_13, mL_14, mL_15, mL_16, mL_23, mL_24, mL_32, mL_48, mL_64, mL_99, mL_100, mL_200, mL_336, mL_576, mL_768, mL_800, mL_999, mL_4095, mL_4096, mL_m1, nI_leI, nI_ltI, nI_eq, nI_clamp, nI_add, pk_mul, nI_nu, bI_eq0, bI_eq1, bo_ft, Bool.true_eq_false, Bool.false_eq_true, pu_of, pu_of24, pu_onward, pu_frq, if_true, if_false, true_or, or_true, false_or, or_false, and_true, true_and, and_false, false_and, not_true_eq_false, not_false_eq_true, if_neg, if_pos, f11_width_31, h3]
theorem pr_width {t : sr_t} {s : rg_T} (R : rg_R t s) (O : rg_ok s) : ∃ t1, F11_width t = some (.inl (some (sr_i (nu (wd s (rg_N s))))), t1) ∧ fr S_bf t t1 := by
  have hN := O.1.1
  refine rs_via fun Q hQ => ?_
  show rs_to Q (f11_width_4 f11_width_61 f11_width_92 sr_fu (nI (wd s 0)) (nI 0) t)
  refine rs_loopA (α := sr_t) (N := rg_N s) (L := fun f n t' => f11_width_4 f11_width_61 f11_width_92 f (nI (wd s n)) (nI n) t') (fun n t' => wd s n < 24 ∧ fr S_bf t t') ?_ ?_ (by unfold sr_fu; omega) ⟨by show 0 < 24; omega, fr_rfl⟩
  · rintro n g t' hn ⟨q, p⟩
    have R' : rg_R t' s := rg_R_fr O p (fun k i j q => by unfold Fp_R at q; unfold S_bf; omega) R
    have h3 := R'.1.1.1
    have up := (R'.1.2 n hn).2.1
    have tl := tA_le (s := s) (a := n) (W := uB s)
    show (∃ t2, (wd s (n + 1) < 24 ∧ fr S_bf t t2) ∧ f11_width_4 f11_width_61 f11_width_92 (g + 1) (nI (wd s n)) (nI n) t' = f11_width_4 f11_width_61 f11_width_92 g (nI (wd s (n + 1))) (nI (n + 1)) t2) ∨ rs_to Q (f11_width_4 f11_width_61 f11_width_92 (g + 1) (nI (wd s n)) (nI n) t')
    have ws : wd s (n + 1) = _ := wd_s
    rw [if_neg (by omega)] at ws
    cases hu : rg_u s n with
    | false =>
      left
      rw [hu, show bI false = nI 0 from rfl] at up
      rw [hu, if_neg (by decide)] at ws
      rw [ws]
      refine ⟨t', ⟨q, p⟩, ?_⟩
      simp (disch := omega) only [pv_lt, pu_ck, pv_bI, pv_bV, pu_bR, pv_bL, pv_nt, pu_us, pu_un, mL_0, mL_1, mL_2, mL_3, mL_4, mL_5, mL_6, mL_7, mL_8, mL_9, mL_10, mL_11, mL_12, mL_13, mL_14, mL_15, mL_16, mL_23, mL_24, mL_32, mL_48, mL_64, mL_99, mL_100, mL_200, mL_336, mL_576, mL_768, mL_800, mL_999, mL_4095, mL_4096, mL_m1, nI_leI, nI_ltI, nI_eq, nI_clamp, nI_add, pk_mul, nI_nu, bI_eq0, bI_eq1, bo_ft, Bool.true_eq_false, Bool.false_eq_true, pu_of, pu_of24, pu_onward, pu_frq, if_true, if_false, true_or, or_true, false_or, or_false, and_true, true_and, and_false, false_and, not_true_eq_false, not_false_eq_true, if_neg, if_pos, f11_width_4, f11_width_86, h3, up, pu_ixN']
    | true =>
      rw [hu, show bI true = nI 1 from rfl] at up
      rw [hu, if_pos rfl] at ws
      obtain ⟨t2, e2, g2, f2⟩ := pr_spread R' O hn hu
      have R2 : rg_R t2 s := rg_R_fr O f2 (fun k i j q => by unfold Fp_R at q; unfold S_bf; omega) R'
      have e3 := pr_wrow (x2 := nI n) (K1 := f11_width_61) (K2 := f11_width_86 (f11_width_4 f11_width_61 f11_width_92 g) f11_width_61 f11_width_92) R2.1 O g2 q
      by_cases c : tA s n (uB s) = 24
      · right
        rw [if_pos c] at ws e3
        have wN := wd_24 ws (rg_N s - (n + 1))
        rw [show n + 1 + (rg_N s - (n + 1)) = rg_N s by omega] at wN
        simp (disch := omega) only [pv_lt, pu_ck, pv_bI, pv_bV, pu_bR, pv_bL, pv_nt, pu_us, pu_un, mL_0, mL_1, mL_2, mL_3, mL_4, mL_5, mL_6, mL_7, mL_8, mL_9, mL_10, mL_11, mL_12, mL_13, mL_14, mL_15, mL_16, mL_23, mL_24, mL_32, mL_48, mL_64, mL_99, mL_100, mL_200, mL_336, mL_576, mL_768, mL_800, mL_999, mL_4095, mL_4096, mL_m1, nI_leI, nI_ltI, nI_eq, nI_clamp, nI_add, pk_mul, nI_nu, bI_eq0, bI_eq1, bo_ft, Bool.true_eq_false, Bool.false_eq_true, pu_of, pu_of24, pu_onward, pu_frq, if_true, if_false, true_or, or_true, false_or, or_false, and_true, true_and, and_false, false_and, not_true_eq_false, not_false_eq_true, if_neg, if_pos, f11_width_4, h3, up, e2, e3, pu_ixN']
        simp (disch := omega) only [pv_lt, pu_ck, pv_bI, pv_bV, pu_bR, pv_bL, pv_nt, pu_us, pu_un, mL_0, mL_1, mL_2, mL_3, mL_4, mL_5, mL_6, mL_7, mL_8, mL_9, mL_10, mL_11, mL_12, mL_13, mL_14, mL_15, mL_16, mL_23, mL_24, mL_32, mL_48, mL_64, mL_99, mL_100, mL_200, mL_336, mL_576, mL_768, mL_800, mL_999, mL_4095, mL_4096, mL_m1, nI_leI, nI_ltI, nI_eq, nI_clamp, nI_add, pk_mul, nI_nu, bI_eq0, bI_eq1, bo_ft, Bool.true_eq_false, Bool.false_eq_true, pu_of, pu_of24, pu_onward, pu_frq, if_true, if_false, true_or, or_true, false_or, or_false, and_true, true_and, and_false, false_and, not_true_eq_false, not_false_eq_true, if_neg, if_pos, f11_width_61]
        rw [← wN]
        exact rs_ret (hQ _ (fr_trans p f2))
      · left
        rw [if_neg c] at ws e3
        rw [← ws] at e3
        refine ⟨t2, ⟨?_, fr_trans p f2⟩, ?_⟩
        · rw [ws]
          split <;> omega
        · simp (disch := omega) only [pv_lt, pu_ck, pv_bI, pv_bV, pu_bR, pv_bL, pv_nt, pu_us, pu_un, mL_0, mL_1, mL_2, mL_3, mL_4, mL_5, mL_6, mL_7, mL_8, mL_9, mL_10, mL_11, mL_12, mL_13, mL_14, mL_15, mL_16, mL_23, mL_24, mL_32, mL_48, mL_64, mL_99, mL_100, mL_200, mL_336, mL_576, mL_768, mL_800, mL_999, mL_4095, mL_4096, mL_m1, nI_leI, nI_ltI, nI_eq, nI_clamp, nI_add, pk_mul, nI_nu, bI_eq0, bI_eq1, bo_ft, Bool.true_eq_false, Bool.false_eq_true, pu_of, pu_of24, pu_onward, pu_frq, if_true, if_false, true_or, or_true, false_or, or_false, and_true, true_and, and_false, false_and, not_true_eq_false, not_false_eq_true, if_neg, if_pos, f11_width_4, h3, up, e2, e3, pu_ixN']
          simp (disch := omega) only [pv_lt, pu_ck, pv_bI, pv_bV, pu_bR, pv_bL, pv_nt, pu_us, pu_un, mL_0, mL_1, mL_2, mL_3, mL_4, mL_5, mL_6, mL_7, mL_8, mL_9, mL_10, mL_11, mL_12, mL_13, mL_14, mL_15, mL_16, mL_23, mL_24, mL_32, mL_48, mL_64, mL_99, mL_100, mL_200, mL_336, mL_576, mL_768, mL_800, mL_999, mL_4095, mL_4096, mL_m1, nI_leI, nI_ltI, nI_eq, nI_clamp, nI_add, pk_mul, nI_nu, bI_eq0, bI_eq1, bo_ft, Bool.true_eq_false, Bool.false_eq_true, pu_of, pu_of24, pu_onward, pu_frq, if_true, if_false, true_or, or_true, false_or, or_false, and_true, true_and, and_false, false_and, not_true_eq_false, not_false_eq_true, if_neg, if_pos, f11_width_86]
  · rintro g t' ⟨q, p⟩
    have R' : rg_R t' s := rg_R_fr O p (fun k i j q => by unfold Fp_R at q; unfold S_bf; omega) R
    have h3 := R'.1.1.1
    show rs_to Q (f11_width_4 f11_width_61 f11_width_92 (g + 1) (nI (wd s (rg_N s))) (nI (rg_N s)) t')
    simp (disch := omega) only [pv_lt, pu_ck, pv_bI, pv_bV, pu_bR, pv_bL, pv_nt, pu_us, pu_un, mL_0, mL_1, mL_2, mL_3, mL_4, mL_5, mL_6, mL_7, mL_8, mL_9, mL_10, mL_11, mL_12, mL_13, mL_14, mL_15, mL_16, mL_23, mL_24, mL_32, mL_48, mL_64, mL_99, mL_100, mL_200, mL_336, mL_576, mL_768, mL_800, mL_999, mL_4095, mL_4096, mL_m1, nI_leI, nI_ltI, nI_eq, nI_clamp, nI_add, pk_mul, nI_nu, bI_eq0, bI_eq1, bo_ft, Bool.true_eq_false, Bool.false_eq_true, pu_of, pu_of24, pu_onward, pu_frq, if_true, if_false, true_or, or_true, false_or, or_false, and_true, true_and, and_false, false_and, not_true_eq_false, not_false_eq_true, if_neg, if_pos, f11_width_4, f11_width_92, h3]
    rw [← nu_lt q]
    exact rs_ret (hQ _ p)
end
