section
/-! links of a node as bits, its load, the harm of its loss -/
def rb (f : Nat → Nat) : Nat → Int32
  | 0 => nI 0
  | n + 1 => rb f n ||| ob (f n)
theorem rb_s {f : Nat → Nat} {n : Nat} : rb f (n + 1) = rb f n ||| ob (f n) := Eq.trans (Eq.refl _) (Eq.refl _)
def lB (s : rg_T) (n : Nat) : Int32 := (rb (fun k => rg_t s n (2 + k)) (rg_t s n 1) ||| rb (fun k => rg_t s n (6 + k)) (rg_t s n 5)) &&& (ob n ^^^ nu 24)
theorem pc_bits {t : sr_t} {i m : Nat} {f : Nat → Nat} (R : rg_row t i m f) (hm : m ≤ 8) : F4_bits i t = some (.inl (some (sr_i (rb f m))), t) := by
  have a0 := R.1
  unfold F4_bits
  show f4_bits_4 i (f4_bits_29 i) sr_fu (rb f 0) (nI 0) t = _
  refine pu_for (N := m) (L := fun g n => f4_bits_4 i (f4_bits_29 i) g (rb f n) (nI n) t) ?_ ?_ (by unfold sr_fu; omega)
  · intro n g hn
    have a1 := pu_at R hm hn
    show f4_bits_4 i (f4_bits_29 i) (g + 1) (rb f n) (nI n) t = f4_bits_4 i (f4_bits_29 i) g (rb f (n + 1)) (nI (n + 1)) t
    rw [rb_s]
    simp (disch := omega) only [pv_lt, pu_ck, pv_bI, pv_bV, pu_bR, pv_bL, pv_nt, pu_us, pu_un, mL_0, mL_1, mL_2, mL_3, mL_4, mL_5, mL_6, mL_7, mL_8, mL_9, mL_10, mL_11, mL_12, mL_13, mL_14, mL_15, mL_16, mL_23, mL_24, mL_32, mL_48, mL_64, mL_99, mL_100, mL_200, mL_336, mL_576, mL_768, mL_800, mL_999, mL_4095, mL_4096, mL_m1, nI_leI, nI_ltI, nI_eq, nI_clamp, nI_add, pk_mul, nI_nu, bI_eq0, bI_eq1, bo_ft, Bool.true_eq_false, Bool.false_eq_true, pu_of, pu_of24, pu_onward, pu_frq, if_true, if_false, true_or, or_true, false_or, or_false, and_true, true_and, and_false, false_and, not_true_eq_false, not_false_eq_true, if_neg, if_pos, f4_bits_4, a0, a1, pu_bit]
  · intro g
    show f4_bits_4 i (f4_bits_29 i) (g + 1) (rb f m) (nI m) t = _
    simp (disch := omega) only [pv_lt, pu_ck, pv_bI, pv_bV, pu_bR, pv_bL, pv_nt, pu_us, pu_un, mL_0, mL_1, mL_2, mL_3, mL_4, mL_5, mL_6, mL_7, mL_8, mL_9, mL_10, mL_11, mL_12, mL_13, mL_14, mL_15, mL_16, mL_23, mL_24, mL_32, mL_48, mL_64, mL_99, mL_100, mL_200, mL_336, mL_576, mL_768, mL_800, mL_999, mL_4095, mL_4096, mL_m1, nI_leI, nI_ltI, nI_eq, nI_clamp, nI_add, pk_mul, nI_nu, bI_eq0, bI_eq1, bo_ft, Bool.true_eq_false, Bool.false_eq_true, pu_of, pu_of24, pu_onward, pu_frq, if_true, if_false, true_or, or_true, false_or, or_false, and_true, true_and, and_false, false_and, not_true_eq_false, not_false_eq_true, if_neg, if_pos, f4_bits_4, f4_bits_29, a0]
theorem pc_links {t : sr_t} {s : rg_T} {r n : Nat} (C : rg_C t r s) (O : rg_ok s) (hn : n < rg_N s) : F2_linkBits (25 * r + n) t = some (.inl (some (sr_i (lB s n))), t) := by
  have hN := O.1.1
  obtain ⟨g1, g2, g3, g4, g5, g6⟩ := O.2 n hn
  have tb := C.2 n hn
  have b1 := pc_bits tb.2.1 (by omega)
  have b2 := pc_bits tb.2.2 (by omega)
  have x0 := C.1.2.1.1 n (by omega)
  rw [nu_lt (by omega)] at x0
  unfold lB
  simp (disch := omega) only [pv_lt, pu_ck, pv_bI, pv_bV, pu_bR, pv_bL, pv_nt, pu_us, pu_un, mL_0, mL_1, mL_2, mL_3, mL_4, mL_5, mL_6, mL_7, mL_8, mL_9, mL_10, mL_11, mL_12, mL_13, mL_14, mL_15, mL_16, mL_23, mL_24, mL_32, mL_48, mL_64, mL_99, mL_100, mL_200, mL_336, mL_576, mL_768, mL_800, mL_999, mL_4095, mL_4096, mL_m1, nI_leI, nI_ltI, nI_eq, nI_clamp, nI_add, pk_mul, nI_nu, bI_eq0, bI_eq1, bo_ft, Bool.true_eq_false, Bool.false_eq_true, pu_of, pu_of24, pu_onward, pu_frq, if_true, if_false, true_or, or_true, false_or, or_false, and_true, true_and, and_false, false_and, not_true_eq_false, not_false_eq_true, if_neg, if_pos, F2_linkBits, b1, b2, x0, pu_bit]
theorem pr_links {t : sr_t} {s : rg_T} {n : Nat} (R : rg_RN t s) (O : rg_ok s) (hn : n < rg_N s) : F11_linksOf (nI n) t = some (.inl (some (sr_i (lB s n))), t) := by
  have hN := O.1.1
  obtain ⟨g1, g2, g3, g4, g5, g6⟩ := O.2 n hn
  have t1 := pu_tb1 R O hn
  have t5 := pu_tb5 R O hn
  have e1 : f11_linksOf_4 (nI n) (f11_linksOf_33 (nI n)) sr_fu (rb (fun k => rg_t s n (2 + k)) 0) (nI 0) t = f11_linksOf_35 (nI n) (f11_linksOf_65 (nI n)) sr_fu (rb (fun k => rg_t s n (2 + k)) (rg_t s n 1)) (nI 0) t := by
    refine pu_for (N := rg_t s n 1) (L := fun g k => f11_linksOf_4 (nI n) (f11_linksOf_33 (nI n)) g (rb (fun k => rg_t s n (2 + k)) k) (nI k) t) ?_ ?_ (by unfold sr_fu; omega)
    · intro k g hk
      have t2 := pu_tb2 R O hn hk
      show f11_linksOf_4 (nI n) (f11_linksOf_33 (nI n)) (g + 1) (rb (fun k => rg_t s n (2 + k)) k) (nI k) t = f11_linksOf_4 (nI n) (f11_linksOf_33 (nI n)) g (rb (fun k => rg_t s n (2 + k)) (k + 1)) (nI (k + 1)) t
      rw [rb_s]
      simp (disch := omega) only [pv_lt, pu_ck, pv_bI, pv_bV, pu_bR, pv_bL, pv_nt, pu_us, pu_un, mL_0, mL_1, mL_2, mL_3, mL_4, mL_5, mL_6, mL_7, mL_8, mL_9, mL_10, mL_11, mL_12, mL_13, mL_14, mL_15, mL_16, mL_23, mL_24, mL_32, mL_48, mL_64, mL_99, mL_100, mL_200, mL_336, mL_576, mL_768, mL_800, mL_999, mL_4095, mL_4096, mL_m1, nI_leI, nI_ltI, nI_eq, nI_clamp, nI_add, pk_mul, nI_nu, bI_eq0, bI_eq1, bo_ft, Bool.true_eq_false, Bool.false_eq_true, pu_of, pu_of24, pu_onward, pu_frq, if_true, if_false, true_or, or_true, false_or, or_false, and_true, true_and, and_false, false_and, not_true_eq_false, not_false_eq_true, if_neg, if_pos, f11_linksOf_4, t1, t2, ob_f]
    · intro g
      show f11_linksOf_4 (nI n) (f11_linksOf_33 (nI n)) (g + 1) (rb (fun k => rg_t s n (2 + k)) (rg_t s n 1)) (nI (rg_t s n 1)) t = _
      simp (disch := omega) only [pv_lt, pu_ck, pv_bI, pv_bV, pu_bR, pv_bL, pv_nt, pu_us, pu_un, mL_0, mL_1, mL_2, mL_3, mL_4, mL_5, mL_6, mL_7, mL_8, mL_9, mL_10, mL_11, mL_12, mL_13, mL_14, mL_15, mL_16, mL_23, mL_24, mL_32, mL_48, mL_64, mL_99, mL_100, mL_200, mL_336, mL_576, mL_768, mL_800, mL_999, mL_4095, mL_4096, mL_m1, nI_leI, nI_ltI, nI_eq, nI_clamp, nI_add, pk_mul, nI_nu, bI_eq0, bI_eq1, bo_ft, Bool.true_eq_false, Bool.false_eq_true, pu_of, pu_of24, pu_onward, pu_frq, if_true, if_false, true_or, or_true, false_or, or_false, and_true, true_and, and_false, false_and, not_true_eq_false, not_false_eq_true, if_neg, if_pos, f11_linksOf_4, f11_linksOf_33, t1]
  have e2 : ∀ X : Int32, f11_linksOf_35 (nI n) (f11_linksOf_65 (nI n)) sr_fu X (nI 0) t = f11_linksOf_65 (nI n) (X ||| rb (fun k => rg_t s n (6 + k)) (rg_t s n 5)) t := by
    intro X
    have : f11_linksOf_35 (nI n) (f11_linksOf_65 (nI n)) sr_fu (X ||| rb (fun k => rg_t s n (6 + k)) 0) (nI 0) t = f11_linksOf_65 (nI n) (X ||| rb (fun k => rg_t s n (6 + k)) (rg_t s n 5)) t := by
      refine pu_for (N := rg_t s n 5) (L := fun g k => f11_linksOf_35 (nI n) (f11_linksOf_65 (nI n)) g (X ||| rb (fun k => rg_t s n (6 + k)) k) (nI k) t) ?_ ?_ (by unfold sr_fu; omega)
      · intro k g hk
        have t6 := pu_tb6 R O hn hk
        show f11_linksOf_35 (nI n) (f11_linksOf_65 (nI n)) (g + 1) (X ||| rb (fun k => rg_t s n (6 + k)) k) (nI k) t = f11_linksOf_35 (nI n) (f11_linksOf_65 (nI n)) g (X ||| rb (fun k => rg_t s n (6 + k)) (k + 1)) (nI (k + 1)) t
        rw [rb_s, ← Int32.or_assoc]
        simp (disch := omega) only [pv_lt, pu_ck, pv_bI, pv_bV, pu_bR, pv_bL, pv_nt, pu_us, pu_un, mL_0, mL_1, mL_2, mL_3, mL_4, mL_5, mL_6, mL_7, mL_8, mL_9, mL_10, mL_11, mL_12, mL_13, mL_14, mL_15, mL_16, mL_23, mL_24, mL_32, mL_48, mL_64, mL_99, mL_100, mL_200, mL_336, mL_576, mL_768, mL_800, mL_999, mL_4095, mL_4096, mL_m1, nI_leI, nI_ltI, nI_eq, nI_clamp, nI_add, pk_mul, nI_nu, bI_eq0, bI_eq1, bo_ft, Bool.true_eq_false, Bool.false_eq_true, pu_of, pu_of24, pu_onward, pu_frq, if_true, if_false, true_or, or_true, false_or, or_false, and_true, true_and, and_false, false_and, not_true_eq_false, not_false_eq_true, if_neg, if_pos, f11_linksOf_35, t5, t6, ob_f]
      · intro g
        show f11_linksOf_35 (nI n) (f11_linksOf_65 (nI n)) (g + 1) (X ||| rb (fun k => rg_t s n (6 + k)) (rg_t s n 5)) (nI (rg_t s n 5)) t = _
        simp (disch := omega) only [pv_lt, pu_ck, pv_bI, pv_bV, pu_bR, pv_bL, pv_nt, pu_us, pu_un, mL_0, mL_1, mL_2, mL_3, mL_4, mL_5, mL_6, mL_7, mL_8, mL_9, mL_10, mL_11, mL_12, mL_13, mL_14, mL_15, mL_16, mL_23, mL_24, mL_32, mL_48, mL_64, mL_99, mL_100, mL_200, mL_336, mL_576, mL_768, mL_800, mL_999, mL_4095, mL_4096, mL_m1, nI_leI, nI_ltI, nI_eq, nI_clamp, nI_add, pk_mul, nI_nu, bI_eq0, bI_eq1, bo_ft, Bool.true_eq_false, Bool.false_eq_true, pu_of, pu_of24, pu_onward, pu_frq, if_true, if_false, true_or, or_true, false_or, or_false, and_true, true_and, and_false, false_and, not_true_eq_false, not_false_eq_true, if_neg, if_pos, f11_linksOf_35, t5]
    have z : X ||| rb (fun k => rg_t s n (6 + k)) 0 = X := Int32.or_zero
    rw [z] at this
    exact this
  unfold F11_linksOf
  refine (e1.trans (e2 _)).trans ?_
  unfold lB
  simp (disch := omega) only [pv_lt, pu_ck, pv_bI, pv_bV, pu_bR, pv_bL, pv_nt, pu_us, pu_un, mL_0, mL_1, mL_2, mL_3, mL_4, mL_5, mL_6, mL_7, mL_8, mL_9, mL_10, mL_11, mL_12, mL_13, mL_14, mL_15, mL_16, mL_23, mL_24, mL_32, mL_48, mL_64, mL_99, mL_100, mL_200, mL_336, mL_576, mL_768, mL_800, mL_999, mL_4095, mL_4096, mL_m1, nI_leI, nI_ltI, nI_eq, nI_clamp, nI_add, pk_mul, nI_nu, bI_eq0, bI_eq1, bo_ft, Bool.true_eq_false, Bool.false_eq_true, pu_of, pu_of24, pu_onward, pu_frq, if_true, if_false, true_or, or_true, false_or, or_false, and_true, true_and, and_false, false_and, not_true_eq_false, not_false_eq_true, if_neg, if_pos, f11_linksOf_65, ob_f]
theorem pc_linked {t : sr_t} {s : rg_T} {r n : Nat} (C : rg_C t r s) (O : rg_ok s) (hr : r < 2) (hn : n < 24) : F3_bitsOfThoseLinkedTo r (nI n) t = some (.inl (some (sr_i (pb (fun x => bs (lB s x) n) (rg_N s)))), t) := by
  have hN := O.1.1
  have h3 := C.1.1.1
  unfold F3_bitsOfThoseLinkedTo
  show f3_bitsOfThoseLinkedTo_4 r (nI n) (f3_bitsOfThoseLinkedTo_40 r (nI n)) sr_fu (pb (fun x => bs (lB s x) n) 0) (nI 0) t = _
  refine pu_for (N := rg_N s) (L := fun g x => f3_bitsOfThoseLinkedTo_4 r (nI n) (f3_bitsOfThoseLinkedTo_40 r (nI n)) g (pb (fun x => bs (lB s x) n) x) (nI x) t) ?_ ?_ (by unfold sr_fu; omega)
  · intro x g hx
    have e1 := pc_links C O hx
    have hb := pu_hasBit (t := t) (x := lB s x) (k := n) (by omega)
    show f3_bitsOfThoseLinkedTo_4 r (nI n) (f3_bitsOfThoseLinkedTo_40 r (nI n)) (g + 1) (pb (fun x => bs (lB s x) n) x) (nI x) t = f3_bitsOfThoseLinkedTo_4 r (nI n) (f3_bitsOfThoseLinkedTo_40 r (nI n)) g (pb (fun x => bs (lB s x) n) (x + 1)) (nI (x + 1)) t
    rw [pb_s]
    cases hbs : bs (lB s x) n with
    | false =>
      rw [hbs, show bI false = nI 0 from rfl] at hb
      rw [if_neg (by decide)]
      simp (disch := omega) only [pv_lt, pu_ck, pv_bI, pv_bV, pu_bR, pv_bL, pv_nt, pu_us, pu_un, mL_0, mL_1, mL_2, mL_3, mL_4, mL_5, mL_6, mL_7, mL_8, mL_9, mL_10, mL_11, mL_12, mL_13, mL_14, mL_15, mL_16, mL_23, mL_24, mL_32, mL_48, mL_64, mL_99, mL_100, mL_200, mL_336, mL_576, mL_768, mL_800, mL_999, mL_4095, mL_4096, mL_m1, nI_leI, nI_ltI, nI_eq, nI_clamp, nI_add, pk_mul, nI_nu, bI_eq0, bI_eq1, bo_ft, Bool.true_eq_false, Bool.false_eq_true, pu_of, pu_of24, pu_onward, pu_frq, if_true, if_false, true_or, or_true, false_or, or_false, and_true, true_and, and_false, false_and, not_true_eq_false, not_false_eq_true, if_neg, if_pos, f3_bitsOfThoseLinkedTo_4, f3_bitsOfThoseLinkedTo_34, h3, e1, hb]
    | true =>
      rw [hbs, show bI true = nI 1 from rfl] at hb
      rw [if_pos rfl]
      simp (disch := omega) only [pv_lt, pu_ck, pv_bI, pv_bV, pu_bR, pv_bL, pv_nt, pu_us, pu_un, mL_0, mL_1, mL_2, mL_3, mL_4, mL_5, mL_6, mL_7, mL_8, mL_9, mL_10, mL_11, mL_12, mL_13, mL_14, mL_15, mL_16, mL_23, mL_24, mL_32, mL_48, mL_64, mL_99, mL_100, mL_200, mL_336, mL_576, mL_768, mL_800, mL_999, mL_4095, mL_4096, mL_m1, nI_leI, nI_ltI, nI_eq, nI_clamp, nI_add, pk_mul, nI_nu, bI_eq0, bI_eq1, bo_ft, Bool.true_eq_false, Bool.false_eq_true, pu_of, pu_of24, pu_onward, pu_frq, if_true, if_false, true_or, or_true, false_or, or_false, and_true, true_and, and_false, false_and, not_true_eq_false, not_false_eq_true, if_neg, if_pos, f3_bitsOfThoseLinkedTo_4, f3_bitsOfThoseLinkedTo_34, h3, e1, hb, pu_bit]
  · intro g
    show f3_bitsOfThoseLinkedTo_4 r (nI n) (f3_bitsOfThoseLinkedTo_40 r (nI n)) (g + 1) (pb (fun x => bs (lB s x) n) (rg_N s)) (nI (rg_N s)) t = _
    simp (disch := omega) only [pv_lt, pu_ck, pv_bI, pv_bV, pu_bR, pv_bL, pv_nt, pu_us, pu_un, mL_0, mL_1, mL_2, mL_3, mL_4, mL_5, mL_6, mL_7, mL_8, mL_9, mL_10, mL_11, mL_12, mL_13, mL_14, mL_15, mL_16, mL_23, mL_24, mL_32, mL_48, mL_64, mL_99, mL_100, mL_200, mL_336, mL_576, mL_768, mL_800, mL_999, mL_4095, mL_4096, mL_m1, nI_leI, nI_ltI, nI_eq, nI_clamp, nI_add, pk_mul, nI_nu, bI_eq0, bI_eq1, bo_ft, Bool.true_eq_false, Bool.false_eq_true, pu_of, pu_of24, pu_onward, pu_frq, if_true, if_false, true_or, or_true, false_or, or_false, and_true, true_and, and_false, false_and, not_true_eq_false, not_false_eq_true, if_neg, if_pos, f3_bitsOfThoseLinkedTo_4, f3_bitsOfThoseLinkedTo_40, h3]
theorem pr_linked {t : sr_t} {s : rg_T} {n : Nat} (R : rg_R t s) (O : rg_ok s) (hn : n < 24) : F11_linkedBy (nI n) t = some (.inl (some (sr_i (pb (fun x => bs (lB s x) n) (rg_N s)))), t) := by
  have hN := O.1.1
  have h3 := R.1.1.1
  unfold F11_linkedBy
  show f11_linkedBy_4 (nI n) (f11_linkedBy_32 (nI n)) sr_fu (pb (fun x => bs (lB s x) n) 0) (nI 0) t = _
  refine pu_for (N := rg_N s) (L := fun g x => f11_linkedBy_4 (nI n) (f11_linkedBy_32 (nI n)) g (pb (fun x => bs (lB s x) n) x) (nI x) t) ?_ ?_ (by unfold sr_fu; omega)
  · intro x g hx
    have e1 := pr_links (rg_RN_of R O) O hx
    have hb := bs_shr (x := lB s x) (k := n) (by omega)
    show f11_linkedBy_4 (nI n) (f11_linkedBy_32 (nI n)) (g + 1) (pb (fun x => bs (lB s x) n) x) (nI x) t = f11_linkedBy_4 (nI n) (f11_linkedBy_32 (nI n)) g (pb (fun x => bs (lB s x) n) (x + 1)) (nI (x + 1)) t
    rw [pb_s]
    cases hbs : bs (lB s x) n with
    | false =>
      rw [hbs, show bI false = nI 0 from rfl] at hb
      rw [if_neg (by decide)]
      have z : pb (fun x => bs (lB s x) n) x ||| nI 0 <<< (nI x &&& 31) = pb (fun x => bs (lB s x) n) x := by
        have : nI 0 <<< (nI x &&& 31) = nI 0 := Int32.zero_shiftLeft
        rw [this]
        exact Int32.or_zero
      simp (disch := omega) only [pv_lt, pu_ck, pv_bI, pv_bV, pu_bR, pv_bL, pv_nt, pu_us, pu_un, mL_0, mL_1, mL_2, mL_3, mL_4, mL_5, mL_6, mL_7, mL_8, mL_9, mL_10, mL_11, mL_12, mL_13, mL_14, mL_15, mL_16, mL_23, mL_24, mL_32, mL_48, mL_64, mL_99, mL_100, mL_200, mL_336, mL_576, mL_768, mL_800, mL_999, mL_4095, mL_4096, mL_m1, nI_leI, nI_ltI, nI_eq, nI_clamp, nI_add, pk_mul, nI_nu, bI_eq0, bI_eq1, bo_ft, Bool.true_eq_false, Bool.false_eq_true, pu_of, pu_of24, pu_onward, pu_frq, if_true, if_false, true_or, or_true, false_or, or_false, and_true, true_and, and_false, false_and, not_true_eq_false, not_false_eq_true, if_neg, if_pos, f11_linkedBy_4, h3, e1, hb, z]
    | true =>
      rw [hbs, show bI true = nI 1 from rfl] at hb
      rw [if_pos rfl]
      simp (disch := omega) only [pv_lt, pu_ck, pv_bI, pv_bV, pu_bR, pv_bL, pv_nt, pu_us, pu_un, mL_0, mL_1, mL_2, mL_3, mL_4, mL_5, mL_6, mL_7, mL_8, mL_9, mL_10, mL_11, mL_12, mL_13, mL_14, mL_15, mL_16, mL_23, mL_24, mL_32, mL_48, mL_64, mL_99, mL_100, mL_200, mL_336, mL_576, mL_768, mL_800, mL_999, mL_4095, mL_4096, mL_m1, nI_leI, nI_ltI, nI_eq, nI_clamp, nI_add, pk_mul, nI_nu, bI_eq0, bI_eq1, bo_ft, Bool.true_eq_false, Bool.false_eq_true, pu_of, pu_of24, pu_onward, pu_frq, if_true, if_false, true_or, or_true, false_or, or_false, and_true, true_and, and_false, false_and, not_true_eq_false, not_false_eq_true, if_neg, if_pos, f11_linkedBy_4, h3, e1, hb, ob_f]
  · intro g
    show f11_linkedBy_4 (nI n) (f11_linkedBy_32 (nI n)) (g + 1) (pb (fun x => bs (lB s x) n) (rg_N s)) (nI (rg_N s)) t = _
    simp (disch := omega) only [pv_lt, pu_ck, pv_bI, pv_bV, pu_bR, pv_bL, pv_nt, pu_us, pu_un, mL_0, mL_1, mL_2, mL_3, mL_4, mL_5, mL_6, mL_7, mL_8, mL_9, mL_10, mL_11, mL_12, mL_13, mL_14, mL_15, mL_16, mL_23, mL_24, mL_32, mL_48, mL_64, mL_99, mL_100, mL_200, mL_336, mL_576, mL_768, mL_800, mL_999, mL_4095, mL_4096, mL_m1, nI_leI, nI_ltI, nI_eq, nI_clamp, nI_add, pk_mul, nI_nu, bI_eq0, bI_eq1, bo_ft, Bool.true_eq_false, Bool.false_eq_true, pu_of, pu_of24, pu_onward, pu_frq, if_true, if_false, true_or, or_true, false_or, or_false, and_true, true_and, and_false, false_and, not_true_eq_false, not_false_eq_true, if_neg, if_pos, f11_linkedBy_4, f11_linkedBy_32, h3]
theorem ld_eq {s : rg_T} {n : Nat} (O : rg_okB s) (hn : n < rg_N s) (hu : rg_u s n = true) : rg_ld s n = rg_ldR s n := by
  have hN := O.1
  have hp := O.2.2.2.1
  have pn := hp n hn
  have key : ∀ x, x < rg_N s → x ≠ n → pu_d (rg_p s x) ((rg_p s n + 4095) % 4096) + 1 = pu_d (rg_p s x) (rg_p s n) := by
    intro x hx hne
    have px := hp x hx
    have ne : rg_p s x ≠ rg_p s n := fun e => hne (O.2.2.2.2.1 x n hx hn e)
    unfold pu_d
    omega
  have self : pu_d (rg_p s n) ((rg_p s n + 4095) % 4096) = 4095 := by
    unfold pu_d
    omega
  have dl : ∀ a b, pu_d a b < 4096 := fun a b => by unfold pu_d; omega
  unfold rg_ld rg_ldR
  rcases am_cases (D := fun x => pu_d (rg_p s x) (rg_p s n)) (u := fun x => rg_u s x && x != n) (rg_N s) hN with ⟨h1, h2⟩ | ⟨h1, h2, h3⟩
  · have e1 : rg_bk s n = 24 := h1
    rw [if_pos e1]
    rcases am_cases (D := fun x => pu_d (rg_p s x) ((rg_p s n + 4095) % 4096)) (u := rg_u s) (rg_N s) hN with ⟨k1, k2⟩ | ⟨k1, k2, k3⟩
    · exact absurd (k2 n hn) (by rw [hu]; decide)
    · have : rg_lb s ((rg_p s n + 4095) % 4096) = n := by
        apply Decidable.byContradiction
        intro q
        have := h2 _ k1
        rw [k2] at this
        have q' : ¬ am (fun x => pu_d (rg_p s x) ((rg_p s n + 4095) % 4096)) (rg_u s) (rg_N s) = n := q
        simp [q'] at this
      rw [if_pos this]
  · have hb : rg_bk s n < rg_N s := h1
    rw [if_neg (show ¬ rg_bk s n = 24 by omega)]
    simp only [Bool.and_eq_true, bne_iff_ne] at h2
    obtain ⟨h2a, h2b⟩ := h2
    rcases am_cases (D := fun x => pu_d (rg_p s x) ((rg_p s n + 4095) % 4096)) (u := rg_u s) (rg_N s) hN with ⟨k1, k2⟩ | ⟨k1, k2, k3⟩
    · exact absurd (k2 n hn) (by rw [hu]; decide)
    · have c1 := k3 _ h1 h2a
      have c2 := key _ h1 h2b
      have c3 := dl (rg_p s (am (fun x => pu_d (rg_p s x) (rg_p s n)) (fun x => rg_u s x && x != n) (rg_N s))) (rg_p s n)
      have ne : ¬ rg_lb s ((rg_p s n + 4095) % 4096) = n := fun q => by
        have q' : am (fun x => pu_d (rg_p s x) ((rg_p s n + 4095) % 4096)) (rg_u s) (rg_N s) = n := q
        simp only [q', self] at c1
        omega
      rw [if_neg ne]
      have c4 := h3 _ k1 (by
        have q' : am (fun x => pu_d (rg_p s x) ((rg_p s n + 4095) % 4096)) (rg_u s) (rg_N s) ≠ n := ne
        simp [k2, q'])
      have c5 := key _ k1 ne
      have c1' : pu_d (rg_p s (rg_lb s ((rg_p s n + 4095) % 4096))) ((rg_p s n + 4095) % 4096) ≤ pu_d (rg_p s (rg_bk s n)) ((rg_p s n + 4095) % 4096) := c1
      have c2' : pu_d (rg_p s (rg_bk s n)) ((rg_p s n + 4095) % 4096) + 1 = pu_d (rg_p s (rg_bk s n)) (rg_p s n) := c2
      have c4' : pu_d (rg_p s (rg_bk s n)) (rg_p s n) ≤ pu_d (rg_p s (rg_lb s ((rg_p s n + 4095) % 4096))) (rg_p s n) := c4
      have c5' : pu_d (rg_p s (rg_lb s ((rg_p s n + 4095) % 4096))) ((rg_p s n + 4095) % 4096) + 1 = pu_d (rg_p s (rg_lb s ((rg_p s n + 4095) % 4096))) (rg_p s n) := c5
      omega
def hm (s : rg_T) (n : Nat) : Nat := sS (rg_su s n false) (fW (rg_su s n false) true) (64 * rg_N s)
theorem pc_harm {i n : Nat} {t : sr_t} {s : rg_T} {w : st_T} (X : J i t s w) (hn : n < rg_N s) : ∃ t1, F1_harmOf 0 (nI n) t = some (.inl (some (sr_i (nI (hm s n)))), t1) ∧ fr Sc t t1 := by
  have O := X.1
  have hN := O.1.1
  obtain ⟨t1, e1, c1, k1, f1⟩ := pc_copy X
  obtain ⟨t2, e2, c2, k2, f2⟩ := pu_takeDown c1 O (by omega) hn
  obtain ⟨t3, e3, I3, _, f3⟩ := pc_run (best := true) (tr := false) c2 k2 (rg_ok_su O) (by omega)
  have e3' : F5_run 1 (nI 1) (nI 0) t2 = some (.inl none, t3) := e3
  have z : t3.1 5 0 7 = nI (hm s n) := I3.2.2.2.2.1
  refine ⟨t3, ?_, fr_trans (fr_mono f1 (fun k i j q => S_tr_Sc q)) (fr_trans (fr_mono f2 (fun k i j q => ?_)) (fr_mono f3 (fun k i j q => by unfold S_sa at q; unfold Sc; omega)))⟩
  · simp (disch := omega) only [pv_lt, pu_ck, pv_bI, pv_bV, pu_bR, pv_bL, pv_nt, pu_us, pu_un, mL_0, mL_1, mL_2, mL_3, mL_4, mL_5, mL_6, mL_7, mL_8, mL_9, mL_10, mL_11, mL_12, mL_13, mL_14, mL_15, mL_16, mL_23, mL_24, mL_32, mL_48, mL_64, mL_99, mL_100, mL_200, mL_336, mL_576, mL_768, mL_800, mL_999, mL_4095, mL_4096, mL_m1, nI_leI, nI_ltI, nI_eq, nI_clamp, nI_add, pk_mul, nI_nu, bI_eq0, bI_eq1, bo_ft, Bool.true_eq_false, Bool.false_eq_true, pu_of, pu_of24, pu_onward, pu_frq, if_true, if_false, true_or, or_true, false_or, or_false, and_true, true_and, and_false, false_and, not_true_eq_false, not_false_eq_true, if_neg, if_pos, F1_harmOf, e1, e2, e3', z]
  · unfold S_td Fp_K at q
    unfold Sc
    omega
theorem pr_harm {i n : Nat} {t : sr_t} {s : rg_T} {w : st_T} (X : J i t s w) (hn : n < rg_N s) (hu : rg_u s n = true) : ∃ t1, F11_harmOf (nI n) t = some (.inl (some (sr_i (nI (hm s n)))), t1) ∧ fr Sr0 t t1 := by
  obtain ⟨O, C, K, nb, sp, R, kp, L, W⟩ := X
  have hN := O.1.1
  have u25 := (R.1.2 n hn).2.1
  rw [hu] at u25
  have R1 : rg_R (sr_u t 25 0 n (nI 0)) (rg_su s n false) := by
    have q := rg_R_su (m := n) (b := false) (v := t.1 11 0 0) R
    refine rg_R_fI (S := fun _ _ _ => False) (t := sr_u (sr_u t 11 0 0 (t.1 11 0 0)) 25 0 n (bI false)) O (fun k i j _ => ?_) (fun _ _ _ _ h => h) q
    rw [pu_ur, pu_ur, pu_ur]
    split
    · rfl
    · split
      · rename_i h
        rw [h.1, h.2.1, h.2.2]
      · rfl
  have k1 : (sr_u t 25 0 n (nI 0)).1 11 0 22 = nI 0 := by rw [pu_un (by omega)]; exact kp
  obtain ⟨t2, e2, I2, f2⟩ := pr_samples (best := true) (rg_RN_of R1 (rg_ok_su O)) (rg_ok_su O) k1
  have e2' : F11_samples (nI 1) (sr_u t 25 0 n (nI 0)) = some (.inl none, t2) := e2
  have z : t2.1 11 0 44 = nI (hm s n) := I2.1.2.2.2.2.1
  refine ⟨sr_u t2 25 0 n (nI 1), ?_, f2.1, fun k i j q => ?_⟩
  · simp (disch := omega) only [pv_lt, pu_ck, pv_bI, pv_bV, pu_bR, pv_bL, pv_nt, pu_us, pu_un, mL_0, mL_1, mL_2, mL_3, mL_4, mL_5, mL_6, mL_7, mL_8, mL_9, mL_10, mL_11, mL_12, mL_13, mL_14, mL_15, mL_16, mL_23, mL_24, mL_32, mL_48, mL_64, mL_99, mL_100, mL_200, mL_336, mL_576, mL_768, mL_800, mL_999, mL_4095, mL_4096, mL_m1, nI_leI, nI_ltI, nI_eq, nI_clamp, nI_add, pk_mul, nI_nu, bI_eq0, bI_eq1, bo_ft, Bool.true_eq_false, Bool.false_eq_true, pu_of, pu_of24, pu_onward, pu_frq, if_true, if_false, true_or, or_true, false_or, or_false, and_true, true_and, and_false, false_and, not_true_eq_false, not_false_eq_true, if_neg, if_pos, F11_harmOf, e2', z, pu_ixN']
  · by_cases c : k = 25 ∧ i = 0 ∧ j = n
    · obtain ⟨rfl, rfl, rfl⟩ := c
      rw [pu_us, u25]
      rfl
    · rw [pu_un c, f2.2 _ _ _ (fun e => q (by unfold S_sr' at e; unfold Sr0; omega)), pu_un c]
end
