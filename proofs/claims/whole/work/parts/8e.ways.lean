section
/-! the class: a way found, and turned -/
theorem cu_lt {u v : Nat → Bool} {m : Nat} : ∀ N : Nat, m < N → u m = false → v m = true → (∀ n, n < N → u n = true → v n = true) → rg_cu u N + 1 ≤ rg_cu v N := by
  intro N
  induction N with
  | zero => intro h; omega
  | succ N ih =>
    intro hm hu hv h
    rw [rg_cu_s, rg_cu_s]
    by_cases e : m = N
    · subst e
      have := cu_mono (u := u) (v := v) m (fun n hn => h n (by omega))
      rw [hu, hv]
      simp
      omega
    · have i := ih (by omega) hu hv (fun n hn => h n (by omega))
      cases hN : u N with
      | true => rw [h N (by omega) hN]; omega
      | false =>
        cases v N <;> simp <;> omega
/-- those come to: all of seen but the edge are through -/
def fy_I (t : sr_t) (a : Nat) (k : Nat) (z : Int64 × Int64 × sr_t) : Prop := fr S_19 t z.2.2 ∧ bl z.1 a = true ∧ (∀ v, v < 64 → bl z.1 v = true → v < 48) ∧ (∀ v, v < 64 → bl z.2.1 v = true → bl z.1 v = true) ∧ (∀ u, u < 48 → bl z.1 u = true → bl z.2.1 u = false → ∀ v, v < 64 → bl (t.2 18 0 u) v = true → bl z.1 v = true) ∧ (z.2.1 ≠ 0 → k + 1 ≤ rg_cu (bl z.1) 48) ∧ ∃ d : Nat → Nat, ∀ v, v < 48 → bl z.1 v = true → d v ≤ k ∧ (v ≠ a → ∃ u, u < 48 ∧ z.2.2.1 19 0 v = nI u ∧ bl z.1 u = true ∧ d u < d v ∧ bl (t.2 18 0 u) v = true)
theorem fy_step {t t' t2 : sr_t} {a k : Nat} {Y E B : Int64} (hi : ∀ u v, u < 48 → v < 64 → bl (t.2 18 0 u) v = true → v < 48) (I : fy_I t a k (Y, E, t')) (ha : a < 48) (b1 : ∀ v, v < 64 → (bl B v = true ↔ bl Y v = false ∧ ∃ u, u < 48 ∧ bl E u = true ∧ bl (t.2 18 0 u) v = true)) (b2 : ∀ v, v < 48 → bl B v = true → ∃ u, u < 48 ∧ bl E u = true ∧ bl (t.2 18 0 u) v = true ∧ t2.1 19 0 v = nI u) (b3 : ∀ v, v < 48 → bl B v = false → t2.1 19 0 v = t'.1 19 0 v) (f2 : fr S_19 t' t2) (hE : E ≠ 0) : fy_I t a (k + 1) (Y ||| B, B, t2) := by
  obtain ⟨i1, i2, i3, i4, i5, i6, d, i7⟩ := I
  have i2 : bl Y a = true := i2
  have i3 : ∀ v, v < 64 → bl Y v = true → v < 48 := i3
  have i4 : ∀ v, v < 64 → bl E v = true → bl Y v = true := i4
  have i5 : ∀ u, u < 48 → bl Y u = true → bl E u = false → ∀ v, v < 64 → bl (t.2 18 0 u) v = true → bl Y v = true := i5
  have i6 : k + 1 ≤ rg_cu (bl Y) 48 := i6 hE
  have i7 : ∀ v, v < 48 → bl Y v = true → d v ≤ k ∧ (v ≠ a → ∃ u, u < 48 ∧ t'.1 19 0 v = nI u ∧ bl Y u = true ∧ d u < d v ∧ bl (t.2 18 0 u) v = true) := i7
  have or1 : ∀ v, bl (Y ||| B) v = (bl Y v || bl B v) := fun v => bl_or
  have orY : ∀ v, bl Y v = true → bl (Y ||| B) v = true := fun v h => by rw [or1, h]; rfl
  have nB : ∀ v, v < 64 → bl Y v = true → bl B v = false := fun v hv h => by
    cases hb : bl B v with
    | false => rfl
    | true => rw [((b1 v hv).mp hb).1] at h; exact absurd h (by decide)
  refine ⟨fr_trans i1 f2, orY a i2, fun v hv h => ?_, fun v hv h => ?_, fun u hu h1 h2 v hv h3 => ?_, fun hB => ?_, fun v => if bl B v = true then k + 1 else d v, fun v hv h => ?_⟩
  · have h : bl (Y ||| B) v = true := h
    rw [or1, Bool.or_eq_true] at h
    rcases h with h | h
    · exact i3 v hv h
    · obtain ⟨_, u, u1, _, u3⟩ := (b1 v hv).mp h
      exact hi u v u1 hv u3
  · have h : bl B v = true := h
    show bl (Y ||| B) v = true
    rw [or1, h, Bool.or_true]
  · have h1 : bl (Y ||| B) u = true := h1
    have h2 : bl B u = false := h2
    show bl (Y ||| B) v = true
    rw [or1, h2, Bool.or_false] at h1
    cases hEu : bl E u with
    | false => exact orY v (i5 u hu h1 hEu v hv h3)
    | true =>
      cases hYv : bl Y v with
      | true => exact orY v hYv
      | false =>
        rw [or1, (b1 v hv).mpr ⟨hYv, u, hu, hEu, h3⟩, Bool.or_true]
  · have hB : B ≠ 0 := hB
    show k + 1 + 1 ≤ rg_cu (bl (Y ||| B)) 48
    have ex : ∃ m, m < 64 ∧ bl B m = true := by
      apply Decidable.byContradiction
      intro q
      refine hB (bl_ext (fun m hm => ?_))
      rw [bl_0]
      cases hb : bl B m with
      | false => rfl
      | true => exact absurd ⟨m, hm, hb⟩ q
    obtain ⟨m, m1, m2⟩ := ex
    obtain ⟨m3, u, u1, _, u3⟩ := (b1 m m1).mp m2
    have := cu_lt (u := bl Y) (v := bl (Y ||| B)) (m := m) 48 (hi u m u1 m1 u3) m3 (by rw [or1, m2, Bool.or_true]) (fun n _ h => orY n h)
    omega
  · have h : bl (Y ||| B) v = true := h
    show (if bl B v = true then k + 1 else d v) ≤ k + 1 ∧ (v ≠ a → ∃ u, u < 48 ∧ t2.1 19 0 v = nI u ∧ bl (Y ||| B) u = true ∧ (if bl B u = true then k + 1 else d u) < (if bl B v = true then k + 1 else d v) ∧ bl (t.2 18 0 u) v = true)
    by_cases hb : bl B v = true
    · rw [if_pos hb]
      refine ⟨Nat.le_refl _, fun _ => ?_⟩
      obtain ⟨u, u1, u2, u3, u4⟩ := b2 v hv hb
      have yu := i4 u (by omega) u2
      refine ⟨u, u1, u4, orY u yu, ?_, u3⟩
      rw [if_neg (by rw [nB u (by omega) yu]; decide)]
      have := (i7 u u1 yu).1
      omega
    · rw [if_neg hb]
      have hb' : bl B v = false := by simpa using hb
      rw [or1, hb', Bool.or_false] at h
      obtain ⟨j1, j2⟩ := i7 v hv h
      refine ⟨by omega, fun hne => ?_⟩
      obtain ⟨u, u1, u2, u3, u4, u5⟩ := j2 hne
      refine ⟨u, u1, by rw [b3 v hv hb']; exact u2, orY u u3, ?_, u5⟩
      rw [if_neg (by rw [nB u (by omega) u3]; decide)]
      exact u4
/-- no way: all that is come to is closed; a way: whence one comes -/
def fy_R (t t' : sr_t) (a b : Nat) (x : Bool) : Prop := fr S_19 t t' ∧ (x = false → ∃ S : Nat → Bool, S a = true ∧ S b = false ∧ ∀ u v, u < 48 → v < 48 → S u = true → bl (t.2 18 0 u) v = true → S v = true) ∧ (x = true → ∃ (V : Nat → Bool) (p d : Nat → Nat), V b = true ∧ d b ≤ 48 ∧ ∀ v, v < 48 → V v = true → v ≠ a → p v < 48 ∧ V (p v) = true ∧ d (p v) < d v ∧ bl (t.2 18 0 (p v)) v = true ∧ t'.1 19 0 v = nI (p v))
theorem fy_end {t t' : sr_t} {a b k : Nat} {Y E : Int64} (I : fy_I t a k (Y, E, t')) (hk : k ≤ 48) (hb : b < 48) (h : bl Y b = false → E = 0) : fy_R t t' a b (bl Y b) := by
  obtain ⟨i1, i2, i3, i4, i5, i6, d, i7⟩ := I
  have i7 : ∀ v, v < 48 → bl Y v = true → d v ≤ k ∧ (v ≠ a → ∃ u, u < 48 ∧ t'.1 19 0 v = nI u ∧ bl Y u = true ∧ d u < d v ∧ bl (t.2 18 0 u) v = true) := i7
  have i5 : ∀ u, u < 48 → bl Y u = true → bl E u = false → ∀ v, v < 64 → bl (t.2 18 0 u) v = true → bl Y v = true := i5
  refine ⟨i1, fun q => ⟨bl Y, i2, q, fun u v hu hv h1 h2 => i5 u hu h1 (by rw [h q]; exact bl_0) v (by omega) h2⟩, fun q => ⟨bl Y, fun v => (t'.1 19 0 v).toNatClampNeg, d, q, by have := (i7 b hb q).1; omega, fun v hv hV hne => ?_⟩⟩
  obtain ⟨u, u1, u2, u3, u4, u5⟩ := (i7 v hv hV).2 hne
  have e : (t'.1 19 0 v).toNatClampNeg = u := by rw [u2, nI_clamp (by omega)]
  show (t'.1 19 0 v).toNatClampNeg < 48 ∧ bl Y (t'.1 19 0 v).toNatClampNeg = true ∧ d (t'.1 19 0 v).toNatClampNeg < d v ∧ bl (t.2 18 0 (t'.1 19 0 v).toNatClampNeg) v = true ∧ t'.1 19 0 v = nI (t'.1 19 0 v).toNatClampNeg
  rw [e]
  exact ⟨u1, u3, u4, u5, u2⟩
theorem pc_find {t : sr_t} {a b : Nat} (ha : a < 48) (hb : b < 48) (hi : ∀ u v, u < 48 → v < 64 → bl (t.2 18 0 u) v = true → v < 48) : ∃ x t', F9_findWay (nI a) (nI b) t = some (.inl (some (sr_i (bI x))), t') ∧ fy_R t t' a b x := by
  have fin : ∀ {Y : Int64} {t' : sr_t}, f9_findWay_56 (nI a) (nI b) Y t' = some (.inl (some (sr_i (bI (bl Y b)))), t') := by
    intro Y t'
    cases h : bl Y b with
    | false =>
      have c := (lz_hit (x := Y) hb).mpr h
      rw [show bI false = nI 0 from rfl]
      simp (disch := omega) only [pv_lt, pu_ck, pv_bI, pv_bV, pu_bR, pv_bL, pv_nt, pu_us, pu_un, mL_0, mL_1, mL_2, mL_3, mL_4, mL_5, mL_6, mL_7, mL_8, mL_9, mL_10, mL_11, mL_12, mL_13, mL_14, mL_15, mL_16, mL_23, mL_24, mL_32, mL_48, mL_64, mL_99, mL_100, mL_200, mL_336, mL_576, mL_768, mL_800, mL_999, mL_4095, mL_4096, mL_m1, nI_leI, nI_ltI, nI_eq, nI_clamp, nI_add, pk_mul, nI_nu, bI_eq0, bI_eq1, bo_ft, Bool.true_eq_false, Bool.false_eq_true, pu_of, pu_of24, pu_onward, pu_frq, if_true, if_false, true_or, or_true, false_or, or_false, and_true, true_and, and_false, false_and, not_true_eq_false, not_false_eq_true, if_neg, if_pos, f9_findWay_56, f9_findWay_72, pu_st, c]
    | true =>
      have c : ¬ lg_cmp (Y &&& ol b) 0 = nI 0 := fun q => by rw [(lz_hit hb).mp q] at h; exact absurd h (by decide)
      rw [show bI true = nI 1 from rfl]
      simp (disch := omega) only [pv_lt, pu_ck, pv_bI, pv_bV, pu_bR, pv_bL, pv_nt, pu_us, pu_un, mL_0, mL_1, mL_2, mL_3, mL_4, mL_5, mL_6, mL_7, mL_8, mL_9, mL_10, mL_11, mL_12, mL_13, mL_14, mL_15, mL_16, mL_23, mL_24, mL_32, mL_48, mL_64, mL_99, mL_100, mL_200, mL_336, mL_576, mL_768, mL_800, mL_999, mL_4095, mL_4096, mL_m1, nI_leI, nI_ltI, nI_eq, nI_clamp, nI_add, pk_mul, nI_nu, bI_eq0, bI_eq1, bo_ft, Bool.true_eq_false, Bool.false_eq_true, pu_of, pu_of24, pu_onward, pu_frq, if_true, if_false, true_or, or_true, false_or, or_false, and_true, true_and, and_false, false_and, not_true_eq_false, not_false_eq_true, if_neg, if_pos, f9_findWay_56, f9_findWay_72, pu_st, c]
  have main : rs_to (fun o t' => ∃ x, o = .inl (some (sr_i (bI x))) ∧ fy_R t t' a b x) (f9_findWay_11 (nI a) (nI b) (f9_findWay_56 (nI a) (nI b)) sr_fu (ol a) (ol a) (nI 0) t) := by
    refine rs_loopA (α := Int64 × Int64 × sr_t) (N := 48) (L := fun f k z => f9_findWay_11 (nI a) (nI b) (f9_findWay_56 (nI a) (nI b)) f z.1 z.2.1 (nI k) z.2.2) (fy_I t a) ?_ ?_ (a := (ol a, ol a, t)) (by unfold sr_fu; omega) ?_
    · rintro k g ⟨Y, E, t'⟩ hk I
      show (∃ z : Int64 × Int64 × sr_t, fy_I t a (k + 1) z ∧ f9_findWay_11 (nI a) (nI b) (f9_findWay_56 (nI a) (nI b)) (g + 1) Y E (nI k) t' = f9_findWay_11 (nI a) (nI b) (f9_findWay_56 (nI a) (nI b)) g z.1 z.2.1 (nI (k + 1)) z.2.2) ∨ rs_to _ (f9_findWay_11 (nI a) (nI b) (f9_findWay_56 (nI a) (nI b)) (g + 1) Y E (nI k) t')
      by_cases hE : E = 0
      · right
        have c := (lz_0 (x := E)).mpr hE
        simp (disch := omega) only [pv_lt, pu_ck, pv_bI, pv_bV, pu_bR, pv_bL, pv_nt, pu_us, pu_un, mL_0, mL_1, mL_2, mL_3, mL_4, mL_5, mL_6, mL_7, mL_8, mL_9, mL_10, mL_11, mL_12, mL_13, mL_14, mL_15, mL_16, mL_23, mL_24, mL_32, mL_48, mL_64, mL_99, mL_100, mL_200, mL_336, mL_576, mL_768, mL_800, mL_999, mL_4095, mL_4096, mL_m1, nI_leI, nI_ltI, nI_eq, nI_clamp, nI_add, pk_mul, nI_nu, bI_eq0, bI_eq1, bo_ft, Bool.true_eq_false, Bool.false_eq_true, pu_of, pu_of24, pu_onward, pu_frq, if_true, if_false, true_or, or_true, false_or, or_false, and_true, true_and, and_false, false_and, not_true_eq_false, not_false_eq_true, if_neg, if_pos, f9_findWay_11, c, fin]
        exact rs_ret ⟨_, rfl, fy_end I (by omega) hb (fun _ => hE)⟩
      · have c : ¬ lg_cmp E 0 = nI 0 := fun q => hE (lz_0.mp q)
        cases h : bl Y b with
        | true =>
          right
          have c2 : ¬ lg_cmp (Y &&& ol b) 0 = nI 0 := fun q => by rw [(lz_hit hb).mp q] at h; exact absurd h (by decide)
          simp (disch := omega) only [pv_lt, pu_ck, pv_bI, pv_bV, pu_bR, pv_bL, pv_nt, pu_us, pu_un, mL_0, mL_1, mL_2, mL_3, mL_4, mL_5, mL_6, mL_7, mL_8, mL_9, mL_10, mL_11, mL_12, mL_13, mL_14, mL_15, mL_16, mL_23, mL_24, mL_32, mL_48, mL_64, mL_99, mL_100, mL_200, mL_336, mL_576, mL_768, mL_800, mL_999, mL_4095, mL_4096, mL_m1, nI_leI, nI_ltI, nI_eq, nI_clamp, nI_add, pk_mul, nI_nu, bI_eq0, bI_eq1, bo_ft, Bool.true_eq_false, Bool.false_eq_true, pu_of, pu_of24, pu_onward, pu_frq, if_true, if_false, true_or, or_true, false_or, or_false, and_true, true_and, and_false, false_and, not_true_eq_false, not_false_eq_true, if_neg, if_pos, f9_findWay_11, c, c2, pu_st, fin]
          exact rs_ret ⟨_, rfl, fy_end I (by omega) hb (fun q => by rw [h] at q; exact absurd q (by decide))⟩
        | false =>
          left
          have c2 := (lz_hit (x := Y) hb).mpr h
          obtain ⟨B, t2, e2, b1, b2, b3, f2⟩ := pc_edge (t := t') (E := E) (Y := Y)
          have ft : t'.2 = t.2 := I.1.1
          rw [ft] at b1 b2
          refine ⟨(Y ||| B, B, t2), fy_step hi I ha b1 b2 b3 f2 hE, ?_⟩
          show f9_findWay_11 (nI a) (nI b) (f9_findWay_56 (nI a) (nI b)) (g + 1) Y E (nI k) t' = f9_findWay_11 (nI a) (nI b) (f9_findWay_56 (nI a) (nI b)) g (Y ||| B) B (nI (k + 1)) t2
          simp (disch := omega) only [pv_lt, pu_ck, pv_bI, pv_bV, pu_bR, pv_bL, pv_nt, pu_us, pu_un, mL_0, mL_1, mL_2, mL_3, mL_4, mL_5, mL_6, mL_7, mL_8, mL_9, mL_10, mL_11, mL_12, mL_13, mL_14, mL_15, mL_16, mL_23, mL_24, mL_32, mL_48, mL_64, mL_99, mL_100, mL_200, mL_336, mL_576, mL_768, mL_800, mL_999, mL_4095, mL_4096, mL_m1, nI_leI, nI_ltI, nI_eq, nI_clamp, nI_add, pk_mul, nI_nu, bI_eq0, bI_eq1, bo_ft, Bool.true_eq_false, Bool.false_eq_true, pu_of, pu_of24, pu_onward, pu_frq, if_true, if_false, true_or, or_true, false_or, or_false, and_true, true_and, and_false, false_and, not_true_eq_false, not_false_eq_true, if_neg, if_pos, f9_findWay_11, c, c2, pu_st, e2]
    · rintro g ⟨Y, E, t'⟩ I
      show rs_to _ (f9_findWay_11 (nI a) (nI b) (f9_findWay_56 (nI a) (nI b)) (g + 1) Y E (nI 48) t')
      have hE : E = 0 := by
        apply Decidable.byContradiction
        intro q
        have h1 : 48 + 1 ≤ rg_cu (bl Y) 48 := I.2.2.2.2.2.1 q
        have h2 := rg_cu_le (bl Y) 48
        omega
      simp (disch := omega) only [pv_lt, pu_ck, pv_bI, pv_bV, pu_bR, pv_bL, pv_nt, pu_us, pu_un, mL_0, mL_1, mL_2, mL_3, mL_4, mL_5, mL_6, mL_7, mL_8, mL_9, mL_10, mL_11, mL_12, mL_13, mL_14, mL_15, mL_16, mL_23, mL_24, mL_32, mL_48, mL_64, mL_99, mL_100, mL_200, mL_336, mL_576, mL_768, mL_800, mL_999, mL_4095, mL_4096, mL_m1, nI_leI, nI_ltI, nI_eq, nI_clamp, nI_add, pk_mul, nI_nu, bI_eq0, bI_eq1, bo_ft, Bool.true_eq_false, Bool.false_eq_true, pu_of, pu_of24, pu_onward, pu_frq, if_true, if_false, true_or, or_true, false_or, or_false, and_true, true_and, and_false, false_and, not_true_eq_false, not_false_eq_true, if_neg, if_pos, f9_findWay_11, fin]
      exact rs_ret ⟨_, rfl, fy_end I (by omega) hb (fun _ => hE)⟩
    · refine ⟨fr_rfl, ?_, fun v hv h => ?_, fun v hv h => h, fun u hu h1 h2 => ?_, fun _ => ?_, fun _ => 0, fun v hv h => ⟨Nat.le_refl 0, fun hne => ?_⟩⟩
      · show bl (ol a) a = true
        rw [bl_ol ha (by omega), decide_eq_true rfl]
      · have h : bl (ol a) v = true := h
        rw [bl_ol ha hv] at h
        have := of_decide_eq_true h
        omega
      · have h1 : bl (ol a) u = true := h1
        have h2 : bl (ol a) u = false := h2
        rw [h1] at h2
        exact absurd h2 (by decide)
      · show 0 + 1 ≤ rg_cu (bl (ol a)) 48
        exact cu_pos (m := a) 48 ha (by rw [bl_ol ha (by omega), decide_eq_true rfl])
      · have h : bl (ol a) v = true := h
        rw [bl_ol ha (by omega)] at h
        exact absurd (of_decide_eq_true h) hne
  obtain ⟨o, t', e, x, rfl, hx⟩ := main
  refine ⟨x, t', ?_, hx⟩
  unfold F9_findWay
  rw [pu_st, pv_bL]
  exact e
theorem pc_turnLink {t : sr_t} {s : rg_T} {r : Nat → Nat → Nat} {x y F e c a : Nat} (O : rg_ok s) (H : hO t r) (hx : x < 48) (hy : y < 48) (ne : x ≠ y) (hr : r x y ≠ 0) (K : fl_K (fl_c0 s) r a e F c) : ∃ t', F9_turnLink (nI x) (nI y) t = some (.inl none, t') ∧ hO t' (fl_P r x y) ∧ t'.1 = t.1 := by
  have h1 := K.1 x y hx hy
  have h2 := fl_c1 (s := s) O hx hy
  refine ⟨sr_ul (sr_ul t 18 0 x (t.2 18 0 x &&& (ol y ^^^ (-1)))) 18 0 y (t.2 18 0 y ||| ol x), ?_, fun u hu v hv => ?_, rfl⟩
  · have e1 : (sr_ul t 18 0 x (t.2 18 0 x &&& (ol y ^^^ (-1)))).2 18 0 y = t.2 18 0 y := pq_n (by omega)
    simp (disch := omega) only [pv_lt, pu_ck, pv_bI, pv_bV, pu_bR, pv_bL, pv_nt, pu_us, pu_un, mL_0, mL_1, mL_2, mL_3, mL_4, mL_5, mL_6, mL_7, mL_8, mL_9, mL_10, mL_11, mL_12, mL_13, mL_14, mL_15, mL_16, mL_23, mL_24, mL_32, mL_48, mL_64, mL_99, mL_100, mL_200, mL_336, mL_576, mL_768, mL_800, mL_999, mL_4095, mL_4096, mL_m1, nI_leI, nI_ltI, nI_eq, nI_clamp, nI_add, pk_mul, nI_nu, bI_eq0, bI_eq1, bo_ft, Bool.true_eq_false, Bool.false_eq_true, pu_of, pu_of24, pu_onward, pu_frq, if_true, if_false, true_or, or_true, false_or, or_false, and_true, true_and, and_false, false_and, not_true_eq_false, not_false_eq_true, if_neg, if_pos, F9_turnLink, f9_turnLink_56, pu_st, e1, pu_ixN']
  · unfold fl_P
    by_cases e1 : u = y
    · subst e1
      rw [pq_s, bl_or, bl_ol hx hv, H u hu v hv, if_neg (by omega)]
      by_cases e2 : v = x
      · rw [if_pos ⟨rfl, e2⟩, decide_eq_true e2, Bool.or_true, decide_eq_true (show v < 48 by omega), decide_eq_true (show r u v + 1 ≠ 0 by omega)]
        rfl
      · rw [if_neg (fun q => e2 q.2), decide_eq_false e2, Bool.or_false]
    · rw [pq_n (by omega)]
      by_cases e2 : u = x
      · subst e2
        rw [pq_s, bl_and, bl_not hv, bl_ol hy hv, H u hu v hv]
        by_cases e3 : v = y
        · rw [if_pos ⟨rfl, e3⟩, decide_eq_true e3, e3, show r u y - 1 = 0 by omega]
          simp
        · rw [if_neg (fun q => e3 q.2), if_neg (fun q => e1 q.1), decide_eq_false e3]
          simp
      · rw [pq_n (by omega), if_neg (fun q => e2 q.1), if_neg (fun q => e1 q.1)]
        exact H u hu v hv
theorem pc_turn {t : sr_t} {s : rg_T} {r : Nat → Nat → Nat} {V : Nat → Bool} {p d : Nat → Nat} {F a b : Nat} (O : rg_ok s) (ha : a < 48) (H : hO t r) (W : fl_W (fl_c0 s) r a b F V p d b) (hd : d b ≤ 48) (h19 : ∀ v, v < 48 → V v = true → v ≠ a → t.1 19 0 v = nI (p v)) : ∃ t', F9_turnWay (nI a) (nI b) t = some (.inl none, t') ∧ ∃ r', hO t' r' ∧ fl_K (fl_c0 s) r' a b F a ∧ t'.1 = t.1 := by
  refine rs_via fun Q hQ => ?_
  show rs_to Q (f9_turnWay_5 (nI a) (nI b) (f9_turnWay_58 (nI a) (nI b)) sr_fu (nI b) (nI 0) t)
  refine rs_loopA (α := Nat × (Nat → Nat → Nat) × sr_t) (N := 48) (L := fun f k z => f9_turnWay_5 (nI a) (nI b) (f9_turnWay_58 (nI a) (nI b)) f (nI z.1) (nI k) z.2.2) (fun k z => fl_W (fl_c0 s) z.2.1 a b F V p d z.1 ∧ hO z.2.2 z.2.1 ∧ z.2.2.1 = t.1 ∧ d z.1 + k ≤ 48) ?_ ?_ (a := (b, r, t)) (by unfold sr_fu; omega) ⟨W, H, rfl, by show d b + 0 ≤ 48; omega⟩
  · rintro k g ⟨c, r1, t1⟩ hk ⟨W1, H1, f1, d1⟩
    have W1 : fl_W (fl_c0 s) r1 a b F V p d c := W1
    have H1 : hO t1 r1 := H1
    have f1 : t1.1 = t.1 := f1
    have d1 : d c + k ≤ 48 := d1
    have c48 := W1.2.1
    by_cases e : c = a
    · right
      show rs_to Q (f9_turnWay_5 (nI a) (nI b) (f9_turnWay_58 (nI a) (nI b)) (g + 1) (nI c) (nI k) t1)
      simp (disch := omega) only [pv_lt, pu_ck, pv_bI, pv_bV, pu_bR, pv_bL, pv_nt, pu_us, pu_un, mL_0, mL_1, mL_2, mL_3, mL_4, mL_5, mL_6, mL_7, mL_8, mL_9, mL_10, mL_11, mL_12, mL_13, mL_14, mL_15, mL_16, mL_23, mL_24, mL_32, mL_48, mL_64, mL_99, mL_100, mL_200, mL_336, mL_576, mL_768, mL_800, mL_999, mL_4095, mL_4096, mL_m1, nI_leI, nI_ltI, nI_eq, nI_clamp, nI_add, pk_mul, nI_nu, bI_eq0, bI_eq1, bo_ft, Bool.true_eq_false, Bool.false_eq_true, pu_of, pu_of24, pu_onward, pu_frq, if_true, if_false, true_or, or_true, false_or, or_false, and_true, true_and, and_false, false_and, not_true_eq_false, not_false_eq_true, if_neg, if_pos, f9_turnWay_5, f9_turnWay_58, e]
      rw [e] at W1
      exact rs_ret (hQ _ ⟨r1, H1, W1.1, f1⟩)
    · left
      obtain ⟨W2, s1, s2, s3, s4⟩ := fl_step W1 e
      obtain ⟨t2, e2, H2, f2⟩ := pc_turnLink O H1 s3 c48 s1 s2 W1.1
      have e19 : t1.1 19 0 c = nI (p c) := by rw [f1]; exact h19 c c48 W1.2.2.1 e
      refine ⟨(p c, fl_P r1 (p c) c, t2), ⟨W2, H2, f2.trans f1, by show d (p c) + (k + 1) ≤ 48; omega⟩, ?_⟩
      show f9_turnWay_5 (nI a) (nI b) (f9_turnWay_58 (nI a) (nI b)) (g + 1) (nI c) (nI k) t1 = f9_turnWay_5 (nI a) (nI b) (f9_turnWay_58 (nI a) (nI b)) g (nI (p c)) (nI (k + 1)) t2
      simp (disch := omega) only [pv_lt, pu_ck, pv_bI, pv_bV, pu_bR, pv_bL, pv_nt, pu_us, pu_un, mL_0, mL_1, mL_2, mL_3, mL_4, mL_5, mL_6, mL_7, mL_8, mL_9, mL_10, mL_11, mL_12, mL_13, mL_14, mL_15, mL_16, mL_23, mL_24, mL_32, mL_48, mL_64, mL_99, mL_100, mL_200, mL_336, mL_576, mL_768, mL_800, mL_999, mL_4095, mL_4096, mL_m1, nI_leI, nI_ltI, nI_eq, nI_clamp, nI_add, pk_mul, nI_nu, bI_eq0, bI_eq1, bo_ft, Bool.true_eq_false, Bool.false_eq_true, pu_of, pu_of24, pu_onward, pu_frq, if_true, if_false, true_or, or_true, false_or, or_false, and_true, true_and, and_false, false_and, not_true_eq_false, not_false_eq_true, if_neg, if_pos, f9_turnWay_5, f9_turnWay_40, e19, e, e2, pu_ixN']
  · rintro g ⟨c, r1, t1⟩ ⟨W1, H1, f1, d1⟩
    have W1 : fl_W (fl_c0 s) r1 a b F V p d c := W1
    have H1 : hO t1 r1 := H1
    have f1 : t1.1 = t.1 := f1
    have d1 : d c + 48 ≤ 48 := d1
    have e : c = a := by
      apply Decidable.byContradiction
      intro e
      have := (fl_step W1 e).2.2.2.2
      omega
    show rs_to Q (f9_turnWay_5 (nI a) (nI b) (f9_turnWay_58 (nI a) (nI b)) (g + 1) (nI c) (nI 48) t1)
    simp (disch := omega) only [pv_lt, pu_ck, pv_bI, pv_bV, pu_bR, pv_bL, pv_nt, pu_us, pu_un, mL_0, mL_1, mL_2, mL_3, mL_4, mL_5, mL_6, mL_7, mL_8, mL_9, mL_10, mL_11, mL_12, mL_13, mL_14, mL_15, mL_16, mL_23, mL_24, mL_32, mL_48, mL_64, mL_99, mL_100, mL_200, mL_336, mL_576, mL_768, mL_800, mL_999, mL_4095, mL_4096, mL_m1, nI_leI, nI_ltI, nI_eq, nI_clamp, nI_add, pk_mul, nI_nu, bI_eq0, bI_eq1, bo_ft, Bool.true_eq_false, Bool.false_eq_true, pu_of, pu_of24, pu_onward, pu_frq, if_true, if_false, true_or, or_true, false_or, or_false, and_true, true_and, and_false, false_and, not_true_eq_false, not_false_eq_true, if_neg, if_pos, f9_turnWay_5, f9_turnWay_58]
    rw [e] at W1
    exact rs_ret (hQ _ ⟨r1, H1, W1.1, f1⟩)
def S_ap (k _i _j : Nat) : Prop := k = 17 ∨ k = 19
theorem pc_apart {t : sr_t} {s : rg_T} {a b : Nat} (C : rg_C t 0 s) (O : rg_ok s) (ha : a < 24) (hb : b < 24) (ne : a ≠ b) : ∃ F t', F9_waysApart 0 (nI a) (nI b) t = some (.inl (some (sr_i (nI F))), t') ∧ frI S_ap t t' ∧ ∃ (r : Nat → Nat → Nat) (S : Nat → Bool), fl_K (fl_c0 s) r (24 + a) b F b ∧ S (24 + a) = true ∧ S b = false ∧ ∀ u v, u < 48 → v < 48 → S u = true → S v = false → r u v = 0 := by
  obtain ⟨t1, e1, h17, f1⟩ := pc_read C O
  obtain ⟨t2, e2, H2, f2⟩ := pc_open O h17
  have f02 : frI S_ap t t2 := fun k i j q => by rw [f2]; exact f1.2 k i j (fun h => q (Or.inl h))
  have main : rs_to (fun o t' => ∃ F, o = .inl (some (sr_i (nI F))) ∧ frI S_ap t t' ∧ ∃ (r : Nat → Nat → Nat) (S : Nat → Bool), fl_K (fl_c0 s) r (24 + a) b F b ∧ S (24 + a) = true ∧ S b = false ∧ ∀ u v, u < 48 → v < 48 → S u = true → S v = false → r u v = 0) (f9_waysApart_12 0 (nI a) (nI b) (f9_waysApart_46 0 (nI a) (nI b)) sr_fu (nI 0) t2) := by
    refine rs_loopA (α := (Nat → Nat → Nat) × sr_t) (N := 24) (L := fun f k z => f9_waysApart_12 0 (nI a) (nI b) (f9_waysApart_46 0 (nI a) (nI b)) f (nI k) z.2) (fun k z => fl_K (fl_c0 s) z.1 (24 + a) b k b ∧ hO z.2 z.1 ∧ frI S_ap t z.2) ?_ ?_ (a := (fl_c0 s, t2)) (by unfold sr_fu; omega) ⟨?_, H2, f02⟩
    · rintro k g ⟨r, t3⟩ hk ⟨K, H, f⟩
      have K : fl_K (fl_c0 s) r (24 + a) b k b := K
      have H : hO t3 r := H
      have f : frI S_ap t t3 := f
      have hi : ∀ u v, u < 48 → v < 64 → bl (t3.2 18 0 u) v = true → v < 48 := fun u v hu hv h => by
        rw [H u hu v hv, Bool.and_eq_true] at h
        exact of_decide_eq_true h.1
      have hz : ∀ u v, u < 48 → v < 48 → (bl (t3.2 18 0 u) v = true ↔ r u v ≠ 0) := fun u v hu hv => by
        rw [H u hu v (by omega), decide_eq_true hv, Bool.true_and, decide_eq_true_eq]
      obtain ⟨x, t4, e4, g1, g2, g3⟩ := pc_find (t := t3) (a := 24 + a) (b := b) (by omega) (by omega) hi
      have f4 : frI S_ap t t4 := frI_trans f (frI_mono (frI_of g1) (fun k i j h => Or.inr h))
      cases x with
      | false =>
        right
        obtain ⟨S, S1, S2, S3⟩ := g2 rfl
        show rs_to _ (f9_waysApart_12 0 (nI a) (nI b) (f9_waysApart_46 0 (nI a) (nI b)) (g + 1) (nI k) t3)
        rw [show bI false = nI 0 from rfl] at e4
        simp (disch := omega) only [pv_lt, pu_ck, pv_bI, pv_bV, pu_bR, pv_bL, pv_nt, pu_us, pu_un, mL_0, mL_1, mL_2, mL_3, mL_4, mL_5, mL_6, mL_7, mL_8, mL_9, mL_10, mL_11, mL_12, mL_13, mL_14, mL_15, mL_16, mL_23, mL_24, mL_32, mL_48, mL_64, mL_99, mL_100, mL_200, mL_336, mL_576, mL_768, mL_800, mL_999, mL_4095, mL_4096, mL_m1, nI_leI, nI_ltI, nI_eq, nI_clamp, nI_add, pk_mul, nI_nu, bI_eq0, bI_eq1, bo_ft, Bool.true_eq_false, Bool.false_eq_true, pu_of, pu_of24, pu_onward, pu_frq, if_true, if_false, true_or, or_true, false_or, or_false, and_true, true_and, and_false, false_and, not_true_eq_false, not_false_eq_true, if_neg, if_pos, f9_waysApart_12, f9_waysApart_46, e4]
        refine rs_ret ⟨k, rfl, f4, r, S, K, S1, S2, fun u v hu hv h1 h2 => ?_⟩
        apply Decidable.byContradiction
        intro q
        rw [S3 u v hu hv h1 ((hz u v hu hv).mpr q)] at h2
        exact absurd h2 (by decide)
      | true =>
        left
        obtain ⟨V, p, d, v1, v2, v3⟩ := g3 rfl
        have W : fl_W (fl_c0 s) r (24 + a) b k V p d b := ⟨K, by omega, v1, fun v hv hV hne => by
          obtain ⟨w1, w2, w3, w4, _⟩ := v3 v hv hV hne
          exact ⟨w1, w2, w3, fun _ => (hz _ v w1 hv).mp w4⟩⟩
        have H4 : hO t4 r := fun u hu v hv => by rw [g1.1]; exact H u hu v hv
        obtain ⟨t5, e5, r', H5, K5, f5⟩ := pc_turn O (by omega) H4 W v2 (fun v hv hV hne => (v3 v hv hV hne).2.2.2.2)
        refine ⟨(r', t5), ⟨fl_done K5, H5, fun k i j q => by show t5.1 k i j = _; rw [f5]; exact f4 k i j q⟩, ?_⟩
        show f9_waysApart_12 0 (nI a) (nI b) (f9_waysApart_46 0 (nI a) (nI b)) (g + 1) (nI k) t3 = f9_waysApart_12 0 (nI a) (nI b) (f9_waysApart_46 0 (nI a) (nI b)) g (nI (k + 1)) t5
        rw [show bI true = nI 1 from rfl] at e4
        simp (disch := omega) only [pv_lt, pu_ck, pv_bI, pv_bV, pu_bR, pv_bL, pv_nt, pu_us, pu_un, mL_0, mL_1, mL_2, mL_3, mL_4, mL_5, mL_6, mL_7, mL_8, mL_9, mL_10, mL_11, mL_12, mL_13, mL_14, mL_15, mL_16, mL_23, mL_24, mL_32, mL_48, mL_64, mL_99, mL_100, mL_200, mL_336, mL_576, mL_768, mL_800, mL_999, mL_4095, mL_4096, mL_m1, nI_leI, nI_ltI, nI_eq, nI_clamp, nI_add, pk_mul, nI_nu, bI_eq0, bI_eq1, bo_ft, Bool.true_eq_false, Bool.false_eq_true, pu_of, pu_of24, pu_onward, pu_frq, if_true, if_false, true_or, or_true, false_or, or_false, and_true, true_and, and_false, false_and, not_true_eq_false, not_false_eq_true, if_neg, if_pos, f9_waysApart_12, e4, e5]
    · rintro g ⟨r, t3⟩ ⟨K, H, f⟩
      have K : fl_K (fl_c0 s) r (24 + a) b 24 b := K
      have := fl_23 O ha hb K
      omega
    · refine ⟨fun u v _ _ => rfl, fun u hu hne => ?_⟩
      show fw (fun v => fl_G (fl_c0 s) (fl_c0 s) u v) 48 = _
      have z : fw (fun v => fl_G (fl_c0 s) (fl_c0 s) u v) 48 = 0 := (fw_congr 48 (fun v _ => Int.sub_self _)).trans (fw_0 48)
      rw [z, if_neg hne]
      split <;> rfl
  obtain ⟨o, t', e, F, rfl, hx⟩ := main
  refine ⟨F, t', ?_, hx⟩
  unfold F9_waysApart
  rw [e1, pv_bV, e2, pv_bV]
  exact e
end
