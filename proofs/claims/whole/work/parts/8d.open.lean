section
/-! bits of a long -/
def bl (x : Int64) (m : Nat) : Bool := x.toBitVec.getLsbD m
def ol (k : Nat) : Int64 := 1 <<< ((nI k).toInt64 &&& 63)
theorem bl_or {x y : Int64} {m : Nat} : bl (x ||| y) m = (bl x m || bl y m) := by
  unfold bl
  rw [Int64.toBitVec_or, BitVec.getLsbD_or]
theorem bl_and {x y : Int64} {m : Nat} : bl (x &&& y) m = (bl x m && bl y m) := by
  unfold bl
  rw [Int64.toBitVec_and, BitVec.getLsbD_and]
theorem bl_0 {m : Nat} : bl 0 m = false := by
  unfold bl
  exact BitVec.getLsbD_zero
theorem bl_not {x : Int64} {m : Nat} (h : m < 64) : bl (x ^^^ (-1)) m = !bl x m := by
  unfold bl
  rw [Int64.toBitVec_xor, BitVec.getLsbD_xor]
  have e : (-1 : Int64).toBitVec.getLsbD m = true := (by decide +kernel : ∀ y : Fin 64, (-1 : Int64).toBitVec.getLsbD y.val = true) ⟨m, h⟩
  rw [e, Bool.xor_true]
theorem bl_ol {k m : Nat} (hk : k < 48) (hm : m < 64) : bl (ol k) m = decide (m = k) := (by decide +kernel : ∀ x : Fin 48, ∀ y : Fin 64, bl (ol x.val) y.val = decide (y.val = x.val)) ⟨k, hk⟩ ⟨m, hm⟩
theorem bl_ext {x y : Int64} (h : ∀ m, m < 64 → bl x m = bl y m) : x = y := by
  apply Int64.toBitVec_inj.mp
  exact BitVec.eq_of_getLsbD_eq h
theorem lz_0 {x : Int64} : lg_cmp x 0 = nI 0 ↔ x = 0 := by
  unfold lg_cmp
  constructor
  · intro h
    split at h
    · exact absurd h (by decide)
    · split at h
      · assumption
      · exact absurd h (by decide)
  · rintro rfl
    decide
theorem lz_hit {x : Int64} {k : Nat} (hk : k < 48) : lg_cmp (x &&& ol k) 0 = nI 0 ↔ bl x k = false := by
  rw [lz_0]
  constructor
  · intro e
    have : bl (x &&& ol k) k = false := by rw [e]; exact bl_0
    rw [bl_and, bl_ol hk (by omega), decide_eq_true rfl, Bool.and_true] at this
    exact this
  · intro e
    refine bl_ext (fun m hm => ?_)
    rw [bl_and, bl_ol hk hm, bl_0]
    by_cases h : m = k
    · rw [h, e]; rfl
    · rw [decide_eq_false h, Bool.and_false]
theorem bl_32 {x : Int32} {m : Nat} (h : bs x 31 = false) (hm : m < 64) : bl x.toInt64 m = (decide (m < 32) && bs x m) := by
  unfold bl bs
  rw [Int32.toBitVec_toInt64, BitVec.getLsbD_signExtend, decide_eq_true hm, Bool.true_and]
  by_cases q : m < 32
  · rw [if_pos q, decide_eq_true q, Bool.true_and]
  · rw [if_neg q, decide_eq_false q, Bool.false_and, BitVec.msb_eq_getLsbD_last]
    exact h
theorem pq_s {t : sr_t} {k i j : Nat} {v : Int64} : (sr_ul t k i j v).2 k i j = v := if_pos ⟨rfl, rfl, rfl⟩
theorem pq_n {t : sr_t} {k i j k' i' j' : Nat} {v : Int64} (h : ¬ (k' = k ∧ i' = i ∧ j' = j)) : (sr_ul t k i j v).2 k' i' j' = t.2 k' i' j' := if_neg h
theorem pq_1 {t : sr_t} {k i j : Nat} {v : Int64} : (sr_ul t k i j v).1 = t.1 := Eq.trans (Eq.refl _) (Eq.refl _)
theorem pu_st {t : sr_t} {k : Nat} : F9_stationBit (nI k) t = some (.inl (some (sr_l (ol k))), t) := rfl
/-- the room of the class, as it lies in the heap -/
def hO (t : sr_t) (r : Nat → Nat → Nat) : Prop := ∀ u, u < 48 → ∀ v, v < 64 → bl (t.2 18 0 u) v = (decide (v < 48) && decide (r u v ≠ 0))
theorem pc_open {t : sr_t} {s : rg_T} (O : rg_ok s) (h17 : ∀ n, n < 24 → t.1 17 0 n = UL s n) : ∃ t', F9_openStations t = some (.inl none, t') ∧ hO t' (fl_c0 s) ∧ t'.1 = t.1 := by
  have hN := O.1.1
  have main : ∃ t', (t'.1 = t.1 ∧ ∀ u, u < 24 → t'.2 18 0 u = ol (24 + u) ∧ t'.2 18 0 (24 + u) = (UL s u).toInt64) ∧ f9_openStations_2 f9_openStations_58 sr_fu (nI 0) t = some (.inl none, t') := by
    refine pu_forR (N := 24) (L := fun f n t' => f9_openStations_2 f9_openStations_58 f (nI n) t') (fin := fun t' => some (.inl none, t')) (P := fun k t' => t'.1 = t.1 ∧ ∀ u, u < k → t'.2 18 0 u = ol (24 + u) ∧ t'.2 18 0 (24 + u) = (UL s u).toInt64) ?_ ?_ (by unfold sr_fu; omega) ⟨rfl, fun u hu => by omega⟩
    · rintro n g t' hn ⟨p1, p2⟩
      have e17 : t'.1 17 0 n = UL s n := by rw [p1]; exact h17 n hn
      refine ⟨sr_ul (sr_ul t' 18 0 n (ol (24 + n))) 18 0 (24 + n) (UL s n).toInt64, ⟨p1, fun u hu => ?_⟩, ?_⟩
      · by_cases e : u = n
        · subst e
          exact ⟨by rw [pq_n (by omega), pq_s], pq_s⟩
        · rw [pq_n (by omega), pq_n (by omega), pq_n (by omega), pq_n (by omega)]
          exact p2 u (by omega)
      · show f9_openStations_2 f9_openStations_58 (g + 1) (nI n) t' = f9_openStations_2 f9_openStations_58 g (nI (n + 1)) (sr_ul (sr_ul t' 18 0 n (ol (24 + n))) 18 0 (24 + n) (UL s n).toInt64)
        simp (disch := omega) only [pv_lt, pu_ck, pv_bI, pv_bV, pu_bR, pv_bL, pv_nt, pu_us, pu_un, mL_0, mL_1, mL_2, mL_3, mL_4, mL_5, mL_6, mL_7, mL_8, mL_9, mL_10, mL_11, mL_12, mL_13, mL_14, mL_15, mL_16, mL_23, mL_24, mL_32, mL_48, mL_64, mL_99, mL_100, mL_200, mL_336, mL_576, mL_768, mL_800, mL_999, mL_4095, mL_4096, mL_m1, nI_leI, nI_ltI, nI_eq, nI_clamp, nI_add, pk_mul, nI_nu, bI_eq0, bI_eq1, bo_ft, Bool.true_eq_false, Bool.false_eq_true, pu_of, pu_of24, pu_onward, pu_frq, if_true, if_false, true_or, or_true, false_or, or_false, and_true, true_and, and_false, false_and, not_true_eq_false, not_false_eq_true, if_neg, if_pos, f9_openStations_2, pu_st, pq_1, e17, pu_ixN']
    · rintro g t' _
      show f9_openStations_2 f9_openStations_58 (g + 1) (nI 24) t' = _
      simp (disch := omega) only [pv_lt, pu_ck, pv_bI, pv_bV, pu_bR, pv_bL, pv_nt, pu_us, pu_un, mL_0, mL_1, mL_2, mL_3, mL_4, mL_5, mL_6, mL_7, mL_8, mL_9, mL_10, mL_11, mL_12, mL_13, mL_14, mL_15, mL_16, mL_23, mL_24, mL_32, mL_48, mL_64, mL_99, mL_100, mL_200, mL_336, mL_576, mL_768, mL_800, mL_999, mL_4095, mL_4096, mL_m1, nI_leI, nI_ltI, nI_eq, nI_clamp, nI_add, pk_mul, nI_nu, bI_eq0, bI_eq1, bo_ft, Bool.true_eq_false, Bool.false_eq_true, pu_of, pu_of24, pu_onward, pu_frq, if_true, if_false, true_or, or_true, false_or, or_false, and_true, true_and, and_false, false_and, not_true_eq_false, not_false_eq_true, if_neg, if_pos, f9_openStations_2, f9_openStations_58]
  obtain ⟨t', ⟨p1, p2⟩, e⟩ := main
  refine ⟨t', e, fun u hu v hv => ?_, p1⟩
  unfold fl_c0
  by_cases a : u < 24
  · rw [(p2 u a).1, bl_ol (by omega) hv, if_pos a]
    by_cases b : v = 24 + u
    · rw [if_pos b, decide_eq_true b, decide_eq_true (show v < 48 by omega)]; rfl
    · rw [if_neg b, decide_eq_false b]; simp
  · have q := (p2 (u - 24) (by omega)).2
    rw [show 24 + (u - 24) = u by omega] at q
    have hb : ∀ m, 24 ≤ m → m < 32 → bs (UL s (u - 24)) m = false := fun m h1 h2 => by
      cases hbs : bs (UL s (u - 24)) m with
      | false => rfl
      | true => have := (UL_bs O h2 hbs).2.1; omega
    rw [q, bl_32 (hb 31 (by omega) (by omega)) hv, if_neg a]
    by_cases b : v < 24
    · rw [decide_eq_true (show v < 32 by omega), decide_eq_true (show v < 48 by omega)]
      cases hbs : bs (UL s (u - 24)) v with
      | true => rw [if_pos ⟨b, rfl⟩]; rfl
      | false => rw [if_neg (fun q => absurd q.2 (by decide))]; rfl
    · rw [if_neg (fun q => b q.1)]
      by_cases c : v < 32
      · rw [hb v (by omega) c]; simp
      · rw [decide_eq_false c]; simp
def S_19 (k _i _j : Nat) : Prop := k = 19
theorem pc_origin {t : sr_t} {A : Int64} {n : Nat} : ∃ t', F9_rememberOrigin A (nI n) t = some (.inl none, t') ∧ (∀ v, v < 48 → t'.1 19 0 v = if bl A v = true then nI n else t.1 19 0 v) ∧ fr S_19 t t' := by
  have main : ∃ t', ((∀ v, v < 48 → t'.1 19 0 v = if v < 48 ∧ bl A v = true then nI n else t.1 19 0 v) ∧ fr S_19 t t') ∧ f9_rememberOrigin_3 A (nI n) (f9_rememberOrigin_39 A (nI n)) sr_fu (nI 0) t = some (.inl none, t') := by
    refine pu_forR (N := 48) (L := fun f k t' => f9_rememberOrigin_3 A (nI n) (f9_rememberOrigin_39 A (nI n)) f (nI k) t') (fin := fun t' => some (.inl none, t')) (P := fun k t' => (∀ v, v < 48 → t'.1 19 0 v = if v < k ∧ bl A v = true then nI n else t.1 19 0 v) ∧ fr S_19 t t') ?_ ?_ (by unfold sr_fu; omega) ⟨fun v hv => by rw [if_neg (by omega)], fr_rfl⟩
    · rintro k g t' hk ⟨p1, p2⟩
      show ∃ t2, ((∀ v, v < 48 → t2.1 19 0 v = if v < k + 1 ∧ bl A v = true then nI n else t.1 19 0 v) ∧ fr S_19 t t2) ∧ f9_rememberOrigin_3 A (nI n) (f9_rememberOrigin_39 A (nI n)) (g + 1) (nI k) t' = f9_rememberOrigin_3 A (nI n) (f9_rememberOrigin_39 A (nI n)) g (nI (k + 1)) t2
      cases hb : bl A k with
      | false =>
        have c := (lz_hit (x := A) hk).mpr hb
        refine ⟨t', ⟨fun v hv => ?_, p2⟩, ?_⟩
        · rw [p1 v hv]
          by_cases e : v = k
          · rw [if_neg (by omega), if_neg (fun q => by rw [e, hb] at q; exact absurd q.2 (by decide))]
          · by_cases q : v < k ∧ bl A v = true
            · rw [if_pos q, if_pos ⟨by omega, q.2⟩]
            · rw [if_neg q, if_neg (fun p => q ⟨by omega, p.2⟩)]
        · simp (disch := omega) only [pv_lt, pu_ck, pv_bI, pv_bV, pu_bR, pv_bL, pv_nt, pu_us, pu_un, mL_0, mL_1, mL_2, mL_3, mL_4, mL_5, mL_6, mL_7, mL_8, mL_9, mL_10, mL_11, mL_12, mL_13, mL_14, mL_15, mL_16, mL_23, mL_24, mL_32, mL_48, mL_64, mL_99, mL_100, mL_200, mL_336, mL_576, mL_768, mL_800, mL_999, mL_4095, mL_4096, mL_m1, nI_leI, nI_ltI, nI_eq, nI_clamp, nI_add, pk_mul, nI_nu, bI_eq0, bI_eq1, bo_ft, Bool.true_eq_false, Bool.false_eq_true, pu_of, pu_of24, pu_onward, pu_frq, if_true, if_false, true_or, or_true, false_or, or_false, and_true, true_and, and_false, false_and, not_true_eq_false, not_false_eq_true, if_neg, if_pos, f9_rememberOrigin_3, f9_rememberOrigin_33, pu_st, c]
      | true =>
        have c : ¬ lg_cmp (A &&& ol k) 0 = nI 0 := fun q => by rw [(lz_hit hk).mp q] at hb; exact absurd hb (by decide)
        refine ⟨sr_u t' 19 0 k (nI n), ⟨fun v hv => ?_, fr_u p2 rfl⟩, ?_⟩
        · by_cases e : v = k
          · subst e
            rw [pu_us, if_pos ⟨by omega, hb⟩]
          · rw [pu_un (by omega), p1 v hv]
            by_cases q : v < k ∧ bl A v = true
            · rw [if_pos q, if_pos ⟨by omega, q.2⟩]
            · rw [if_neg q, if_neg (fun p => q ⟨by omega, p.2⟩)]
        · simp (disch := omega) only [pv_lt, pu_ck, pv_bI, pv_bV, pu_bR, pv_bL, pv_nt, pu_us, pu_un, mL_0, mL_1, mL_2, mL_3, mL_4, mL_5, mL_6, mL_7, mL_8, mL_9, mL_10, mL_11, mL_12, mL_13, mL_14, mL_15, mL_16, mL_23, mL_24, mL_32, mL_48, mL_64, mL_99, mL_100, mL_200, mL_336, mL_576, mL_768, mL_800, mL_999, mL_4095, mL_4096, mL_m1, nI_leI, nI_ltI, nI_eq, nI_clamp, nI_add, pk_mul, nI_nu, bI_eq0, bI_eq1, bo_ft, Bool.true_eq_false, Bool.false_eq_true, pu_of, pu_of24, pu_onward, pu_frq, if_true, if_false, true_or, or_true, false_or, or_false, and_true, true_and, and_false, false_and, not_true_eq_false, not_false_eq_true, if_neg, if_pos, f9_rememberOrigin_3, f9_rememberOrigin_33, pu_st, c, pu_ixN']
    · rintro g t' _
      show f9_rememberOrigin_3 A (nI n) (f9_rememberOrigin_39 A (nI n)) (g + 1) (nI 48) t' = _
      simp (disch := omega) only [pv_lt, pu_ck, pv_bI, pv_bV, pu_bR, pv_bL, pv_nt, pu_us, pu_un, mL_0, mL_1, mL_2, mL_3, mL_4, mL_5, mL_6, mL_7, mL_8, mL_9, mL_10, mL_11, mL_12, mL_13, mL_14, mL_15, mL_16, mL_23, mL_24, mL_32, mL_48, mL_64, mL_99, mL_100, mL_200, mL_336, mL_576, mL_768, mL_800, mL_999, mL_4095, mL_4096, mL_m1, nI_leI, nI_ltI, nI_eq, nI_clamp, nI_add, pk_mul, nI_nu, bI_eq0, bI_eq1, bo_ft, Bool.true_eq_false, Bool.false_eq_true, pu_of, pu_of24, pu_onward, pu_frq, if_true, if_false, true_or, or_true, false_or, or_false, and_true, true_and, and_false, false_and, not_true_eq_false, not_false_eq_true, if_neg, if_pos, f9_rememberOrigin_3, f9_rememberOrigin_39]
  obtain ⟨t', ⟨p1, p2⟩, e⟩ := main
  refine ⟨t', e, fun v hv => ?_, p2⟩
  rw [p1 v hv]
  by_cases q : bl A v = true
  · rw [if_pos q, if_pos ⟨hv, q⟩]
  · rw [if_neg q, if_neg (fun p => q p.2)]
theorem pc_edge {t : sr_t} {E Y : Int64} : ∃ B t', F9_openFromEdge E Y t = some (.inl (some (sr_l B)), t') ∧ (∀ v, v < 64 → (bl B v = true ↔ bl Y v = false ∧ ∃ u, u < 48 ∧ bl E u = true ∧ bl (t.2 18 0 u) v = true)) ∧ (∀ v, v < 48 → bl B v = true → ∃ u, u < 48 ∧ bl E u = true ∧ bl (t.2 18 0 u) v = true ∧ t'.1 19 0 v = nI u) ∧ (∀ v, v < 48 → bl B v = false → t'.1 19 0 v = t.1 19 0 v) ∧ fr S_19 t t' := by
  have main : ∃ z : Int64 × sr_t, ((∀ v, v < 64 → (bl z.1 v = true ↔ bl Y v = false ∧ ∃ u, u < 48 ∧ bl E u = true ∧ bl (t.2 18 0 u) v = true)) ∧ (∀ v, v < 48 → bl z.1 v = true → ∃ u, u < 48 ∧ bl E u = true ∧ bl (t.2 18 0 u) v = true ∧ z.2.1 19 0 v = nI u) ∧ (∀ v, v < 48 → bl z.1 v = false → z.2.1 19 0 v = t.1 19 0 v) ∧ fr S_19 t z.2) ∧ f9_openFromEdge_6 E Y (f9_openFromEdge_71 E Y) sr_fu 0 (nI 0) t = some (.inl (some (sr_l z.1)), z.2) := by
    refine pu_forR (α := Int64 × sr_t) (N := 48) (L := fun f k z => f9_openFromEdge_6 E Y (f9_openFromEdge_71 E Y) f z.1 (nI k) z.2) (fin := fun z => some (.inl (some (sr_l z.1)), z.2)) (P := fun k z => (∀ v, v < 64 → (bl z.1 v = true ↔ bl Y v = false ∧ ∃ u, u < k ∧ bl E u = true ∧ bl (t.2 18 0 u) v = true)) ∧ (∀ v, v < 48 → bl z.1 v = true → ∃ u, u < 48 ∧ bl E u = true ∧ bl (t.2 18 0 u) v = true ∧ z.2.1 19 0 v = nI u) ∧ (∀ v, v < 48 → bl z.1 v = false → z.2.1 19 0 v = t.1 19 0 v) ∧ fr S_19 t z.2) ?_ ?_ (a := (0, t)) (by unfold sr_fu; omega) ⟨fun v hv => ⟨fun q => absurd q (by rw [show bl ((0 : Int64), t).1 v = false from bl_0]; decide), fun ⟨_, u, h, _⟩ => by omega⟩, fun v hv q => absurd q (by rw [show bl ((0 : Int64), t).1 v = false from bl_0]; decide), fun v hv _ => rfl, fr_rfl⟩
    · rintro k g ⟨B, t'⟩ hk ⟨p1, p2, p3, p4⟩
      have p1 : ∀ v, v < 64 → (bl B v = true ↔ bl Y v = false ∧ ∃ u, u < k ∧ bl E u = true ∧ bl (t.2 18 0 u) v = true) := p1
      have p2 : ∀ v, v < 48 → bl B v = true → ∃ u, u < 48 ∧ bl E u = true ∧ bl (t.2 18 0 u) v = true ∧ t'.1 19 0 v = nI u := p2
      have p3 : ∀ v, v < 48 → bl B v = false → t'.1 19 0 v = t.1 19 0 v := p3
      have p4 : fr S_19 t t' := p4
      show ∃ z : Int64 × sr_t, ((∀ v, v < 64 → (bl z.1 v = true ↔ bl Y v = false ∧ ∃ u, u < k + 1 ∧ bl E u = true ∧ bl (t.2 18 0 u) v = true)) ∧ (∀ v, v < 48 → bl z.1 v = true → ∃ u, u < 48 ∧ bl E u = true ∧ bl (t.2 18 0 u) v = true ∧ z.2.1 19 0 v = nI u) ∧ (∀ v, v < 48 → bl z.1 v = false → z.2.1 19 0 v = t.1 19 0 v) ∧ fr S_19 t z.2) ∧ f9_openFromEdge_6 E Y (f9_openFromEdge_71 E Y) (g + 1) B (nI k) t' = f9_openFromEdge_6 E Y (f9_openFromEdge_71 E Y) g z.1 (nI (k + 1)) z.2
      cases hb : bl E k with
      | false =>
        have c := (lz_hit (x := E) hk).mpr hb
        refine ⟨(B, t'), ⟨fun v hv => ?_, p2, p3, p4⟩, ?_⟩
        · show bl B v = true ↔ _
          rw [p1 v hv]
          constructor
          · rintro ⟨q1, u, q2, q3⟩
            exact ⟨q1, u, by omega, q3⟩
          · rintro ⟨q1, u, q2, q3, q4⟩
            by_cases e : u = k
            · rw [e, hb] at q3; exact absurd q3 (by decide)
            · exact ⟨q1, u, by omega, q3, q4⟩
        · show f9_openFromEdge_6 E Y (f9_openFromEdge_71 E Y) (g + 1) B (nI k) t' = f9_openFromEdge_6 E Y (f9_openFromEdge_71 E Y) g B (nI (k + 1)) t'
          simp (disch := omega) only [pv_lt, pu_ck, pv_bI, pv_bV, pu_bR, pv_bL, pv_nt, pu_us, pu_un, mL_0, mL_1, mL_2, mL_3, mL_4, mL_5, mL_6, mL_7, mL_8, mL_9, mL_10, mL_11, mL_12, mL_13, mL_14, mL_15, mL_16, mL_23, mL_24, mL_32, mL_48, mL_64, mL_99, mL_100, mL_200, mL_336, mL_576, mL_768, mL_800, mL_999, mL_4095, mL_4096, mL_m1, nI_leI, nI_ltI, nI_eq, nI_clamp, nI_add, pk_mul, nI_nu, bI_eq0, bI_eq1, bo_ft, Bool.true_eq_false, Bool.false_eq_true, pu_of, pu_of24, pu_onward, pu_frq, if_true, if_false, true_or, or_true, false_or, or_false, and_true, true_and, and_false, false_and, not_true_eq_false, not_false_eq_true, if_neg, if_pos, f9_openFromEdge_6, f9_openFromEdge_65, pu_st, c]
      | true =>
        have c : ¬ lg_cmp (E &&& ol k) 0 = nI 0 := fun q => by rw [(lz_hit hk).mp q] at hb; exact absurd hb (by decide)
        obtain ⟨A, hA⟩ : ∃ A, A = ((t'.2 18 0 k) &&& (Y ^^^ (-1))) &&& (B ^^^ (-1)) := ⟨_, rfl⟩
        have bA : ∀ v, v < 64 → (bl A v = true ↔ bl (t.2 18 0 k) v = true ∧ bl Y v = false ∧ bl B v = false) := fun v hv => by
          rw [hA, bl_and, bl_and, bl_not hv, bl_not hv, p4.1]
          cases bl (t.2 18 0 k) v <;> cases bl Y v <;> cases bl B v <;> simp
        obtain ⟨t2, e2, o2, f2⟩ := pc_origin (t := t') (A := A) (n := k)
        have bB : ∀ v, bl (B ||| A) v = (bl B v || bl A v) := fun v => bl_or
        refine ⟨(B ||| A, t2), ⟨fun v hv => ?_, fun v hv q => ?_, fun v hv q => ?_, fr_trans p4 f2⟩, ?_⟩
        · show bl (B ||| A) v = true ↔ _
          rw [bB, Bool.or_eq_true, bA v hv]
          constructor
          · rintro (q | ⟨q1, q2, q3⟩)
            · obtain ⟨q1, u, q2, q3⟩ := (p1 v hv).mp q
              exact ⟨q1, u, by omega, q3⟩
            · exact ⟨q2, k, by omega, hb, q1⟩
          · rintro ⟨q1, u, q2, q3, q4⟩
            by_cases e : u = k
            · subst e
              cases hB : bl B v with
              | true => exact Or.inl rfl
              | false => exact Or.inr ⟨q4, q1, rfl⟩
            · exact Or.inl ((p1 v hv).mpr ⟨q1, u, by omega, q3, q4⟩)
        · have q' : bl (B ||| A) v = true := q
          show ∃ u, u < 48 ∧ bl E u = true ∧ bl (t.2 18 0 u) v = true ∧ t2.1 19 0 v = nI u
          rw [o2 v hv]
          by_cases hAv : bl A v = true
          · rw [if_pos hAv]
            exact ⟨k, hk, hb, ((bA v (by omega)).mp hAv).1, rfl⟩
          · rw [if_neg hAv]
            rw [bB, Bool.or_eq_true] at q'
            exact p2 v hv (q'.resolve_right hAv)
        · have q' : bl (B ||| A) v = false := q
          show t2.1 19 0 v = t.1 19 0 v
          rw [bB, Bool.or_eq_false_iff] at q'
          rw [o2 v hv, if_neg (fun e => by rw [q'.2] at e; exact absurd e (by decide))]
          exact p3 v hv q'.1
        · show f9_openFromEdge_6 E Y (f9_openFromEdge_71 E Y) (g + 1) B (nI k) t' = f9_openFromEdge_6 E Y (f9_openFromEdge_71 E Y) g (B ||| A) (nI (k + 1)) t2
          have i1 : ¬ (nI k < nI 0 ∨ 48 ≤ (nI k).toNatClampNeg) := nI_in (by omega) (by omega)
          simp (disch := omega) only [pv_lt, pu_ck, pv_bI, pv_bV, pu_bR, pv_bL, pv_nt, pu_us, pu_un, mL_0, mL_1, mL_2, mL_3, mL_4, mL_5, mL_6, mL_7, mL_8, mL_9, mL_10, mL_11, mL_12, mL_13, mL_14, mL_15, mL_16, mL_23, mL_24, mL_32, mL_48, mL_64, mL_99, mL_100, mL_200, mL_336, mL_576, mL_768, mL_800, mL_999, mL_4095, mL_4096, mL_m1, nI_leI, nI_ltI, nI_eq, nI_clamp, nI_add, pk_mul, nI_nu, bI_eq0, bI_eq1, bo_ft, Bool.true_eq_false, Bool.false_eq_true, pu_of, pu_of24, pu_onward, pu_frq, if_true, if_false, true_or, or_true, false_or, or_false, and_true, true_and, and_false, false_and, not_true_eq_false, not_false_eq_true, if_neg, if_pos, f9_openFromEdge_6, f9_openFromEdge_65, pu_st, c, i1, ← hA, e2]
    · rintro g ⟨B, t'⟩ _
      show f9_openFromEdge_6 E Y (f9_openFromEdge_71 E Y) (g + 1) B (nI 48) t' = _
      simp (disch := omega) only [pv_lt, pu_ck, pv_bI, pv_bV, pu_bR, pv_bL, pv_nt, pu_us, pu_un, mL_0, mL_1, mL_2, mL_3, mL_4, mL_5, mL_6, mL_7, mL_8, mL_9, mL_10, mL_11, mL_12, mL_13, mL_14, mL_15, mL_16, mL_23, mL_24, mL_32, mL_48, mL_64, mL_99, mL_100, mL_200, mL_336, mL_576, mL_768, mL_800, mL_999, mL_4095, mL_4096, mL_m1, nI_leI, nI_ltI, nI_eq, nI_clamp, nI_add, pk_mul, nI_nu, bI_eq0, bI_eq1, bo_ft, Bool.true_eq_false, Bool.false_eq_true, pu_of, pu_of24, pu_onward, pu_frq, if_true, if_false, true_or, or_true, false_or, or_false, and_true, true_and, and_false, false_and, not_true_eq_false, not_false_eq_true, if_neg, if_pos, f9_openFromEdge_6, f9_openFromEdge_71]
  obtain ⟨⟨B, t'⟩, ⟨p1, p2, p3, p4⟩, e⟩ := main
  exact ⟨B, t', e, p1, p2, p3, p4⟩
end
