section
/-! the reference: a way more -/
theorem mL_2304 : (2304 : Int32) = nI 2304 := by decide
def hR (t : sr_t) (r : Nat → Nat → Nat) : Prop := ∀ u v, u < 48 → v < 48 → t.1 45 0 (48 * u + v) = nI (r u v)
def S_gr (k _i _j : Nat) : Prop := k = 44 ∨ k = 45 ∨ k = 46
def S_gq (k _i _j : Nat) : Prop := k = 44 ∨ k = 46
abbrev gq_A : Type := (Nat → Nat) × Nat × (Nat → Bool) × (Nat → Nat) × sr_t
def gq_I (r : Nat → Nat → Nat) (t0 : sr_t) (a : Nat) (z : gq_A) : Prop := (1 ≤ z.2.1 ∧ z.2.1 = rg_cu z.2.2.1 48) ∧ (∀ i, i < z.2.1 → z.1 i < 48 ∧ z.2.2.1 (z.1 i) = true ∧ z.2.2.2.2.1 44 0 i = nI (z.1 i)) ∧ (∀ v, v < 48 → z.2.2.1 v = true → (∃ i, i < z.2.1 ∧ z.1 i = v) ∧ z.2.2.2.1 v < z.2.1 ∧ ∃ p, p < 48 ∧ z.2.2.2.2.1 46 0 v = nI p ∧ (v ≠ a → z.2.2.1 p = true ∧ z.2.2.2.1 p < z.2.2.2.1 v ∧ r p v ≠ 0)) ∧ (∀ v, v < 48 → z.2.2.1 v = false → z.2.2.2.2.1 46 0 v = nu 24) ∧ z.2.2.1 a = true ∧ fr S_gq t0 z.2.2.2.2
def gq_P (r : Nat → Nat → Nat) (z : gq_A) (h : Nat) : Prop := ∀ i, i < h → ∀ v, v < 48 → r (z.1 i) v ≠ 0 → z.2.2.1 v = true
def gq_N (z : gq_A) (x n : Nat) : gq_A := (fun i => if i = z.2.1 then n else z.1 i, z.2.1 + 1, fun v => z.2.2.1 v || v == n, fun v => if v = n then z.2.1 else z.2.2.2.1 v, sr_u (sr_u z.2.2.2.2 46 0 n (nI x)) 44 0 z.2.1 (nI n))
theorem gq_new {r : Nat → Nat → Nat} {t0 : sr_t} {a h n : Nat} {z : gq_A} (I : gq_I r t0 a z) (hh : h < z.2.1) (hn : n < 48) (hV : z.2.2.1 n = false) (he : r (z.1 h) n ≠ 0) : gq_I r t0 a (gq_N z (z.1 h) n) ∧ z.2.1 < 48 := by
  obtain ⟨q, tl, V, d, t⟩ := z
  have hh : h < tl := hh
  have hV : V n = false := hV
  have he : r (q h) n ≠ 0 := he
  obtain ⟨⟨i0, i1⟩, i2, i3, i4, i5, i6⟩ := I
  have i0 : 1 ≤ tl := i0
  have i1 : tl = rg_cu V 48 := i1
  have i2 : ∀ i, i < tl → q i < 48 ∧ V (q i) = true ∧ t.1 44 0 i = nI (q i) := i2
  have i3 : ∀ v, v < 48 → V v = true → (∃ i, i < tl ∧ q i = v) ∧ d v < tl ∧ ∃ p, p < 48 ∧ t.1 46 0 v = nI p ∧ (v ≠ a → V p = true ∧ d p < d v ∧ r p v ≠ 0) := i3
  have i4 : ∀ v, v < 48 → V v = false → t.1 46 0 v = nu 24 := i4
  have i5 : V a = true := i5
  have i6 : fr S_gq t0 t := i6
  have cu := cu_ins (u := V) (v := fun v => V v || v == n) (m := n) 48 hn hV (by simp) (fun k _ hk => by simp [hk])
  have le := rg_cu_le (fun v => V v || v == n) 48
  have lt : tl < 48 := by omega
  have Vn : ∀ v, V v = true → v ≠ n := fun v h e => by rw [e, hV] at h; exact absurd h (by decide)
  have qh := i2 h hh
  refine ⟨⟨⟨by show 1 ≤ tl + 1; omega, by show tl + 1 = rg_cu (fun v => V v || v == n) 48; omega⟩, fun i hi => ?_, fun v hv hw => ?_, fun v hv hw => ?_, ?_, fr_u (fr_u i6 (Or.inr rfl)) (Or.inl rfl)⟩, lt⟩
  · have hi : i < tl + 1 := hi
    show (if i = tl then n else q i) < 48 ∧ (V (if i = tl then n else q i) || (if i = tl then n else q i) == n) = true ∧ (sr_u (sr_u t 46 0 n (nI (q h))) 44 0 tl (nI n)).1 44 0 i = nI (if i = tl then n else q i)
    by_cases e : i = tl
    · rw [if_pos e, e, pu_us]
      exact ⟨hn, by simp, rfl⟩
    · rw [if_neg e, pu_un (by omega), pu_un (by omega)]
      obtain ⟨a1, a2, a3⟩ := i2 i (by omega)
      exact ⟨a1, by rw [a2]; rfl, a3⟩
  · have hw : (V v || v == n) = true := hw
    show (∃ i, i < tl + 1 ∧ (if i = tl then n else q i) = v) ∧ (if v = n then tl else d v) < tl + 1 ∧ ∃ p, p < 48 ∧ (sr_u (sr_u t 46 0 n (nI (q h))) 44 0 tl (nI n)).1 46 0 v = nI p ∧ (v ≠ a → (V p || p == n) = true ∧ (if p = n then tl else d p) < (if v = n then tl else d v) ∧ r p v ≠ 0)
    by_cases e : v = n
    · subst e
      rw [if_pos rfl]
      refine ⟨⟨tl, by omega, if_pos rfl⟩, by omega, q h, qh.1, ?_, fun _ => ⟨by rw [qh.2.1]; rfl, ?_, he⟩⟩
      · rw [pu_un (by omega), pu_us]
      · rw [if_neg (Vn _ qh.2.1)]
        exact (i3 _ qh.1 qh.2.1).2.1
    · rw [if_neg e]
      have hVv : V v = true := by simpa [e] using hw
      obtain ⟨⟨i, j1, j2⟩, j3, p, j4, j5, j6⟩ := i3 v hv hVv
      refine ⟨⟨i, by omega, by rw [if_neg (by omega)]; exact j2⟩, by omega, p, j4, ?_, fun hne => ?_⟩
      · rw [pu_un (by omega), pu_un (by omega)]; exact j5
      · obtain ⟨k1, k2, k3⟩ := j6 hne
        exact ⟨by rw [k1]; rfl, by rw [if_neg (Vn _ k1)]; exact k2, k3⟩
  · have hw : (V v || v == n) = false := hw
    show (sr_u (sr_u t 46 0 n (nI (q h))) 44 0 tl (nI n)).1 46 0 v = nu 24
    simp only [Bool.or_eq_false_iff, beq_eq_false_iff_ne] at hw
    rw [pu_un (by omega), pu_un (fun q => hw.2 q.2.2)]
    exact i4 v hv hw.1
  · show (V a || a == n) = true
    rw [i5]
    rfl
theorem pr_inner {r : Nat → Nat → Nat} {t0 : sr_t} {a h : Nat} {z : gq_A} {b : Int32} {K : Int32 → Int32 → sr_t → sr_Rs} (H : hR t0 r) (hr : ∀ u v, u < 48 → v < 48 → r u v < 2 ^ 31) (I : gq_I r t0 a z) (hh : h < z.2.1) (P : gq_P r z h) : ∃ z' : gq_A, (gq_I r t0 a z' ∧ h < z'.2.1 ∧ gq_P r z' (h + 1)) ∧ f11_goesOnce_49 (nI a) b K sr_fu (nI z.2.1) (nI h) (nI 0) z.2.2.2.2 = K (nI z'.2.1) (nI h) z'.2.2.2.2 := by
  obtain ⟨x, hx⟩ : ∃ x, x = z.1 h := ⟨_, rfl⟩
  have main : ∃ z' : gq_A, (gq_I r t0 a z' ∧ h < z'.2.1 ∧ z'.1 h = x ∧ gq_P r z' h ∧ ∀ y, y < 48 → r x y ≠ 0 → z'.2.2.1 y = true) ∧ f11_goesOnce_49 (nI a) b K sr_fu (nI z.2.1) (nI h) (nI 0) z.2.2.2.2 = K (nI z'.2.1) (nI h) z'.2.2.2.2 := by
    refine pu_forR (α := gq_A) (N := 48) (L := fun f n z => f11_goesOnce_49 (nI a) b K f (nI z.2.1) (nI h) (nI n) z.2.2.2.2) (fin := fun z => K (nI z.2.1) (nI h) z.2.2.2.2) (P := fun n z' => gq_I r t0 a z' ∧ h < z'.2.1 ∧ z'.1 h = x ∧ gq_P r z' h ∧ ∀ y, y < n → r x y ≠ 0 → z'.2.2.1 y = true) ?_ ?_ (by unfold sr_fu; omega) ⟨I, hh, hx.symm, P, fun y hy => by omega⟩
    · rintro n g ⟨q, tl, V, d, t⟩ hn ⟨I, hh, hx, P, E⟩
      have hh : h < tl := hh
      have hx : q h = x := hx
      have E : ∀ y, y < n → r x y ≠ 0 → V y = true := E
      have P' : ∀ i, i < h → ∀ v, v < 48 → r (q i) v ≠ 0 → V v = true := P
      have tl48 : tl ≤ 48 := by
        have h1 : tl = rg_cu V 48 := I.1.2
        have := rg_cu_le V 48
        omega
      have qh : q h < 48 ∧ V (q h) = true ∧ t.1 44 0 h = nI (q h) := I.2.1 h hh
      rw [hx] at qh
      have e44 := qh.2.2
      have f0 : fr S_gq t0 t := I.2.2.2.2.2
      have e45 : t.1 45 0 (48 * x + n) = nI (r x n) := by
        rw [f0.2 _ _ _ (by unfold S_gq; omega)]
        exact H x n qh.1 hn
      have rb := hr x n qh.1 hn
      have x48 := qh.1
      show ∃ z' : gq_A, (gq_I r t0 a z' ∧ h < z'.2.1 ∧ z'.1 h = x ∧ gq_P r z' h ∧ ∀ y, y < n + 1 → r x y ≠ 0 → z'.2.2.1 y = true) ∧ f11_goesOnce_49 (nI a) b K (g + 1) (nI tl) (nI h) (nI n) t = f11_goesOnce_49 (nI a) b K g (nI z'.2.1) (nI h) (nI (n + 1)) z'.2.2.2.2
      cases hV : V n with
      | true =>
        obtain ⟨_, _, p, p1, p2, _⟩ := I.2.2.1 n hn hV
        have p2 : t.1 46 0 n = nI p := p2
        refine ⟨(q, tl, V, d, t), ⟨I, hh, hx, P, fun y hy hne => ?_⟩, ?_⟩
        · show V y = true
          by_cases e : y = n
          · rw [e]; exact hV
          · exact E y (by omega) hne
        · show f11_goesOnce_49 (nI a) b K (g + 1) (nI tl) (nI h) (nI n) t = f11_goesOnce_49 (nI a) b K g (nI tl) (nI h) (nI (n + 1)) t
          simp (disch := omega) only [pv_lt, pu_ck, pv_bI, pv_bV, pu_bR, pv_bL, pv_nt, pu_us, pu_un, mL_0, mL_1, mL_2, mL_3, mL_4, mL_5, mL_6, mL_7, mL_8, mL_9, mL_10, mL_11, mL_12, mL_13, mL_14, mL_15, mL_16, mL_23, mL_24, mL_32, mL_48, mL_64, mL_99, mL_100, mL_200, mL_336, mL_576, mL_768, mL_800, mL_999, mL_4095, mL_4096, mL_m1, nI_leI, nI_ltI, nI_eq, nI_clamp, nI_add, pk_mul, nI_nu, bI_eq0, bI_eq1, bo_ft, Bool.true_eq_false, Bool.false_eq_true, pu_of, pu_of24, pu_onward, pu_frq, if_true, if_false, true_or, or_true, false_or, or_false, and_true, true_and, and_false, false_and, not_true_eq_false, not_false_eq_true, if_neg, if_pos, f11_goesOnce_49, f11_goesOnce_116, p2, pu_ixN']
      | false =>
        have p2 : t.1 46 0 n = nu 24 := I.2.2.2.1 n hn hV
        by_cases hz : r x n = 0
        · rw [hz] at e45
          refine ⟨(q, tl, V, d, t), ⟨I, hh, hx, P, fun y hy hne => ?_⟩, ?_⟩
          · show V y = true
            by_cases e : y = n
            · rw [e] at hne; exact absurd hz hne
            · exact E y (by omega) hne
          · show f11_goesOnce_49 (nI a) b K (g + 1) (nI tl) (nI h) (nI n) t = f11_goesOnce_49 (nI a) b K g (nI tl) (nI h) (nI (n + 1)) t
            simp (disch := omega) only [pv_lt, pu_ck, pv_bI, pv_bV, pu_bR, pv_bL, pv_nt, pu_us, pu_un, mL_0, mL_1, mL_2, mL_3, mL_4, mL_5, mL_6, mL_7, mL_8, mL_9, mL_10, mL_11, mL_12, mL_13, mL_14, mL_15, mL_16, mL_23, mL_24, mL_32, mL_48, mL_64, mL_99, mL_100, mL_200, mL_336, mL_576, mL_768, mL_800, mL_999, mL_4095, mL_4096, mL_m1, nI_leI, nI_ltI, nI_eq, nI_clamp, nI_add, pk_mul, nI_nu, bI_eq0, bI_eq1, bo_ft, Bool.true_eq_false, Bool.false_eq_true, pu_of, pu_of24, pu_onward, pu_frq, if_true, if_false, true_or, or_true, false_or, or_false, and_true, true_and, and_false, false_and, not_true_eq_false, not_false_eq_true, if_neg, if_pos, f11_goesOnce_49, f11_goesOnce_116, p2, e44, e45, pu_ixN']
        · obtain ⟨I', lt⟩ := gq_new (z := (q, tl, V, d, t)) (h := h) (n := n) I hh hn hV (by show r (q h) n ≠ 0; rw [hx]; exact hz)
          have lt : tl < 48 := lt
          have I' : gq_I r t0 a (gq_N (q, tl, V, d, t) (q h) n) := I'
          rw [hx] at I'
          refine ⟨gq_N (q, tl, V, d, t) x n, ⟨I', by show h < tl + 1; omega, ?_, fun i hi v hv hne => ?_, fun y hy hne => ?_⟩, ?_⟩
          · show (if h = tl then n else q h) = x
            rw [if_neg (by omega)]; exact hx
          · have hne' : r (if i = tl then n else q i) v ≠ 0 := hne
            rw [if_neg (by omega)] at hne'
            show (V v || v == n) = true
            rw [P' i hi v hv hne']
            rfl
          · show (V y || y == n) = true
            by_cases e : y = n
            · rw [e]; simp
            · rw [E y (by omega) hne]; rfl
          · show f11_goesOnce_49 (nI a) b K (g + 1) (nI tl) (nI h) (nI n) t = f11_goesOnce_49 (nI a) b K g (nI (tl + 1)) (nI h) (nI (n + 1)) (sr_u (sr_u t 46 0 n (nI x)) 44 0 tl (nI n))
            simp (disch := omega) only [pv_lt, pu_ck, pv_bI, pv_bV, pu_bR, pv_bL, pv_nt, pu_us, pu_un, mL_0, mL_1, mL_2, mL_3, mL_4, mL_5, mL_6, mL_7, mL_8, mL_9, mL_10, mL_11, mL_12, mL_13, mL_14, mL_15, mL_16, mL_23, mL_24, mL_32, mL_48, mL_64, mL_99, mL_100, mL_200, mL_336, mL_576, mL_768, mL_800, mL_999, mL_4095, mL_4096, mL_m1, nI_leI, nI_ltI, nI_eq, nI_clamp, nI_add, pk_mul, nI_nu, bI_eq0, bI_eq1, bo_ft, Bool.true_eq_false, Bool.false_eq_true, pu_of, pu_of24, pu_onward, pu_frq, if_true, if_false, true_or, or_true, false_or, or_false, and_true, true_and, and_false, false_and, not_true_eq_false, not_false_eq_true, if_neg, if_pos, f11_goesOnce_49, f11_goesOnce_116, p2, e44, e45, hz, pu_ixN']
    · rintro g ⟨q, tl, V, d, t⟩ _
      show f11_goesOnce_49 (nI a) b K (g + 1) (nI tl) (nI h) (nI 48) t = K (nI tl) (nI h) t
      simp (disch := omega) only [pv_lt, pu_ck, pv_bI, pv_bV, pu_bR, pv_bL, pv_nt, pu_us, pu_un, mL_0, mL_1, mL_2, mL_3, mL_4, mL_5, mL_6, mL_7, mL_8, mL_9, mL_10, mL_11, mL_12, mL_13, mL_14, mL_15, mL_16, mL_23, mL_24, mL_32, mL_48, mL_64, mL_99, mL_100, mL_200, mL_336, mL_576, mL_768, mL_800, mL_999, mL_4095, mL_4096, mL_m1, nI_leI, nI_ltI, nI_eq, nI_clamp, nI_add, pk_mul, nI_nu, bI_eq0, bI_eq1, bo_ft, Bool.true_eq_false, Bool.false_eq_true, pu_of, pu_of24, pu_onward, pu_frq, if_true, if_false, true_or, or_true, false_or, or_false, and_true, true_and, and_false, false_and, not_true_eq_false, not_false_eq_true, if_neg, if_pos, f11_goesOnce_49]
  obtain ⟨z', ⟨I', h', x', P', E'⟩, e⟩ := main
  refine ⟨z', ⟨I', h', fun i hi v hv hne => ?_⟩, e⟩
  by_cases ei : i = h
  · rw [ei, x'] at hne
    exact E' v hv hne
  · exact P' i (by omega) v hv hne
/-- the walk back -/
theorem pr_walk {t : sr_t} {r0 r : Nat → Nat → Nat} {V : Nat → Bool} {p d : Nat → Nat} {F a b : Nat} (hb0 : ∀ u v, u < 48 → v < 48 → r0 u v ≤ 24) (H : hR t r) (W : fl_W r0 r a b F V p d b) (ha : a < 48) (hd : d b ≤ 48) (h46 : ∀ v, v < 48 → V v = true → v ≠ a → t.1 46 0 v = nI (p v)) : ∃ t', f11_goesOnce_143 (nI a) (nI b) (f11_goesOnce_205 (nI a) (nI b)) sr_fu (nI b) t = some (.inl (some (sr_i (nI 1))), t') ∧ fr S_gr t t' ∧ ∃ r', hR t' r' ∧ fl_K r0 r' a b F a := by
  refine rs_via fun Q hQ => ?_
  have fin : ∀ {t1 : sr_t}, f11_goesOnce_205 (nI a) (nI b) t1 = some (.inl (some (sr_i (nI 1))), t1) := by
    intro t1
    simp (disch := omega) only [pv_lt, pu_ck, pv_bI, pv_bV, pu_bR, pv_bL, pv_nt, pu_us, pu_un, mL_0, mL_1, mL_2, mL_3, mL_4, mL_5, mL_6, mL_7, mL_8, mL_9, mL_10, mL_11, mL_12, mL_13, mL_14, mL_15, mL_16, mL_23, mL_24, mL_32, mL_48, mL_64, mL_99, mL_100, mL_200, mL_336, mL_576, mL_768, mL_800, mL_999, mL_4095, mL_4096, mL_m1, nI_leI, nI_ltI, nI_eq, nI_clamp, nI_add, pk_mul, nI_nu, bI_eq0, bI_eq1, bo_ft, Bool.true_eq_false, Bool.false_eq_true, pu_of, pu_of24, pu_onward, pu_frq, if_true, if_false, true_or, or_true, false_or, or_false, and_true, true_and, and_false, false_and, not_true_eq_false, not_false_eq_true, if_neg, if_pos, f11_goesOnce_205]
  refine rs_loopA (α := Nat × (Nat → Nat → Nat) × sr_t) (N := 48) (L := fun f k z => f11_goesOnce_143 (nI a) (nI b) (f11_goesOnce_205 (nI a) (nI b)) f (nI z.1) z.2.2) (fun k z => fl_W r0 z.2.1 a b F V p d z.1 ∧ hR z.2.2 z.2.1 ∧ (∀ v, v < 48 → z.2.2.1 46 0 v = t.1 46 0 v) ∧ fr S_gr t z.2.2 ∧ d z.1 + k ≤ 48) ?_ ?_ (a := (b, r, t)) (by unfold sr_fu; omega) ⟨W, H, fun _ _ => rfl, fr_rfl, by show d b + 0 ≤ 48; omega⟩
  · rintro k g ⟨c, r1, t1⟩ hk ⟨W1, H1, g1, f1, d1⟩
    have W1 : fl_W r0 r1 a b F V p d c := W1
    have H1 : hR t1 r1 := H1
    have g1 : ∀ v, v < 48 → t1.1 46 0 v = t.1 46 0 v := g1
    have f1 : fr S_gr t t1 := f1
    have d1 : d c + k ≤ 48 := d1
    have c48 := W1.2.1
    by_cases e : c = a
    · right
      show rs_to Q (f11_goesOnce_143 (nI a) (nI b) (f11_goesOnce_205 (nI a) (nI b)) (g + 1) (nI c) t1)
      simp (disch := omega) only [pv_lt, pu_ck, pv_bI, pv_bV, pu_bR, pv_bL, pv_nt, pu_us, pu_un, mL_0, mL_1, mL_2, mL_3, mL_4, mL_5, mL_6, mL_7, mL_8, mL_9, mL_10, mL_11, mL_12, mL_13, mL_14, mL_15, mL_16, mL_23, mL_24, mL_32, mL_48, mL_64, mL_99, mL_100, mL_200, mL_336, mL_576, mL_768, mL_800, mL_999, mL_4095, mL_4096, mL_m1, nI_leI, nI_ltI, nI_eq, nI_clamp, nI_add, pk_mul, nI_nu, bI_eq0, bI_eq1, bo_ft, Bool.true_eq_false, Bool.false_eq_true, pu_of, pu_of24, pu_onward, pu_frq, if_true, if_false, true_or, or_true, false_or, or_false, and_true, true_and, and_false, false_and, not_true_eq_false, not_false_eq_true, if_neg, if_pos, f11_goesOnce_143, fin, e]
      rw [e] at W1
      exact rs_ret (hQ _ ⟨f1, r1, H1, W1.1⟩)
    · left
      obtain ⟨W2, s1, s2, s3, s4⟩ := fl_step W1 e
      have e46 : t1.1 46 0 c = nI (p c) := by rw [g1 c c48]; exact h46 c c48 W1.2.2.1 e
      have h1 := H1 (p c) c s3 c48
      have h2 := H1 c (p c) c48 s3
      have b1 := W1.1.1 (p c) c s3 c48
      have b2 := hb0 (p c) c s3 c48
      have b3 := hb0 c (p c) c48 s3
      have sub : nI (r1 (p c) c) - nI 1 = nI (r1 (p c) c - 1) := pk_sub (by omega)
      refine ⟨(p c, fl_P r1 (p c) c, sr_u (sr_u t1 45 0 (48 * p c + c) (nI (r1 (p c) c - 1))) 45 0 (48 * c + p c) (nI (r1 c (p c) + 1))), ⟨W2, fun u v hu hv => ?_, fun v hv => ?_, fr_u (fr_u f1 (by unfold S_gr; omega)) (by unfold S_gr; omega), by show d (p c) + (k + 1) ≤ 48; omega⟩, ?_⟩
      · show (sr_u (sr_u t1 45 0 (48 * p c + c) (nI (r1 (p c) c - 1))) 45 0 (48 * c + p c) (nI (r1 c (p c) + 1))).1 45 0 (48 * u + v) = nI (fl_P r1 (p c) c u v)
        unfold fl_P
        by_cases e1 : u = p c ∧ v = c
        · rw [if_pos e1, e1.1, e1.2, pu_un (by omega), pu_us]
        · rw [if_neg e1]
          by_cases e2 : u = c ∧ v = p c
          · rw [if_pos e2, e2.1, e2.2, pu_us]
          · rw [if_neg e2, pu_un (by omega), pu_un (by omega)]
            exact H1 u v hu hv
      · show (sr_u (sr_u t1 45 0 (48 * p c + c) (nI (r1 (p c) c - 1))) 45 0 (48 * c + p c) (nI (r1 c (p c) + 1))).1 46 0 v = t.1 46 0 v
        rw [pu_un (by omega), pu_un (by omega)]
        exact g1 v hv
      · show f11_goesOnce_143 (nI a) (nI b) (f11_goesOnce_205 (nI a) (nI b)) (g + 1) (nI c) t1 = f11_goesOnce_143 (nI a) (nI b) (f11_goesOnce_205 (nI a) (nI b)) g (nI (p c)) (sr_u (sr_u t1 45 0 (48 * p c + c) (nI (r1 (p c) c - 1))) 45 0 (48 * c + p c) (nI (r1 c (p c) + 1)))
        simp (disch := omega) only [pv_lt, pu_ck, pv_bI, pv_bV, pu_bR, pv_bL, pv_nt, pu_us, pu_un, mL_0, mL_1, mL_2, mL_3, mL_4, mL_5, mL_6, mL_7, mL_8, mL_9, mL_10, mL_11, mL_12, mL_13, mL_14, mL_15, mL_16, mL_23, mL_24, mL_32, mL_48, mL_64, mL_99, mL_100, mL_200, mL_336, mL_576, mL_768, mL_800, mL_999, mL_4095, mL_4096, mL_m1, nI_leI, nI_ltI, nI_eq, nI_clamp, nI_add, pk_mul, nI_nu, bI_eq0, bI_eq1, bo_ft, Bool.true_eq_false, Bool.false_eq_true, pu_of, pu_of24, pu_onward, pu_frq, if_true, if_false, true_or, or_true, false_or, or_false, and_true, true_and, and_false, false_and, not_true_eq_false, not_false_eq_true, if_neg, if_pos, f11_goesOnce_143, e46, e, h1, h2, sub, pu_ixN']
  · rintro g ⟨c, r1, t1⟩ ⟨W1, H1, g1, f1, d1⟩
    have W1 : fl_W r0 r1 a b F V p d c := W1
    have H1 : hR t1 r1 := H1
    have f1 : fr S_gr t t1 := f1
    have d1 : d c + 48 ≤ 48 := d1
    have c48 := W1.2.1
    have e : c = a := by
      apply Decidable.byContradiction
      intro e
      have := (fl_step W1 e).2.2.2.2
      omega
    show rs_to Q (f11_goesOnce_143 (nI a) (nI b) (f11_goesOnce_205 (nI a) (nI b)) (g + 1) (nI c) t1)
    simp (disch := omega) only [pv_lt, pu_ck, pv_bI, pv_bV, pu_bR, pv_bL, pv_nt, pu_us, pu_un, mL_0, mL_1, mL_2, mL_3, mL_4, mL_5, mL_6, mL_7, mL_8, mL_9, mL_10, mL_11, mL_12, mL_13, mL_14, mL_15, mL_16, mL_23, mL_24, mL_32, mL_48, mL_64, mL_99, mL_100, mL_200, mL_336, mL_576, mL_768, mL_800, mL_999, mL_4095, mL_4096, mL_m1, nI_leI, nI_ltI, nI_eq, nI_clamp, nI_add, pk_mul, nI_nu, bI_eq0, bI_eq1, bo_ft, Bool.true_eq_false, Bool.false_eq_true, pu_of, pu_of24, pu_onward, pu_frq, if_true, if_false, true_or, or_true, false_or, or_false, and_true, true_and, and_false, false_and, not_true_eq_false, not_false_eq_true, if_neg, if_pos, f11_goesOnce_143, fin, e]
    rw [e] at W1
    exact rs_ret (hQ _ ⟨f1, r1, H1, W1.1⟩)
theorem pr_once {t : sr_t} {r0 r : Nat → Nat → Nat} {F a b : Nat} (ha : a < 48) (hb : b < 48) (hb0 : ∀ u v, u < 48 → v < 48 → r0 u v ≤ 24) (H : hR t r) (K : fl_K r0 r a b F b) : ∃ x t', F11_goesOnce (nI a) (nI b) t = some (.inl (some (sr_i (bI x))), t') ∧ fr S_gr t t' ∧ (x = false → hR t' r ∧ ∃ T : Nat → Bool, T a = true ∧ T b = false ∧ ∀ u v, u < 48 → v < 48 → T u = true → T v = false → r u v = 0) ∧ (x = true → ∃ r', hR t' r' ∧ fl_K r0 r' a b (F + 1) b) := by
  have hr : ∀ u v, u < 48 → v < 48 → r u v < 2 ^ 31 := fun u v hu hv => by
    have := K.1 u v hu hv
    have := hb0 u v hu hv
    have := hb0 v u hv hu
    omega
  have e1 : ∃ t1, ((∀ v, v < 48 → t1.1 46 0 v = nu 24) ∧ fr S_gq t t1) ∧ f11_goesOnce_2 (nI a) (nI b) (f11_goesOnce_21 (nI a) (nI b)) sr_fu (nI 0) t = f11_goesOnce_21 (nI a) (nI b) t1 := by
    refine pu_forR (N := 48) (L := fun f n t' => f11_goesOnce_2 (nI a) (nI b) (f11_goesOnce_21 (nI a) (nI b)) f (nI n) t') (fin := fun t' => f11_goesOnce_21 (nI a) (nI b) t') (P := fun n t' => (∀ v, v < n → t'.1 46 0 v = nu 24) ∧ fr S_gq t t') ?_ ?_ (by unfold sr_fu; omega) ⟨fun y hy => by omega, fr_rfl⟩
    · rintro n g t' hn ⟨p1, p2⟩
      refine ⟨sr_u t' 46 0 n (nu 24), ⟨fun v hv => ?_, fr_u p2 (Or.inr rfl)⟩, ?_⟩
      · by_cases e : v = n
        · rw [e, pu_us]
        · rw [pu_un (by omega)]; exact p1 v (by omega)
      · show f11_goesOnce_2 (nI a) (nI b) (f11_goesOnce_21 (nI a) (nI b)) (g + 1) (nI n) t' = f11_goesOnce_2 (nI a) (nI b) (f11_goesOnce_21 (nI a) (nI b)) g (nI (n + 1)) (sr_u t' 46 0 n (nu 24))
        simp (disch := omega) only [pv_lt, pu_ck, pv_bI, pv_bV, pu_bR, pv_bL, pv_nt, pu_us, pu_un, mL_0, mL_1, mL_2, mL_3, mL_4, mL_5, mL_6, mL_7, mL_8, mL_9, mL_10, mL_11, mL_12, mL_13, mL_14, mL_15, mL_16, mL_23, mL_24, mL_32, mL_48, mL_64, mL_99, mL_100, mL_200, mL_336, mL_576, mL_768, mL_800, mL_999, mL_4095, mL_4096, mL_m1, nI_leI, nI_ltI, nI_eq, nI_clamp, nI_add, pk_mul, nI_nu, bI_eq0, bI_eq1, bo_ft, Bool.true_eq_false, Bool.false_eq_true, pu_of, pu_of24, pu_onward, pu_frq, if_true, if_false, true_or, or_true, false_or, or_false, and_true, true_and, and_false, false_and, not_true_eq_false, not_false_eq_true, if_neg, if_pos, f11_goesOnce_2, pu_ixN']
    · rintro g t' _
      show f11_goesOnce_2 (nI a) (nI b) (f11_goesOnce_21 (nI a) (nI b)) (g + 1) (nI 48) t' = _
      simp (disch := omega) only [pv_lt, pu_ck, pv_bI, pv_bV, pu_bR, pv_bL, pv_nt, pu_us, pu_un, mL_0, mL_1, mL_2, mL_3, mL_4, mL_5, mL_6, mL_7, mL_8, mL_9, mL_10, mL_11, mL_12, mL_13, mL_14, mL_15, mL_16, mL_23, mL_24, mL_32, mL_48, mL_64, mL_99, mL_100, mL_200, mL_336, mL_576, mL_768, mL_800, mL_999, mL_4095, mL_4096, mL_m1, nI_leI, nI_ltI, nI_eq, nI_clamp, nI_add, pk_mul, nI_nu, bI_eq0, bI_eq1, bo_ft, Bool.true_eq_false, Bool.false_eq_true, pu_of, pu_of24, pu_onward, pu_frq, if_true, if_false, true_or, or_true, false_or, or_false, and_true, true_and, and_false, false_and, not_true_eq_false, not_false_eq_true, if_neg, if_pos, f11_goesOnce_2]
  obtain ⟨t1, ⟨p1, p2⟩, e1⟩ := e1
  obtain ⟨t2, ht2⟩ : ∃ t2, t2 = sr_u (sr_u t1 46 0 a (nI a)) 44 0 0 (nI a) := ⟨_, rfl⟩
  have e2 : f11_goesOnce_21 (nI a) (nI b) t1 = f11_goesOnce_40 (nI a) (nI b) (f11_goesOnce_128 (nI a) (nI b)) sr_fu (nI 1) (nI 0) t2 := by
    rw [ht2]
    simp (disch := omega) only [pv_lt, pu_ck, pv_bI, pv_bV, pu_bR, pv_bL, pv_nt, pu_us, pu_un, mL_0, mL_1, mL_2, mL_3, mL_4, mL_5, mL_6, mL_7, mL_8, mL_9, mL_10, mL_11, mL_12, mL_13, mL_14, mL_15, mL_16, mL_23, mL_24, mL_32, mL_48, mL_64, mL_99, mL_100, mL_200, mL_336, mL_576, mL_768, mL_800, mL_999, mL_4095, mL_4096, mL_m1, nI_leI, nI_ltI, nI_eq, nI_clamp, nI_add, pk_mul, nI_nu, bI_eq0, bI_eq1, bo_ft, Bool.true_eq_false, Bool.false_eq_true, pu_of, pu_of24, pu_onward, pu_frq, if_true, if_false, true_or, or_true, false_or, or_false, and_true, true_and, and_false, false_and, not_true_eq_false, not_false_eq_true, if_neg, if_pos, f11_goesOnce_21, pu_ixN']
  have I0 : gq_I r t a (fun _ => a, 1, fun v => v == a, fun _ => 0, t2) := by
    rw [ht2]
    refine ⟨⟨Nat.le_refl _, ?_⟩, fun i hi => ⟨ha, by simp, ?_⟩, fun v hv h => ⟨⟨0, by show 0 < 1; omega, ?_⟩, by show 0 < 1; omega, a, ha, ?_, fun hne => ?_⟩, fun v hv h => ?_, by simp, fr_u (fr_u p2 (Or.inr rfl)) (Or.inl rfl)⟩
    · exact (cu_one (m := a) ha (by simp) (fun n hn hne => by simp [hne])).symm
    · have hi : i < 1 := hi
      show (sr_u (sr_u t1 46 0 a (nI a)) 44 0 0 (nI a)).1 44 0 i = nI a
      rw [show i = 0 by omega, pu_us]
    · show a = v
      have h : (v == a) = true := h
      exact (by simpa using h : v = a).symm
    · have h : (v == a) = true := h
      have e : v = a := by simpa using h
      show (sr_u (sr_u t1 46 0 a (nI a)) 44 0 0 (nI a)).1 46 0 v = nI a
      rw [e, pu_un (by omega), pu_us]
    · have h : (v == a) = true := h
      exact absurd (by simpa using h) hne
    · have h : (v == a) = false := h
      have e : v ≠ a := by simpa using h
      show (sr_u (sr_u t1 46 0 a (nI a)) 44 0 0 (nI a)).1 46 0 v = nu 24
      rw [pu_un (by omega), pu_un (by omega)]
      exact p1 v hv
  have mid : ∃ z : gq_A, (gq_I r t a z ∧ gq_P r z z.2.1) ∧ f11_goesOnce_40 (nI a) (nI b) (f11_goesOnce_128 (nI a) (nI b)) sr_fu (nI 1) (nI 0) t2 = f11_goesOnce_128 (nI a) (nI b) z.2.2.2.2 := by
    have gen : ∀ m h f (z : gq_A), h + m = 48 → m < f → gq_I r t a z → h ≤ z.2.1 → gq_P r z h → ∃ z' : gq_A, (gq_I r t a z' ∧ gq_P r z' z'.2.1) ∧ f11_goesOnce_40 (nI a) (nI b) (f11_goesOnce_128 (nI a) (nI b)) f (nI z.2.1) (nI h) z.2.2.2.2 = f11_goesOnce_128 (nI a) (nI b) z'.2.2.2.2 := by
      intro m
      induction m with
      | zero =>
        intro h f z e hf I hle P
        obtain ⟨g, rfl⟩ : ∃ g, f = g + 1 := ⟨f - 1, by omega⟩
        have tl48 : z.2.1 ≤ 48 := by rw [I.1.2]; exact rg_cu_le _ _
        have eh : h = z.2.1 := by omega
        refine ⟨z, ⟨I, by rw [← eh]; exact P⟩, ?_⟩
        simp (disch := omega) only [pv_lt, pu_ck, pv_bI, pv_bV, pu_bR, pv_bL, pv_nt, pu_us, pu_un, mL_0, mL_1, mL_2, mL_3, mL_4, mL_5, mL_6, mL_7, mL_8, mL_9, mL_10, mL_11, mL_12, mL_13, mL_14, mL_15, mL_16, mL_23, mL_24, mL_32, mL_48, mL_64, mL_99, mL_100, mL_200, mL_336, mL_576, mL_768, mL_800, mL_999, mL_4095, mL_4096, mL_m1, nI_leI, nI_ltI, nI_eq, nI_clamp, nI_add, pk_mul, nI_nu, bI_eq0, bI_eq1, bo_ft, Bool.true_eq_false, Bool.false_eq_true, pu_of, pu_of24, pu_onward, pu_frq, if_true, if_false, true_or, or_true, false_or, or_false, and_true, true_and, and_false, false_and, not_true_eq_false, not_false_eq_true, if_neg, if_pos, f11_goesOnce_40]
      | succ m ih =>
        intro h f z e hf I hle P
        obtain ⟨g, rfl⟩ : ∃ g, f = g + 1 := ⟨f - 1, by omega⟩
        have tl48 : z.2.1 ≤ 48 := by rw [I.1.2]; exact rg_cu_le _ _
        by_cases c : h < z.2.1
        · obtain ⟨z', ⟨I', h', P'⟩, e'⟩ := pr_inner (b := nI b) (K := f11_goesOnce_122 (nI a) (nI b) (f11_goesOnce_40 (nI a) (nI b) (f11_goesOnce_128 (nI a) (nI b)) g) (f11_goesOnce_128 (nI a) (nI b))) H hr I c P
          obtain ⟨z2, q2, e2⟩ := ih (h + 1) g z' (by omega) (by omega) I' h' P'
          refine ⟨z2, q2, ?_⟩
          have e3 : f11_goesOnce_49 (nI a) (nI b) (f11_goesOnce_122 (nI a) (nI b) (f11_goesOnce_40 (nI a) (nI b) (f11_goesOnce_128 (nI a) (nI b)) g) (f11_goesOnce_128 (nI a) (nI b))) sr_fu (nI z.2.1) (nI h) (nI 0) z.2.2.2.2 = f11_goesOnce_40 (nI a) (nI b) (f11_goesOnce_128 (nI a) (nI b)) g (nI z'.2.1) (nI h + 1) z'.2.2.2.2 := e'
          rw [show nI h + 1 = nI (h + 1) from nI_add h 1, e2] at e3
          rw [← e3]
          simp (disch := omega) only [pv_lt, pu_ck, pv_bI, pv_bV, pu_bR, pv_bL, pv_nt, pu_us, pu_un, mL_0, mL_1, mL_2, mL_3, mL_4, mL_5, mL_6, mL_7, mL_8, mL_9, mL_10, mL_11, mL_12, mL_13, mL_14, mL_15, mL_16, mL_23, mL_24, mL_32, mL_48, mL_64, mL_99, mL_100, mL_200, mL_336, mL_576, mL_768, mL_800, mL_999, mL_4095, mL_4096, mL_m1, nI_leI, nI_ltI, nI_eq, nI_clamp, nI_add, pk_mul, nI_nu, bI_eq0, bI_eq1, bo_ft, Bool.true_eq_false, Bool.false_eq_true, pu_of, pu_of24, pu_onward, pu_frq, if_true, if_false, true_or, or_true, false_or, or_false, and_true, true_and, and_false, false_and, not_true_eq_false, not_false_eq_true, if_neg, if_pos, f11_goesOnce_40]
        · have eh : h = z.2.1 := by omega
          refine ⟨z, ⟨I, by rw [← eh]; exact P⟩, ?_⟩
          simp (disch := omega) only [pv_lt, pu_ck, pv_bI, pv_bV, pu_bR, pv_bL, pv_nt, pu_us, pu_un, mL_0, mL_1, mL_2, mL_3, mL_4, mL_5, mL_6, mL_7, mL_8, mL_9, mL_10, mL_11, mL_12, mL_13, mL_14, mL_15, mL_16, mL_23, mL_24, mL_32, mL_48, mL_64, mL_99, mL_100, mL_200, mL_336, mL_576, mL_768, mL_800, mL_999, mL_4095, mL_4096, mL_m1, nI_leI, nI_ltI, nI_eq, nI_clamp, nI_add, pk_mul, nI_nu, bI_eq0, bI_eq1, bo_ft, Bool.true_eq_false, Bool.false_eq_true, pu_of, pu_of24, pu_onward, pu_frq, if_true, if_false, true_or, or_true, false_or, or_false, and_true, true_and, and_false, false_and, not_true_eq_false, not_false_eq_true, if_neg, if_pos, f11_goesOnce_40]
    exact gen 48 0 sr_fu (fun _ => a, 1, fun v => v == a, fun _ => 0, t2) rfl (by unfold sr_fu; omega) I0 (by show 0 ≤ 1; omega) (fun i hi => by omega)
  obtain ⟨⟨q, tl, V, d, t3⟩, ⟨I, P⟩, e3⟩ := mid
  obtain ⟨⟨i0, i1⟩, i2, i3, i4, i5, i6⟩ := I
  have i0 : 1 ≤ tl := i0
  have i1 : tl = rg_cu V 48 := i1
  have i3 : ∀ v, v < 48 → V v = true → (∃ i, i < tl ∧ q i = v) ∧ d v < tl ∧ ∃ p, p < 48 ∧ t3.1 46 0 v = nI p ∧ (v ≠ a → V p = true ∧ d p < d v ∧ r p v ≠ 0) := i3
  have i4 : ∀ v, v < 48 → V v = false → t3.1 46 0 v = nu 24 := i4
  have i5 : V a = true := i5
  have i6 : fr S_gq t t3 := i6
  have P : ∀ i, i < tl → ∀ v, v < 48 → r (q i) v ≠ 0 → V v = true := P
  have H3 : hR t3 r := fun u v hu hv => by rw [i6.2 _ _ _ (by unfold S_gq; omega)]; exact H u v hu hv
  have f3 : fr S_gr t t3 := fr_mono i6 (fun k i j h => by unfold S_gq at h; unfold S_gr; omega)
  have st : F11_goesOnce (nI a) (nI b) t = f11_goesOnce_128 (nI a) (nI b) t3 := by
    have e0 : F11_goesOnce (nI a) (nI b) t = f11_goesOnce_2 (nI a) (nI b) (f11_goesOnce_21 (nI a) (nI b)) sr_fu (nI 0) t := by
      unfold F11_goesOnce
      rw [mL_0]
    rw [e0, e1, e2, e3]
  rw [st]
  have tl48 : tl ≤ 48 := by rw [i1]; exact rg_cu_le _ _
  cases hVb : V b with
  | false =>
    have e46 := i4 b hb hVb
    refine ⟨false, t3, ?_, f3, fun _ => ⟨H3, V, i5, hVb, fun u v hu hv h1 h2 => ?_⟩, fun q => absurd q (by decide)⟩
    · rw [show bI false = nI 0 from rfl]
      simp (disch := omega) only [pv_lt, pu_ck, pv_bI, pv_bV, pu_bR, pv_bL, pv_nt, pu_us, pu_un, mL_0, mL_1, mL_2, mL_3, mL_4, mL_5, mL_6, mL_7, mL_8, mL_9, mL_10, mL_11, mL_12, mL_13, mL_14, mL_15, mL_16, mL_23, mL_24, mL_32, mL_48, mL_64, mL_99, mL_100, mL_200, mL_336, mL_576, mL_768, mL_800, mL_999, mL_4095, mL_4096, mL_m1, nI_leI, nI_ltI, nI_eq, nI_clamp, nI_add, pk_mul, nI_nu, bI_eq0, bI_eq1, bo_ft, Bool.true_eq_false, Bool.false_eq_true, pu_of, pu_of24, pu_onward, pu_frq, if_true, if_false, true_or, or_true, false_or, or_false, and_true, true_and, and_false, false_and, not_true_eq_false, not_false_eq_true, if_neg, if_pos, f11_goesOnce_128, e46, pu_ixN']
    · apply Decidable.byContradiction
      intro hne
      obtain ⟨⟨i, k1, k2⟩, _⟩ := i3 u hu h1
      have := P i k1 v hv (by rw [k2]; exact hne)
      rw [this] at h2
      exact absurd h2 (by decide)
  | true =>
    obtain ⟨_, db, p0, p01, p02, _⟩ := i3 b hb hVb
    have pp : ∀ v, v < 48 → V v = true → ∃ p, p < 48 ∧ t3.1 46 0 v = nI p ∧ (t3.1 46 0 v).toNatClampNeg = p ∧ (v ≠ a → V p = true ∧ d p < d v ∧ r p v ≠ 0) := fun v hv hV => by
      obtain ⟨_, _, p, j1, j2, j3⟩ := i3 v hv hV
      exact ⟨p, j1, j2, by rw [j2, nI_clamp (by omega)], j3⟩
    have W : fl_W r0 r a b F V (fun v => (t3.1 46 0 v).toNatClampNeg) d b := ⟨K, hb, hVb, fun v hv hV hne => by
      obtain ⟨p, j1, j2, j3, j4⟩ := pp v hv hV
      obtain ⟨k1, k2, k3⟩ := j4 hne
      show (t3.1 46 0 v).toNatClampNeg < 48 ∧ V (t3.1 46 0 v).toNatClampNeg = true ∧ d (t3.1 46 0 v).toNatClampNeg < d v ∧ (d v ≤ d b → r (t3.1 46 0 v).toNatClampNeg v ≠ 0)
      rw [j3]
      exact ⟨j1, k1, k2, fun _ => k3⟩⟩
    obtain ⟨t4, e4, f4, r', H4, K4⟩ := pr_walk hb0 H3 W ha (by omega) (fun v hv hV hne => by
      obtain ⟨p, j1, j2, j3, j4⟩ := pp v hv hV
      show t3.1 46 0 v = nI (t3.1 46 0 v).toNatClampNeg
      rw [j3, j2])
    refine ⟨true, t4, ?_, fr_trans f3 f4, fun q => absurd q (by decide), fun _ => ⟨r', H4, fl_done K4⟩⟩
    rw [show bI true = nI 1 from rfl, ← e4]
    simp (disch := omega) only [pv_lt, pu_ck, pv_bI, pv_bV, pu_bR, pv_bL, pv_nt, pu_us, pu_un, mL_0, mL_1, mL_2, mL_3, mL_4, mL_5, mL_6, mL_7, mL_8, mL_9, mL_10, mL_11, mL_12, mL_13, mL_14, mL_15, mL_16, mL_23, mL_24, mL_32, mL_48, mL_64, mL_99, mL_100, mL_200, mL_336, mL_576, mL_768, mL_800, mL_999, mL_4095, mL_4096, mL_m1, nI_leI, nI_ltI, nI_eq, nI_clamp, nI_add, pk_mul, nI_nu, bI_eq0, bI_eq1, bo_ft, Bool.true_eq_false, Bool.false_eq_true, pu_of, pu_of24, pu_onward, pu_frq, if_true, if_false, true_or, or_true, false_or, or_false, and_true, true_and, and_false, false_and, not_true_eq_false, not_false_eq_true, if_neg, if_pos, f11_goesOnce_128, p02, pu_ixN']
end
