section
/-! count: the most harm, traffic, links -/
theorem mo_le {u : Nat → Bool} {v : Nat → Nat} {n : Nat} (hn : n ≤ 24) : (mo u v n).1 ≤ 24 := by
  rcases mo_ok (u := u) (v := v) n hn with ⟨i1, _⟩ | ⟨i1, _⟩ <;> omega
theorem moV_ge {u : Nat → Bool} {v : Nat → Nat} {n : Nat} (hn : n < 24) (hv : ∀ x, x < 24 → v x < 2 ^ 31) : nu 24 ≤ moV (mo u v n) := by
  unfold moV
  rcases mo_ok (u := u) (v := v) n (by omega) with ⟨i1, i2, i3⟩ | ⟨i1, i2, i3, i4⟩
  · rw [if_pos i1]
    exact Int32.le_refl _
  · have h1 := hv _ (show (mo u v n).1 < 24 by omega)
    rw [if_neg (by omega)]
    have : (nu 24) < 0 := by decide
    exact Int32.le_of_lt (Int32.lt_of_lt_of_le this (nI_pos' (by omega)))
theorem mo_0 {u : Nat → Bool} {v : Nat → Nat} : mo u v 0 = (24, 0) := rfl
theorem sv_le1 {s : rg_T} {f : Nat → Nat → Nat} {m : Nat} (h : ∀ a b, f a b ≤ 1) : sS s f m ≤ m := by
  have := sm_le (f := sv s f) (c := 1) m (fun k _ => by
    unfold sv
    split
    · exact h _ _
    · omega)
  unfold sS
  omega
theorem hm_le {s : rg_T} {n : Nat} (O : rg_ok s) : hm s n ≤ 1536 := by
  have hN := O.1.1
  have := sv_le1 (s := rg_su s n false) (f := fW (rg_su s n false) true) (m := 64 * rg_N s) (fun a b => by unfold fW; split <;> omega)
  unfold hm
  omega
def tv (s : rg_T) (n : Nat) : Nat := sS s (fV s true n) (64 * rg_N s)
theorem tv_le {s : rg_T} {n : Nat} (O : rg_ok s) : tv s n ≤ 1536 := by
  have hN := O.1.1
  have := sv_le1 (s := s) (f := fV s true n) (m := 64 * rg_N s) (fun a b => by unfold fV; split <;> omega)
  unfold tv
  omega
theorem Jq_c {i : Nat} {t t' : sr_t} {s : rg_T} {w : st_T} (X : J i t s w) (f : fr Sc t t') : J i t' s w := J_fr (frI_mono (frI_of f) (fun k i j h => Or.inl h)) X
theorem Sr0_r {k i j : Nat} (h : Sr0 k i j) : Sr k i j := by unfold Sr0 at h; unfold Sr; omega
theorem Jq_r {i : Nat} {t t' : sr_t} {s : rg_T} {w : st_T} (X : J i t s w) (f : fr Sr0 t t') : J i t' s w := J_fr (frI_mono (frI_of f) (fun k i j h => Or.inr (Sr0_r h))) X
theorem pc_mostH {i : Nat} {t : sr_t} {s : rg_T} {w : st_T} (X : J i t s w) : ∃ t1, F1_mostHarmful 0 t = some (.inl (some (sr_i (nu (mo (rg_u s) (hm s) (rg_N s)).1))), t1) ∧ fr Sc t t1 := by
  have O := X.1
  have hN := O.1.1
  have hv : ∀ x, x < 24 → hm s x < 2 ^ 31 := fun x _ => by have := hm_le (n := x) O; omega
  have main : ∃ t1, fr Sc t t1 ∧ f1_mostHarmful_7 0 (f1_mostHarmful_59 0) sr_fu (nu (mo (rg_u s) (hm s) 0).1) (moV (mo (rg_u s) (hm s) 0)) (nI 0) t = some (.inl (some (sr_i (nu (mo (rg_u s) (hm s) (rg_N s)).1))), t1) := by
    refine pu_forR (N := rg_N s) (L := fun f n t' => f1_mostHarmful_7 0 (f1_mostHarmful_59 0) f (nu (mo (rg_u s) (hm s) n).1) (moV (mo (rg_u s) (hm s) n)) (nI n) t') (fin := fun t' => some (.inl (some (sr_i (nu (mo (rg_u s) (hm s) (rg_N s)).1))), t')) (P := fun _ t' => fr Sc t t') ?_ ?_ (by unfold sr_fu; omega) fr_rfl
    · intro n g t' hn p
      have X' := Jq_c X p
      have h3 := X'.2.1.1.1.1
      have up := (X'.2.1.1.2.2 n hn).2.1
      show ∃ t2, fr Sc t t2 ∧ f1_mostHarmful_7 0 (f1_mostHarmful_59 0) (g + 1) (nu (mo (rg_u s) (hm s) n).1) (moV (mo (rg_u s) (hm s) n)) (nI n) t' = f1_mostHarmful_7 0 (f1_mostHarmful_59 0) g (nu (mo (rg_u s) (hm s) (n + 1)).1) (moV (mo (rg_u s) (hm s) (n + 1))) (nI (n + 1)) t2
      rw [mo_s]
      cases hu : rg_u s n with
      | false =>
        rw [hu, show bI false = nI 0 from rfl] at up
        have l := moV_ge (u := rg_u s) (v := hm s) (n := n) (by omega) hv
        refine ⟨t', p, ?_⟩
        rw [if_neg (fun q => absurd q.1 (by decide))]
        simp (disch := omega) only [pv_lt, pu_ck, pv_bI, pv_bV, pu_bR, pv_bL, pv_nt, pu_us, pu_un, mL_0, mL_1, mL_2, mL_3, mL_4, mL_5, mL_6, mL_7, mL_8, mL_9, mL_10, mL_11, mL_12, mL_13, mL_14, mL_15, mL_16, mL_23, mL_24, mL_32, mL_48, mL_64, mL_99, mL_100, mL_200, mL_336, mL_576, mL_768, mL_800, mL_999, mL_4095, mL_4096, mL_m1, nI_leI, nI_ltI, nI_eq, nI_clamp, nI_add, pk_mul, nI_nu, bI_eq0, bI_eq1, bo_ft, Bool.true_eq_false, Bool.false_eq_true, pu_of, pu_of24, pu_onward, pu_frq, if_true, if_false, true_or, or_true, false_or, or_false, and_true, true_and, and_false, false_and, not_true_eq_false, not_false_eq_true, if_neg, if_pos, f1_mostHarmful_7, f1_mostHarmful_39, f1_mostHarmful_53, h3, up, l]
      | true =>
        rw [hu, show bI true = nI 1 from rfl] at up
        obtain ⟨t2, e2, f2⟩ := pc_harm X' hn
        have lt := moV_lt (u := rg_u s) (v := hm s) (n := n) (by omega) hv
        refine ⟨t2, fr_trans p f2, ?_⟩
        by_cases c : (mo (rg_u s) (hm s) n).1 = 24 ∨ (mo (rg_u s) (hm s) n).2 < hm s n
        · rw [if_pos ⟨rfl, c⟩]
          have l : ¬ nI (hm s n) ≤ moV (mo (rg_u s) (hm s) n) := Int32.not_le.mpr (lt.mpr c)
          have e3 : nu (n, hm s n).1 = nI n := nu_lt (show n < 24 by omega)
          have e4 : moV (n, hm s n) = nI (hm s n) := if_neg (show ¬ n = 24 by omega)
          rw [e3, e4]
          simp (disch := omega) only [pv_lt, pu_ck, pv_bI, pv_bV, pu_bR, pv_bL, pv_nt, pu_us, pu_un, mL_0, mL_1, mL_2, mL_3, mL_4, mL_5, mL_6, mL_7, mL_8, mL_9, mL_10, mL_11, mL_12, mL_13, mL_14, mL_15, mL_16, mL_23, mL_24, mL_32, mL_48, mL_64, mL_99, mL_100, mL_200, mL_336, mL_576, mL_768, mL_800, mL_999, mL_4095, mL_4096, mL_m1, nI_leI, nI_ltI, nI_eq, nI_clamp, nI_add, pk_mul, nI_nu, bI_eq0, bI_eq1, bo_ft, Bool.true_eq_false, Bool.false_eq_true, pu_of, pu_of24, pu_onward, pu_frq, if_true, if_false, true_or, or_true, false_or, or_false, and_true, true_and, and_false, false_and, not_true_eq_false, not_false_eq_true, if_neg, if_pos, f1_mostHarmful_7, f1_mostHarmful_39, f1_mostHarmful_53, h3, up, e2, l]
        · rw [if_neg (fun q => c q.2)]
          have l : nI (hm s n) ≤ moV (mo (rg_u s) (hm s) n) := Int32.not_lt.mp (fun q => c (lt.mp q))
          simp (disch := omega) only [pv_lt, pu_ck, pv_bI, pv_bV, pu_bR, pv_bL, pv_nt, pu_us, pu_un, mL_0, mL_1, mL_2, mL_3, mL_4, mL_5, mL_6, mL_7, mL_8, mL_9, mL_10, mL_11, mL_12, mL_13, mL_14, mL_15, mL_16, mL_23, mL_24, mL_32, mL_48, mL_64, mL_99, mL_100, mL_200, mL_336, mL_576, mL_768, mL_800, mL_999, mL_4095, mL_4096, mL_m1, nI_leI, nI_ltI, nI_eq, nI_clamp, nI_add, pk_mul, nI_nu, bI_eq0, bI_eq1, bo_ft, Bool.true_eq_false, Bool.false_eq_true, pu_of, pu_of24, pu_onward, pu_frq, if_true, if_false, true_or, or_true, false_or, or_false, and_true, true_and, and_false, false_and, not_true_eq_false, not_false_eq_true, if_neg, if_pos, f1_mostHarmful_7, f1_mostHarmful_39, f1_mostHarmful_53, h3, up, e2, l]
    · intro g t' p
      have h3 := (Jq_c X p).2.1.1.1.1
      show f1_mostHarmful_7 0 (f1_mostHarmful_59 0) (g + 1) (nu (mo (rg_u s) (hm s) (rg_N s)).1) (moV (mo (rg_u s) (hm s) (rg_N s))) (nI (rg_N s)) t' = _
      simp (disch := omega) only [pv_lt, pu_ck, pv_bI, pv_bV, pu_bR, pv_bL, pv_nt, pu_us, pu_un, mL_0, mL_1, mL_2, mL_3, mL_4, mL_5, mL_6, mL_7, mL_8, mL_9, mL_10, mL_11, mL_12, mL_13, mL_14, mL_15, mL_16, mL_23, mL_24, mL_32, mL_48, mL_64, mL_99, mL_100, mL_200, mL_336, mL_576, mL_768, mL_800, mL_999, mL_4095, mL_4096, mL_m1, nI_leI, nI_ltI, nI_eq, nI_clamp, nI_add, pk_mul, nI_nu, bI_eq0, bI_eq1, bo_ft, Bool.true_eq_false, Bool.false_eq_true, pu_of, pu_of24, pu_onward, pu_frq, if_true, if_false, true_or, or_true, false_or, or_false, and_true, true_and, and_false, false_and, not_true_eq_false, not_false_eq_true, if_neg, if_pos, f1_mostHarmful_7, f1_mostHarmful_59, h3]
  obtain ⟨t1, p, e⟩ := main
  exact ⟨t1, e, p⟩
theorem pr_mostH {i : Nat} {t : sr_t} {s : rg_T} {w : st_T} (X : J i t s w) : ∃ t1, F11_mostOf (nI 1) t = some (.inl (some (sr_i (nu (mo (rg_u s) (hm s) (rg_N s)).1))), t1) ∧ fr Sr0 t t1 := by
  have O := X.1
  refine pr_most (k := nI 1) (v := hm s) (fun t' => fr Sr0 t t') O fr_rfl (fun t' p => (Jq_r X p).2.2.2.2.2.1.1) (fun x _ => by have := hm_le (n := x) O; omega) ?_
  intro n t' hn hu p
  obtain ⟨t2, e2, f2⟩ := pr_harm (Jq_r X p) hn hu
  refine ⟨t2, ?_, fr_trans p f2⟩
  unfold F11_measure
  rw [sw_in (by omega) (by omega) (by omega)]
  show sr_bI (F11_harmOf (nI n) t') (fun v2 t2 => (some (.inl (some (sr_i v2)), t2))) = _
  rw [e2, pv_bI]
theorem pc_busiest {i : Nat} {t : sr_t} {s : rg_T} {w : st_T} (X : J i t s w) : ∃ t1, F10_busiest t = some (.inl (some (sr_i (nu (mo (rg_u s) (tv s) (rg_N s)).1))), t1) ∧ fr Sc t t1 := by
  have O := X.1
  have hN := O.1.1
  have hv : ∀ x, x < 24 → tv s x < 2 ^ 31 := fun x _ => by have := tv_le (n := x) O; omega
  obtain ⟨t1, e1, _, V1, f1⟩ := pc_sam (best := true) (tr := true) X
  have e1' : F5_run 0 1 1 t = some (.inl none, t1) := e1
  have X' := Jq_c X f1
  have h3 := X'.2.1.1.1.1
  refine ⟨t1, ?_, f1⟩
  unfold F10_busiest
  rw [e1', pv_bV]
  show f10_busiest_19 f10_busiest_73 sr_fu (nu (mo (rg_u s) (tv s) 0).1) (moV (mo (rg_u s) (tv s) 0)) (nI 0) t1 = _
  refine pu_for (N := rg_N s) (L := fun f n => f10_busiest_19 f10_busiest_73 f (nu (mo (rg_u s) (tv s) n).1) (moV (mo (rg_u s) (tv s) n)) (nI n) t1) ?_ ?_ (by unfold sr_fu; omega)
  · intro n g hn
    have up := (X'.2.1.1.2.2 n hn).2.1
    have v : t1.1 15 0 n = nI (tv s n) := (V1 rfl).1 n (by omega)
    show f10_busiest_19 f10_busiest_73 (g + 1) (nu (mo (rg_u s) (tv s) n).1) (moV (mo (rg_u s) (tv s) n)) (nI n) t1 = f10_busiest_19 f10_busiest_73 g (nu (mo (rg_u s) (tv s) (n + 1)).1) (moV (mo (rg_u s) (tv s) (n + 1))) (nI (n + 1)) t1
    rw [mo_s]
    cases hu : rg_u s n with
    | false =>
      rw [hu, show bI false = nI 0 from rfl] at up
      rw [if_neg (fun q => absurd q.1 (by decide))]
      simp (disch := omega) only [pv_lt, pu_ck, pv_bI, pv_bV, pu_bR, pv_bL, pv_nt, pu_us, pu_un, mL_0, mL_1, mL_2, mL_3, mL_4, mL_5, mL_6, mL_7, mL_8, mL_9, mL_10, mL_11, mL_12, mL_13, mL_14, mL_15, mL_16, mL_23, mL_24, mL_32, mL_48, mL_64, mL_99, mL_100, mL_200, mL_336, mL_576, mL_768, mL_800, mL_999, mL_4095, mL_4096, mL_m1, nI_leI, nI_ltI, nI_eq, nI_clamp, nI_add, pk_mul, nI_nu, bI_eq0, bI_eq1, bo_ft, Bool.true_eq_false, Bool.false_eq_true, pu_of, pu_of24, pu_onward, pu_frq, if_true, if_false, true_or, or_true, false_or, or_false, and_true, true_and, and_false, false_and, not_true_eq_false, not_false_eq_true, if_neg, if_pos, f10_busiest_19, f10_busiest_67, h3, up]
    | true =>
      rw [hu, show bI true = nI 1 from rfl] at up
      have lt := moV_lt (u := rg_u s) (v := tv s) (n := n) (by omega) hv
      by_cases c : (mo (rg_u s) (tv s) n).1 = 24 ∨ (mo (rg_u s) (tv s) n).2 < tv s n
      · rw [if_pos ⟨rfl, c⟩]
        have l : ¬ nI (tv s n) ≤ moV (mo (rg_u s) (tv s) n) := Int32.not_le.mpr (lt.mpr c)
        have e3 : nu (n, tv s n).1 = nI n := nu_lt (show n < 24 by omega)
        have e4 : moV (n, tv s n) = nI (tv s n) := if_neg (show ¬ n = 24 by omega)
        rw [e3, e4]
        simp (disch := omega) only [pv_lt, pu_ck, pv_bI, pv_bV, pu_bR, pv_bL, pv_nt, pu_us, pu_un, mL_0, mL_1, mL_2, mL_3, mL_4, mL_5, mL_6, mL_7, mL_8, mL_9, mL_10, mL_11, mL_12, mL_13, mL_14, mL_15, mL_16, mL_23, mL_24, mL_32, mL_48, mL_64, mL_99, mL_100, mL_200, mL_336, mL_576, mL_768, mL_800, mL_999, mL_4095, mL_4096, mL_m1, nI_leI, nI_ltI, nI_eq, nI_clamp, nI_add, pk_mul, nI_nu, bI_eq0, bI_eq1, bo_ft, Bool.true_eq_false, Bool.false_eq_true, pu_of, pu_of24, pu_onward, pu_frq, if_true, if_false, true_or, or_true, false_or, or_false, and_true, true_and, and_false, false_and, not_true_eq_false, not_false_eq_true, if_neg, if_pos, f10_busiest_19, f10_busiest_67, F5_visitsOf, f5_visitsOf_23, h3, up, v, l, pu_ixN']
      · rw [if_neg (fun q => c q.2)]
        have l : nI (tv s n) ≤ moV (mo (rg_u s) (tv s) n) := Int32.not_lt.mp (fun q => c (lt.mp q))
        simp (disch := omega) only [pv_lt, pu_ck, pv_bI, pv_bV, pu_bR, pv_bL, pv_nt, pu_us, pu_un, mL_0, mL_1, mL_2, mL_3, mL_4, mL_5, mL_6, mL_7, mL_8, mL_9, mL_10, mL_11, mL_12, mL_13, mL_14, mL_15, mL_16, mL_23, mL_24, mL_32, mL_48, mL_64, mL_99, mL_100, mL_200, mL_336, mL_576, mL_768, mL_800, mL_999, mL_4095, mL_4096, mL_m1, nI_leI, nI_ltI, nI_eq, nI_clamp, nI_add, pk_mul, nI_nu, bI_eq0, bI_eq1, bo_ft, Bool.true_eq_false, Bool.false_eq_true, pu_of, pu_of24, pu_onward, pu_frq, if_true, if_false, true_or, or_true, false_or, or_false, and_true, true_and, and_false, false_and, not_true_eq_false, not_false_eq_true, if_neg, if_pos, f10_busiest_19, f10_busiest_67, F5_visitsOf, f5_visitsOf_23, h3, up, v, l, pu_ixN']
  · intro g
    show f10_busiest_19 f10_busiest_73 (g + 1) (nu (mo (rg_u s) (tv s) (rg_N s)).1) (moV (mo (rg_u s) (tv s) (rg_N s))) (nI (rg_N s)) t1 = _
    simp (disch := omega) only [pv_lt, pu_ck, pv_bI, pv_bV, pu_bR, pv_bL, pv_nt, pu_us, pu_un, mL_0, mL_1, mL_2, mL_3, mL_4, mL_5, mL_6, mL_7, mL_8, mL_9, mL_10, mL_11, mL_12, mL_13, mL_14, mL_15, mL_16, mL_23, mL_24, mL_32, mL_48, mL_64, mL_99, mL_100, mL_200, mL_336, mL_576, mL_768, mL_800, mL_999, mL_4095, mL_4096, mL_m1, nI_leI, nI_ltI, nI_eq, nI_clamp, nI_add, pk_mul, nI_nu, bI_eq0, bI_eq1, bo_ft, Bool.true_eq_false, Bool.false_eq_true, pu_of, pu_of24, pu_onward, pu_frq, if_true, if_false, true_or, or_true, false_or, or_false, and_true, true_and, and_false, false_and, not_true_eq_false, not_false_eq_true, if_neg, if_pos, f10_busiest_19, f10_busiest_73, h3]
theorem pr_busiest {i : Nat} {t : sr_t} {s : rg_T} {w : st_T} (X : J i t s w) : ∃ t1, F11_busiest t = some (.inl (some (sr_i (nu (mo (rg_u s) (tv s) (rg_N s)).1))), t1) ∧ fr Sr0 t t1 := by
  have O := X.1
  have hN := O.1.1
  obtain ⟨t2, e2, ⟨_, zv, _⟩, f2⟩ := pr_sam (best := true) X
  have e2' : F11_samples 1 t = some (.inl none, t2) := e2
  have X2 := Jq_r X f2
  obtain ⟨t3, e3, p3⟩ := pr_most (k := nI 3) (v := tv s) (fun t' => t' = t2) O rfl (fun t' p => by rw [p]; exact X2.2.2.2.2.2.1.1) (fun x _ => by have := tv_le (n := x) O; omega) (fun n t' hn hu p => by
    subst p
    refine ⟨t', ?_, rfl⟩
    have z : t'.1 42 0 n = nI (tv s n) := zv n hn
    unfold F11_measure
    rw [sw_out (by omega) (Or.inr (by omega))]
    simp (disch := omega) only [pv_lt, pu_ck, pv_bI, pv_bV, pu_bR, pv_bL, pv_nt, pu_us, pu_un, mL_0, mL_1, mL_2, mL_3, mL_4, mL_5, mL_6, mL_7, mL_8, mL_9, mL_10, mL_11, mL_12, mL_13, mL_14, mL_15, mL_16, mL_23, mL_24, mL_32, mL_48, mL_64, mL_99, mL_100, mL_200, mL_336, mL_576, mL_768, mL_800, mL_999, mL_4095, mL_4096, mL_m1, nI_leI, nI_ltI, nI_eq, nI_clamp, nI_add, pk_mul, nI_nu, bI_eq0, bI_eq1, bo_ft, Bool.true_eq_false, Bool.false_eq_true, pu_of, pu_of24, pu_onward, pu_frq, if_true, if_false, true_or, or_true, false_or, or_false, and_true, true_and, and_false, false_and, not_true_eq_false, not_false_eq_true, if_neg, if_pos, z, pu_ixN'])
  rw [p3] at e3
  refine ⟨t2, ?_, f2⟩
  unfold F11_busiest
  rw [e2', pv_bV]
  have e3' : F11_mostOf 3 t2 = some (.inl (some (sr_i (nu (mo (rg_u s) (tv s) (rg_N s)).1))), t2) := e3
  rw [e3', pv_bI]
/-! bits counted -/
theorem and63 (y : Int32) : ∃ k, k ≤ 63 ∧ y &&& 63 = nI k := by
  refine ⟨(y.toBitVec &&& 63#32).toNat, ?_, ?_⟩
  · rw [BitVec.toNat_and]
    exact Nat.and_le_right
  · apply Int32.toBitVec_inj.mp
    rw [Int32.toBitVec_and]
    show y.toBitVec &&& 63#32 = BitVec.ofNat 32 (y.toBitVec &&& 63#32).toNat
    rw [BitVec.ofNat_toNat]
    simp
theorem bc_of {Y : Int32} : ∃ k, k ≤ 63 ∧ ∀ t : sr_t, (some (.inl (some (sr_i (Y &&& 63))), t) : sr_Rs) = some (.inl (some (sr_i (nI k))), t) := by
  obtain ⟨k, h1, h2⟩ := and63 Y
  exact ⟨k, h1, fun t => by rw [h2]⟩
theorem bc_ex (x : Int32) : ∃ k, k ≤ 63 ∧ ∀ t : sr_t, Fn_bitCount x t = some (.inl (some (sr_i (nI k))), t) := bc_of
noncomputable def bc (x : Int32) : Nat := Classical.choose (bc_ex x)
theorem bc_le {x : Int32} : bc x ≤ 63 := (Classical.choose_spec (bc_ex x)).1
theorem bc_eq {x : Int32} {t : sr_t} : Fn_bitCount x t = some (.inl (some (sr_i (nI (bc x)))), t) := (Classical.choose_spec (bc_ex x)).2 t
noncomputable def lkN (s : rg_T) (n : Nat) : Nat := bc (lB s n)
theorem lkN_le {s : rg_T} {n : Nat} : lkN s n ≤ 63 := bc_le
theorem mo_2 {u : Nat → Bool} {v : Nat → Nat} {n : Nat} (hn : n < 24) (hu : u n = true) : (mo u v (n + 1)).2 = if (mo u v n).2 < v n then v n else (mo u v n).2 := by
  rw [mo_s]
  rcases mo_ok (u := u) (v := v) n (by omega) with ⟨i1, i2, i3⟩ | ⟨i1, i2, i3, i4⟩
  · rw [if_pos ⟨hu, Or.inl i1⟩, i2]
    show v n = _
    split <;> omega
  · by_cases c : (mo u v n).2 < v n
    · rw [if_pos ⟨hu, Or.inr c⟩, if_pos c]
    · rw [if_neg (fun q => by rcases q.2 with q | q <;> omega), if_neg c]
theorem mo_2d {u : Nat → Bool} {v : Nat → Nat} {n : Nat} (hu : u n = false) : mo u v (n + 1) = mo u v n := by
  rw [mo_s, if_neg (fun q => by rw [hu] at q; exact absurd q.1 (by decide))]
theorem mo_2b {u : Nat → Bool} {v : Nat → Nat} {c n : Nat} (hn : n ≤ 24) (hv : ∀ x, v x ≤ c) : (mo u v n).2 ≤ c := by
  rcases mo_ok (u := u) (v := v) n hn with ⟨i1, i2, i3⟩ | ⟨i1, i2, i3, i4⟩
  · omega
  · rw [i3]; exact hv _
theorem pc_mostL {t : sr_t} {s : rg_T} (C : rg_C t 0 s) (O : rg_ok s) : F3_mostLinks 0 t = some (.inl (some (sr_i (nI (mo (rg_u s) (lkN s) (rg_N s)).2))), t) := by
  have hN := O.1.1
  have h3 := C.1.1.1
  unfold F3_mostLinks
  show f3_mostLinks_4 0 (f3_mostLinks_45 0) sr_fu (nI (mo (rg_u s) (lkN s) 0).2) (nI 0) t = _
  refine pu_for (N := rg_N s) (L := fun f n => f3_mostLinks_4 0 (f3_mostLinks_45 0) f (nI (mo (rg_u s) (lkN s) n).2) (nI n) t) ?_ ?_ (by unfold sr_fu; omega)
  · intro n g hn
    have up := (C.1.2.2 n hn).2.1
    show f3_mostLinks_4 0 (f3_mostLinks_45 0) (g + 1) (nI (mo (rg_u s) (lkN s) n).2) (nI n) t = f3_mostLinks_4 0 (f3_mostLinks_45 0) g (nI (mo (rg_u s) (lkN s) (n + 1)).2) (nI (n + 1)) t
    cases hu : rg_u s n with
    | false =>
      rw [hu, show bI false = nI 0 from rfl] at up
      rw [mo_2d hu]
      simp (disch := omega) only [pv_lt, pu_ck, pv_bI, pv_bV, pu_bR, pv_bL, pv_nt, pu_us, pu_un, mL_0, mL_1, mL_2, mL_3, mL_4, mL_5, mL_6, mL_7, mL_8, mL_9, mL_10, mL_11, mL_12, mL_13, mL_14, mL_15, mL_16, mL_23, mL_24, mL_32, mL_48, mL_64, mL_99, mL_100, mL_200, mL_336, mL_576, mL_768, mL_800, mL_999, mL_4095, mL_4096, mL_m1, nI_leI, nI_ltI, nI_eq, nI_clamp, nI_add, pk_mul, nI_nu, bI_eq0, bI_eq1, bo_ft, Bool.true_eq_false, Bool.false_eq_true, pu_of, pu_of24, pu_onward, pu_frq, if_true, if_false, true_or, or_true, false_or, or_false, and_true, true_and, and_false, false_and, not_true_eq_false, not_false_eq_true, if_neg, if_pos, f3_mostLinks_4, f3_mostLinks_39, h3, up]
    | true =>
      rw [hu, show bI true = nI 1 from rfl] at up
      rw [mo_2 (by omega) hu]
      have e1 := pc_links C O hn
      have e2 : ∀ t, Fn_bitCount (lB s n) t = some (.inl (some (sr_i (nI (lkN s n)))), t) := fun t => bc_eq
      have b1 := lkN_le (s := s) (n := n)
      have b2 := mo_2b (u := rg_u s) (v := lkN s) (c := 63) (n := n) (by omega) (fun x => lkN_le)
      by_cases c : (mo (rg_u s) (lkN s) n).2 < lkN s n
      · rw [if_pos c]
        simp (disch := omega) only [pv_lt, pu_ck, pv_bI, pv_bV, pu_bR, pv_bL, pv_nt, pu_us, pu_un, mL_0, mL_1, mL_2, mL_3, mL_4, mL_5, mL_6, mL_7, mL_8, mL_9, mL_10, mL_11, mL_12, mL_13, mL_14, mL_15, mL_16, mL_23, mL_24, mL_32, mL_48, mL_64, mL_99, mL_100, mL_200, mL_336, mL_576, mL_768, mL_800, mL_999, mL_4095, mL_4096, mL_m1, nI_leI, nI_ltI, nI_eq, nI_clamp, nI_add, pk_mul, nI_nu, bI_eq0, bI_eq1, bo_ft, Bool.true_eq_false, Bool.false_eq_true, pu_of, pu_of24, pu_onward, pu_frq, if_true, if_false, true_or, or_true, false_or, or_false, and_true, true_and, and_false, false_and, not_true_eq_false, not_false_eq_true, if_neg, if_pos, f3_mostLinks_4, f3_mostLinks_39, h3, up, e1, e2, c]
      · rw [if_neg c]
        simp (disch := omega) only [pv_lt, pu_ck, pv_bI, pv_bV, pu_bR, pv_bL, pv_nt, pu_us, pu_un, mL_0, mL_1, mL_2, mL_3, mL_4, mL_5, mL_6, mL_7, mL_8, mL_9, mL_10, mL_11, mL_12, mL_13, mL_14, mL_15, mL_16, mL_23, mL_24, mL_32, mL_48, mL_64, mL_99, mL_100, mL_200, mL_336, mL_576, mL_768, mL_800, mL_999, mL_4095, mL_4096, mL_m1, nI_leI, nI_ltI, nI_eq, nI_clamp, nI_add, pk_mul, nI_nu, bI_eq0, bI_eq1, bo_ft, Bool.true_eq_false, Bool.false_eq_true, pu_of, pu_of24, pu_onward, pu_frq, if_true, if_false, true_or, or_true, false_or, or_false, and_true, true_and, and_false, false_and, not_true_eq_false, not_false_eq_true, if_neg, if_pos, f3_mostLinks_4, f3_mostLinks_39, h3, up, e1, e2, c]
  · intro g
    show f3_mostLinks_4 0 (f3_mostLinks_45 0) (g + 1) (nI (mo (rg_u s) (lkN s) (rg_N s)).2) (nI (rg_N s)) t = _
    simp (disch := omega) only [pv_lt, pu_ck, pv_bI, pv_bV, pu_bR, pv_bL, pv_nt, pu_us, pu_un, mL_0, mL_1, mL_2, mL_3, mL_4, mL_5, mL_6, mL_7, mL_8, mL_9, mL_10, mL_11, mL_12, mL_13, mL_14, mL_15, mL_16, mL_23, mL_24, mL_32, mL_48, mL_64, mL_99, mL_100, mL_200, mL_336, mL_576, mL_768, mL_800, mL_999, mL_4095, mL_4096, mL_m1, nI_leI, nI_ltI, nI_eq, nI_clamp, nI_add, pk_mul, nI_nu, bI_eq0, bI_eq1, bo_ft, Bool.true_eq_false, Bool.false_eq_true, pu_of, pu_of24, pu_onward, pu_frq, if_true, if_false, true_or, or_true, false_or, or_false, and_true, true_and, and_false, false_and, not_true_eq_false, not_false_eq_true, if_neg, if_pos, f3_mostLinks_4, f3_mostLinks_45, h3]
theorem pr_measL {t : sr_t} {s : rg_T} {n : Nat} (R : rg_R t s) (O : rg_ok s) (hn : n < rg_N s) : F11_measure (nI n) (nI 2) t = some (.inl (some (sr_i (nI (lkN s n)))), t) := by
  have e1 := pr_links (rg_RN_of R O) O hn
  have e2 : ∀ t, Fn_bitCount (lB s n) t = some (.inl (some (sr_i (nI (lkN s n)))), t) := fun t => bc_eq
  unfold F11_measure
  rw [sw_in (by omega) (by omega) (by omega)]
  show sr_bI (F11_linksOf (nI n) t) (fun v3 t3 => (sr_bI (Fn_bitCount v3 t3) (fun v4 t4 => (some (.inl (some (sr_i v4)), t4))))) = _
  rw [e1, pv_bI, e2, pv_bI]
theorem pr_mostL {t : sr_t} {s : rg_T} (R : rg_R t s) (O : rg_ok s) : F11_mostLinks t = some (.inl (some (sr_i (nI (mo (rg_u s) (lkN s) (rg_N s)).2))), t) := by
  have hN := O.1.1
  obtain ⟨t3, e3, p3⟩ := pr_most (k := nI 2) (v := lkN s) (fun t' => t' = t) O rfl (fun t' p => by rw [p]; exact R.1) (fun x _ => by have := lkN_le (s := s) (n := x); omega) (fun n t' hn hu p => by
    subst p
    exact ⟨t', pr_measL R O hn, rfl⟩)
  rw [p3] at e3
  have e3' : F11_mostOf 2 t = some (.inl (some (sr_i (nu (mo (rg_u s) (lkN s) (rg_N s)).1))), t) := e3
  unfold F11_mostLinks
  rw [e3', pv_bI]
  rcases mo_ok (u := rg_u s) (v := lkN s) (rg_N s) hN with ⟨i1, i2, i3⟩ | ⟨i1, i2, i3, i4⟩
  · rw [i1, i2, if_pos (show nu 24 = -1 from rfl)]
    rfl
  · rw [i3, nu_lt (by omega), if_neg (nI_m1 (by omega))]
    have e4 : F11_measure (nI (mo (rg_u s) (lkN s) (rg_N s)).1) 2 t = _ := pr_measL R O i1
    rw [e4, pv_bI]
    rfl
end
