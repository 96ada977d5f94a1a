section
/-! those come to by so many links -/
def lf (s : rg_T) (X : Int32) : Nat → Int32
  | 0 => nI 0
  | n + 1 => if bs X n = true then lf s X n ||| UL s n else lf s X n
theorem lf_s {s : rg_T} {X : Int32} {n : Nat} : lf s X (n + 1) = if bs X n = true then lf s X n ||| UL s n else lf s X n := Eq.trans (Eq.refl _) (Eq.refl _)
theorem lf_bs {s : rg_T} {X : Int32} {y : Nat} : ∀ n, bs (lf s X n) y = true ↔ ∃ x, x < n ∧ bs X x = true ∧ bs (UL s x) y = true := by
  intro n
  induction n with
  | zero => exact ⟨fun h => absurd h (by rw [show bs (lf s X 0) y = false from bs_0]; decide), fun ⟨x, h, _⟩ => by omega⟩
  | succ n ih =>
    rw [lf_s]
    by_cases h : bs X n = true
    · rw [if_pos h, bs_or, Bool.or_eq_true, ih]
      constructor
      · rintro (⟨x, x1, x2⟩ | q)
        · exact ⟨x, by omega, x2⟩
        · exact ⟨n, by omega, h, q⟩
      · rintro ⟨x, x1, x2, x3⟩
        by_cases e : x = n
        · subst e; exact Or.inr x3
        · exact Or.inl ⟨x, by omega, x2, x3⟩
    · rw [if_neg h, ih]
      constructor
      · rintro ⟨x, x1, x2⟩
        exact ⟨x, by omega, x2⟩
      · rintro ⟨x, x1, x2, x3⟩
        by_cases e : x = n
        · subst e; exact absurd x2 h
        · exact ⟨x, by omega, x2, x3⟩
def Se (s : rg_T) (a : Nat) : Nat → Int32
  | 0 => ob a
  | k + 1 => Se s a k ||| lf s (Se s a k) 24
theorem Se_s {s : rg_T} {a k : Nat} : Se s a (k + 1) = Se s a k ||| lf s (Se s a k) 24 := Eq.trans (Eq.refl _) (Eq.refl _)
theorem Se_bs {s : rg_T} {a k y : Nat} : bs (Se s a (k + 1)) y = true ↔ bs (Se s a k) y = true ∨ ∃ x, x < 24 ∧ bs (Se s a k) x = true ∧ bs (UL s x) y = true := by
  rw [Se_s, bs_or, Bool.or_eq_true, lf_bs]
theorem pc_linkedFrom {t : sr_t} {s : rg_T} {X : Int32} (h : ∀ n, n < 24 → t.1 17 0 n = UL s n) : F9_linkedFrom X t = some (.inl (some (sr_i (lf s X 24))), t) := by
  unfold F9_linkedFrom
  show f9_linkedFrom_4 X (f9_linkedFrom_36 X) sr_fu (lf s X 0) (nI 0) t = _
  refine pu_for (N := 24) (L := fun g n => f9_linkedFrom_4 X (f9_linkedFrom_36 X) g (lf s X n) (nI n) t) ?_ ?_ (by unfold sr_fu; omega)
  · intro n g hn
    have hb := pu_hasBit (t := t) (x := X) (k := n) (by omega)
    have hu := h n hn
    show f9_linkedFrom_4 X (f9_linkedFrom_36 X) (g + 1) (lf s X n) (nI n) t = f9_linkedFrom_4 X (f9_linkedFrom_36 X) g (lf s X (n + 1)) (nI (n + 1)) t
    rw [lf_s]
    cases hbs : bs X n with
    | false =>
      rw [hbs, show bI false = nI 0 from rfl] at hb
      rw [if_neg (by decide)]
      simp (disch := omega) only [pv_lt, pu_ck, pv_bI, pv_bV, pu_bR, pv_bL, pv_nt, pu_us, pu_un, mL_0, mL_1, mL_2, mL_3, mL_4, mL_5, mL_6, mL_7, mL_8, mL_9, mL_10, mL_11, mL_12, mL_13, mL_14, mL_15, mL_16, mL_23, mL_24, mL_32, mL_48, mL_64, mL_99, mL_100, mL_200, mL_336, mL_576, mL_768, mL_800, mL_999, mL_4095, mL_4096, mL_m1, nI_leI, nI_ltI, nI_eq, nI_clamp, nI_add, pk_mul, nI_nu, bI_eq0, bI_eq1, bo_ft, Bool.true_eq_false, Bool.false_eq_true, pu_of, pu_of24, pu_onward, pu_frq, if_true, if_false, true_or, or_true, false_or, or_false, and_true, true_and, and_false, false_and, not_true_eq_false, not_false_eq_true, if_neg, if_pos, f9_linkedFrom_4, f9_linkedFrom_30, hb]
    | true =>
      rw [hbs, show bI true = nI 1 from rfl] at hb
      rw [if_pos rfl]
      simp (disch := omega) only [pv_lt, pu_ck, pv_bI, pv_bV, pu_bR, pv_bL, pv_nt, pu_us, pu_un, mL_0, mL_1, mL_2, mL_3, mL_4, mL_5, mL_6, mL_7, mL_8, mL_9, mL_10, mL_11, mL_12, mL_13, mL_14, mL_15, mL_16, mL_23, mL_24, mL_32, mL_48, mL_64, mL_99, mL_100, mL_200, mL_336, mL_576, mL_768, mL_800, mL_999, mL_4095, mL_4096, mL_m1, nI_leI, nI_ltI, nI_eq, nI_clamp, nI_add, pk_mul, nI_nu, bI_eq0, bI_eq1, bo_ft, Bool.true_eq_false, Bool.false_eq_true, pu_of, pu_of24, pu_onward, pu_frq, if_true, if_false, true_or, or_true, false_or, or_false, and_true, true_and, and_false, false_and, not_true_eq_false, not_false_eq_true, if_neg, if_pos, f9_linkedFrom_4, f9_linkedFrom_30, hb, hu, pu_ixN']
  · intro g
    show f9_linkedFrom_4 X (f9_linkedFrom_36 X) (g + 1) (lf s X 24) (nI 24) t = _
    simp (disch := omega) only [pv_lt, pu_ck, pv_bI, pv_bV, pu_bR, pv_bL, pv_nt, pu_us, pu_un, mL_0, mL_1, mL_2, mL_3, mL_4, mL_5, mL_6, mL_7, mL_8, mL_9, mL_10, mL_11, mL_12, mL_13, mL_14, mL_15, mL_16, mL_23, mL_24, mL_32, mL_48, mL_64, mL_99, mL_100, mL_200, mL_336, mL_576, mL_768, mL_800, mL_999, mL_4095, mL_4096, mL_m1, nI_leI, nI_ltI, nI_eq, nI_clamp, nI_add, pk_mul, nI_nu, bI_eq0, bI_eq1, bo_ft, Bool.true_eq_false, Bool.false_eq_true, pu_of, pu_of24, pu_onward, pu_frq, if_true, if_false, true_or, or_true, false_or, or_false, and_true, true_and, and_false, false_and, not_true_eq_false, not_false_eq_true, if_neg, if_pos, f9_linkedFrom_4, f9_linkedFrom_36]
def tA (s : rg_T) (a : Nat) (W : Int32) : Nat := fi (fun k => decide (W &&& (Se s a k ^^^ nu 24) = nI 0)) 24
theorem pc_toAll {t : sr_t} {s : rg_T} {a : Nat} {W : Int32} (h : ∀ n, n < 24 → t.1 17 0 n = UL s n) (ha : a < 24) : F9_linksToAll (nI a) W t = some (.inl (some (sr_i (nu (tA s a W)))), t) := by
  unfold F9_linksToAll
  rw [pu_bit, pv_nt, pv_bI]
  show f9_linksToAll_8 (nI a) W (f9_linksToAll_23 (nI a) W) (f9_linksToAll_40 (nI a) W) sr_fu (Se s a 0) (nI 0) t = _
  refine pu_forX (N := 24) (L := fun g k => f9_linksToAll_8 (nI a) W (f9_linksToAll_23 (nI a) W) (f9_linksToAll_40 (nI a) W) g (Se s a k) (nI k) t) (Q := fun k => ∀ j, j < k → decide (W &&& (Se s a j ^^^ nu 24) = nI 0) = false) ?_ ?_ (by unfold sr_fu; omega) (fun j hj => by omega)
  · intro k g hk q
    have e1 := pc_linkedFrom (X := Se s a k) h
    show (f9_linksToAll_8 (nI a) W _ _ (g + 1) (Se s a k) (nI k) t = f9_linksToAll_8 (nI a) W _ _ g (Se s a (k + 1)) (nI (k + 1)) t ∧ _) ∨ f9_linksToAll_8 (nI a) W _ _ (g + 1) (Se s a k) (nI k) t = _
    by_cases c : W &&& (Se s a k ^^^ nu 24) = nI 0
    · right
      have e : tA s a W = k := fi_eq (by omega) q (fun _ => decide_eq_true c)
      rw [e, nu_lt hk]
      simp (disch := omega) only [pv_lt, pu_ck, pv_bI, pv_bV, pu_bR, pv_bL, pv_nt, pu_us, pu_un, mL_0, mL_1, mL_2, mL_3, mL_4, mL_5, mL_6, mL_7, mL_8, mL_9, mL_10, mL_11, mL_12, mL_13, mL_14, mL_15, mL_16, mL_23, mL_24, mL_32, mL_48, mL_64, mL_99, mL_100, mL_200, mL_336, mL_576, mL_768, mL_800, mL_999, mL_4095, mL_4096, mL_m1, nI_leI, nI_ltI, nI_eq, nI_clamp, nI_add, pk_mul, nI_nu, bI_eq0, bI_eq1, bo_ft, Bool.true_eq_false, Bool.false_eq_true, pu_of, pu_of24, pu_onward, pu_frq, if_true, if_false, true_or, or_true, false_or, or_false, and_true, true_and, and_false, false_and, not_true_eq_false, not_false_eq_true, if_neg, if_pos, f9_linksToAll_8, f9_linksToAll_23, c]
    · left
      refine ⟨?_, fun j hj => ?_⟩
      · rw [Se_s]
        simp (disch := omega) only [pv_lt, pu_ck, pv_bI, pv_bV, pu_bR, pv_bL, pv_nt, pu_us, pu_un, mL_0, mL_1, mL_2, mL_3, mL_4, mL_5, mL_6, mL_7, mL_8, mL_9, mL_10, mL_11, mL_12, mL_13, mL_14, mL_15, mL_16, mL_23, mL_24, mL_32, mL_48, mL_64, mL_99, mL_100, mL_200, mL_336, mL_576, mL_768, mL_800, mL_999, mL_4095, mL_4096, mL_m1, nI_leI, nI_ltI, nI_eq, nI_clamp, nI_add, pk_mul, nI_nu, bI_eq0, bI_eq1, bo_ft, Bool.true_eq_false, Bool.false_eq_true, pu_of, pu_of24, pu_onward, pu_frq, if_true, if_false, true_or, or_true, false_or, or_false, and_true, true_and, and_false, false_and, not_true_eq_false, not_false_eq_true, if_neg, if_pos, f9_linksToAll_8, c, e1]
      · by_cases ej : j = k
        · subst ej; exact decide_eq_false c
        · exact q j (by omega)
  · intro g q
    have e : tA s a W = 24 := fi_eq (by omega) q (fun hh => by omega)
    show f9_linksToAll_8 (nI a) W _ _ (g + 1) (Se s a 24) (nI 24) t = _
    rw [e]
    simp (disch := omega) only [pv_lt, pu_ck, pv_bI, pv_bV, pu_bR, pv_bL, pv_nt, pu_us, pu_un, mL_0, mL_1, mL_2, mL_3, mL_4, mL_5, mL_6, mL_7, mL_8, mL_9, mL_10, mL_11, mL_12, mL_13, mL_14, mL_15, mL_16, mL_23, mL_24, mL_32, mL_48, mL_64, mL_99, mL_100, mL_200, mL_336, mL_576, mL_768, mL_800, mL_999, mL_4095, mL_4096, mL_m1, nI_leI, nI_ltI, nI_eq, nI_clamp, nI_add, pk_mul, nI_nu, bI_eq0, bI_eq1, bo_ft, Bool.true_eq_false, Bool.false_eq_true, pu_of, pu_of24, pu_onward, pu_frq, if_true, if_false, true_or, or_true, false_or, or_false, and_true, true_and, and_false, false_and, not_true_eq_false, not_false_eq_true, if_neg, if_pos, f9_linksToAll_8, f9_linksToAll_40]
/-- how many links away -/
def dst (s : rg_T) (a y : Nat) : Nat := fi (fun k => bs (Se s a k) y) 24
theorem dst_le {s : rg_T} {a y : Nat} : dst s a y ≤ 24 := fi_le _ _
theorem tA_ob {s : rg_T} {a b : Nat} (hb : b < 32) : tA s a (ob b) = dst s a b := by
  refine fi_congr (fun k _ => ?_)
  have e : ob b &&& (Se s a k ^^^ nu 24) = nI 0 ↔ bs (Se s a k) b = true := by
    rw [Int32.and_comm, bs_hit hb, bs_not hb]
    cases bs (Se s a k) b <;> simp
  cases h : bs (Se s a k) b with
  | true => exact decide_eq_true (e.mpr h)
  | false => exact decide_eq_false (fun q => by rw [e.mp q] at h; exact absurd h (by decide))
theorem pc_far {t : sr_t} {s : rg_T} {a b : Nat} (C : rg_C t 0 s) (O : rg_ok s) (ha : a < 24) (hb : b < 24) : ∃ t', F9_fewestLinks 0 (nI a) (nI b) t = some (.inl (some (sr_i (nu (dst s a b)))), t') ∧ fr S_17 t t' := by
  obtain ⟨t1, e1, h1, f1⟩ := pc_read C O
  have e2 := pc_toAll (W := ob b) h1 ha
  rw [tA_ob (by omega)] at e2
  refine ⟨t1, ?_, f1⟩
  simp (disch := omega) only [pv_lt, pu_ck, pv_bI, pv_bV, pu_bR, pv_bL, pv_nt, pu_us, pu_un, mL_0, mL_1, mL_2, mL_3, mL_4, mL_5, mL_6, mL_7, mL_8, mL_9, mL_10, mL_11, mL_12, mL_13, mL_14, mL_15, mL_16, mL_23, mL_24, mL_32, mL_48, mL_64, mL_99, mL_100, mL_200, mL_336, mL_576, mL_768, mL_800, mL_999, mL_4095, mL_4096, mL_m1, nI_leI, nI_ltI, nI_eq, nI_clamp, nI_add, pk_mul, nI_nu, bI_eq0, bI_eq1, bo_ft, Bool.true_eq_false, Bool.false_eq_true, pu_of, pu_of24, pu_onward, pu_frq, if_true, if_false, true_or, or_true, false_or, or_false, and_true, true_and, and_false, false_and, not_true_eq_false, not_false_eq_true, if_neg, if_pos, F9_fewestLinks, e1, pu_bit, e2]
theorem rs_loopA {α : Type} {Q : sr_O → sr_t → Prop} {N : Nat} {L : Nat → Nat → α → sr_Rs} (P : Nat → α → Prop) (h1 : ∀ n g a, n < N → P n a → (∃ a', P (n + 1) a' ∧ L (g + 1) n a = L g (n + 1) a') ∨ rs_to Q (L (g + 1) n a)) (h2 : ∀ g a, P N a → rs_to Q (L (g + 1) N a)) {f : Nat} {a : α} (hf : N < f) (h0 : P 0 a) : rs_to Q (L f 0 a) := by
  have gen : ∀ m n f a, n + m = N → m < f → P n a → rs_to Q (L f n a) := by
    intro m
    induction m with
    | zero =>
      intro n f a e hm p
      obtain ⟨g, rfl⟩ : ∃ g, f = g + 1 := ⟨f - 1, by omega⟩
      have en : n = N := by omega
      subst en
      exact h2 g a p
    | succ m ih =>
      intro n f a e hm p
      obtain ⟨g, rfl⟩ : ∃ g, f = g + 1 := ⟨f - 1, by omega⟩
      rcases h1 n g a (by omega) p with ⟨a', p', e'⟩ | q
      · rw [e']
        exact ih (n + 1) g a' (by omega) (by omega) p'
      · exact q
  exact gen N 0 f a (by omega) hf h0
end
