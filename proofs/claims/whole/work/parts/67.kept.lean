section
/-! literals, in a form that the kernel does not unfold -/
theorem mL_0 : (0 : Int32) = nI 0 := by decide
theorem mL_1 : (1 : Int32) = nI 1 := by decide
theorem mL_2 : (2 : Int32) = nI 2 := by decide
theorem mL_3 : (3 : Int32) = nI 3 := by decide
theorem mL_4 : (4 : Int32) = nI 4 := by decide
theorem mL_5 : (5 : Int32) = nI 5 := by decide
theorem mL_6 : (6 : Int32) = nI 6 := by decide
theorem mL_7 : (7 : Int32) = nI 7 := by decide
theorem mL_8 : (8 : Int32) = nI 8 := by decide
theorem mL_9 : (9 : Int32) = nI 9 := by decide
theorem mL_10 : (10 : Int32) = nI 10 := by decide
theorem mL_11 : (11 : Int32) = nI 11 := by decide
theorem mL_12 : (12 : Int32) = nI 12 := by decide
theorem mL_13 : (13 : Int32) = nI 13 := by decide
theorem mL_14 : (14 : Int32) = nI 14 := by decide
theorem mL_15 : (15 : Int32) = nI 15 := by decide
theorem mL_16 : (16 : Int32) = nI 16 := by decide
theorem mL_23 : (23 : Int32) = nI 23 := by decide
theorem mL_24 : (24 : Int32) = nI 24 := by decide
theorem mL_32 : (32 : Int32) = nI 32 := by decide
theorem mL_48 : (48 : Int32) = nI 48 := by decide
theorem mL_64 : (64 : Int32) = nI 64 := by decide
theorem mL_99 : (99 : Int32) = nI 99 := by decide
theorem mL_100 : (100 : Int32) = nI 100 := by decide
theorem mL_200 : (200 : Int32) = nI 200 := by decide
theorem mL_336 : (336 : Int32) = nI 336 := by decide
theorem mL_576 : (576 : Int32) = nI 576 := by decide
theorem mL_768 : (768 : Int32) = nI 768 := by decide
theorem mL_800 : (800 : Int32) = nI 800 := by decide
theorem mL_999 : (999 : Int32) = nI 999 := by decide
theorem mL_4095 : (4095 : Int32) = nI 4095 := by decide
theorem mL_4096 : (4096 : Int32) = nI 4096 := by decide
theorem mL_m1 : -(nI 1) = nu 24 := by decide
theorem bo_ft {b : Bool} : (b = false ∨ b = true) = True := by cases b <;> decide
/-! what is kept beside: next, arc, load -/
/-- the least index below m at which P holds; m if there is none -/
def fi (P : Nat → Bool) : Nat → Nat
  | 0 => 0
  | m + 1 => if fi P m < m then fi P m else if P m = true then m else m + 1
theorem fi_all (P : Nat → Bool) : ∀ m, fi P m ≤ m ∧ (∀ k, k < fi P m → P k = false) ∧ (fi P m < m → P (fi P m) = true) := by
  intro m
  induction m with
  | zero => exact ⟨Nat.le_refl _, fun k h => absurd h (by unfold fi; omega), fun h => absurd h (by unfold fi; omega)⟩
  | succ m ih =>
    obtain ⟨h1, h2, h3⟩ := ih
    unfold fi
    by_cases h : fi P m < m
    · rw [if_pos h]
      exact ⟨by omega, h2, fun _ => h3 h⟩
    · rw [if_neg h]
      have e : fi P m = m := by omega
      rw [e] at h2
      by_cases hp : P m = true
      · rw [if_pos hp]
        exact ⟨by omega, h2, fun _ => hp⟩
      · rw [if_neg hp]
        refine ⟨Nat.le_refl _, fun k hk => ?_, fun q => absurd q (by omega)⟩
        by_cases ek : k = m
        · rw [ek]; simpa using hp
        · exact h2 k (by omega)
theorem fi_le (P : Nat → Bool) (m : Nat) : fi P m ≤ m := (fi_all P m).1
theorem fi_no {P : Nat → Bool} {m k : Nat} (h : k < fi P m) : P k = false := (fi_all P m).2.1 k h
theorem fi_yes {P : Nat → Bool} {m : Nat} (h : fi P m < m) : P (fi P m) = true := (fi_all P m).2.2 h
theorem fi_eq {P : Nat → Bool} {m k : Nat} (hk : k ≤ m) (h1 : ∀ j, j < k → P j = false) (h2 : k < m → P k = true) : fi P m = k := by
  obtain ⟨a1, a2, a3⟩ := fi_all P m
  rcases Nat.lt_trichotomy (fi P m) k with h | h | h
  · have := h1 _ h
    rw [a3 (by omega)] at this
    exact absurd this (by decide)
  · exact h
  · have := a2 _ h
    rw [h2 (by omega)] at this
    exact absurd this (by decide)
theorem fi_congr {P Q : Nat → Bool} {m : Nat} (h : ∀ k, k < m → P k = Q k) : fi P m = fi Q m := by
  refine fi_eq (fi_le Q m) (fun j hj => ?_) (fun hm => ?_)
  · rw [h j (Nat.lt_of_lt_of_le hj (fi_le Q m))]; exact fi_no hj
  · rw [h _ hm]; exact fi_yes hm
/-- the first successor that is up; itself without any; 24 if all are down -/
def rg_nx (s : rg_T) (n : Nat) : Nat := if fi (fun k => rg_u s (rg_t s n (2 + k))) (rg_t s n 1) < rg_t s n 1 then rg_t s n (2 + fi (fun k => rg_u s (rg_t s n (2 + k))) (rg_t s n 1)) else if rg_t s n 1 = 0 then n else 24
def rg_ar (s : rg_T) (n : Nat) : Nat := if rg_nx s n = 24 then 0 else if rg_nx s n = n then 4096 else pu_d (rg_p s n) (rg_p s (rg_nx s n))
def rg_ld (s : rg_T) (n : Nat) : Nat := if rg_lb s ((rg_p s n + 4095) % 4096) = n then 4096 else pu_d (rg_p s (rg_lb s ((rg_p s n + 4095) % 4096))) (rg_p s n)
theorem rg_nx_cases {s : rg_T} {n : Nat} (O : rg_ok s) (hn : n < rg_N s) : rg_nx s n = 24 ∨ (rg_nx s n < rg_N s ∧ (rg_u s n = true → rg_u s (rg_nx s n) = true)) := by
  have T := O.2 n hn
  unfold rg_nx
  by_cases h : fi (fun k => rg_u s (rg_t s n (2 + k))) (rg_t s n 1) < rg_t s n 1
  · rw [if_pos h]
    exact Or.inr ⟨T.2.2.1 _ h, fun _ => fi_yes (P := fun k => rg_u s (rg_t s n (2 + k))) h⟩
  · rw [if_neg h]
    by_cases h0 : rg_t s n 1 = 0
    · rw [if_pos h0]; exact Or.inr ⟨hn, fun h => h⟩
    · rw [if_neg h0]; exact Or.inl rfl
theorem rg_nx_le {s : rg_T} {n : Nat} (O : rg_ok s) (hn : n < rg_N s) : rg_nx s n ≤ 24 := by
  have := O.1.1
  rcases rg_nx_cases O hn with h | h <;> omega
theorem rg_ar_le {s : rg_T} {n : Nat} : rg_ar s n ≤ 4096 := by
  unfold rg_ar
  have := pu_d_lt (rg_p s n) (rg_p s (rg_nx s n))
  split
  · omega
  · split <;> omega
theorem rg_ld_le {s : rg_T} {n : Nat} : rg_ld s n ≤ 4096 := by
  unfold rg_ld
  have := pu_d_lt (rg_p s (rg_lb s ((rg_p s n + 4095) % 4096))) (rg_p s n)
  split <;> omega
def rg_kx (s : rg_T) (n : Nat) : Nat := if rg_u s n = true then rg_nx s n else 24
def rg_ka (s : rg_T) (n : Nat) : Nat := if rg_u s n = true then rg_ar s n else 0
def rg_kl (s : rg_T) (n : Nat) : Nat := if rg_u s n = true then rg_ld s n else 0
def rg_Kn (t : sr_t) (r : Nat) (s : rg_T) (n : Nat) : Prop := t.1 2 (25 * r + n) 5 = nu (rg_kx s n) ∧ t.1 2 (25 * r + n) 6 = nI (rg_ka s n) ∧ t.1 2 (25 * r + n) 7 = nI (rg_kl s n)
def rg_K (t : sr_t) (r : Nat) (s : rg_T) : Prop := t.1 3 r 4 = nI (rg_up s) ∧ ∀ n, n < rg_N s → rg_Kn t r s n
/-- where ring r's picture lies -/
def Fp_C (r k i j : Nat) : Prop := (k = 2 ∧ 25 * r ≤ i ∧ i ≤ 25 * r + 24 ∧ (j ≤ 3 ∨ (i = 25 * r + 24 ∧ j = 7))) ∨ (k = 3 ∧ i = r ∧ j ≠ 4) ∨ (k = 7 ∧ 25 * r ≤ i ∧ i < 25 * r + 24) ∨ ((k = 4 ∨ k = 12) ∧ 50 * r ≤ i ∧ i < 50 * r + 48)
def Fp_B (r k i j : Nat) : Prop := (k = 2 ∧ 25 * r ≤ i ∧ i ≤ 25 * r + 24 ∧ (j ≤ 3 ∨ (i = 25 * r + 24 ∧ j = 7))) ∨ (k = 3 ∧ i = r ∧ j ≠ 4)
def Fp_K (r k i j : Nat) : Prop := (k = 2 ∧ 25 * r ≤ i ∧ i < 25 * r + 24 ∧ 5 ≤ j ∧ j ≤ 7) ∨ (k = 3 ∧ i = r ∧ j = 4)
def Fp_R (k i j : Nat) : Prop := (k = 11 ∧ i = 0 ∧ (j = 1 ∨ j = 7 ∨ j = 8)) ∨ (24 ≤ k ∧ k ≤ 27)
theorem rg_B_fr {S : Nat → Nat → Nat → Prop} {t t' : sr_t} {r : Nat} {s : rg_T} (hN : rg_N s ≤ 24) (h : fr S t t') (hs : ∀ k i j, Fp_B r k i j → ¬ S k i j) (B : rg_B t r s) : rg_B t' r s := by
  have g : ∀ k i j, Fp_B r k i j → t'.1 k i j = t.1 k i j := fun k i j q => h.2 k i j (hs k i j q)
  obtain ⟨⟨h1, h2, h3, h4, h5⟩, ⟨n1, n2, n3⟩, nd⟩ := B
  refine ⟨⟨?_, ?_, ?_, ?_, ?_⟩, ⟨fun n hn => ?_, ?_, ?_⟩, fun n hn => ⟨?_, ?_, ?_⟩⟩
  · rw [g _ _ _ (by unfold Fp_B; omega)]; exact h1
  · rw [g _ _ _ (by unfold Fp_B; omega)]; exact h2
  · rw [g _ _ _ (by unfold Fp_B; omega)]; exact h3
  · rw [g _ _ _ (by unfold Fp_B; omega)]; exact h4
  · rw [g _ _ _ (by unfold Fp_B; omega)]; exact h5
  · rw [g _ _ _ (by unfold Fp_B; omega)]; exact n1 n hn
  · rw [g _ _ _ (by unfold Fp_B; omega)]; exact n2
  · rw [g _ _ _ (by unfold Fp_B; omega)]; exact n3
  · rw [g _ _ _ (by unfold Fp_B; omega)]; exact (nd n hn).1
  · rw [g _ _ _ (by unfold Fp_B; omega)]; exact (nd n hn).2.1
  · rw [g _ _ _ (by unfold Fp_B; omega)]; exact (nd n hn).2.2
theorem rg_row_fr {t t' : sr_t} {i m : Nat} {f : Nat → Nat} (h1 : t'.1 4 i 1 = t.1 4 i 1) (h2 : ∀ j, t'.1 12 i j = t.1 12 i j) (R : rg_row t i m f) : rg_row t' i m f := ⟨h1.trans R.1, fun k hk => (h2 k).trans (R.2 k hk)⟩
theorem rg_tab_fr {S : Nat → Nat → Nat → Prop} {t t' : sr_t} {i : Nat} {T : Nat → Nat} (h : fr S t t') (hs : ∀ k j, (¬ S 7 i j) ∧ ((k = 4 ∨ k = 12) → ¬ S k (2 * i) j ∧ ¬ S k (2 * i + 1) j)) (R : rg_tab t i T) : rg_tab t' i T := by
  refine ⟨(h.2 _ _ _ (hs 7 0).1).trans R.1, rg_row_fr ?_ ?_ R.2.1, rg_row_fr ?_ ?_ R.2.2⟩
  · exact h.2 _ _ _ ((hs 4 1).2 (Or.inl rfl)).1
  · intro j; exact h.2 _ _ _ ((hs 12 j).2 (Or.inr rfl)).1
  · exact h.2 _ _ _ ((hs 4 1).2 (Or.inl rfl)).2
  · intro j; exact h.2 _ _ _ ((hs 12 j).2 (Or.inr rfl)).2
theorem rg_C_fr {S : Nat → Nat → Nat → Prop} {t t' : sr_t} {r : Nat} {s : rg_T} (hN : rg_N s ≤ 24) (h : fr S t t') (hs : ∀ k i j, Fp_C r k i j → ¬ S k i j) (C : rg_C t r s) : rg_C t' r s := by
  refine ⟨rg_B_fr hN h (fun k i j q => hs k i j (by unfold Fp_B at q; unfold Fp_C; omega)) C.1, fun n hn => rg_tab_fr h (fun k j => ⟨hs _ _ _ (by unfold Fp_C; omega), fun hk => ⟨hs _ _ _ (by unfold Fp_C; omega), hs _ _ _ (by unfold Fp_C; omega)⟩⟩) (C.2 n hn)⟩
theorem rg_K_fr {S : Nat → Nat → Nat → Prop} {t t' : sr_t} {r : Nat} {s : rg_T} (hN : rg_N s ≤ 24) (h : fr S t t') (hs : ∀ k i j, Fp_K r k i j → ¬ S k i j) (K : rg_K t r s) : rg_K t' r s := by
  have g : ∀ k i j, Fp_K r k i j → t'.1 k i j = t.1 k i j := fun k i j q => h.2 k i j (hs k i j q)
  refine ⟨?_, fun n hn => ⟨?_, ?_, ?_⟩⟩
  · rw [g _ _ _ (by unfold Fp_K; omega)]; exact K.1
  · rw [g _ _ _ (by unfold Fp_K; omega)]; exact (K.2 n hn).1
  · rw [g _ _ _ (by unfold Fp_K; omega)]; exact (K.2 n hn).2.1
  · rw [g _ _ _ (by unfold Fp_K; omega)]; exact (K.2 n hn).2.2
theorem rg_RB_fr {S : Nat → Nat → Nat → Prop} {t t' : sr_t} {s : rg_T} (h : fr S t t') (hs : ∀ k i j, Fp_R k i j → k ≠ 27 → ¬ S k i j) (R : rg_RB t s) : rg_RB t' s := by
  have g : ∀ k i j, Fp_R k i j → k ≠ 27 → t'.1 k i j = t.1 k i j := fun k i j q q' => h.2 k i j (hs k i j q q')
  obtain ⟨⟨h1, h2, h3⟩, nd⟩ := R
  refine ⟨⟨?_, ?_, ?_⟩, fun n hn => ⟨?_, ?_, ?_⟩⟩
  · rw [g _ _ _ (by unfold Fp_R; omega) (by decide)]; exact h1
  · rw [g _ _ _ (by unfold Fp_R; omega) (by decide)]; exact h2
  · rw [g _ _ _ (by unfold Fp_R; omega) (by decide)]; exact h3
  · rw [g _ _ _ (by unfold Fp_R; omega) (by decide)]; exact (nd n hn).1
  · rw [g _ _ _ (by unfold Fp_R; omega) (by decide)]; exact (nd n hn).2.1
  · rw [g _ _ _ (by unfold Fp_R; omega) (by decide)]; exact (nd n hn).2.2
theorem rg_rt_fr {t t' : sr_t} {k a : Nat} {T : Nat → Nat} (h : ∀ j, a ≤ j → j < a + 14 → t'.1 k 0 j = t.1 k 0 j) (h1 : T 1 ≤ 3) (h5 : T 5 ≤ 8) (R : rg_rt t k a T) : rg_rt t' k a T := by
  obtain ⟨r1, r2, r3, r4, r5⟩ := R
  refine ⟨?_, ?_, ?_, fun j hj => ?_, fun j hj => ?_⟩
  · rw [h _ (by omega) (by omega)]; exact r1
  · rw [h _ (by omega) (by omega)]; exact r2
  · rw [h _ (by omega) (by omega)]; exact r3
  · rw [h _ (by omega) (by omega)]; exact r4 j hj
  · rw [h _ (by omega) (by omega)]; exact r5 j hj
theorem rg_R_fr {S : Nat → Nat → Nat → Prop} {t t' : sr_t} {s : rg_T} (O : rg_ok s) (h : fr S t t') (hs : ∀ k i j, Fp_R k i j → ¬ S k i j) (R : rg_R t s) : rg_R t' s :=
  ⟨rg_RB_fr h (fun k i j q _ => hs k i j q) R.1, fun n hn => rg_rt_fr (fun j _ _ => h.2 _ _ _ (hs _ _ _ (by unfold Fp_R; omega))) (O.2 n hn).2.1 (O.2 n hn).2.2.2.2.1 (R.2 n hn)⟩
theorem pu_at {t : sr_t} {i m k : Nat} {f : Nat → Nat} (R : rg_row t i m f) (hm : m ≤ 8) (hk : k < m) : F4_at i (nI k) t = some (.inl (some (sr_i (nI (f k)))), t) := by
  have h1 := R.1
  have h2 := R.2 k hk
  simp (disch := omega) only [pu_lt, pu_ck, pu_bI, pu_bV, pu_bR, pu_bL, pu_nt, pu_us, pu_un, mL_0, mL_1, mL_2, mL_3, mL_4, mL_5, mL_6, mL_7, mL_8, mL_9, mL_10, mL_11, mL_12, mL_13, mL_14, mL_15, mL_16, mL_23, mL_24, mL_32, mL_48, mL_64, mL_99, mL_100, mL_200, mL_336, mL_576, mL_768, mL_800, mL_999, mL_4095, mL_4096, mL_m1, nI_leI, nI_ltI, nI_eq, nI_clamp, nI_add, pk_mul, nI_nu, bI_eq0, bI_eq1, bo_ft, pu_of, pu_of24, pu_onward, pu_frq, if_true, if_false, true_or, or_true, false_or, or_false, and_true, true_and, and_false, false_and, not_true_eq_false, not_false_eq_true, if_neg, if_pos, F4_at, f4_at_31, h1, h2]
theorem pu_atO {t : sr_t} {i m k : Nat} {f : Nat → Nat} (R : rg_row t i m f) (hm : m ≤ 8) (hk : m ≤ k) (h31 : k < 2 ^ 31) : F4_at i (nI k) t = some (.inl (some (sr_i (nu 24))), t) := by
  have h1 := R.1
  simp (disch := omega) only [pu_lt, pu_ck, pu_bI, pu_bV, pu_bR, pu_bL, pu_nt, pu_us, pu_un, mL_0, mL_1, mL_2, mL_3, mL_4, mL_5, mL_6, mL_7, mL_8, mL_9, mL_10, mL_11, mL_12, mL_13, mL_14, mL_15, mL_16, mL_23, mL_24, mL_32, mL_48, mL_64, mL_99, mL_100, mL_200, mL_336, mL_576, mL_768, mL_800, mL_999, mL_4095, mL_4096, mL_m1, nI_leI, nI_ltI, nI_eq, nI_clamp, nI_add, pk_mul, nI_nu, bI_eq0, bI_eq1, bo_ft, pu_of, pu_of24, pu_onward, pu_frq, if_true, if_false, true_or, or_true, false_or, or_false, and_true, true_and, and_false, false_and, not_true_eq_false, not_false_eq_true, if_neg, if_pos, F4_at, f4_at_31, f4_at_30, h1]
theorem pu_findNext {t : sr_t} {s : rg_T} {r n : Nat} (C : rg_C t r s) (O : rg_ok s) (hr : r < 2) (hn : n < rg_N s) : F3_findNext r (25 * r + n) t = some (.inl (some (sr_i (nu (rg_nx s n)))), t) := by
  have hN := O.1.1
  obtain ⟨t0, t1, t2, t3, t4, t5⟩ := O.2 n hn
  have Rw := (C.2 n hn).2.1
  have h1 : t.1 4 (2 * (25 * r + n)) 1 = nI (rg_t s n 1) := Rw.1
  have num := C.1.2.1.1 n (by omega)
  refine rs_eq ?_
  refine rs_loop (N := rg_t s n 1) (L := fun f k t' => f3_findNext_10 r (25 * r + n) (f3_findNext_33 r (25 * r + n)) (f3_findNext_45 r (25 * r + n)) f (2 * (25 * r + n)) (nI k) t') (fun k t' => t' = t ∧ ∀ j, j < k → rg_u s (rg_t s n (2 + j)) = false) ?_ ?_ (by unfold sr_fu; omega) ⟨rfl, fun j hj => by omega⟩
  · rintro k g t' hk ⟨rfl, hno⟩
    have hlt := t2 k hk
    have hat := pu_at Rw (by omega) hk
    have hup := (C.1.2.2 _ hlt).2.1
    by_cases hu : rg_u s (rg_t s n (2 + k)) = true
    · right
      have e : rg_nx s n = rg_t s n (2 + k) := by
        have e1 : fi (fun k => rg_u s (rg_t s n (2 + k))) (rg_t s n 1) = k := fi_eq (by omega) hno (fun _ => hu)
        unfold rg_nx
        rw [e1, if_pos hk]
      show rs_to _ (f3_findNext_10 r (25 * r + n) (f3_findNext_33 r (25 * r + n)) (f3_findNext_45 r (25 * r + n)) (g + 1) (2 * (25 * r + n)) (nI k) t')
      simp (disch := omega) only [pu_lt, pu_ck, pu_bI, pu_bV, pu_bR, pu_bL, pu_nt, pu_us, pu_un, mL_0, mL_1, mL_2, mL_3, mL_4, mL_5, mL_6, mL_7, mL_8, mL_9, mL_10, mL_11, mL_12, mL_13, mL_14, mL_15, mL_16, mL_23, mL_24, mL_32, mL_48, mL_64, mL_99, mL_100, mL_200, mL_336, mL_576, mL_768, mL_800, mL_999, mL_4095, mL_4096, mL_m1, nI_leI, nI_ltI, nI_eq, nI_clamp, nI_add, pk_mul, nI_nu, bI_eq0, bI_eq1, bo_ft, pu_of, pu_of24, pu_onward, pu_frq, if_true, if_false, true_or, or_true, false_or, or_false, and_true, true_and, and_false, false_and, not_true_eq_false, not_false_eq_true, if_neg, if_pos, f3_findNext_10, f3_findNext_33, h1, hat, hup, hu, Bool.true_eq_false]
      refine rs_ret ⟨?_, rfl⟩
      rw [e, nu_lt (by omega)]
    · left
      have hu' : rg_u s (rg_t s n (2 + k)) = false := by simpa using hu
      refine ⟨t', ⟨rfl, fun j hj => ?_⟩, ?_⟩
      · by_cases e : j = k
        · rw [e]; exact hu'
        · exact hno j (by omega)
      · show f3_findNext_10 r (25 * r + n) (f3_findNext_33 r (25 * r + n)) (f3_findNext_45 r (25 * r + n)) (g + 1) (2 * (25 * r + n)) (nI k) t' = f3_findNext_10 r (25 * r + n) (f3_findNext_33 r (25 * r + n)) (f3_findNext_45 r (25 * r + n)) g (2 * (25 * r + n)) (nI (k + 1)) t'
        simp (disch := omega) only [pu_lt, pu_ck, pu_bI, pu_bV, pu_bR, pu_bL, pu_nt, pu_us, pu_un, mL_0, mL_1, mL_2, mL_3, mL_4, mL_5, mL_6, mL_7, mL_8, mL_9, mL_10, mL_11, mL_12, mL_13, mL_14, mL_15, mL_16, mL_23, mL_24, mL_32, mL_48, mL_64, mL_99, mL_100, mL_200, mL_336, mL_576, mL_768, mL_800, mL_999, mL_4095, mL_4096, mL_m1, nI_leI, nI_ltI, nI_eq, nI_clamp, nI_add, pk_mul, nI_nu, bI_eq0, bI_eq1, bo_ft, pu_of, pu_of24, pu_onward, pu_frq, if_true, if_false, true_or, or_true, false_or, or_false, and_true, true_and, and_false, false_and, not_true_eq_false, not_false_eq_true, if_neg, if_pos, f3_findNext_10, h1, hat, hup, hu']
  · rintro g t' ⟨rfl, hno⟩
    have e1 : fi (fun k => rg_u s (rg_t s n (2 + k))) (rg_t s n 1) = rg_t s n 1 := fi_eq (by omega) hno (fun h => absurd h (by omega))
    have e : rg_nx s n = if rg_t s n 1 = 0 then n else 24 := by unfold rg_nx; rw [e1, if_neg (by omega)]
    show rs_to _ (f3_findNext_10 r (25 * r + n) (f3_findNext_33 r (25 * r + n)) (f3_findNext_45 r (25 * r + n)) (g + 1) (2 * (25 * r + n)) (nI (rg_t s n 1)) t')
    simp (disch := omega) only [pu_lt, pu_ck, pu_bI, pu_bV, pu_bR, pu_bL, pu_nt, pu_us, pu_un, mL_0, mL_1, mL_2, mL_3, mL_4, mL_5, mL_6, mL_7, mL_8, mL_9, mL_10, mL_11, mL_12, mL_13, mL_14, mL_15, mL_16, mL_23, mL_24, mL_32, mL_48, mL_64, mL_99, mL_100, mL_200, mL_336, mL_576, mL_768, mL_800, mL_999, mL_4095, mL_4096, mL_m1, nI_leI, nI_ltI, nI_eq, nI_clamp, nI_add, pk_mul, nI_nu, bI_eq0, bI_eq1, bo_ft, pu_of, pu_of24, pu_onward, pu_frq, if_true, if_false, true_or, or_true, false_or, or_false, and_true, true_and, and_false, false_and, not_true_eq_false, not_false_eq_true, if_neg, if_pos, f3_findNext_10, f3_findNext_45, f3_findNext_60, h1, num]
    rw [e]
    by_cases h0 : rg_t s n 1 = 0
    · rw [if_pos h0, if_pos h0]; exact rs_ret ⟨rfl, rfl⟩
    · rw [if_neg h0, if_neg h0]; exact rs_ret ⟨rfl, rfl⟩
theorem pu_stretch {t : sr_t} {s : rg_T} {a b : Nat} (O : rg_okB s) (ha : a < rg_N s) (hb : b < rg_N s) : F10_stretch (nI (rg_p s a)) (nI (rg_p s b)) t = some (.inl (some (sr_i (nI (if a = b then 4096 else pu_d (rg_p s a) (rg_p s b))))), t) := by
  obtain ⟨hN, _, _, hp, hd, _⟩ := O
  have pa := hp a ha
  have pb := hp b hb
  have q : (nI (rg_p s a)).toBitVec.toNat % 4096 = rg_p s a := by rw [pu_qn (by omega), Nat.mod_eq_of_lt pa]
  unfold F10_stretch
  by_cases e : a = b
  · subst e
    rw [if_pos rfl, if_pos rfl]
    rfl
  · rw [if_neg (fun h => e (hd a b ha hb ((nI_eq (by omega) (by omega)).mp h))), if_neg e, pu_onward, pu_onq q pb]
    rfl
/-- as rs_of, what is to be shown of the heap put out of sight -/
theorem rs_via {x : sr_Rs} {o0 : sr_O} {P : sr_t → Prop} (h : ∀ Q : sr_O → sr_t → Prop, (∀ t, P t → Q o0 t) → rs_to Q x) : ∃ t, x = some (o0, t) ∧ P t := by
  obtain ⟨o, t, e, rfl, hp⟩ := h (fun o t => o = o0 ∧ P t) (fun t hp => ⟨rfl, hp⟩)
  exact ⟨t, e, hp⟩
end
