section
/-! the store changed -/
def st_P (i N : Nat) (w : st_T) : Prop := (w.1.1 ≤ 32 ∧ w.1.2.1 ≤ i ∧ 1 ≤ w.1.2.2 ∧ w.1.2.2 ≤ 3) ∧ (∀ k, k < w.1.1 → w.2.1 k < 4096 ∧ w.2.2.1 k ≤ w.1.2.1) ∧ (∀ k, k < 32 → ∀ n, n < 24 → w.2.2.2.2 k n ≤ w.1.2.1 ∧ w.2.2.2.1 k n ≤ 999 ∧ (w.1.1 ≤ k ∨ N ≤ n → w.2.2.2.2 k n = 0))
def st_C (t : sr_t) (w : st_T) : Prop := (t.1 6 0 2 = nI w.1.1 ∧ t.1 6 0 3 = nI w.1.2.1 ∧ t.1 6 0 4 = nI w.1.2.2) ∧ (∀ k, k < w.1.1 → t.1 0 k 0 = nI (w.2.1 k) ∧ t.1 0 k 1 = nI (w.2.2.1 k)) ∧ (∀ k, k < 32 → ∀ n, n < 24 → t.1 20 k n = nI (w.2.2.2.1 k n) ∧ t.1 21 k n = nI (w.2.2.2.2 k n)) ∧ (∀ n, n < 24 → t.1 21 32 n = nI 0) ∧ t.1 0 32 1 = nI 0
def st_R (t : sr_t) (w : st_T) : Prop := (t.1 11 0 33 = nI w.1.1 ∧ t.1 11 0 34 = nI w.1.2.1 ∧ t.1 11 0 9 = nI w.1.2.2) ∧ (∀ k, k < w.1.1 → t.1 37 0 k = nI (w.2.1 k) ∧ t.1 38 0 k = nI (w.2.2.1 k)) ∧ (∀ k, k < 32 → ∀ n, n < 24 → t.1 39 0 (32 * n + k) = nI (w.2.2.2.1 k n) ∧ t.1 40 0 (32 * n + k) = nI (w.2.2.2.2 k n))
theorem st_I_to {i N : Nat} {t : sr_t} {w : st_T} (W : st_I i t N w) : st_P i N w ∧ st_C t w ∧ st_R t w := by
  obtain ⟨h0, h1, h4, h7, h8, h9, h10⟩ := W
  exact ⟨⟨h0, fun k hk => ⟨(h7 k hk).1, (h7 k hk).2.1⟩, fun k hk n hn => ⟨(h8 k hk n hn).1, (h8 k hk n hn).2.1, (h8 k hk n hn).2.2.2.2.2.2⟩⟩, ⟨h1, fun k hk => ⟨(h7 k hk).2.2.1, (h7 k hk).2.2.2.1⟩, fun k hk n hn => ⟨(h8 k hk n hn).2.2.1, (h8 k hk n hn).2.2.2.1⟩, h9, h10⟩, h4, fun k hk => (h7 k hk).2.2.2.2, fun k hk n hn => ⟨(h8 k hk n hn).2.2.2.2.1, (h8 k hk n hn).2.2.2.2.2.1⟩⟩
theorem st_I_of {i N : Nat} {t : sr_t} {w : st_T} (P : st_P i N w) (C : st_C t w) (R : st_R t w) : st_I i t N w := by
  obtain ⟨p0, p1, p2⟩ := P
  obtain ⟨c0, c1, c2, c3, c4⟩ := C
  obtain ⟨r0, r1, r2⟩ := R
  exact ⟨p0, c0, r0, fun k hk => ⟨(p1 k hk).1, (p1 k hk).2, (c1 k hk).1, (c1 k hk).2, r1 k hk⟩, fun k hk n hn => ⟨(p2 k hk n hn).1, (p2 k hk n hn).2.1, (c2 k hk n hn).1, (c2 k hk n hn).2, (r2 k hk n hn).1, (r2 k hk n hn).2, (p2 k hk n hn).2.2⟩, c3, c4⟩
theorem st_C_fr {t t' : sr_t} {w : st_T} {S : Nat → Nat → Nat → Prop} (h : frI S t t') (hs : ∀ k i j, (k = 0 ∨ k = 6 ∨ k = 20 ∨ k = 21) → ¬ S k i j) (C : st_C t w) : st_C t' w := by
  have g : ∀ k i j, (k = 0 ∨ k = 6 ∨ k = 20 ∨ k = 21) → t'.1 k i j = t.1 k i j := fun k i j q => h k i j (hs k i j q)
  obtain ⟨⟨a, b, c⟩, c1, c2, c3, c4⟩ := C
  refine ⟨⟨?_, ?_, ?_⟩, fun k hk => ?_, fun k hk n hn => ?_, fun n hn => ?_, ?_⟩
  · rw [g _ _ _ (by omega)]; exact a
  · rw [g _ _ _ (by omega)]; exact b
  · rw [g _ _ _ (by omega)]; exact c
  · rw [g _ _ _ (by omega), g _ _ _ (by omega)]; exact c1 k hk
  · rw [g _ _ _ (by omega), g _ _ _ (by omega)]; exact c2 k hk n hn
  · rw [g _ _ _ (by omega)]; exact c3 n hn
  · rw [g _ _ _ (by omega)]; exact c4
theorem st_R_fr {t t' : sr_t} {w : st_T} {S : Nat → Nat → Nat → Prop} (h : frI S t t') (hs : ∀ k i j, ((37 ≤ k ∧ k ≤ 40) ∨ (k = 11 ∧ i = 0 ∧ (j = 9 ∨ j = 33 ∨ j = 34))) → ¬ S k i j) (R : st_R t w) : st_R t' w := by
  have g : ∀ k i j, ((37 ≤ k ∧ k ≤ 40) ∨ (k = 11 ∧ i = 0 ∧ (j = 9 ∨ j = 33 ∨ j = 34))) → t'.1 k i j = t.1 k i j := fun k i j q => h k i j (hs k i j q)
  obtain ⟨⟨a, b, c⟩, c1, c2⟩ := R
  refine ⟨⟨?_, ?_, ?_⟩, fun k hk => ?_, fun k hk n hn => ?_⟩
  · rw [g _ _ _ (by omega)]; exact a
  · rw [g _ _ _ (by omega)]; exact b
  · rw [g _ _ _ (by omega)]; exact c
  · rw [g _ _ _ (by omega), g _ _ _ (by omega)]; exact c1 k hk
  · rw [g _ _ _ (by omega), g _ _ _ (by omega)]; exact c2 k hk n hn
def st_h (w : st_T) (k n v x : Nat) : st_T := (w.1, w.2.1, w.2.2.1, fun k' n' => if k' = k ∧ n' = n then v else w.2.2.2.1 k' n', fun k' n' => if k' = k ∧ n' = n then x else w.2.2.2.2 k' n')
def S_hc (k _i _j : Nat) : Prop := k = 20 ∨ k = 21
def S_hr (k _i _j : Nat) : Prop := k = 39 ∨ k = 40
theorem st_P_h {i N : Nat} {w : st_T} {k n v x : Nat} (P : st_P i N w) (hv : v ≤ 999) (hx : x ≤ w.1.2.1) (hk : (k < w.1.1 ∧ n < N) ∨ x = 0) : st_P i N (st_h w k n v x) := by
  obtain ⟨p0, p1, p2⟩ := P
  refine ⟨p0, p1, fun k' hk' n' hn' => ?_⟩
  obtain ⟨a, b, c⟩ := p2 k' hk' n' hn'
  show (if k' = k ∧ n' = n then x else w.2.2.2.2 k' n') ≤ w.1.2.1 ∧ (if k' = k ∧ n' = n then v else w.2.2.2.1 k' n') ≤ 999 ∧ (w.1.1 ≤ k' ∨ N ≤ n' → (if k' = k ∧ n' = n then x else w.2.2.2.2 k' n') = 0)
  by_cases e : k' = k ∧ n' = n
  · rw [if_pos e, if_pos e]
    exact ⟨hx, hv, fun h => by omega⟩
  · rw [if_neg e, if_neg e]
    exact ⟨a, b, c⟩
theorem pc_hold {t : sr_t} {w : st_T} {k n v x : Nat} (C : st_C t w) (hk : k < 32) (hn : n < 24) : ∃ t', F0_hold k (nI n) (nI v) (nI x) t = some (.inl none, t') ∧ st_C t' (st_h w k n v x) ∧ fr S_hc t t' := by
  refine ⟨sr_u (sr_u t 20 k n (nI v)) 21 k n (nI x), ?_, ?_, rfl, fun a b c h => ?_⟩
  · simp (disch := omega) only [pv_lt, pu_ck, pv_bI, pv_bV, pu_bR, pv_bL, pv_nt, pu_us, pu_un, mL_0, mL_1, mL_2, mL_3, mL_4, mL_5, mL_6, mL_7, mL_8, mL_9, mL_10, mL_11, mL_12, mL_13, mL_14, mL_15, mL_16, mL_23, mL_24, mL_32, mL_48, mL_64, mL_99, mL_100, mL_200, mL_336, mL_576, mL_768, mL_800, mL_999, mL_4095, mL_4096, mL_m1, nI_leI, nI_ltI, nI_eq, nI_clamp, nI_add, pk_mul, nI_nu, bI_eq0, bI_eq1, bo_ft, Bool.true_eq_false, Bool.false_eq_true, pu_of, pu_of24, pu_onward, pu_frq, if_true, if_false, true_or, or_true, false_or, or_false, and_true, true_and, and_false, false_and, not_true_eq_false, not_false_eq_true, if_neg, if_pos, F0_hold, f0_hold_36, pu_ixN']
  · obtain ⟨⟨a, b, c⟩, c1, c2, c3, c4⟩ := C
    refine ⟨⟨?_, ?_, ?_⟩, fun k' hk' => ?_, fun k' hk' n' hn' => ?_, fun n' hn' => ?_, ?_⟩
    · rw [pu_un (by omega), pu_un (by omega)]; exact a
    · rw [pu_un (by omega), pu_un (by omega)]; exact b
    · rw [pu_un (by omega), pu_un (by omega)]; exact c
    · rw [pu_un (by omega), pu_un (by omega), pu_un (by omega), pu_un (by omega)]; exact c1 k' hk'
    · show (sr_u (sr_u t 20 k n (nI v)) 21 k n (nI x)).1 20 k' n' = nI (if k' = k ∧ n' = n then v else w.2.2.2.1 k' n') ∧ (sr_u (sr_u t 20 k n (nI v)) 21 k n (nI x)).1 21 k' n' = nI (if k' = k ∧ n' = n then x else w.2.2.2.2 k' n')
      rw [pu_un (by omega)]
      by_cases e : k' = k ∧ n' = n
      · obtain ⟨rfl, rfl⟩ := e
        rw [if_pos ⟨rfl, rfl⟩, if_pos ⟨rfl, rfl⟩, pu_us, pu_us]
        exact ⟨rfl, rfl⟩
      · rw [if_neg e, if_neg e, pu_un (by omega), pu_un (by omega), pu_un (by omega)]
        exact c2 k' hk' n' hn'
    · rw [pu_un (by omega), pu_un (by omega)]; exact c3 n' hn'
    · rw [pu_un (by omega), pu_un (by omega)]; exact c4
  · unfold S_hc at h
    rw [pu_un (by omega), pu_un (by omega)]
theorem pr_holds {t : sr_t} {w : st_T} {k n v x : Nat} (R : st_R t w) (hk : k < 32) (hn : n < 24) : ∃ t', F11_holds (nI n) (nI k) (nI v) (nI x) t = some (.inl none, t') ∧ st_R t' (st_h w k n v x) ∧ fr S_hr t t' := by
  refine ⟨sr_u (sr_u t 39 0 (32 * n + k) (nI v)) 40 0 (32 * n + k) (nI x), ?_, ?_, rfl, fun a b c h => ?_⟩
  · simp (disch := omega) only [pv_lt, pu_ck, pv_bI, pv_bV, pu_bR, pv_bL, pv_nt, pu_us, pu_un, mL_0, mL_1, mL_2, mL_3, mL_4, mL_5, mL_6, mL_7, mL_8, mL_9, mL_10, mL_11, mL_12, mL_13, mL_14, mL_15, mL_16, mL_23, mL_24, mL_32, mL_48, mL_64, mL_99, mL_100, mL_200, mL_336, mL_576, mL_768, mL_800, mL_999, mL_4095, mL_4096, mL_m1, nI_leI, nI_ltI, nI_eq, nI_clamp, nI_add, pk_mul, nI_nu, bI_eq0, bI_eq1, bo_ft, Bool.true_eq_false, Bool.false_eq_true, pu_of, pu_of24, pu_onward, pu_frq, if_true, if_false, true_or, or_true, false_or, or_false, and_true, true_and, and_false, false_and, not_true_eq_false, not_false_eq_true, if_neg, if_pos, F11_holds, pr_cell, pu_ixN']
  · obtain ⟨⟨a, b, c⟩, c1, c2⟩ := R
    refine ⟨⟨?_, ?_, ?_⟩, fun k' hk' => ?_, fun k' hk' n' hn' => ?_⟩
    · rw [pu_un (by omega), pu_un (by omega)]; exact a
    · rw [pu_un (by omega), pu_un (by omega)]; exact b
    · rw [pu_un (by omega), pu_un (by omega)]; exact c
    · rw [pu_un (by omega), pu_un (by omega), pu_un (by omega), pu_un (by omega)]; exact c1 k' hk'
    · show (sr_u (sr_u t 39 0 (32 * n + k) (nI v)) 40 0 (32 * n + k) (nI x)).1 39 0 (32 * n' + k') = nI (if k' = k ∧ n' = n then v else w.2.2.2.1 k' n') ∧ (sr_u (sr_u t 39 0 (32 * n + k) (nI v)) 40 0 (32 * n + k) (nI x)).1 40 0 (32 * n' + k') = nI (if k' = k ∧ n' = n then x else w.2.2.2.2 k' n')
      rw [pu_un (by omega)]
      by_cases e : k' = k ∧ n' = n
      · obtain ⟨rfl, rfl⟩ := e
        rw [if_pos ⟨rfl, rfl⟩, if_pos ⟨rfl, rfl⟩, pu_us, pu_us]
        exact ⟨rfl, rfl⟩
      · rw [if_neg e, if_neg e, pu_un (by omega), pu_un (by omega), pu_un (by omega)]
        exact c2 k' hk' n' hn'
  · unfold S_hr at h
    rw [pu_un (by omega), pu_un (by omega)]
def st_e (w : st_T) (k q : Nat) : st_T := ((if k = w.1.1 then w.1.1 + 1 else w.1.1, w.1.2.1 + 1, w.1.2.2), (fun j => if j = k then q else w.2.1 j), (fun j => if j = k then w.1.2.1 + 1 else w.2.2.1 j), w.2.2.2)
theorem st_e_k {w : st_T} {k q j : Nat} (hk : k ≤ w.1.1) (hj : j < (st_e w k q).1.1) : j = k ∨ (j ≠ k ∧ j < w.1.1) := by
  have : j < if k = w.1.1 then w.1.1 + 1 else w.1.1 := hj
  split at this <;> omega
theorem st_P_e {i N : Nat} {w : st_T} {k q : Nat} (P : st_P i N w) (hk : k ≤ w.1.1) (hk3 : k < 32) (hq : q < 4096) : st_P (i + 4) N (st_e w k q) := by
  obtain ⟨⟨a, b, c, d⟩, p1, p2⟩ := P
  refine ⟨⟨?_, ?_, c, d⟩, fun j hj => ?_, fun k' hk' n' hn' => ?_⟩
  · show (if k = w.1.1 then w.1.1 + 1 else w.1.1) ≤ 32
    split <;> omega
  · show w.1.2.1 + 1 ≤ i + 4
    omega
  · show (if j = k then q else w.2.1 j) < 4096 ∧ (if j = k then w.1.2.1 + 1 else w.2.2.1 j) ≤ w.1.2.1 + 1
    rcases st_e_k hk hj with e | ⟨e, e'⟩
    · rw [if_pos e, if_pos e]; exact ⟨hq, Nat.le_refl _⟩
    · rw [if_neg e, if_neg e]
      have := p1 j e'
      exact ⟨this.1, by omega⟩
  · obtain ⟨x1, x2, x3⟩ := p2 k' hk' n' hn'
    show w.2.2.2.2 k' n' ≤ w.1.2.1 + 1 ∧ w.2.2.2.1 k' n' ≤ 999 ∧ ((if k = w.1.1 then w.1.1 + 1 else w.1.1) ≤ k' ∨ N ≤ n' → w.2.2.2.2 k' n' = 0)
    refine ⟨by omega, x2, fun h => x3 ?_⟩
    split at h <;> omega
theorem st_C_e {t t' : sr_t} {w : st_T} {k q : Nat} (C : st_C t w) (hk : k ≤ w.1.1) (hk3 : k < 32) (h1 : t'.1 6 0 2 = nI (if k = w.1.1 then w.1.1 + 1 else w.1.1)) (h2 : t'.1 6 0 3 = nI (w.1.2.1 + 1)) (h3 : t'.1 0 k 0 = nI q) (h4 : t'.1 0 k 1 = nI (w.1.2.1 + 1)) (f : frI (fun a i j => (a = 6 ∧ i = 0 ∧ (j = 2 ∨ j = 3)) ∨ (a = 0 ∧ i = k)) t t') : st_C t' (st_e w k q) := by
  obtain ⟨⟨a, b, c⟩, c1, c2, c3, c4⟩ := C
  refine ⟨⟨h1, h2, ?_⟩, fun j hj => ?_, fun k' hk' n' hn' => ?_, fun n' hn' => ?_, ?_⟩
  · rw [f _ _ _ (by omega)]; exact c
  · show t'.1 0 j 0 = nI (if j = k then q else w.2.1 j) ∧ t'.1 0 j 1 = nI (if j = k then w.1.2.1 + 1 else w.2.2.1 j)
    rcases st_e_k hk hj with e | ⟨e, e'⟩
    · rw [if_pos e, if_pos e, e]; exact ⟨h3, h4⟩
    · rw [if_neg e, if_neg e, f _ _ _ (by omega), f _ _ _ (by omega)]; exact c1 j e'
  · rw [f _ _ _ (by omega), f _ _ _ (by omega)]; exact c2 k' hk' n' hn'
  · rw [f _ _ _ (by omega)]; exact c3 n' hn'
  · rw [f _ _ _ (by omega)]; exact c4
theorem st_R_e {t t' : sr_t} {w : st_T} {k q : Nat} (R : st_R t w) (hk : k ≤ w.1.1) (hk3 : k < 32) (h1 : t'.1 11 0 33 = nI (if k = w.1.1 then w.1.1 + 1 else w.1.1)) (h2 : t'.1 11 0 34 = nI (w.1.2.1 + 1)) (h3 : t'.1 37 0 k = nI q) (h4 : t'.1 38 0 k = nI (w.1.2.1 + 1)) (f : frI (fun a i j => (a = 11 ∧ i = 0 ∧ (j = 33 ∨ j = 34)) ∨ ((a = 37 ∨ a = 38) ∧ i = 0 ∧ j = k)) t t') : st_R t' (st_e w k q) := by
  obtain ⟨⟨a, b, c⟩, c1, c2⟩ := R
  refine ⟨⟨h1, h2, ?_⟩, fun j hj => ?_, fun k' hk' n' hn' => ?_⟩
  · rw [f _ _ _ (by omega)]; exact c
  · show t'.1 37 0 j = nI (if j = k then q else w.2.1 j) ∧ t'.1 38 0 j = nI (if j = k then w.1.2.1 + 1 else w.2.2.1 j)
    rcases st_e_k hk hj with e | ⟨e, e'⟩
    · rw [if_pos e, if_pos e, e]; exact ⟨h3, h4⟩
    · rw [if_neg e, if_neg e, f _ _ _ (by omega), f _ _ _ (by omega)]; exact c1 j e'
  · rw [f _ _ _ (by omega), f _ _ _ (by omega)]; exact c2 k' hk' n' hn'
/-! those that take a copy -/
def pl (s : rg_T) (e k v : Nat) (w : st_T) : Nat → Nat × st_T
  | 0 => (1, w)
  | j + 1 => if w.1.2.2 ≤ (pl s e k v w j).1 then pl s e k v w j else if rg_u s (rg_t s e (2 + j)) = true then ((pl s e k v w j).1 + 1, st_h (pl s e k v w j).2 k (rg_t s e (2 + j)) v w.1.2.1) else pl s e k v w j
theorem pl_s {s : rg_T} {e k v j : Nat} {w : st_T} : pl s e k v w (j + 1) = if w.1.2.2 ≤ (pl s e k v w j).1 then pl s e k v w j else if rg_u s (rg_t s e (2 + j)) = true then ((pl s e k v w j).1 + 1, st_h (pl s e k v w j).2 k (rg_t s e (2 + j)) v w.1.2.1) else pl s e k v w j := Eq.trans (Eq.refl _) (Eq.refl _)
theorem pl_1 {s : rg_T} {e k v : Nat} {w : st_T} : ∀ j, (pl s e k v w j).2.1 = w.1 ∧ (pl s e k v w j).1 ≤ j + 1 := by
  intro j
  induction j with
  | zero => exact ⟨rfl, Nat.le_refl _⟩
  | succ j ih =>
    rw [pl_s]
    split
    · exact ⟨ih.1, by omega⟩
    · split
      · exact ⟨ih.1, by show (pl s e k v w j).1 + 1 ≤ _; omega⟩
      · exact ⟨ih.1, by omega⟩
theorem pl_stay {s : rg_T} {e k v j : Nat} {w : st_T} (h : w.1.2.2 ≤ (pl s e k v w j).1) : ∀ m, j ≤ m → pl s e k v w m = pl s e k v w j := by
  intro m
  induction m with
  | zero => intro hm; rw [show j = 0 by omega]
  | succ m ih =>
    intro hm
    by_cases e' : j = m + 1
    · rw [e']
    · have := ih (by omega)
      rw [pl_s, this, if_pos h]
theorem pl_P {i N : Nat} {s : rg_T} {e k v : Nat} {w : st_T} (P : st_P i N w) (hv : v ≤ 999) (hk : k < w.1.1) : ∀ m, (∀ j, j < m → rg_t s e (2 + j) < N) → st_P i N (pl s e k v w m).2 := by
  intro m
  induction m with
  | zero => intro _; exact P
  | succ m ih =>
    intro hj
    have i1 := ih (fun j h => hj j (by omega))
    have e1 := (pl_1 (s := s) (e := e) (k := k) (v := v) (w := w) m).1
    rw [pl_s]
    split
    · exact i1
    · split
      · exact st_P_h i1 hv (by rw [e1]; exact Nat.le_refl _) (Or.inl ⟨by rw [e1]; exact hk, hj m (by omega)⟩)
      · exact i1
theorem pc_keep {t : sr_t} {s : rg_T} {e k v : Nat} {w : st_T} {a : Int32} (C : rg_C t 0 s) (O : rg_ok s) (he : e < rg_N s) (hk : k < 32) (hc : w.1.2.2 ≤ 3) (H : st_C t w) : ∃ t', f6_keepAt_56 0 (25 * 0 + e) a (nI v) (f6_keepAt_119 0 (25 * 0 + e) a (nI v)) sr_fu k (nI 1) (2 * (25 * 0 + e)) (nI 0) t = some (.inl (some (sr_i (nI (pl s e k v w (rg_t s e 1)).1))), t') ∧ st_C t' (pl s e k v w (rg_t s e 1)).2 ∧ fr S_hc t t' := by
  have hN := O.1.1
  obtain ⟨g1, g2, g3, g4, g5, g6⟩ := O.2 e he
  refine (fun x => Exists.elim x fun t' h => ⟨t', h.1, h.2.1, h.2.2⟩) (rs_via (P := fun t' => st_C t' (pl s e k v w (rg_t s e 1)).2 ∧ fr S_hc t t') fun Q hQ => ?_)
  refine rs_loop (N := rg_t s e 1) (L := fun f j t' => f6_keepAt_56 0 (25 * 0 + e) a (nI v) (f6_keepAt_119 0 (25 * 0 + e) a (nI v)) f k (nI (pl s e k v w j).1) (2 * (25 * 0 + e)) (nI j) t') (fun j t' => st_C t' (pl s e k v w j).2 ∧ fr S_hc t t') ?_ ?_ (by unfold sr_fu; omega) ⟨H, fr_rfl⟩
  · rintro j g t' hj ⟨p1, p2⟩
    have C' : rg_C t' 0 s := rg_C_fr hN p2 (fun k i j q => by unfold Fp_C at q; unfold S_hc; omega) C
    have hb := g3 j hj
    have tb := (C'.2 e he).2.1
    have a1 := pu_at tb (by omega) hj
    have a0 := tb.1
    have up := (C'.1.2.2 _ hb).2.1
    obtain ⟨b1, b2⟩ := pl_1 (s := s) (e := e) (k := k) (v := v) (w := w) j
    obtain ⟨q1, q2, q3⟩ := p1.1
    rw [b1] at q2 q3
    show (∃ t2, (st_C t2 (pl s e k v w (j + 1)).2 ∧ fr S_hc t t2) ∧ f6_keepAt_56 0 (25 * 0 + e) a (nI v) _ (g + 1) k (nI (pl s e k v w j).1) (2 * (25 * 0 + e)) (nI j) t' = f6_keepAt_56 0 (25 * 0 + e) a (nI v) _ g k (nI (pl s e k v w (j + 1)).1) (2 * (25 * 0 + e)) (nI (j + 1)) t2) ∨ rs_to Q (f6_keepAt_56 0 (25 * 0 + e) a (nI v) _ (g + 1) k (nI (pl s e k v w j).1) (2 * (25 * 0 + e)) (nI j) t')
    by_cases hh : w.1.2.2 ≤ (pl s e k v w j).1
    · right
      have st := pl_stay hh (rg_t s e 1) (by omega)
      rw [st] at hQ
      simp (disch := omega) only [pv_lt, pu_ck, pv_bI, pv_bV, pu_bR, pv_bL, pv_nt, pu_us, pu_un, mL_0, mL_1, mL_2, mL_3, mL_4, mL_5, mL_6, mL_7, mL_8, mL_9, mL_10, mL_11, mL_12, mL_13, mL_14, mL_15, mL_16, mL_23, mL_24, mL_32, mL_48, mL_64, mL_99, mL_100, mL_200, mL_336, mL_576, mL_768, mL_800, mL_999, mL_4095, mL_4096, mL_m1, nI_leI, nI_ltI, nI_eq, nI_clamp, nI_add, pk_mul, nI_nu, bI_eq0, bI_eq1, bo_ft, Bool.true_eq_false, Bool.false_eq_true, pu_of, pu_of24, pu_onward, pu_frq, if_true, if_false, true_or, or_true, false_or, or_false, and_true, true_and, and_false, false_and, not_true_eq_false, not_false_eq_true, if_neg, if_pos, f6_keepAt_56, f6_keepAt_119, a0, q3]
      exact rs_ret (hQ _ ⟨p1, p2⟩)
    · left
      rw [pl_s, if_neg hh]
      cases hu : rg_u s (rg_t s e (2 + j)) with
      | false =>
        rw [hu] at up
        have bf : bI false = nI 0 := rfl
        rw [bf] at up
        refine ⟨t', ⟨?_, p2⟩, ?_⟩
        · rw [if_neg (by decide)]; exact p1
        · rw [if_neg (by decide)]
          simp (disch := omega) only [pv_lt, pu_ck, pv_bI, pv_bV, pu_bR, pv_bL, pv_nt, pu_us, pu_un, mL_0, mL_1, mL_2, mL_3, mL_4, mL_5, mL_6, mL_7, mL_8, mL_9, mL_10, mL_11, mL_12, mL_13, mL_14, mL_15, mL_16, mL_23, mL_24, mL_32, mL_48, mL_64, mL_99, mL_100, mL_200, mL_336, mL_576, mL_768, mL_800, mL_999, mL_4095, mL_4096, mL_m1, nI_leI, nI_ltI, nI_eq, nI_clamp, nI_add, pk_mul, nI_nu, bI_eq0, bI_eq1, bo_ft, Bool.true_eq_false, Bool.false_eq_true, pu_of, pu_of24, pu_onward, pu_frq, if_true, if_false, true_or, or_true, false_or, or_false, and_true, true_and, and_false, false_and, not_true_eq_false, not_false_eq_true, if_neg, if_pos, f6_keepAt_56, f6_keepAt_113, a0, q3, a1, up]
      | true =>
        rw [hu] at up
        have bt : bI true = nI 1 := rfl
        rw [bt] at up
        obtain ⟨t2, h1, h2, h3⟩ := pc_hold (k := k) (n := rg_t s e (2 + j)) (v := v) (x := w.1.2.1) p1 hk (by omega)
        refine ⟨t2, ⟨?_, fr_trans p2 h3⟩, ?_⟩
        · rw [if_pos rfl]; exact h2
        · rw [if_pos rfl]
          simp (disch := omega) only [pv_lt, pu_ck, pv_bI, pv_bV, pu_bR, pv_bL, pv_nt, pu_us, pu_un, mL_0, mL_1, mL_2, mL_3, mL_4, mL_5, mL_6, mL_7, mL_8, mL_9, mL_10, mL_11, mL_12, mL_13, mL_14, mL_15, mL_16, mL_23, mL_24, mL_32, mL_48, mL_64, mL_99, mL_100, mL_200, mL_336, mL_576, mL_768, mL_800, mL_999, mL_4095, mL_4096, mL_m1, nI_leI, nI_ltI, nI_eq, nI_clamp, nI_add, pk_mul, nI_nu, bI_eq0, bI_eq1, bo_ft, Bool.true_eq_false, Bool.false_eq_true, pu_of, pu_of24, pu_onward, pu_frq, if_true, if_false, true_or, or_true, false_or, or_false, and_true, true_and, and_false, false_and, not_true_eq_false, not_false_eq_true, if_neg, if_pos, f6_keepAt_56, f6_keepAt_113, a0, q2, q3, a1, up, h1]
  · rintro g t' ⟨p1, p2⟩
    have C' : rg_C t' 0 s := rg_C_fr hN p2 (fun k i j q => by unfold Fp_C at q; unfold S_hc; omega) C
    have a0 := ((C'.2 e he).2.1).1
    show rs_to Q (f6_keepAt_56 0 (25 * 0 + e) a (nI v) _ (g + 1) k (nI (pl s e k v w (rg_t s e 1)).1) (2 * (25 * 0 + e)) (nI (rg_t s e 1)) t')
    simp (disch := omega) only [pv_lt, pu_ck, pv_bI, pv_bV, pu_bR, pv_bL, pv_nt, pu_us, pu_un, mL_0, mL_1, mL_2, mL_3, mL_4, mL_5, mL_6, mL_7, mL_8, mL_9, mL_10, mL_11, mL_12, mL_13, mL_14, mL_15, mL_16, mL_23, mL_24, mL_32, mL_48, mL_64, mL_99, mL_100, mL_200, mL_336, mL_576, mL_768, mL_800, mL_999, mL_4095, mL_4096, mL_m1, nI_leI, nI_ltI, nI_eq, nI_clamp, nI_add, pk_mul, nI_nu, bI_eq0, bI_eq1, bo_ft, Bool.true_eq_false, Bool.false_eq_true, pu_of, pu_of24, pu_onward, pu_frq, if_true, if_false, true_or, or_true, false_or, or_false, and_true, true_and, and_false, false_and, not_true_eq_false, not_false_eq_true, if_neg, if_pos, f6_keepAt_56, f6_keepAt_119, a0]
    exact rs_ret (hQ _ ⟨p1, p2⟩)
theorem pr_keep {t : sr_t} {s : rg_T} {e k v : Nat} {w : st_T} {a b : Int32} (R : rg_R t s) (O : rg_ok s) (he : e < rg_N s) (hk : k < 32) (hc : w.1.2.2 ≤ 3) (H : st_R t w) : ∃ t', f11_put_188 a b (nI v) (f11_put_256 a b (nI v)) sr_fu (nI e) (nI k) (nI 1) (nI 0) t = some (.inl (some (sr_i (nI (pl s e k v w (rg_t s e 1)).1))), t') ∧ st_R t' (pl s e k v w (rg_t s e 1)).2 ∧ fr S_hr t t' := by
  have hN := O.1.1
  obtain ⟨g1, g2, g3, g4, g5, g6⟩ := O.2 e he
  refine (fun x => Exists.elim x fun t' h => ⟨t', h.1, h.2.1, h.2.2⟩) (rs_via (P := fun t' => st_R t' (pl s e k v w (rg_t s e 1)).2 ∧ fr S_hr t t') fun Q hQ => ?_)
  refine rs_loop (N := rg_t s e 1) (L := fun f j t' => f11_put_188 a b (nI v) (f11_put_256 a b (nI v)) f (nI e) (nI k) (nI (pl s e k v w j).1) (nI j) t') (fun j t' => st_R t' (pl s e k v w j).2 ∧ fr S_hr t t') ?_ ?_ (by unfold sr_fu; omega) ⟨H, fr_rfl⟩
  · rintro j g t' hj ⟨p1, p2⟩
    have R' : rg_R t' s := rg_R_fr O p2 (fun k i j q => by unfold Fp_R at q; unfold S_hr; omega) R
    have hb := g3 j hj
    have a1 := pu_tb1 (rg_RN_of R' O) O he
    have a2 := pu_tb2 (rg_RN_of R' O) O he hj
    have up := (R'.1.2 _ hb).2.1
    obtain ⟨b1, b2⟩ := pl_1 (s := s) (e := e) (k := k) (v := v) (w := w) j
    obtain ⟨q1, q2, q3⟩ := p1.1
    rw [b1] at q2 q3
    show (∃ t2, (st_R t2 (pl s e k v w (j + 1)).2 ∧ fr S_hr t t2) ∧ f11_put_188 a b (nI v) _ (g + 1) (nI e) (nI k) (nI (pl s e k v w j).1) (nI j) t' = f11_put_188 a b (nI v) _ g (nI e) (nI k) (nI (pl s e k v w (j + 1)).1) (nI (j + 1)) t2) ∨ rs_to Q (f11_put_188 a b (nI v) _ (g + 1) (nI e) (nI k) (nI (pl s e k v w j).1) (nI j) t')
    by_cases hh : w.1.2.2 ≤ (pl s e k v w j).1
    · right
      have st := pl_stay hh (rg_t s e 1) (by omega)
      rw [st] at hQ
      simp (disch := omega) only [pv_lt, pu_ck, pv_bI, pv_bV, pu_bR, pv_bL, pv_nt, pu_us, pu_un, mL_0, mL_1, mL_2, mL_3, mL_4, mL_5, mL_6, mL_7, mL_8, mL_9, mL_10, mL_11, mL_12, mL_13, mL_14, mL_15, mL_16, mL_23, mL_24, mL_32, mL_48, mL_64, mL_99, mL_100, mL_200, mL_336, mL_576, mL_768, mL_800, mL_999, mL_4095, mL_4096, mL_m1, nI_leI, nI_ltI, nI_eq, nI_clamp, nI_add, pk_mul, nI_nu, bI_eq0, bI_eq1, bo_ft, Bool.true_eq_false, Bool.false_eq_true, pu_of, pu_of24, pu_onward, pu_frq, if_true, if_false, true_or, or_true, false_or, or_false, and_true, true_and, and_false, false_and, not_true_eq_false, not_false_eq_true, if_neg, if_pos, f11_put_188, f11_put_256, a1, q3]
      exact rs_ret (hQ _ ⟨p1, p2⟩)
    · left
      rw [pl_s, if_neg hh]
      cases hu : rg_u s (rg_t s e (2 + j)) with
      | false =>
        rw [hu] at up
        have bf : bI false = nI 0 := rfl
        rw [bf] at up
        refine ⟨t', ⟨?_, p2⟩, ?_⟩
        · rw [if_neg (by decide)]; exact p1
        · rw [if_neg (by decide)]
          simp (disch := omega) only [pv_lt, pu_ck, pv_bI, pv_bV, pu_bR, pv_bL, pv_nt, pu_us, pu_un, mL_0, mL_1, mL_2, mL_3, mL_4, mL_5, mL_6, mL_7, mL_8, mL_9, mL_10, mL_11, mL_12, mL_13, mL_14, mL_15, mL_16, mL_23, mL_24, mL_32, mL_48, mL_64, mL_99, mL_100, mL_200, mL_336, mL_576, mL_768, mL_800, mL_999, mL_4095, mL_4096, mL_m1, nI_leI, nI_ltI, nI_eq, nI_clamp, nI_add, pk_mul, nI_nu, bI_eq0, bI_eq1, bo_ft, Bool.true_eq_false, Bool.false_eq_true, pu_of, pu_of24, pu_onward, pu_frq, if_true, if_false, true_or, or_true, false_or, or_false, and_true, true_and, and_false, false_and, not_true_eq_false, not_false_eq_true, if_neg, if_pos, f11_put_188, f11_put_250, a1, q3, a2, up, pu_ixN']
      | true =>
        rw [hu] at up
        have bt : bI true = nI 1 := rfl
        rw [bt] at up
        obtain ⟨t2, h1, h2, h3⟩ := pr_holds (k := k) (n := rg_t s e (2 + j)) (v := v) (x := w.1.2.1) p1 hk (by omega)
        refine ⟨t2, ⟨?_, fr_trans p2 h3⟩, ?_⟩
        · rw [if_pos rfl]; exact h2
        · rw [if_pos rfl]
          simp (disch := omega) only [pv_lt, pu_ck, pv_bI, pv_bV, pu_bR, pv_bL, pv_nt, pu_us, pu_un, mL_0, mL_1, mL_2, mL_3, mL_4, mL_5, mL_6, mL_7, mL_8, mL_9, mL_10, mL_11, mL_12, mL_13, mL_14, mL_15, mL_16, mL_23, mL_24, mL_32, mL_48, mL_64, mL_99, mL_100, mL_200, mL_336, mL_576, mL_768, mL_800, mL_999, mL_4095, mL_4096, mL_m1, nI_leI, nI_ltI, nI_eq, nI_clamp, nI_add, pk_mul, nI_nu, bI_eq0, bI_eq1, bo_ft, Bool.true_eq_false, Bool.false_eq_true, pu_of, pu_of24, pu_onward, pu_frq, if_true, if_false, true_or, or_true, false_or, or_false, and_true, true_and, and_false, false_and, not_true_eq_false, not_false_eq_true, if_neg, if_pos, f11_put_188, f11_put_250, a1, q2, q3, a2, up, h1, pu_ixN']
  · rintro g t' ⟨p1, p2⟩
    have R' : rg_R t' s := rg_R_fr O p2 (fun k i j q => by unfold Fp_R at q; unfold S_hr; omega) R
    have a1 := pu_tb1 (rg_RN_of R' O) O he
    show rs_to Q (f11_put_188 a b (nI v) _ (g + 1) (nI e) (nI k) (nI (pl s e k v w (rg_t s e 1)).1) (nI (rg_t s e 1)) t')
    simp (disch := omega) only [pv_lt, pu_ck, pv_bI, pv_bV, pu_bR, pv_bL, pv_nt, pu_us, pu_un, mL_0, mL_1, mL_2, mL_3, mL_4, mL_5, mL_6, mL_7, mL_8, mL_9, mL_10, mL_11, mL_12, mL_13, mL_14, mL_15, mL_16, mL_23, mL_24, mL_32, mL_48, mL_64, mL_99, mL_100, mL_200, mL_336, mL_576, mL_768, mL_800, mL_999, mL_4095, mL_4096, mL_m1, nI_leI, nI_ltI, nI_eq, nI_clamp, nI_add, pk_mul, nI_nu, bI_eq0, bI_eq1, bo_ft, Bool.true_eq_false, Bool.false_eq_true, pu_of, pu_of24, pu_onward, pu_frq, if_true, if_false, true_or, or_true, false_or, or_false, and_true, true_and, and_false, false_and, not_true_eq_false, not_false_eq_true, if_neg, if_pos, f11_put_188, f11_put_256, a1]
    exact rs_ret (hQ _ ⟨p1, p2⟩)
end
