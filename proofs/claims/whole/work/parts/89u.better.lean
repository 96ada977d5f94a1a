section
/-! step: better -/
theorem sm_add {f g : Nat → Nat} : ∀ n, sm (fun k => f k + g k) n = sm f n + sm g n := by
  intro n
  induction n with
  | zero => rfl
  | succ n ih => rw [sm_s, sm_s, sm_s, ih]; omega
theorem sm_0 : ∀ n, sm (fun _ => 0) n = 0 := by
  intro n
  induction n with
  | zero => rfl
  | succ n ih => rw [sm_s, ih]
theorem sm_ind {b : Nat} : ∀ n, sm (fun k => if k = b then 1 else 0) n ≤ 1 ∧ (n ≤ b → sm (fun k => if k = b then 1 else 0) n = 0) := by
  intro n
  induction n with
  | zero => exact ⟨by show 0 ≤ 1; omega, fun _ => rfl⟩
  | succ n ih =>
    rw [sm_s]
    by_cases h : n = b
    · have := ih.2 (by omega)
      rw [this, if_pos h]
      exact ⟨by omega, fun q => by omega⟩
    · rw [if_neg h]
      exact ⟨ih.1, fun q => ih.2 (by omega)⟩
theorem sm_mul {f : Nat → Nat} {h : Nat → Nat} {c : Nat} : ∀ n, (∀ k, k < n → h k ≤ c) → sm (fun k => f k * h k) n ≤ sm f n * c := by
  intro n
  induction n with
  | zero => intro _; show 0 ≤ _; omega
  | succ n ih =>
    intro hc
    have a := ih (fun k hk => hc k (by omega))
    have b := Nat.mul_le_mul_left (f n) (hc n (by omega))
    rw [sm_s, sm_s, Nat.add_mul]
    omega
theorem lkx_sum {s : rg_T} {key m n N : Nat} {best : Bool} : ∀ k, sm (fun x => lk_x s key best m n x k + lk_x s key best m x n k) N ≤ lk_hp s key best m k := by
  intro k
  induction k with
  | zero =>
    have : sm (fun x => lk_x s key best m n x 0 + lk_x s key best m x n 0) N = sm (fun _ => 0) N := sm_congr N (fun _ _ => rfl)
    rw [this, sm_0]
    omega
  | succ k ih =>
    have hs : lk_hp s key best m (k + 1) = lk_hp s key best m k + if (lk_at s key best m k != lk_at s key best m (k + 1)) = true then 1 else 0 := rfl
    rw [hs]
    generalize hA : lk_at s key best m k = A
    generalize hB : lk_at s key best m (k + 1) = B
    have e : ∀ x, lk_x s key best m n x (k + 1) + lk_x s key best m x n (k + 1) = (lk_x s key best m n x k + lk_x s key best m x n k) + ((if (A != B && (A == n && B == x)) = true then 1 else 0) + (if (A != B && (A == x && B == n)) = true then 1 else 0)) := by
      intro x
      rw [lk_x_s, lk_x_s, hA, hB]
      omega
    rw [sm_congr N (fun x _ => e x), sm_add]
    have st : sm (fun x => (if (A != B && (A == n && B == x)) = true then 1 else 0) + (if (A != B && (A == x && B == n)) = true then 1 else 0)) N ≤ if (A != B) = true then 1 else 0 := by
      by_cases ab : A = B
      · subst ab
        have z : ∀ x, x < N → ((if (A != A && (A == n && A == x)) = true then 1 else 0) + (if (A != A && (A == x && A == n)) = true then 1 else 0)) = 0 := fun x _ => by simp
        rw [sm_congr N z, sm_0]
        omega
      · have hne : (A != B) = true := by simp [ab]
        rw [if_pos hne]
        by_cases an : A = n
        · have z : ∀ x, x < N → ((if (A != B && (A == n && B == x)) = true then 1 else 0) + (if (A != B && (A == x && B == n)) = true then 1 else 0)) = if x = B then 1 else 0 := fun x _ => by
            subst an
            have b2 : ¬ B = A := fun h => ab h.symm
            by_cases xb : x = B
            · subst xb; simp [ab, b2]
            · have : ¬ B = x := fun h => xb h.symm
              simp [ab, b2, xb, this]
          rw [sm_congr N z]
          exact (sm_ind N).1
        · by_cases bn : B = n
          · have z : ∀ x, x < N → ((if (A != B && (A == n && B == x)) = true then 1 else 0) + (if (A != B && (A == x && B == n)) = true then 1 else 0)) = if x = A then 1 else 0 := fun x _ => by
              subst bn
              by_cases xb : x = A
              · subst xb; simp [ab]
              · have : ¬ A = x := fun h => xb h.symm
                simp [ab, xb, this]
            rw [sm_congr N z]
            exact (sm_ind N).1
          · have z : ∀ x, x < N → ((if (A != B && (A == n && B == x)) = true then 1 else 0) + (if (A != B && (A == x && B == n)) = true then 1 else 0)) = 0 := fun x _ => by simp [an, bn]
            rw [sm_congr N z, sm_0]
            omega
    omega
def cx (s : rg_T) (n k : Nat) : Nat := sS s (fX s true n k) (64 * rg_N s) + sS s (fX s true k n) (64 * rg_N s)
theorem cx_sum {s : rg_T} {n N : Nat} : ∀ m, sm (fun k => sS s (fX s true n k) m + sS s (fX s true k n) m) N ≤ sS s (fH s true) m := by
  intro m
  induction m with
  | zero =>
    have : sm (fun k => sS s (fX s true n k) 0 + sS s (fX s true k n) 0) N = sm (fun _ => 0) N := sm_congr N (fun _ _ => rfl)
    rw [this, sm_0]
    omega
  | succ m ih =>
    have e : ∀ k, k < N → sS s (fX s true n k) (m + 1) + sS s (fX s true k n) (m + 1) = (sS s (fX s true n k) m + sS s (fX s true k n) m) + (sv s (fX s true n k) m + sv s (fX s true k n) m) := fun k _ => by
      have a : sS s (fX s true n k) (m + 1) = sS s (fX s true n k) m + sv s (fX s true n k) m := rfl
      have b : sS s (fX s true k n) (m + 1) = sS s (fX s true k n) m + sv s (fX s true k n) m := rfl
      omega
    rw [sm_congr N e, sm_add]
    have h : sS s (fH s true) (m + 1) = sS s (fH s true) m + sv s (fH s true) m := rfl
    rw [h]
    have st : sm (fun k => sv s (fX s true n k) m + sv s (fX s true k n) m) N ≤ sv s (fH s true) m := by
      by_cases hu : rg_u s (m / 64) = true
      · have z : ∀ k, k < N → sv s (fX s true n k) m + sv s (fX s true k n) m = lk_x s (64 * (m % 64)) true (m / 64) n k (lk_n s (64 * (m % 64)) true (m / 64)) + lk_x s (64 * (m % 64)) true (m / 64) k n (lk_n s (64 * (m % 64)) true (m / 64)) := fun k _ => by
          unfold sv
          rw [if_pos hu, if_pos hu]
          rfl
        rw [sm_congr N z]
        have := lkx_sum (s := s) (key := 64 * (m % 64)) (m := m / 64) (n := n) (N := N) (best := true) (lk_n s (64 * (m % 64)) true (m / 64))
        unfold sv
        rw [if_pos hu]
        exact this
      · have z : ∀ k, k < N → sv s (fX s true n k) m + sv s (fX s true k n) m = 0 := fun k _ => by
          unfold sv
          rw [if_neg hu, if_neg hu]
        rw [sm_congr N z, sm_0]
        omega
    omega
theorem cx_nn {s : rg_T} {n : Nat} : cx s n n = 0 := by
  have : ∀ m, sS s (fX s true n n) m = 0 := by
    intro m
    have z : ∀ x, x < m → sv s (fX s true n n) x = 0 := fun x _ => by
      unfold sv
      split
      · show lk_x s _ true _ n n _ = 0
        generalize lk_n s (64 * (x % 64)) true (x / 64) = L
        induction L with
        | zero => rfl
        | succ L ih =>
          rw [lk_x_s, ih]
          generalize lk_at s (64 * (x % 64)) true (x / 64) L = A
          generalize lk_at s (64 * (x % 64)) true (x / 64) (L + 1) = B
          by_cases h : A = B
          · subst h; simp
          · have : ¬ (A = n ∧ B = n) := fun q => h (q.1.trans q.2.symm)
            simp only [Nat.zero_add]
            rw [if_neg]
            intro q
            simp only [Bool.and_eq_true, beq_iff_eq] at q
            exact this q.2
      · rfl
    unfold sS
    rw [sm_congr m z, sm_0]
  unfold cx
  rw [this]
def bt (s : rg_T) (n a : Nat) : Nat := sm (fun k => cx s n k * ad a (rg_s s k)) (rg_N s)
theorem bt_le {s : rg_T} {n a : Nat} (O : rg_ok s) (ha : a ≤ 99) : bt s n a ≤ 30412800 := by
  have hN := O.1.1
  have h1 : bt s n a ≤ sm (cx s n) (rg_N s) * 99 := sm_mul (rg_N s) (fun k hk => by
    have := O.1.2.2.2.2.2 k hk
    unfold ad
    omega)
  have h2 : sm (cx s n) (rg_N s) ≤ sS s (fH s true) (64 * rg_N s) := cx_sum (s := s) (n := n) (N := rg_N s) (64 * rg_N s)
  have h3 := sSH_le (P := s) (m := 64 * rg_N s) (by omega)
  omega
theorem abs_nI {a b : Nat} (ha : a ≤ 99) (hb : b ≤ 99) : (if nI 0 ≤ nI a - nI b then nI a - nI b else nI 0 - (nI a - nI b)) = nI (ad a b) := (by decide +kernel : ∀ x y : Fin 100, (if nI 0 ≤ nI x.val - nI y.val then nI x.val - nI y.val else nI 0 - (nI x.val - nI y.val)) = nI (ad x.val y.val)) ⟨a, by omega⟩ ⟨b, by omega⟩
theorem pc_cross {t : sr_t} {s : rg_T} {a b m : Nat} (V : sc_V t s true m) (ha : a < 24) (hb : b < 24) : F5_crossingsOf (nI a) (nI b) t = some (.inl (some (sr_i (nI (sS s (fX s true a b) m)))), t) := by
  have h := V.2 a b ha hb
  have e : a * 24 + b = 24 * a + b := by omega
  simp (disch := omega) only [pv_lt, pu_ck, pv_bI, pv_bV, pu_bR, pv_bL, pv_nt, pu_us, pu_un, mL_0, mL_1, mL_2, mL_3, mL_4, mL_5, mL_6, mL_7, mL_8, mL_9, mL_10, mL_11, mL_12, mL_13, mL_14, mL_15, mL_16, mL_23, mL_24, mL_32, mL_48, mL_64, mL_99, mL_100, mL_200, mL_336, mL_576, mL_768, mL_800, mL_999, mL_4095, mL_4096, mL_m1, nI_leI, nI_ltI, nI_eq, nI_clamp, nI_add, pk_mul, nI_nu, bI_eq0, bI_eq1, bo_ft, Bool.true_eq_false, Bool.false_eq_true, pu_of, pu_of24, pu_onward, pu_frq, if_true, if_false, true_or, or_true, false_or, or_false, and_true, true_and, and_false, false_and, not_true_eq_false, not_false_eq_true, if_neg, if_pos, F5_crossingsOf, f5_crossingsOf_29, F5_crossingOf, e, h, pu_ixN']
theorem pc_time {t : sr_t} {s : rg_T} {n a : Nat} (C : rg_C t 0 s) (O : rg_ok s) (V : sc_V t s true (64 * rg_N s)) (hn : n < rg_N s) (ha : a ≤ 99) : F5_timeFromTo 0 (nI n) (nI a) t = some (.inl (some (sr_i (nI (bt s n a)))), t) := by
  have hN := O.1.1
  have h3 := C.1.1.1
  unfold F5_timeFromTo
  show f5_timeFromTo_6 0 (nI n) (nI a) (f5_timeFromTo_60 0 (nI n) (nI a)) sr_fu (nI 0) (nI 0) t = _
  refine pu_for (N := rg_N s) (L := fun f k => f5_timeFromTo_6 0 (nI n) (nI a) (f5_timeFromTo_60 0 (nI n) (nI a)) f (nI (sm (fun k => cx s n k * ad a (rg_s s k)) k)) (nI k) t) ?_ ?_ (by unfold sr_fu; omega)
  · intro k g hk
    have x1 := pc_cross V (a := n) (b := k) (by omega) (by omega)
    have x2 := pc_cross V (a := k) (b := n) (by omega) (by omega)
    have sp := (C.1.2.2 k hk).2.2
    have ab := abs_nI (b := rg_s s k) ha (O.1.2.2.2.2.2 k hk)
    show f5_timeFromTo_6 0 (nI n) (nI a) (f5_timeFromTo_60 0 (nI n) (nI a)) (g + 1) (nI (sm (fun k => cx s n k * ad a (rg_s s k)) k)) (nI k) t = f5_timeFromTo_6 0 (nI n) (nI a) (f5_timeFromTo_60 0 (nI n) (nI a)) g (nI (sm (fun k => cx s n k * ad a (rg_s s k)) (k + 1))) (nI (k + 1)) t
    rw [sm_s]
    simp (disch := omega) only [pv_lt, pu_ck, pv_bI, pv_bV, pu_bR, pv_bL, pv_nt, pu_us, pu_un, mL_0, mL_1, mL_2, mL_3, mL_4, mL_5, mL_6, mL_7, mL_8, mL_9, mL_10, mL_11, mL_12, mL_13, mL_14, mL_15, mL_16, mL_23, mL_24, mL_32, mL_48, mL_64, mL_99, mL_100, mL_200, mL_336, mL_576, mL_768, mL_800, mL_999, mL_4095, mL_4096, mL_m1, nI_leI, nI_ltI, nI_eq, nI_clamp, nI_add, pk_mul, nI_nu, bI_eq0, bI_eq1, bo_ft, Bool.true_eq_false, Bool.false_eq_true, pu_of, pu_of24, pu_onward, pu_frq, if_true, if_false, true_or, or_true, false_or, or_false, and_true, true_and, and_false, false_and, not_true_eq_false, not_false_eq_true, if_neg, if_pos, f5_timeFromTo_6, h3, x1, x2, sp, ab]
    rfl
  · intro g
    show f5_timeFromTo_6 0 (nI n) (nI a) (f5_timeFromTo_60 0 (nI n) (nI a)) (g + 1) (nI (sm (fun k => cx s n k * ad a (rg_s s k)) (rg_N s))) (nI (rg_N s)) t = _
    simp (disch := omega) only [pv_lt, pu_ck, pv_bI, pv_bV, pu_bR, pv_bL, pv_nt, pu_us, pu_un, mL_0, mL_1, mL_2, mL_3, mL_4, mL_5, mL_6, mL_7, mL_8, mL_9, mL_10, mL_11, mL_12, mL_13, mL_14, mL_15, mL_16, mL_23, mL_24, mL_32, mL_48, mL_64, mL_99, mL_100, mL_200, mL_336, mL_576, mL_768, mL_800, mL_999, mL_4095, mL_4096, mL_m1, nI_leI, nI_ltI, nI_eq, nI_clamp, nI_add, pk_mul, nI_nu, bI_eq0, bI_eq1, bo_ft, Bool.true_eq_false, Bool.false_eq_true, pu_of, pu_of24, pu_onward, pu_frq, if_true, if_false, true_or, or_true, false_or, or_false, and_true, true_and, and_false, false_and, not_true_eq_false, not_false_eq_true, if_neg, if_pos, f5_timeFromTo_6, f5_timeFromTo_60, h3]
    rfl
def mi (f : Nat → Nat) : Nat → Nat
  | 0 => 0
  | n + 1 => if f (n + 1) < f (mi f n) then n + 1 else mi f n
theorem mi_s {f : Nat → Nat} {n : Nat} : mi f (n + 1) = if f (n + 1) < f (mi f n) then n + 1 else mi f n := Eq.trans (Eq.refl _) (Eq.refl _)
theorem mi_le {f : Nat → Nat} : ∀ n, mi f n ≤ n := by
  intro n
  induction n with
  | zero => exact Nat.le_refl _
  | succ n ih => rw [mi_s]; split <;> omega
theorem pc_bspot {t : sr_t} {s : rg_T} {n : Nat} (C : rg_C t 0 s) (O : rg_ok s) (V : sc_V t s true (64 * rg_N s)) (hn : n < rg_N s) : F5_bestSpot 0 (nI n) t = some (.inl (some (sr_i (nI (mi (bt s n) 99)))), t) := by
  have hN := O.1.1
  have e0 : F5_timeFromTo 0 (nI n) 0 t = _ := pc_time (a := 0) C O V hn (by omega)
  unfold F5_bestSpot
  rw [e0, pv_bI]
  show f5_bestSpot_14 0 (nI n) (f5_bestSpot_51 0 (nI n)) sr_fu (nI (mi (bt s n) 0)) (nI (bt s n (mi (bt s n) 0))) (nI (0 + 1)) t = _
  refine pu_for (N := 99) (L := fun f a => f5_bestSpot_14 0 (nI n) (f5_bestSpot_51 0 (nI n)) f (nI (mi (bt s n) a)) (nI (bt s n (mi (bt s n) a))) (nI (a + 1)) t) ?_ ?_ (by unfold sr_fu; omega)
  · intro a g ha
    have e1 := pc_time (a := a + 1) C O V hn (by omega)
    have m1 := mi_le (f := bt s n) a
    have l1 := bt_le (n := n) (a := mi (bt s n) a) O (by omega)
    have l2 := bt_le (n := n) (a := a + 1) O (by omega)
    show f5_bestSpot_14 0 (nI n) (f5_bestSpot_51 0 (nI n)) (g + 1) (nI (mi (bt s n) a)) (nI (bt s n (mi (bt s n) a))) (nI (a + 1)) t = f5_bestSpot_14 0 (nI n) (f5_bestSpot_51 0 (nI n)) g (nI (mi (bt s n) (a + 1))) (nI (bt s n (mi (bt s n) (a + 1)))) (nI (a + 1 + 1)) t
    rw [mi_s]
    by_cases h : bt s n (a + 1) < bt s n (mi (bt s n) a)
    · rw [if_pos h]
      simp (disch := omega) only [pv_lt, pu_ck, pv_bI, pv_bV, pu_bR, pv_bL, pv_nt, pu_us, pu_un, mL_0, mL_1, mL_2, mL_3, mL_4, mL_5, mL_6, mL_7, mL_8, mL_9, mL_10, mL_11, mL_12, mL_13, mL_14, mL_15, mL_16, mL_23, mL_24, mL_32, mL_48, mL_64, mL_99, mL_100, mL_200, mL_336, mL_576, mL_768, mL_800, mL_999, mL_4095, mL_4096, mL_m1, nI_leI, nI_ltI, nI_eq, nI_clamp, nI_add, pk_mul, nI_nu, bI_eq0, bI_eq1, bo_ft, Bool.true_eq_false, Bool.false_eq_true, pu_of, pu_of24, pu_onward, pu_frq, if_true, if_false, true_or, or_true, false_or, or_false, and_true, true_and, and_false, false_and, not_true_eq_false, not_false_eq_true, if_neg, if_pos, f5_bestSpot_14, f5_bestSpot_45, e1]
    · rw [if_neg h]
      simp (disch := omega) only [pv_lt, pu_ck, pv_bI, pv_bV, pu_bR, pv_bL, pv_nt, pu_us, pu_un, mL_0, mL_1, mL_2, mL_3, mL_4, mL_5, mL_6, mL_7, mL_8, mL_9, mL_10, mL_11, mL_12, mL_13, mL_14, mL_15, mL_16, mL_23, mL_24, mL_32, mL_48, mL_64, mL_99, mL_100, mL_200, mL_336, mL_576, mL_768, mL_800, mL_999, mL_4095, mL_4096, mL_m1, nI_leI, nI_ltI, nI_eq, nI_clamp, nI_add, pk_mul, nI_nu, bI_eq0, bI_eq1, bo_ft, Bool.true_eq_false, Bool.false_eq_true, pu_of, pu_of24, pu_onward, pu_frq, if_true, if_false, true_or, or_true, false_or, or_false, and_true, true_and, and_false, false_and, not_true_eq_false, not_false_eq_true, if_neg, if_pos, f5_bestSpot_14, f5_bestSpot_45, e1]
  · intro g
    show f5_bestSpot_14 0 (nI n) (f5_bestSpot_51 0 (nI n)) (g + 1) (nI (mi (bt s n) 99)) (nI (bt s n (mi (bt s n) 99))) (nI (99 + 1)) t = _
    simp (disch := omega) only [pv_lt, pu_ck, pv_bI, pv_bV, pu_bR, pv_bL, pv_nt, pu_us, pu_un, mL_0, mL_1, mL_2, mL_3, mL_4, mL_5, mL_6, mL_7, mL_8, mL_9, mL_10, mL_11, mL_12, mL_13, mL_14, mL_15, mL_16, mL_23, mL_24, mL_32, mL_48, mL_64, mL_99, mL_100, mL_200, mL_336, mL_576, mL_768, mL_800, mL_999, mL_4095, mL_4096, mL_m1, nI_leI, nI_ltI, nI_eq, nI_clamp, nI_add, pk_mul, nI_nu, bI_eq0, bI_eq1, bo_ft, Bool.true_eq_false, Bool.false_eq_true, pu_of, pu_of24, pu_onward, pu_frq, if_true, if_false, true_or, or_true, false_or, or_false, and_true, true_and, and_false, false_and, not_true_eq_false, not_false_eq_true, if_neg, if_pos, f5_bestSpot_14, f5_bestSpot_51]
theorem pr_time {t : sr_t} {s : rg_T} {n a : Nat} {x2 x3 : Int32} {K : Int32 → Int32 → Int32 → Int32 → sr_t → sr_Rs} (R : rg_RB t s) (O : rg_ok s) (V : ∀ a b, a < 24 → b < 24 → t.1 36 0 (24 * a + b) = nI (sS s (fX s true a b) (64 * rg_N s))) (hn : n < rg_N s) (ha : a ≤ 99) : f11_better_53 (nI n) K sr_fu x2 x3 (nI a) (nI 0) (nI 0) t = K x2 x3 (nI a) (nI (bt s n a)) t := by
  have hN := O.1.1
  have h3 := R.1.1
  refine pu_for (N := rg_N s) (L := fun f k => f11_better_53 (nI n) K f x2 x3 (nI a) (nI (sm (fun k => cx s n k * ad a (rg_s s k)) k)) (nI k) t) ?_ ?_ (by unfold sr_fu; omega)
  · intro k g hk
    have y1 := V k n (by omega) (by omega)
    have y2 := V n k (by omega) (by omega)
    have sp := (R.2 k hk).2.2
    have sl := O.1.2.2.2.2.2 k hk
    show f11_better_53 (nI n) K (g + 1) x2 x3 (nI a) (nI (sm (fun k => cx s n k * ad a (rg_s s k)) k)) (nI k) t = f11_better_53 (nI n) K g x2 x3 (nI a) (nI (sm (fun k => cx s n k * ad a (rg_s s k)) (k + 1))) (nI (k + 1)) t
    rw [sm_s]
    by_cases e : k = n
    · subst e
      have z : sm (fun k_1 => cx s k k_1 * ad a (rg_s s k_1)) k + cx s k k * ad a (rg_s s k) = sm (fun k_1 => cx s k k_1 * ad a (rg_s s k_1)) k := by
        rw [cx_nn, Nat.zero_mul, Nat.add_zero]
      rw [z]
      simp (disch := omega) only [pv_lt, pu_ck, pv_bI, pv_bV, pu_bR, pv_bL, pv_nt, pu_us, pu_un, mL_0, mL_1, mL_2, mL_3, mL_4, mL_5, mL_6, mL_7, mL_8, mL_9, mL_10, mL_11, mL_12, mL_13, mL_14, mL_15, mL_16, mL_23, mL_24, mL_32, mL_48, mL_64, mL_99, mL_100, mL_200, mL_336, mL_576, mL_768, mL_800, mL_999, mL_4095, mL_4096, mL_m1, nI_leI, nI_ltI, nI_eq, nI_clamp, nI_add, pk_mul, nI_nu, bI_eq0, bI_eq1, bo_ft, Bool.true_eq_false, Bool.false_eq_true, pu_of, pu_of24, pu_onward, pu_frq, if_true, if_false, true_or, or_true, false_or, or_false, and_true, true_and, and_false, false_and, not_true_eq_false, not_false_eq_true, if_neg, if_pos, f11_better_53, f11_better_141, h3]
    · by_cases hle : a ≤ rg_s s k
      · have e1 : nI (rg_s s k) - nI a = nI (ad a (rg_s s k)) := by
          rw [pk_sub hle]
          congr 1
          unfold ad
          omega
        have cm : cx s n k * ad a (rg_s s k) = ad a (rg_s s k) * (sS s (fX s true k n) (64 * rg_N s) + sS s (fX s true n k) (64 * rg_N s)) := by
          unfold cx
          rw [Nat.mul_comm, Nat.add_comm (sS s (fX s true n k) _)]
        rw [cm]
        simp (disch := omega) only [pv_lt, pu_ck, pv_bI, pv_bV, pu_bR, pv_bL, pv_nt, pu_us, pu_un, mL_0, mL_1, mL_2, mL_3, mL_4, mL_5, mL_6, mL_7, mL_8, mL_9, mL_10, mL_11, mL_12, mL_13, mL_14, mL_15, mL_16, mL_23, mL_24, mL_32, mL_48, mL_64, mL_99, mL_100, mL_200, mL_336, mL_576, mL_768, mL_800, mL_999, mL_4095, mL_4096, mL_m1, nI_leI, nI_ltI, nI_eq, nI_clamp, nI_add, pk_mul, nI_nu, bI_eq0, bI_eq1, bo_ft, Bool.true_eq_false, Bool.false_eq_true, pu_of, pu_of24, pu_onward, pu_frq, if_true, if_false, true_or, or_true, false_or, or_false, and_true, true_and, and_false, false_and, not_true_eq_false, not_false_eq_true, if_neg, if_pos, f11_better_53, f11_better_106, f11_better_141, h3, sp, e1, y1, y2, pu_ixN']
      · have e1 : nI a - nI (rg_s s k) = nI (ad a (rg_s s k)) := by
          rw [pk_sub (by omega)]
          congr 1
          unfold ad
          omega
        have cm : cx s n k * ad a (rg_s s k) = ad a (rg_s s k) * (sS s (fX s true k n) (64 * rg_N s) + sS s (fX s true n k) (64 * rg_N s)) := by
          unfold cx
          rw [Nat.mul_comm, Nat.add_comm (sS s (fX s true n k) _)]
        rw [cm]
        simp (disch := omega) only [pv_lt, pu_ck, pv_bI, pv_bV, pu_bR, pv_bL, pv_nt, pu_us, pu_un, mL_0, mL_1, mL_2, mL_3, mL_4, mL_5, mL_6, mL_7, mL_8, mL_9, mL_10, mL_11, mL_12, mL_13, mL_14, mL_15, mL_16, mL_23, mL_24, mL_32, mL_48, mL_64, mL_99, mL_100, mL_200, mL_336, mL_576, mL_768, mL_800, mL_999, mL_4095, mL_4096, mL_m1, nI_leI, nI_ltI, nI_eq, nI_clamp, nI_add, pk_mul, nI_nu, bI_eq0, bI_eq1, bo_ft, Bool.true_eq_false, Bool.false_eq_true, pu_of, pu_of24, pu_onward, pu_frq, if_true, if_false, true_or, or_true, false_or, or_false, and_true, true_and, and_false, false_and, not_true_eq_false, not_false_eq_true, if_neg, if_pos, f11_better_53, f11_better_106, f11_better_141, h3, sp, e1, y1, y2, pu_ixN']
  · intro g
    show f11_better_53 (nI n) K (g + 1) x2 x3 (nI a) (nI (sm (fun k => cx s n k * ad a (rg_s s k)) (rg_N s))) (nI (rg_N s)) t = _
    simp (disch := omega) only [pv_lt, pu_ck, pv_bI, pv_bV, pu_bR, pv_bL, pv_nt, pu_us, pu_un, mL_0, mL_1, mL_2, mL_3, mL_4, mL_5, mL_6, mL_7, mL_8, mL_9, mL_10, mL_11, mL_12, mL_13, mL_14, mL_15, mL_16, mL_23, mL_24, mL_32, mL_48, mL_64, mL_99, mL_100, mL_200, mL_336, mL_576, mL_768, mL_800, mL_999, mL_4095, mL_4096, mL_m1, nI_leI, nI_ltI, nI_eq, nI_clamp, nI_add, pk_mul, nI_nu, bI_eq0, bI_eq1, bo_ft, Bool.true_eq_false, Bool.false_eq_true, pu_of, pu_of24, pu_onward, pu_frq, if_true, if_false, true_or, or_true, false_or, or_false, and_true, true_and, and_false, false_and, not_true_eq_false, not_false_eq_true, if_neg, if_pos, f11_better_53, h3]
    rfl
theorem pr_bspot {t : sr_t} {s : rg_T} {n : Nat} (R : rg_RB t s) (O : rg_ok s) (V : ∀ a b, a < 24 → b < 24 → t.1 36 0 (24 * a + b) = nI (sS s (fX s true a b) (64 * rg_N s))) (hn : n < rg_N s) : f11_better_40 (nI n) (f11_better_168 (nI n)) sr_fu (nu 24) (nI 100000000) (nI 0) t = some (.inl (some (sr_i (nI (mi (bt s n) 99)))), t) := by
  have hN := O.1.1
  refine pu_for (N := 100) (L := fun f a => f11_better_40 (nI n) (f11_better_168 (nI n)) f (if a = 0 then nu 24 else nI (mi (bt s n) (a - 1))) (if a = 0 then nI 100000000 else nI (bt s n (mi (bt s n) (a - 1)))) (nI a) t) ?_ ?_ (by unfold sr_fu; omega)
  · intro a g ha
    show f11_better_40 (nI n) (f11_better_168 (nI n)) (g + 1) (if a = 0 then nu 24 else nI (mi (bt s n) (a - 1))) (if a = 0 then nI 100000000 else nI (bt s n (mi (bt s n) (a - 1)))) (nI a) t = f11_better_40 (nI n) (f11_better_168 (nI n)) g (if a + 1 = 0 then nu 24 else nI (mi (bt s n) (a + 1 - 1))) (if a + 1 = 0 then nI 100000000 else nI (bt s n (mi (bt s n) (a + 1 - 1)))) (nI (a + 1)) t
    rw [if_neg (show ¬ a + 1 = 0 by omega), if_neg (show ¬ a + 1 = 0 by omega), Nat.add_sub_cancel]
    conv => lhs; unfold f11_better_40
    rw [if_neg (show ¬ (99 : Int32) < nI a from nI_nlt (b := a) (a := 99) (by omega) (by omega))]
    have e1 := fun x2 x3 => pr_time (a := a) (x2 := x2) (x3 := x3) (K := f11_better_147 (nI n) (f11_better_40 (nI n) (f11_better_168 (nI n)) g) (f11_better_168 (nI n))) R O V hn (by omega)
    refine (e1 _ _).trans ?_
    have l2 := bt_le (n := n) (a := a) O (by omega)
    by_cases h0 : a = 0
    · subst h0
      have m0 : mi (bt s n) 0 = 0 := rfl
      rw [m0]
      simp (disch := omega) only [pv_lt, pu_ck, pv_bI, pv_bV, pu_bR, pv_bL, pv_nt, pu_us, pu_un, mL_0, mL_1, mL_2, mL_3, mL_4, mL_5, mL_6, mL_7, mL_8, mL_9, mL_10, mL_11, mL_12, mL_13, mL_14, mL_15, mL_16, mL_23, mL_24, mL_32, mL_48, mL_64, mL_99, mL_100, mL_200, mL_336, mL_576, mL_768, mL_800, mL_999, mL_4095, mL_4096, mL_m1, nI_leI, nI_ltI, nI_eq, nI_clamp, nI_add, pk_mul, nI_nu, bI_eq0, bI_eq1, bo_ft, Bool.true_eq_false, Bool.false_eq_true, pu_of, pu_of24, pu_onward, pu_frq, if_true, if_false, true_or, or_true, false_or, or_false, and_true, true_and, and_false, false_and, not_true_eq_false, not_false_eq_true, if_neg, if_pos, f11_better_147, f11_better_162]
    · obtain ⟨b, rfl⟩ : ∃ b, a = b + 1 := ⟨a - 1, by omega⟩
      have m1 := mi_le (f := bt s n) b
      have l1 := bt_le (n := n) (a := mi (bt s n) b) O (by omega)
      rw [if_neg h0, if_neg h0, Nat.add_sub_cancel, mi_s]
      by_cases h : bt s n (b + 1) < bt s n (mi (bt s n) b)
      · rw [if_pos h]
        simp (disch := omega) only [pv_lt, pu_ck, pv_bI, pv_bV, pu_bR, pv_bL, pv_nt, pu_us, pu_un, mL_0, mL_1, mL_2, mL_3, mL_4, mL_5, mL_6, mL_7, mL_8, mL_9, mL_10, mL_11, mL_12, mL_13, mL_14, mL_15, mL_16, mL_23, mL_24, mL_32, mL_48, mL_64, mL_99, mL_100, mL_200, mL_336, mL_576, mL_768, mL_800, mL_999, mL_4095, mL_4096, mL_m1, nI_leI, nI_ltI, nI_eq, nI_clamp, nI_add, pk_mul, nI_nu, bI_eq0, bI_eq1, bo_ft, Bool.true_eq_false, Bool.false_eq_true, pu_of, pu_of24, pu_onward, pu_frq, if_true, if_false, true_or, or_true, false_or, or_false, and_true, true_and, and_false, false_and, not_true_eq_false, not_false_eq_true, if_neg, if_pos, f11_better_147, f11_better_162]
      · rw [if_neg h]
        simp (disch := omega) only [pv_lt, pu_ck, pv_bI, pv_bV, pu_bR, pv_bL, pv_nt, pu_us, pu_un, mL_0, mL_1, mL_2, mL_3, mL_4, mL_5, mL_6, mL_7, mL_8, mL_9, mL_10, mL_11, mL_12, mL_13, mL_14, mL_15, mL_16, mL_23, mL_24, mL_32, mL_48, mL_64, mL_99, mL_100, mL_200, mL_336, mL_576, mL_768, mL_800, mL_999, mL_4095, mL_4096, mL_m1, nI_leI, nI_ltI, nI_eq, nI_clamp, nI_add, pk_mul, nI_nu, bI_eq0, bI_eq1, bo_ft, Bool.true_eq_false, Bool.false_eq_true, pu_of, pu_of24, pu_onward, pu_frq, if_true, if_false, true_or, or_true, false_or, or_false, and_true, true_and, and_false, false_and, not_true_eq_false, not_false_eq_true, if_neg, if_pos, f11_better_147, f11_better_162]
  · intro g
    show f11_better_40 (nI n) (f11_better_168 (nI n)) (g + 1) (nI (mi (bt s n) 99)) (nI (bt s n (mi (bt s n) 99))) (nI 100) t = _
    simp (disch := omega) only [pv_lt, pu_ck, pv_bI, pv_bV, pu_bR, pv_bL, pv_nt, pu_us, pu_un, mL_0, mL_1, mL_2, mL_3, mL_4, mL_5, mL_6, mL_7, mL_8, mL_9, mL_10, mL_11, mL_12, mL_13, mL_14, mL_15, mL_16, mL_23, mL_24, mL_32, mL_48, mL_64, mL_99, mL_100, mL_200, mL_336, mL_576, mL_768, mL_800, mL_999, mL_4095, mL_4096, mL_m1, nI_leI, nI_ltI, nI_eq, nI_clamp, nI_add, pk_mul, nI_nu, bI_eq0, bI_eq1, bo_ft, Bool.true_eq_false, Bool.false_eq_true, pu_of, pu_of24, pu_onward, pu_frq, if_true, if_false, true_or, or_true, false_or, or_false, and_true, true_and, and_false, false_and, not_true_eq_false, not_false_eq_true, if_neg, if_pos, f11_better_40, f11_better_168]
theorem s_better {i : Nat} (hi : i + 4 ≤ 2048) (a : Int32) : sr_ok3 (sr_Inv i) (sr_Inv (i + 4)) (fun t => FL_better_23 a t) (fun t => F11_better a t) := by
  refine ok3_qf hi (F := F10_better a) (G := F11_better a) (hc := hcL_better_23) (fun t s w X => ?_)
  obtain ⟨O, C, K, nb, sp, R, kp, L, W⟩ := id X
  have hN := O.1.1
  rcases a_node a hN with ha | ⟨n, hn, rfl⟩
  · right
    have n1 := nN_no C ha
    have i1 := iN_no R.1 O.1 ha
    refine ⟨2, nI 1, nI 0, sr_u t 11 0 0 (nI 1), ?_, rfl, by decide, ?_, pu_us, Sr_0⟩
    · simp (disch := omega) only [pv_lt, pu_ck, pv_bI, pv_bV, pu_bR, pv_bL, pv_nt, pu_us, pu_un, mL_0, mL_1, mL_2, mL_3, mL_4, mL_5, mL_6, mL_7, mL_8, mL_9, mL_10, mL_11, mL_12, mL_13, mL_14, mL_15, mL_16, mL_23, mL_24, mL_32, mL_48, mL_64, mL_99, mL_100, mL_200, mL_336, mL_576, mL_768, mL_800, mL_999, mL_4095, mL_4096, mL_m1, nI_leI, nI_ltI, nI_eq, nI_clamp, nI_add, pk_mul, nI_nu, bI_eq0, bI_eq1, bo_ft, Bool.true_eq_false, Bool.false_eq_true, pu_of, pu_of24, pu_onward, pu_frq, if_true, if_false, true_or, or_true, false_or, or_false, and_true, true_and, and_false, false_and, not_true_eq_false, not_false_eq_true, if_neg, if_pos, F10_better, n1, bVr]
    · simp (disch := omega) only [pv_lt, pu_ck, pv_bI, pv_bV, pu_bR, pv_bL, pv_nt, pu_us, pu_un, mL_0, mL_1, mL_2, mL_3, mL_4, mL_5, mL_6, mL_7, mL_8, mL_9, mL_10, mL_11, mL_12, mL_13, mL_14, mL_15, mL_16, mL_23, mL_24, mL_32, mL_48, mL_64, mL_99, mL_100, mL_200, mL_336, mL_576, mL_768, mL_800, mL_999, mL_4095, mL_4096, mL_m1, nI_leI, nI_ltI, nI_eq, nI_clamp, nI_add, pk_mul, nI_nu, bI_eq0, bI_eq1, bo_ft, Bool.true_eq_false, Bool.false_eq_true, pu_of, pu_of24, pu_onward, pu_frq, if_true, if_false, true_or, or_true, false_or, or_false, and_true, true_and, and_false, false_and, not_true_eq_false, not_false_eq_true, if_neg, if_pos, F11_better, i1]
      simp (disch := omega) only [pv_lt, pu_ck, pv_bI, pv_bV, pu_bR, pv_bL, pv_nt, pu_us, pu_un, mL_0, mL_1, mL_2, mL_3, mL_4, mL_5, mL_6, mL_7, mL_8, mL_9, mL_10, mL_11, mL_12, mL_13, mL_14, mL_15, mL_16, mL_23, mL_24, mL_32, mL_48, mL_64, mL_99, mL_100, mL_200, mL_336, mL_576, mL_768, mL_800, mL_999, mL_4095, mL_4096, mL_m1, nI_leI, nI_ltI, nI_eq, nI_clamp, nI_add, pk_mul, nI_nu, bI_eq0, bI_eq1, bo_ft, Bool.true_eq_false, Bool.false_eq_true, pu_of, pu_of24, pu_onward, pu_frq, if_true, if_false, true_or, or_true, false_or, or_false, and_true, true_and, and_false, false_and, not_true_eq_false, not_false_eq_true, if_neg, if_pos, f11_better_14]
  · left
    have n1 := nN_ok C O hn
    obtain ⟨t1, e1, _, V1, f1⟩ := pc_sam (best := true) (tr := true) X
    have e1' : F5_run 0 (nI 1) (nI 1) t = some (.inl none, t1) := e1
    have eb := pc_bspot (J_c X f1).2.1 O (V1 rfl) hn
    refine ⟨nI (mi (bt s n) 99), ⟨t1, ?_, frI_of f1⟩, fun t' X' ft => ?_⟩
    · simp (disch := omega) only [pv_lt, pu_ck, pv_bI, pv_bV, pu_bR, pv_bL, pv_nt, pu_us, pu_un, mL_0, mL_1, mL_2, mL_3, mL_4, mL_5, mL_6, mL_7, mL_8, mL_9, mL_10, mL_11, mL_12, mL_13, mL_14, mL_15, mL_16, mL_23, mL_24, mL_32, mL_48, mL_64, mL_99, mL_100, mL_200, mL_336, mL_576, mL_768, mL_800, mL_999, mL_4095, mL_4096, mL_m1, nI_leI, nI_ltI, nI_eq, nI_clamp, nI_add, pk_mul, nI_nu, bI_eq0, bI_eq1, bo_ft, Bool.true_eq_false, Bool.false_eq_true, pu_of, pu_of24, pu_onward, pu_frq, if_true, if_false, true_or, or_true, false_or, or_false, and_true, true_and, and_false, false_and, not_true_eq_false, not_false_eq_true, if_neg, if_pos, F10_better, n1, e1', eb]
    · obtain ⟨t2, e2, ⟨_, _, zv⟩, f2⟩ := pr_sam (best := true) (J_thr (v := nI 0) X')
      have e2' : F11_samples (nI 1) (sr_u t' 11 0 0 (nI 0)) = some (.inl none, t2) := e2
      have i1 := iN_ok X'.2.2.2.2.2.1.1 O.1 hn
      have eb := pr_bspot (J_r (J_thr (v := nI 0) X') f2).2.2.2.2.2.1.1 O zv hn
      refine ⟨t2, ?_, (Sr_q f2).1, (Sr_q f2).2⟩
      simp (disch := omega) only [pv_lt, pu_ck, pv_bI, pv_bV, pu_bR, pv_bL, pv_nt, pu_us, pu_un, mL_0, mL_1, mL_2, mL_3, mL_4, mL_5, mL_6, mL_7, mL_8, mL_9, mL_10, mL_11, mL_12, mL_13, mL_14, mL_15, mL_16, mL_23, mL_24, mL_32, mL_48, mL_64, mL_99, mL_100, mL_200, mL_336, mL_576, mL_768, mL_800, mL_999, mL_4095, mL_4096, mL_m1, nI_leI, nI_ltI, nI_eq, nI_clamp, nI_add, pk_mul, nI_nu, bI_eq0, bI_eq1, bo_ft, Bool.true_eq_false, Bool.false_eq_true, pu_of, pu_of24, pu_onward, pu_frq, if_true, if_false, true_or, or_true, false_or, or_false, and_true, true_and, and_false, false_and, not_true_eq_false, not_false_eq_true, if_neg, if_pos, F11_better, i1]
      simp (disch := omega) only [pv_lt, pu_ck, pv_bI, pv_bV, pu_bR, pv_bL, pv_nt, pu_us, pu_un, mL_0, mL_1, mL_2, mL_3, mL_4, mL_5, mL_6, mL_7, mL_8, mL_9, mL_10, mL_11, mL_12, mL_13, mL_14, mL_15, mL_16, mL_23, mL_24, mL_32, mL_48, mL_64, mL_99, mL_100, mL_200, mL_336, mL_576, mL_768, mL_800, mL_999, mL_4095, mL_4096, mL_m1, nI_leI, nI_ltI, nI_eq, nI_clamp, nI_add, pk_mul, nI_nu, bI_eq0, bI_eq1, bo_ft, Bool.true_eq_false, Bool.false_eq_true, pu_of, pu_of24, pu_onward, pu_frq, if_true, if_false, true_or, or_true, false_or, or_false, and_true, true_and, and_false, false_and, not_true_eq_false, not_false_eq_true, if_neg, if_pos, f11_better_14, e2', mL_M, eb]
end
