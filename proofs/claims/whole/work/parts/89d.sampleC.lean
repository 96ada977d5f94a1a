section
/-! the class's sample -/
def sv (s : rg_T) (f : Nat → Nat → Nat) (x : Nat) : Nat := if rg_u s (x / 64) = true then f (x / 64) (64 * (x % 64)) else 0
def sS (s : rg_T) (f : Nat → Nat → Nat) (m : Nat) : Nat := sm (sv s f) m
def sM (s : rg_T) (f : Nat → Nat → Nat) : Nat → Nat
  | 0 => 0
  | m + 1 => if sM s f m < sv s f m then sv s f m else sM s f m
def fH (s : rg_T) (best : Bool) (n key : Nat) : Nat := lk_hp s key best n (lk_n s key best n)
def fK (s : rg_T) (best : Bool) (c n key : Nat) : Nat := lk_kc s key best n c (lk_n s key best n)
def fW (s : rg_T) (best : Bool) (n key : Nat) : Nat := if lk_r s key best n = true then 0 else 1
def fT (s : rg_T) (best : Bool) (n key : Nat) : Nat := lk_tm s key best n (lk_n s key best n)
def fV (s : rg_T) (best : Bool) (v n key : Nat) : Nat := if lk_v s key best n (lk_n s key best n) v = true then 1 else 0
def fX (s : rg_T) (best : Bool) (a b n key : Nat) : Nat := lk_x s key best n a b (lk_n s key best n)
theorem sS_s {s : rg_T} {f : Nat → Nat → Nat} {m : Nat} : sS s f (m + 1) = sS s f m + sv s f m := rfl
theorem sM_s {s : rg_T} {f : Nat → Nat → Nat} {m : Nat} : sM s f (m + 1) = if sM s f m < sv s f m then sv s f m else sM s f m := rfl
theorem sv_n {s : rg_T} {f : Nat → Nat → Nat} {n j : Nat} (hj : j < 64) : sv s f (64 * n + j) = if rg_u s n = true then f n (64 * j) else 0 := by
  unfold sv
  rw [show (64 * n + j) / 64 = n by omega, show (64 * n + j) % 64 = j by omega]
theorem sM_le {s : rg_T} {f : Nat → Nat → Nat} {c : Nat} : ∀ m, (∀ x, x < m → sv s f x ≤ c) → sM s f m ≤ c := by
  intro m
  induction m with
  | zero => intro _; exact Nat.zero_le _
  | succ m ih =>
    intro h
    rw [sM_s]
    split
    · exact h m (by omega)
    · exact ih (fun x hx => h x (by omega))
theorem fH_le {s : rg_T} {best : Bool} {n key : Nat} : fH s best n key ≤ 200 := Nat.le_trans lk_hp_le lk_n_le
theorem fT_le {s : rg_T} {best : Bool} {n key : Nat} (O : rg_ok s) (hn : n < rg_N s) (hu : rg_u s n = true) : fT s best n key ≤ 20000 := by
  have a := lk_tm_le (key := key) (best := best) O hn hu (Nat.le_refl _)
  have b := lk_n_le (s := s) (key := key) (n := n) (best := best)
  unfold fT
  omega
theorem svH_le {s : rg_T} {best : Bool} {x : Nat} : sv s (fH s best) x ≤ 200 := by
  unfold sv
  split
  · exact fH_le
  · omega
theorem svT_le {s : rg_T} {best : Bool} {x : Nat} (O : rg_ok s) (hx : x < 64 * rg_N s) : sv s (fT s best) x ≤ 20000 := by
  unfold sv
  split
  · exact fT_le O (by omega) (by assumption)
  · omega
/-- a block of a node that is down adds nothing -/
theorem sS_down {s : rg_T} {f : Nat → Nat → Nat} {n : Nat} (h : rg_u s n = false) : ∀ j, j ≤ 64 → sS s f (64 * n + j) = sS s f (64 * n) := by
  intro j
  induction j with
  | zero => intro _; rfl
  | succ j ih =>
    intro hj
    rw [← Nat.add_assoc, sS_s, ih (by omega), sv_n (by omega), h, if_neg (by decide), Nat.add_zero]
theorem sM_down {s : rg_T} {f : Nat → Nat → Nat} {n : Nat} (h : rg_u s n = false) : ∀ j, j ≤ 64 → sM s f (64 * n + j) = sM s f (64 * n) := by
  intro j
  induction j with
  | zero => intro _; rfl
  | succ j ih =>
    intro hj
    rw [← Nat.add_assoc, sM_s, ih (by omega), sv_n (by omega), h, if_neg (show ¬ (false = true) by decide), if_neg (Nat.not_lt_zero _)]
def sc_I (t : sr_t) (s : rg_T) (best : Bool) (m : Nat) : Prop := t.1 5 0 3 = nI (sS s (fH s best) m) ∧ t.1 5 0 4 = nI (sS s (fK s best 0) m) ∧ t.1 5 0 5 = nI (sS s (fK s best 1) m) ∧ t.1 5 0 6 = nI (sS s (fK s best 2) m) ∧ t.1 5 0 7 = nI (sS s (fW s best) m) ∧ t.1 5 0 8 = nI (sM s (fH s best) m) ∧ t.1 5 0 9 = nI (sS s (fT s best) m) ∧ t.1 5 0 10 = nI (sM s (fT s best) m)
def sc_V (t : sr_t) (s : rg_T) (best : Bool) (m : Nat) : Prop := (∀ v, v < 24 → t.1 15 0 v = nI (sS s (fV s best v) m)) ∧ ∀ a b, a < 24 → b < 24 → t.1 16 0 (24 * a + b) = nI (sS s (fX s best a b) m)
set_option maxHeartbeats 2000000 in
theorem pc_addTrip {t : sr_t} {s : rg_T} {best : Bool} {r n j : Nat} (O : rg_ok s) (hn : n < rg_N s) (hu : rg_u s n = true) (hj : j < 64) (I : sc_I t s best (64 * n + j)) (D : tp_D t 2 r s (64 * j) best n) : ∃ t', F5_addTrip t = some (.inl none, t') ∧ sc_I t' s best (64 * n + j + 1) ∧ fr (S_k 5) t t' := by
  obtain ⟨i3, i4, i5, i6, i7, i8, i9, i10⟩ := I
  obtain ⟨⟨_, _, ⟨H9, H10, H11, H12, H13⟩, _⟩, H7, _, _⟩ := D
  have b1 : sM s (fH s best) (64 * n + j) ≤ 200 := sM_le _ (fun x _ => svH_le)
  have b2 : sM s (fT s best) (64 * n + j) ≤ 20000 := sM_le _ (fun x hx => svT_le O (by omega))
  have b3 : lk_hp s (64 * j) best n (lk_n s (64 * j) best n) ≤ 200 := fH_le
  have b4 : lk_tm s (64 * j) best n (lk_n s (64 * j) best n) ≤ 20000 := fT_le O hn hu
  have vH : sv s (fH s best) (64 * n + j) = lk_hp s (64 * j) best n (lk_n s (64 * j) best n) := by rw [sv_n hj, if_pos hu]; rfl
  have v0 : sv s (fK s best 0) (64 * n + j) = lk_kc s (64 * j) best n 0 (lk_n s (64 * j) best n) := by rw [sv_n hj, if_pos hu]; rfl
  have v1 : sv s (fK s best 1) (64 * n + j) = lk_kc s (64 * j) best n 1 (lk_n s (64 * j) best n) := by rw [sv_n hj, if_pos hu]; rfl
  have v2 : sv s (fK s best 2) (64 * n + j) = lk_kc s (64 * j) best n 2 (lk_n s (64 * j) best n) := by rw [sv_n hj, if_pos hu]; rfl
  have vW : sv s (fW s best) (64 * n + j) = if lk_r s (64 * j) best n = true then 0 else 1 := by rw [sv_n hj, if_pos hu]; rfl
  have vT : sv s (fT s best) (64 * n + j) = lk_tm s (64 * j) best n (lk_n s (64 * j) best n) := by rw [sv_n hj, if_pos hu]; rfl
  have m1 : (if nI (sM s (fH s best) (64 * n + j)) < nI (lk_hp s (64 * j) best n (lk_n s (64 * j) best n)) then nI (lk_hp s (64 * j) best n (lk_n s (64 * j) best n)) else nI (sM s (fH s best) (64 * n + j))) = nI (sM s (fH s best) (64 * n + j + 1)) := by
    rw [sM_s, vH]
    by_cases h : sM s (fH s best) (64 * n + j) < lk_hp s (64 * j) best n (lk_n s (64 * j) best n)
    · rw [if_pos h, if_pos (nI_lt h (by omega))]
    · rw [if_neg h, if_neg (nI_nlt (by omega) (by omega))]
  have m2 : (if nI (sM s (fT s best) (64 * n + j)) < nI (lk_tm s (64 * j) best n (lk_n s (64 * j) best n)) then nI (lk_tm s (64 * j) best n (lk_n s (64 * j) best n)) else nI (sM s (fT s best) (64 * n + j))) = nI (sM s (fT s best) (64 * n + j + 1)) := by
    rw [sM_s, vT]
    by_cases h : sM s (fT s best) (64 * n + j) < lk_tm s (64 * j) best n (lk_n s (64 * j) best n)
    · rw [if_pos h, if_pos (nI_lt h (by omega))]
    · rw [if_neg h, if_neg (nI_nlt (by omega) (by omega))]
  have tail : ∀ (z : Nat) (T : sr_t) (Q : sr_O → sr_t → Prop), T = sr_u (sr_u (sr_u (sr_u t 5 0 3 (nI (sS s (fH s best) (64 * n + j + 1)))) 5 0 4 (nI (sS s (fK s best 0) (64 * n + j + 1)))) 5 0 5 (nI (sS s (fK s best 1) (64 * n + j + 1)))) 5 0 6 (nI (sS s (fK s best 2) (64 * n + j + 1))) → z = (if lk_r s (64 * j) best n = true then 0 else 1) → (∀ t', sc_I t' s best (64 * n + j + 1) ∧ fr (S_k 5) t t' → Q (.inl none) t') → rs_to Q (f5_addTrip_84 (nI z) (nI (sS s (fW s best) (64 * n + j))) T) := by
    intro z T Q hT hz hQ
    have fF : fr (S_k 5) t T := by
      rw [hT]
      refine fr_u (fr_u (fr_u (fr_u fr_rfl ?_) ?_) ?_) ?_ <;> rfl
    have c8 : T.1 5 0 8 = nI (sM s (fH s best) (64 * n + j)) := by rw [hT]; simp (disch := omega) only [pv_lt, pu_ck, pv_bI, pv_bV, pu_bR, pv_bL, pv_nt, pu_us, pu_un, mL_0, mL_1, mL_2, mL_3, mL_4, mL_5, mL_6, mL_7, mL_8, mL_9, mL_10, mL_11, mL_12, mL_13, mL_14, mL_15, mL_16, mL_23, mL_24, mL_32, mL_48, mL_64, mL_99, mL_100, mL_200, mL_336, mL_576, mL_768, mL_800, mL_999, mL_4095, mL_4096, mL_m1, nI_leI, nI_ltI, nI_eq, nI_clamp, nI_add, pk_mul, nI_nu, bI_eq0, bI_eq1, bo_ft, Bool.true_eq_false, Bool.false_eq_true, pu_of, pu_of24, pu_onward, pu_frq, if_true, if_false, true_or, or_true, false_or, or_false, and_true, true_and, and_false, false_and, not_true_eq_false, not_false_eq_true, if_neg, if_pos, i8]
    have c9 : T.1 5 0 9 = nI (sS s (fT s best) (64 * n + j)) := by rw [hT]; simp (disch := omega) only [pv_lt, pu_ck, pv_bI, pv_bV, pu_bR, pv_bL, pv_nt, pu_us, pu_un, mL_0, mL_1, mL_2, mL_3, mL_4, mL_5, mL_6, mL_7, mL_8, mL_9, mL_10, mL_11, mL_12, mL_13, mL_14, mL_15, mL_16, mL_23, mL_24, mL_32, mL_48, mL_64, mL_99, mL_100, mL_200, mL_336, mL_576, mL_768, mL_800, mL_999, mL_4095, mL_4096, mL_m1, nI_leI, nI_ltI, nI_eq, nI_clamp, nI_add, pk_mul, nI_nu, bI_eq0, bI_eq1, bo_ft, Bool.true_eq_false, Bool.false_eq_true, pu_of, pu_of24, pu_onward, pu_frq, if_true, if_false, true_or, or_true, false_or, or_false, and_true, true_and, and_false, false_and, not_true_eq_false, not_false_eq_true, if_neg, if_pos, i9]
    have c10 : T.1 5 0 10 = nI (sM s (fT s best) (64 * n + j)) := by rw [hT]; simp (disch := omega) only [pv_lt, pu_ck, pv_bI, pv_bV, pu_bR, pv_bL, pv_nt, pu_us, pu_un, mL_0, mL_1, mL_2, mL_3, mL_4, mL_5, mL_6, mL_7, mL_8, mL_9, mL_10, mL_11, mL_12, mL_13, mL_14, mL_15, mL_16, mL_23, mL_24, mL_32, mL_48, mL_64, mL_99, mL_100, mL_200, mL_336, mL_576, mL_768, mL_800, mL_999, mL_4095, mL_4096, mL_m1, nI_leI, nI_ltI, nI_eq, nI_clamp, nI_add, pk_mul, nI_nu, bI_eq0, bI_eq1, bo_ft, Bool.true_eq_false, Bool.false_eq_true, pu_of, pu_of24, pu_onward, pu_frq, if_true, if_false, true_or, or_true, false_or, or_false, and_true, true_and, and_false, false_and, not_true_eq_false, not_false_eq_true, if_neg, if_pos, i10]
    have d9 : T.1 8 2 9 = nI (lk_hp s (64 * j) best n (lk_n s (64 * j) best n)) := by rw [fF.2 _ _ _ (by unfold S_k; omega)]; exact H9
    have d13 : T.1 8 2 13 = nI (lk_tm s (64 * j) best n (lk_n s (64 * j) best n)) := by rw [fF.2 _ _ _ (by unfold S_k; omega)]; exact H13
    have c3 : T.1 5 0 3 = nI (sS s (fH s best) (64 * n + j + 1)) := by rw [hT]; simp (disch := omega) only [pv_lt, pu_ck, pv_bI, pv_bV, pu_bR, pv_bL, pv_nt, pu_us, pu_un, mL_0, mL_1, mL_2, mL_3, mL_4, mL_5, mL_6, mL_7, mL_8, mL_9, mL_10, mL_11, mL_12, mL_13, mL_14, mL_15, mL_16, mL_23, mL_24, mL_32, mL_48, mL_64, mL_99, mL_100, mL_200, mL_336, mL_576, mL_768, mL_800, mL_999, mL_4095, mL_4096, mL_m1, nI_leI, nI_ltI, nI_eq, nI_clamp, nI_add, pk_mul, nI_nu, bI_eq0, bI_eq1, bo_ft, Bool.true_eq_false, Bool.false_eq_true, pu_of, pu_of24, pu_onward, pu_frq, if_true, if_false, true_or, or_true, false_or, or_false, and_true, true_and, and_false, false_and, not_true_eq_false, not_false_eq_true, if_neg, if_pos]
    have c4 : T.1 5 0 4 = nI (sS s (fK s best 0) (64 * n + j + 1)) := by rw [hT]; simp (disch := omega) only [pv_lt, pu_ck, pv_bI, pv_bV, pu_bR, pv_bL, pv_nt, pu_us, pu_un, mL_0, mL_1, mL_2, mL_3, mL_4, mL_5, mL_6, mL_7, mL_8, mL_9, mL_10, mL_11, mL_12, mL_13, mL_14, mL_15, mL_16, mL_23, mL_24, mL_32, mL_48, mL_64, mL_99, mL_100, mL_200, mL_336, mL_576, mL_768, mL_800, mL_999, mL_4095, mL_4096, mL_m1, nI_leI, nI_ltI, nI_eq, nI_clamp, nI_add, pk_mul, nI_nu, bI_eq0, bI_eq1, bo_ft, Bool.true_eq_false, Bool.false_eq_true, pu_of, pu_of24, pu_onward, pu_frq, if_true, if_false, true_or, or_true, false_or, or_false, and_true, true_and, and_false, false_and, not_true_eq_false, not_false_eq_true, if_neg, if_pos]
    have c5 : T.1 5 0 5 = nI (sS s (fK s best 1) (64 * n + j + 1)) := by rw [hT]; simp (disch := omega) only [pv_lt, pu_ck, pv_bI, pv_bV, pu_bR, pv_bL, pv_nt, pu_us, pu_un, mL_0, mL_1, mL_2, mL_3, mL_4, mL_5, mL_6, mL_7, mL_8, mL_9, mL_10, mL_11, mL_12, mL_13, mL_14, mL_15, mL_16, mL_23, mL_24, mL_32, mL_48, mL_64, mL_99, mL_100, mL_200, mL_336, mL_576, mL_768, mL_800, mL_999, mL_4095, mL_4096, mL_m1, nI_leI, nI_ltI, nI_eq, nI_clamp, nI_add, pk_mul, nI_nu, bI_eq0, bI_eq1, bo_ft, Bool.true_eq_false, Bool.false_eq_true, pu_of, pu_of24, pu_onward, pu_frq, if_true, if_false, true_or, or_true, false_or, or_false, and_true, true_and, and_false, false_and, not_true_eq_false, not_false_eq_true, if_neg, if_pos]
    have c6 : T.1 5 0 6 = nI (sS s (fK s best 2) (64 * n + j + 1)) := by rw [hT]; simp (disch := omega) only [pv_lt, pu_ck, pv_bI, pv_bV, pu_bR, pv_bL, pv_nt, pu_us, pu_un, mL_0, mL_1, mL_2, mL_3, mL_4, mL_5, mL_6, mL_7, mL_8, mL_9, mL_10, mL_11, mL_12, mL_13, mL_14, mL_15, mL_16, mL_23, mL_24, mL_32, mL_48, mL_64, mL_99, mL_100, mL_200, mL_336, mL_576, mL_768, mL_800, mL_999, mL_4095, mL_4096, mL_m1, nI_leI, nI_ltI, nI_eq, nI_clamp, nI_add, pk_mul, nI_nu, bI_eq0, bI_eq1, bo_ft, Bool.true_eq_false, Bool.false_eq_true, pu_of, pu_of24, pu_onward, pu_frq, if_true, if_false, true_or, or_true, false_or, or_false, and_true, true_and, and_false, false_and, not_true_eq_false, not_false_eq_true, if_neg, if_pos]
    unfold f5_addTrip_84
    simp (disch := omega) only [pv_lt, pu_us, pu_un, c8, c9, c10, d9, d13, m1, m2, nI_add]
    refine rs_ret (hQ _ ⟨⟨?_, ?_, ?_, ?_, ?_, ?_, ?_, ?_⟩, ?_⟩)
    · rw [pu_un (by omega), pu_un (by omega), pu_un (by omega), pu_un (by omega)]; exact c3
    · rw [pu_un (by omega), pu_un (by omega), pu_un (by omega), pu_un (by omega)]; exact c4
    · rw [pu_un (by omega), pu_un (by omega), pu_un (by omega), pu_un (by omega)]; exact c5
    · rw [pu_un (by omega), pu_un (by omega), pu_un (by omega), pu_un (by omega)]; exact c6
    · rw [pu_un (by omega), pu_un (by omega), pu_un (by omega), pu_us, sS_s, vW, hz]
    · rw [pu_un (by omega), pu_un (by omega), pu_us]
    · rw [pu_un (by omega), pu_us, sS_s, vT]
    · rw [pu_us]
    · exact fr_u (fr_u (fr_u (fr_u fF rfl) rfl) rfl) rfl
  refine rs_via fun Q hQ => ?_
  cases hr : lk_r s (64 * j) best n with
  | true =>
    have q := tail 0 _ Q rfl (by rw [hr]; rfl) hQ
    rw [hr] at H7
    have bt : ¬ bI true = nI 0 := by decide
    rw [sS_s, sS_s, sS_s, sS_s, vH, v0, v1, v2] at q
    simp (disch := omega) only [pv_lt, pu_ck, pv_bI, pv_bV, pu_bR, pv_bL, pv_nt, pu_us, pu_un, mL_0, mL_1, mL_2, mL_3, mL_4, mL_5, mL_6, mL_7, mL_8, mL_9, mL_10, mL_11, mL_12, mL_13, mL_14, mL_15, mL_16, mL_23, mL_24, mL_32, mL_48, mL_64, mL_99, mL_100, mL_200, mL_336, mL_576, mL_768, mL_800, mL_999, mL_4095, mL_4096, mL_m1, nI_leI, nI_ltI, nI_eq, nI_clamp, nI_add, pk_mul, nI_nu, bI_eq0, bI_eq1, bo_ft, Bool.true_eq_false, Bool.false_eq_true, pu_of, pu_of24, pu_onward, pu_frq, if_true, if_false, true_or, or_true, false_or, or_false, and_true, true_and, and_false, false_and, not_true_eq_false, not_false_eq_true, if_neg, if_pos, F5_addTrip, i3, i4, i5, i6, i7, H9, H10, H11, H12, H7, bt]
    exact q
  | false =>
    have q := tail 1 _ Q rfl (by rw [hr]; rfl) hQ
    rw [hr] at H7
    have bf : bI false = nI 0 := rfl
    rw [sS_s, sS_s, sS_s, sS_s, vH, v0, v1, v2] at q
    simp (disch := omega) only [pv_lt, pu_ck, pv_bI, pv_bV, pu_bR, pv_bL, pv_nt, pu_us, pu_un, mL_0, mL_1, mL_2, mL_3, mL_4, mL_5, mL_6, mL_7, mL_8, mL_9, mL_10, mL_11, mL_12, mL_13, mL_14, mL_15, mL_16, mL_23, mL_24, mL_32, mL_48, mL_64, mL_99, mL_100, mL_200, mL_336, mL_576, mL_768, mL_800, mL_999, mL_4095, mL_4096, mL_m1, nI_leI, nI_ltI, nI_eq, nI_clamp, nI_add, pk_mul, nI_nu, bI_eq0, bI_eq1, bo_ft, Bool.true_eq_false, Bool.false_eq_true, pu_of, pu_of24, pu_onward, pu_frq, if_true, if_false, true_or, or_true, false_or, or_false, and_true, true_and, and_false, false_and, not_true_eq_false, not_false_eq_true, if_neg, if_pos, F5_addTrip, i3, i4, i5, i6, i7, H9, H10, H11, H12, H7, bf]
    exact q
/-! the trace -/
def sn (s : rg_T) (key : Nat) (best : Bool) (n : Nat) : Nat → Int32
  | 0 => nI 0
  | k + 1 => if lk_at s key best n k = lk_at s key best n (k + 1) then sn s key best n k else sn s key best n k ||| ob (lk_at s key best n (k + 1))
theorem sn_s {s : rg_T} {key n k : Nat} {best : Bool} : sn s key best n (k + 1) = if lk_at s key best n k = lk_at s key best n (k + 1) then sn s key best n k else sn s key best n k ||| ob (lk_at s key best n (k + 1)) := rfl
theorem lk_v_s {s : rg_T} {key n k m : Nat} {best : Bool} : lk_v s key best n (k + 1) m = (lk_v s key best n k m || (lk_at s key best n k != lk_at s key best n (k + 1) && lk_at s key best n (k + 1) == m)) := rfl
theorem lk_x_s {s : rg_T} {key n x y k : Nat} {best : Bool} : lk_x s key best n x y (k + 1) = lk_x s key best n x y k + if (lk_at s key best n k != lk_at s key best n (k + 1) && (lk_at s key best n k == x && lk_at s key best n (k + 1) == y)) = true then 1 else 0 := rfl
theorem sn_v {s : rg_T} {key n : Nat} {best : Bool} (O : rg_ok s) (hn : n < rg_N s) (hu : rg_u s n = true) : ∀ k, k ≤ lk_n s key best n → ∀ m, m < 32 → bs (sn s key best n k) m = lk_v s key best n k m := by
  intro k
  induction k with
  | zero => intro _ m _; exact bs_0
  | succ k ih =>
    intro hk m hm
    have hN := O.1.1
    have h1 := (lk_ok (key := key) (best := best) O hn hu (k + 1) hk).1
    rw [sn_s, lk_v_s]
    by_cases e : lk_at s key best n k = lk_at s key best n (k + 1)
    · rw [if_pos e, ih (by omega) m hm]
      have : (lk_at s key best n k != lk_at s key best n (k + 1)) = false := by simp [e]
      rw [this, Bool.false_and, Bool.or_false]
    · rw [if_neg e, bs_or, ih (by omega) m hm, bs_ob (by omega) hm]
      have : (lk_at s key best n k != lk_at s key best n (k + 1)) = true := by simp [e]
      rw [this, Bool.true_and]
      congr 1
      by_cases q : m = lk_at s key best n (k + 1)
      · rw [decide_eq_true q]; simp [q]
      · rw [decide_eq_false q]
        have : ¬ lk_at s key best n (k + 1) = m := fun h => q h.symm
        simp [this]
def S_vx (k i _j : Nat) : Prop := (k = 15 ∧ i = 0) ∨ (k = 16 ∧ i = 0)
theorem pc_addHop {t : sr_t} {a b : Nat} {f : Bool} (ha : a < 24) (hb : b < 24) : ∃ t', F5_addHop (nI a) (nI b) (bI f) t = some (.inl none, t') ∧ (∀ v, v < 24 → t'.1 15 0 v = if v = b ∧ f = true then t.1 15 0 v + nI 1 else t.1 15 0 v) ∧ (∀ x y, x < 24 → y < 24 → t'.1 16 0 (24 * x + y) = if x = a ∧ y = b then t.1 16 0 (24 * x + y) + nI 1 else t.1 16 0 (24 * x + y)) ∧ fr S_vx t t' := by
  refine rs_via fun Q hQ => ?_
  have e24 : a * 24 + b = 24 * a + b := by omega
  have hx16 : ∀ (T : sr_t), T = sr_u t 16 0 (24 * a + b) (t.1 16 0 (24 * a + b) + nI 1) → ∀ x y, x < 24 → y < 24 → T.1 16 0 (24 * x + y) = if x = a ∧ y = b then t.1 16 0 (24 * x + y) + nI 1 else t.1 16 0 (24 * x + y) := by
    intro T hT x y hx hy
    rw [hT]
    by_cases e : x = a ∧ y = b
    · rw [if_pos e, e.1, e.2, pu_us]
    · rw [if_neg e, pu_un (by omega)]
  cases f with
  | false =>
    have bf : bI false = nI 0 := rfl
    simp (disch := omega) only [pv_lt, pu_ck, pv_bI, pv_bV, pu_bR, pv_bL, pv_nt, pu_us, pu_un, mL_0, mL_1, mL_2, mL_3, mL_4, mL_5, mL_6, mL_7, mL_8, mL_9, mL_10, mL_11, mL_12, mL_13, mL_14, mL_15, mL_16, mL_23, mL_24, mL_32, mL_48, mL_64, mL_99, mL_100, mL_200, mL_336, mL_576, mL_768, mL_800, mL_999, mL_4095, mL_4096, mL_m1, nI_leI, nI_ltI, nI_eq, nI_clamp, nI_add, pk_mul, nI_nu, bI_eq0, bI_eq1, bo_ft, Bool.true_eq_false, Bool.false_eq_true, pu_of, pu_of24, pu_onward, pu_frq, if_true, if_false, true_or, or_true, false_or, or_false, and_true, true_and, and_false, false_and, not_true_eq_false, not_false_eq_true, if_neg, if_pos, F5_addHop, F5_crossingOf, f5_addHop_33, f5_addHop_60, bf, e24]
    refine rs_ret (hQ _ ⟨fun v hv => ?_, hx16 _ rfl, fr_u fr_rfl (by unfold S_vx; omega)⟩)
    rw [pu_un (by omega), if_neg (fun q => absurd q.2 (by decide))]
  | true =>
    have bt : ¬ bI true = nI 0 := by decide
    simp (disch := omega) only [pv_lt, pu_ck, pv_bI, pv_bV, pu_bR, pv_bL, pv_nt, pu_us, pu_un, mL_0, mL_1, mL_2, mL_3, mL_4, mL_5, mL_6, mL_7, mL_8, mL_9, mL_10, mL_11, mL_12, mL_13, mL_14, mL_15, mL_16, mL_23, mL_24, mL_32, mL_48, mL_64, mL_99, mL_100, mL_200, mL_336, mL_576, mL_768, mL_800, mL_999, mL_4095, mL_4096, mL_m1, nI_leI, nI_ltI, nI_eq, nI_clamp, nI_add, pk_mul, nI_nu, bI_eq0, bI_eq1, bo_ft, Bool.true_eq_false, Bool.false_eq_true, pu_of, pu_of24, pu_onward, pu_frq, if_true, if_false, true_or, or_true, false_or, or_false, and_true, true_and, and_false, false_and, not_true_eq_false, not_false_eq_true, if_neg, if_pos, F5_addHop, F5_crossingOf, f5_addHop_33, f5_addHop_60, bt, e24]
    refine rs_ret (hQ _ ⟨fun v hv => ?_, fun x y hx hy => ?_, fr_u (fr_u fr_rfl (by unfold S_vx; omega)) (by unfold S_vx; omega)⟩)
    · by_cases e : v = b
      · rw [if_pos ⟨e, rfl⟩, e, pu_us]
      · rw [if_neg (fun q => e q.1), pu_un (by omega), pu_un (by omega)]
    · rw [pu_un (by omega)]
      exact hx16 _ rfl x y hx hy
set_option maxHeartbeats 4000000 in
theorem pc_trace {t : sr_t} {s : rg_T} {best : Bool} {r n key : Nat} (C : rg_C t r s) (O : rg_ok s) (hr : r < 2) (hn : n < rg_N s) (hu : rg_u s n = true) (D : tp_I t 2 r s key best n (lk_n s key best n)) : ∃ t', F5_traceTrip t = some (.inl none, t') ∧ (∀ v, v < 24 → t'.1 15 0 v = t.1 15 0 v + nI (fV s best v n key)) ∧ (∀ x y, x < 24 → y < 24 → t'.1 16 0 (24 * x + y) = t.1 16 0 (24 * x + y) + nI (fX s best x y n key)) ∧ fr S_vx t t' := by
  have hN := O.1.1
  have k200 := lk_n_le (s := s) (key := key) (n := n) (best := best)
  obtain ⟨⟨H0, H1, H2, H3⟩, ⟨H4, H5, H8⟩, _, Hr⟩ := D
  have z0 : ∀ x : Int32, x + nI 0 = x := fun x => by rw [nI_0, Int32.add_zero]
  refine rs_via fun Q hQ => ?_
  show rs_to Q (f5_traceTrip_4 f5_traceTrip_76 sr_fu (sn s key best n 0) (nI 0) t)
  refine rs_loop (N := lk_n s key best n) (L := fun f k t' => f5_traceTrip_4 f5_traceTrip_76 f (sn s key best n k) (nI k) t') (fun k t' => (∀ v, v < 24 → t'.1 15 0 v = t.1 15 0 v + nI (if lk_v s key best n k v = true then 1 else 0)) ∧ (∀ x y, x < 24 → y < 24 → t'.1 16 0 (24 * x + y) = t.1 16 0 (24 * x + y) + nI (lk_x s key best n x y k)) ∧ fr S_vx t t') ?_ ?_ (by unfold sr_fu; omega) ⟨fun v _ => (z0 _).symm, fun x y _ _ => (z0 _).symm, fr_rfl⟩
  · rintro k g t' hk ⟨pv, px, pf⟩
    have o1 := (lk_ok (key := key) (best := best) O hn hu k (by omega)).1
    have o2 := (lk_ok (key := key) (best := best) O hn hu (k + 1) (by omega)).1
    have e8 : t'.1 8 2 8 = nI (lk_n s key best n) := by rw [pf.2 _ _ _ (by unfold S_vx; omega)]; exact H8
    have e3 : t'.1 8 2 3 = nI (25 * r + lk_at s key best n (lk_n s key best n)) := by rw [pf.2 _ _ _ (by unfold S_vx; omega)]; exact H3
    have r1 : t'.1 14 2 (4 * k) = nI (lk_at s key best n k) := by rw [pf.2 _ _ _ (by unfold S_vx; omega)]; exact (Hr k hk).1
    have pa : F8_partOfStep 2 (nI k) (nI 0) t' = some (.inl (some (sr_i (nI (lk_at s key best n k)))), t') := by
      simp (disch := omega) only [pv_lt, pu_ck, pv_bI, pv_bV, pu_bR, pv_bL, pv_nt, pu_us, pu_un, mL_0, mL_1, mL_2, mL_3, mL_4, mL_5, mL_6, mL_7, mL_8, mL_9, mL_10, mL_11, mL_12, mL_13, mL_14, mL_15, mL_16, mL_23, mL_24, mL_32, mL_48, mL_64, mL_99, mL_100, mL_200, mL_336, mL_576, mL_768, mL_800, mL_999, mL_4095, mL_4096, mL_m1, nI_leI, nI_ltI, nI_eq, nI_clamp, nI_add, pk_mul, nI_nu, bI_eq0, bI_eq1, bo_ft, Bool.true_eq_false, Bool.false_eq_true, pu_of, pu_of24, pu_onward, pu_frq, if_true, if_false, true_or, or_true, false_or, or_false, and_true, true_and, and_false, false_and, not_true_eq_false, not_false_eq_true, if_neg, if_pos, F8_partOfStep, f8_partOfStep_48, e8, Nat.add_zero, r1]
    have nbs : F8_nodeBehindStep 2 (nI k) t' = some (.inl (some (sr_i (nI (lk_at s key best n (k + 1))))), t') := by
      by_cases h : k + 1 < lk_n s key best n
      · have r2 : t'.1 14 2 (4 * (k + 1)) = nI (lk_at s key best n (k + 1)) := by rw [pf.2 _ _ _ (by unfold S_vx; omega)]; exact (Hr (k + 1) h).1
        simp (disch := omega) only [pv_lt, pu_ck, pv_bI, pv_bV, pu_bR, pv_bL, pv_nt, pu_us, pu_un, mL_0, mL_1, mL_2, mL_3, mL_4, mL_5, mL_6, mL_7, mL_8, mL_9, mL_10, mL_11, mL_12, mL_13, mL_14, mL_15, mL_16, mL_23, mL_24, mL_32, mL_48, mL_64, mL_99, mL_100, mL_200, mL_336, mL_576, mL_768, mL_800, mL_999, mL_4095, mL_4096, mL_m1, nI_leI, nI_ltI, nI_eq, nI_clamp, nI_add, pk_mul, nI_nu, bI_eq0, bI_eq1, bo_ft, Bool.true_eq_false, Bool.false_eq_true, pu_of, pu_of24, pu_onward, pu_frq, if_true, if_false, true_or, or_true, false_or, or_false, and_true, true_and, and_false, false_and, not_true_eq_false, not_false_eq_true, if_neg, if_pos, F8_nodeBehindStep, f8_nodeBehindStep_28, F8_partOfStep, f8_partOfStep_48, e8, Nat.add_zero, r2]
      · have ek : k + 1 = lk_n s key best n := by omega
        have num := C.1.2.1.1 (lk_at s key best n (lk_n s key best n)) (by rw [← ek]; omega)
        rw [nu_lt (by rw [← ek]; omega)] at num
        have num' : t'.1 2 (25 * r + lk_at s key best n (lk_n s key best n)) 0 = nI (lk_at s key best n (lk_n s key best n)) := by rw [pf.2 _ _ _ (by unfold S_vx; omega)]; exact num
        have lim : 25 * r + lk_at s key best n (lk_n s key best n) < 50 := by rw [← ek]; omega
        rw [ek]
        simp (disch := omega) only [pv_lt, pu_ck, pv_bI, pv_bV, pu_bR, pv_bL, pv_nt, pu_us, pu_un, mL_0, mL_1, mL_2, mL_3, mL_4, mL_5, mL_6, mL_7, mL_8, mL_9, mL_10, mL_11, mL_12, mL_13, mL_14, mL_15, mL_16, mL_23, mL_24, mL_32, mL_48, mL_64, mL_99, mL_100, mL_200, mL_336, mL_576, mL_768, mL_800, mL_999, mL_4095, mL_4096, mL_m1, nI_leI, nI_ltI, nI_eq, nI_clamp, nI_add, pk_mul, nI_nu, bI_eq0, bI_eq1, bo_ft, Bool.true_eq_false, Bool.false_eq_true, pu_of, pu_of24, pu_onward, pu_frq, if_true, if_false, true_or, or_true, false_or, or_false, and_true, true_and, and_false, false_and, not_true_eq_false, not_false_eq_true, if_neg, if_pos, F8_nodeBehindStep, f8_nodeBehindStep_28, e8, e3, num']
    left
    by_cases e : lk_at s key best n k = lk_at s key best n (k + 1)
    · have eb : (lk_at s key best n k != lk_at s key best n (k + 1)) = false := by simp [e]
      refine ⟨t', ⟨fun v hv => ?_, fun x y hx hy => ?_, pf⟩, ?_⟩
      · rw [lk_v_s, eb, Bool.false_and, Bool.or_false]; exact pv v hv
      · rw [lk_x_s, eb, Bool.false_and, if_neg (by decide), Nat.add_zero]; exact px x y hx hy
      · show f5_traceTrip_4 f5_traceTrip_76 (g + 1) (sn s key best n k) (nI k) t' = f5_traceTrip_4 f5_traceTrip_76 g (sn s key best n (k + 1)) (nI (k + 1)) t'
        rw [sn_s, if_pos e]
        simp (disch := omega) only [pv_lt, pu_ck, pv_bI, pv_bV, pu_bR, pv_bL, pv_nt, pu_us, pu_un, mL_0, mL_1, mL_2, mL_3, mL_4, mL_5, mL_6, mL_7, mL_8, mL_9, mL_10, mL_11, mL_12, mL_13, mL_14, mL_15, mL_16, mL_23, mL_24, mL_32, mL_48, mL_64, mL_99, mL_100, mL_200, mL_336, mL_576, mL_768, mL_800, mL_999, mL_4095, mL_4096, mL_m1, nI_leI, nI_ltI, nI_eq, nI_clamp, nI_add, pk_mul, nI_nu, bI_eq0, bI_eq1, bo_ft, Bool.true_eq_false, Bool.false_eq_true, pu_of, pu_of24, pu_onward, pu_frq, if_true, if_false, true_or, or_true, false_or, or_false, and_true, true_and, and_false, false_and, not_true_eq_false, not_false_eq_true, if_neg, if_pos, f5_traceTrip_4, f5_traceTrip_70, e8, pa, nbs, e]
    · have eb : (lk_at s key best n k != lk_at s key best n (k + 1)) = true := by simp [e]
      obtain ⟨t2, e2, av, ax, af⟩ := pc_addHop (t := t') (a := lk_at s key best n k) (b := lk_at s key best n (k + 1)) (f := !lk_v s key best n k (lk_at s key best n (k + 1))) (by omega) (by omega)
      have hb := pu_hasBit (t := t') (x := sn s key best n k) (k := lk_at s key best n (k + 1)) (by omega)
      rw [sn_v O hn hu k (by omega) _ (by omega)] at hb
      refine ⟨t2, ⟨fun v hv => ?_, fun x y hx hy => ?_, fr_trans pf af⟩, ?_⟩
      · rw [av v hv, lk_v_s, eb, Bool.true_and]
        by_cases ev : v = lk_at s key best n (k + 1)
        · have be : (lk_at s key best n (k + 1) == v) = true := by simp [ev]
          rw [be, Bool.or_true, if_pos (show true = true from rfl), pv v hv, ← ev]
          cases hv2 : lk_v s key best n k v with
          | true => rw [if_neg (fun q => absurd q.2 (by decide)), if_pos rfl]
          | false => rw [if_pos ⟨rfl, rfl⟩, if_neg (by decide), Int32.add_assoc, nI_add]
        · have be : (lk_at s key best n (k + 1) == v) = false := by
            have : ¬ lk_at s key best n (k + 1) = v := fun h => ev h.symm
            simp [this]
          rw [if_neg (fun q => ev q.1), be, Bool.or_false]
          exact pv v hv
      · rw [ax x y hx hy, px x y hx hy, lk_x_s, eb, Bool.true_and]
        by_cases exy : x = lk_at s key best n k ∧ y = lk_at s key best n (k + 1)
        · have be : (lk_at s key best n k == x && lk_at s key best n (k + 1) == y) = true := by simp [exy.1, exy.2]
          rw [if_pos exy, be, if_pos rfl, Int32.add_assoc, nI_add]
        · have be : ¬ (lk_at s key best n k == x && lk_at s key best n (k + 1) == y) = true := fun q => by
            simp only [Bool.and_eq_true, beq_iff_eq] at q
            exact exy ⟨q.1.symm, q.2.symm⟩
          rw [if_neg exy, if_neg be, Nat.add_zero]
      · show f5_traceTrip_4 f5_traceTrip_76 (g + 1) (sn s key best n k) (nI k) t' = f5_traceTrip_4 f5_traceTrip_76 g (sn s key best n (k + 1)) (nI (k + 1)) t2
        rw [sn_s, if_neg e]
        cases hv2 : lk_v s key best n k (lk_at s key best n (k + 1)) with
        | true =>
          rw [hv2] at hb e2
          have bt : ¬ bI true = nI 0 := by decide
          have e2' : F5_addHop (nI (lk_at s key best n k)) (nI (lk_at s key best n (k + 1))) (nI 0) t' = some (.inl none, t2) := e2
          simp (disch := omega) only [pv_lt, pu_ck, pv_bI, pv_bV, pu_bR, pv_bL, pv_nt, pu_us, pu_un, mL_0, mL_1, mL_2, mL_3, mL_4, mL_5, mL_6, mL_7, mL_8, mL_9, mL_10, mL_11, mL_12, mL_13, mL_14, mL_15, mL_16, mL_23, mL_24, mL_32, mL_48, mL_64, mL_99, mL_100, mL_200, mL_336, mL_576, mL_768, mL_800, mL_999, mL_4095, mL_4096, mL_m1, nI_leI, nI_ltI, nI_eq, nI_clamp, nI_add, pk_mul, nI_nu, bI_eq0, bI_eq1, bo_ft, Bool.true_eq_false, Bool.false_eq_true, pu_of, pu_of24, pu_onward, pu_frq, if_true, if_false, true_or, or_true, false_or, or_false, and_true, true_and, and_false, false_and, not_true_eq_false, not_false_eq_true, if_neg, if_pos, f5_traceTrip_4, f5_traceTrip_59, f5_traceTrip_70, e8, pa, nbs, e, hb, bt, e2', pu_bit]
        | false =>
          rw [hv2] at hb e2
          have bf : bI false = nI 0 := rfl
          have e2' : F5_addHop (nI (lk_at s key best n k)) (nI (lk_at s key best n (k + 1))) (nI 1) t' = some (.inl none, t2) := e2
          simp (disch := omega) only [pv_lt, pu_ck, pv_bI, pv_bV, pu_bR, pv_bL, pv_nt, pu_us, pu_un, mL_0, mL_1, mL_2, mL_3, mL_4, mL_5, mL_6, mL_7, mL_8, mL_9, mL_10, mL_11, mL_12, mL_13, mL_14, mL_15, mL_16, mL_23, mL_24, mL_32, mL_48, mL_64, mL_99, mL_100, mL_200, mL_336, mL_576, mL_768, mL_800, mL_999, mL_4095, mL_4096, mL_m1, nI_leI, nI_ltI, nI_eq, nI_clamp, nI_add, pk_mul, nI_nu, bI_eq0, bI_eq1, bo_ft, Bool.true_eq_false, Bool.false_eq_true, pu_of, pu_of24, pu_onward, pu_frq, if_true, if_false, true_or, or_true, false_or, or_false, and_true, true_and, and_false, false_and, not_true_eq_false, not_false_eq_true, if_neg, if_pos, f5_traceTrip_4, f5_traceTrip_59, f5_traceTrip_70, e8, pa, nbs, e, hb, bf, e2', pu_bit]
  · rintro g t' ⟨pv, px, pf⟩
    have e8 : t'.1 8 2 8 = nI (lk_n s key best n) := by rw [pf.2 _ _ _ (by unfold S_vx; omega)]; exact H8
    show rs_to _ (f5_traceTrip_4 f5_traceTrip_76 (g + 1) (sn s key best n (lk_n s key best n)) (nI (lk_n s key best n)) t')
    simp (disch := omega) only [pv_lt, pu_ck, pv_bI, pv_bV, pu_bR, pv_bL, pv_nt, pu_us, pu_un, mL_0, mL_1, mL_2, mL_3, mL_4, mL_5, mL_6, mL_7, mL_8, mL_9, mL_10, mL_11, mL_12, mL_13, mL_14, mL_15, mL_16, mL_23, mL_24, mL_32, mL_48, mL_64, mL_99, mL_100, mL_200, mL_336, mL_576, mL_768, mL_800, mL_999, mL_4095, mL_4096, mL_m1, nI_leI, nI_ltI, nI_eq, nI_clamp, nI_add, pk_mul, nI_nu, bI_eq0, bI_eq1, bo_ft, Bool.true_eq_false, Bool.false_eq_true, pu_of, pu_of24, pu_onward, pu_frq, if_true, if_false, true_or, or_true, false_or, or_false, and_true, true_and, and_false, false_and, not_true_eq_false, not_false_eq_true, if_neg, if_pos, f5_traceTrip_4, f5_traceTrip_76, e8]
    exact rs_ret (hQ _ ⟨pv, px, pf⟩)
end
