section
/-! a lookup, as numbers -/
def rg_pt (s : rg_T) (a h : Nat) : Nat → Nat
  | 0 => 24
  | k + 1 => if rg_u s (rg_t s a (6 + k)) = true ∧ pu_d (rg_p s (rg_t s a 6)) (rg_p s (rg_t s a (6 + k))) ≤ pu_d (rg_p s (rg_t s a 6)) h then rg_t s a (6 + k) else rg_pt s a h k
theorem rg_pt_s {s : rg_T} {a h k : Nat} : rg_pt s a h (k + 1) = if rg_u s (rg_t s a (6 + k)) = true ∧ pu_d (rg_p s (rg_t s a 6)) (rg_p s (rg_t s a (6 + k))) ≤ pu_d (rg_p s (rg_t s a 6)) h then rg_t s a (6 + k) else rg_pt s a h k := rfl
def rg_ptr (s : rg_T) (a h : Nat) : Nat := rg_pt s a h (rg_t s a 5)
theorem rg_pt_cases {s : rg_T} {a h : Nat} (O : rg_ok s) (ha : a < rg_N s) : ∀ k, k ≤ rg_t s a 5 → rg_pt s a h k = 24 ∨ (rg_pt s a h k < rg_N s ∧ rg_u s (rg_pt s a h k) = true) := by
  intro k
  induction k with
  | zero => intro _; exact Or.inl rfl
  | succ k ih =>
    intro hk
    rw [rg_pt_s]
    split
    · rename_i hc
      exact Or.inr ⟨(O.2 a ha).2.2.2.2.2 k (by omega), hc.1⟩
    · exact ih (by omega)
theorem rg_ptr_cases {s : rg_T} {a h : Nat} (O : rg_ok s) (ha : a < rg_N s) : rg_ptr s a h = 24 ∨ (rg_ptr s a h < rg_N s ∧ rg_u s (rg_ptr s a h) = true) := rg_pt_cases O ha _ (Nat.le_refl _)
/-- kind of the step that led here, node, imaginary place, letters left -/
abbrev lk_T : Type := Nat × Nat × Nat × Nat
def lk_step (s : rg_T) (key : Nat) (best : Bool) (q : lk_T) : lk_T := if rg_t s q.2.1 0 ≠ 2 ^ rg_b s then (2, rg_nx s q.2.1, rg_sta s key best (rg_nx s q.2.1)) else if 0 < q.2.2.2 ∧ pu_d (rg_p s q.2.1) q.2.2.1 < rg_ar s q.2.1 then (if rg_ptr s q.2.1 (rg_sh (rg_b s) q.2.2.1 (rg_lt (rg_b s) key (12 / rg_b s - q.2.2.2))) = 24 then (2, rg_nx s q.2.1, rg_sta s key best (rg_nx s q.2.1)) else (0, rg_ptr s q.2.1 (rg_sh (rg_b s) q.2.2.1 (rg_lt (rg_b s) key (12 / rg_b s - q.2.2.2))), rg_sh (rg_b s) q.2.2.1 (rg_lt (rg_b s) key (12 / rg_b s - q.2.2.2)), q.2.2.2 - 1)) else (1, rg_nx s q.2.1, q.2.2.1, q.2.2.2)
def lk (s : rg_T) (key : Nat) (best : Bool) (n : Nat) : Nat → lk_T
  | 0 => (3, n, rg_sta s key best n)
  | k + 1 => lk_step s key best (lk s key best n k)
def lk_at (s : rg_T) (key : Nat) (best : Bool) (n k : Nat) : Nat := (lk s key best n k).2.1
def lk_he (s : rg_T) (key : Nat) (best : Bool) (n k : Nat) : Nat := (lk s key best n k).2.2.1
def lk_le (s : rg_T) (key : Nat) (best : Bool) (n k : Nat) : Nat := (lk s key best n k).2.2.2
def lk_ki (s : rg_T) (key : Nat) (best : Bool) (n k : Nat) : Nat := (lk s key best n (k + 1)).1
def lk_fin (s : rg_T) (key a : Nat) : Bool := decide (rg_nx s a = 24) || decide (pu_d (rg_p s a) key ≤ rg_ar s a)
def lk_n (s : rg_T) (key : Nat) (best : Bool) (n : Nat) : Nat := fi (fun k => lk_fin s key (lk_at s key best n k)) 200
def ad (x y : Nat) : Nat := (x - y) + (y - x)
def lk_hp (s : rg_T) (key : Nat) (best : Bool) (n k : Nat) : Nat := rg_cu (fun j => lk_at s key best n j != lk_at s key best n (j + 1)) k
def lk_kc (s : rg_T) (key : Nat) (best : Bool) (n c k : Nat) : Nat := rg_cu (fun j => lk_ki s key best n j == c) k
def lk_tm (s : rg_T) (key : Nat) (best : Bool) (n k : Nat) : Nat := sm (fun j => if lk_at s key best n j = lk_at s key best n (j + 1) then 0 else 1 + ad (rg_s s (lk_at s key best n j)) (rg_s s (lk_at s key best n (j + 1)))) k
/-- with which node it ends; 26 cut, 27 lost -/
def lk_c (s : rg_T) (key a : Nat) : Nat := if rg_nx s a = 24 then 26 else if pu_d (rg_p s a) key = 0 then a else if pu_d (rg_p s a) key ≤ rg_ar s a then rg_nx s a else 27
def lk_e (s : rg_T) (key : Nat) (best : Bool) (n : Nat) : Nat := lk_c s key (lk_at s key best n (lk_n s key best n))
def cI (c : Nat) : Int32 := if c = 26 then -2 else if c = 27 then -3 else nI c
def lk_r (s : rg_T) (key : Nat) (best : Bool) (n : Nat) : Bool := decide (rg_ff s key = lk_e s key best n)
theorem lk_ok {s : rg_T} {key n : Nat} {best : Bool} (O : rg_ok s) (hn : n < rg_N s) (hu : rg_u s n = true) : ∀ k, k ≤ lk_n s key best n → lk_at s key best n k < rg_N s ∧ rg_u s (lk_at s key best n k) = true ∧ lk_he s key best n k < 4096 ∧ lk_le s key best n k ≤ 12 / rg_b s := by
  intro k
  induction k with
  | zero =>
    intro _
    have := rg_sta_lt (key := key) (best := best) O.1 hn
    exact ⟨hn, hu, this.1, this.2⟩
  | succ k ih =>
    intro hk
    obtain ⟨h1, h2, h3, h4⟩ := ih (by omega)
    have nf : lk_fin s key (lk_at s key best n k) = false := fi_no (P := fun k => lk_fin s key (lk_at s key best n k)) (m := 200) (by unfold lk_n at hk; omega)
    have nx : rg_nx s (lk_at s key best n k) ≠ 24 := by
      intro e
      unfold lk_fin at nf
      rw [e] at nf
      simp at nf
    obtain ⟨x1, x2⟩ : rg_nx s (lk_at s key best n k) < rg_N s ∧ rg_u s (rg_nx s (lk_at s key best n k)) = true := by
      rcases rg_nx_cases O h1 with h | h
      · exact absurd h nx
      · exact ⟨h.1, h.2 h2⟩
    have st := rg_sta_lt (key := key) (best := best) O.1 x1
    have e : lk s key best n (k + 1) = lk_step s key best (lk s key best n k) := rfl
    unfold lk_at lk_he lk_le at *
    rw [e]
    unfold lk_step
    split
    · exact ⟨x1, x2, st.1, st.2⟩
    · split
      · split
        · exact ⟨x1, x2, st.1, st.2⟩
        · rename_i hp
          rcases rg_ptr_cases (h := rg_sh (rg_b s) (lk s key best n k).2.2.1 (rg_lt (rg_b s) key (12 / rg_b s - (lk s key best n k).2.2.2))) O h1 with q | q
          · exact absurd q hp
          · exact ⟨q.1, q.2, rg_sh_lt, by show (lk s key best n k).2.2.2 - 1 ≤ _; omega⟩
      · exact ⟨x1, x2, h3, h4⟩
theorem lk_n_le {s : rg_T} {key n : Nat} {best : Bool} : lk_n s key best n ≤ 200 := fi_le _ _
theorem lk_hp_le {s : rg_T} {key n k : Nat} {best : Bool} : lk_hp s key best n k ≤ k := rg_cu_le _ _
theorem lk_kc_le {s : rg_T} {key n c k : Nat} {best : Bool} : lk_kc s key best n c k ≤ k := rg_cu_le _ _
theorem lk_tm_le {s : rg_T} {key n k : Nat} {best : Bool} (O : rg_ok s) (hn : n < rg_N s) (hu : rg_u s n = true) (hk : k ≤ lk_n s key best n) : lk_tm s key best n k ≤ 100 * k := by
  refine sm_le k (fun j hj => ?_)
  have a := (lk_ok (key := key) (best := best) O hn hu j (by omega)).1
  have b := (lk_ok (key := key) (best := best) O hn hu (j + 1) (by omega)).1
  have c := O.1.2.2.2.2.2 _ a
  have d := O.1.2.2.2.2.2 _ b
  split
  · omega
  · unfold ad; omega
/-! the pointer, on both sides -/
def ix (c : Nat) : Int32 := nI c - nI 1
theorem ix_0 : ix 0 = nu 24 := rfl
theorem ix_s (c : Nat) : ix (c + 1) = nI c := nI_pred c
theorem ix_d (c : Nat) : nI c + nu 24 = ix c := by
  show nI c + (-1) = nI c - 1
  rw [Int32.sub_eq_add_neg]
theorem nu24_neg : (nu 24 < nI 0) ↔ True := by decide
theorem pu_ptrC {t : sr_t} {s : rg_T} {r a h : Nat} (C : rg_C t r s) (O : rg_ok s) (hr : r < 2) (ha : a < rg_N s) (hh : h < 4096) : F3_pointerFor r (25 * r + a) (nI h) t = some (.inl (some (sr_r 2 (25 * r + rg_ptr s a h))), t) := by
  have hN := O.1.1
  obtain ⟨o0, o1, o2, o3, o4, o5⟩ := O.2 a ha
  have Rw := (C.2 a ha).2.2
  have h1 : t.1 4 (2 * (25 * r + a) + 1) 1 = nI (rg_t s a 5) := Rw.1
  have at0 := pu_at Rw o4 (show 0 < rg_t s a 5 by omega)
  have l6 := o5 0 (by omega)
  have p6 := (C.1.2.2 _ l6).1
  have q6 := O.1.2.2.2.1 _ l6
  have qq : (nI (rg_p s (rg_t s a 6))).toBitVec.toNat % 4096 = rg_p s (rg_t s a 6) := by
    have q6' : rg_p s (rg_t s a 6) < 4096 := q6
    rw [pu_qn (by omega), Nat.mod_eq_of_lt q6']
  have dr : (nI h - nI (rg_p s (rg_t s a 6))) &&& nI 4095 = nI (pu_d (rg_p s (rg_t s a 6)) h) := pu_onq qq hh
  have at0' : F4_at (2 * (25 * r + a) + 1) (nI 0) t = some (.inl (some (sr_i (nI (rg_t s a 6)))), t) := at0
  have l6' : rg_t s a 6 < rg_N s := l6
  have p6' : t.1 2 (25 * r + rg_t s a 6) 1 = nI (rg_p s (rg_t s a 6)) := p6
  refine rs_eq ?_
  simp (disch := omega) only [pu_lt, pu_ck, pu_bI, pu_bV, pu_bR, pu_bL, pu_nt, pu_us, pu_un, mL_0, mL_1, mL_2, mL_3, mL_4, mL_5, mL_6, mL_7, mL_8, mL_9, mL_10, mL_11, mL_12, mL_13, mL_14, mL_15, mL_16, mL_23, mL_24, mL_32, mL_48, mL_64, mL_99, mL_100, mL_200, mL_336, mL_576, mL_768, mL_800, mL_999, mL_4095, mL_4096, mL_m1, nI_leI, nI_ltI, nI_eq, nI_clamp, nI_add, pk_mul, nI_nu, bI_eq0, bI_eq1, bo_ft, pu_of, pu_of24, pu_onward, pu_frq, if_true, if_false, true_or, or_true, false_or, or_false, and_true, true_and, and_false, false_and, not_true_eq_false, not_false_eq_true, if_neg, if_pos, F3_pointerFor, at0', p6', dr, h1]
  have ls := pu_d_lt (rg_p s (rg_t s a 6)) h
  refine rs_loop (N := rg_t s a 5) (L := fun f n t' => f3_pointerFor_38 r (25 * r + a) (nI h) (f3_pointerFor_78 r (25 * r + a) (nI h)) (f3_pointerFor_87 r (25 * r + a) (nI h)) f (2 * (25 * r + a) + 1) (nI (rg_p s (rg_t s a 6))) (nI (pu_d (rg_p s (rg_t s a 6)) h)) (ix (rg_t s a 5 - n)) t') (fun n t' => t' = t ∧ rg_ptr s a h = rg_pt s a h (rg_t s a 5 - n)) ?_ ?_ (by unfold sr_fu; omega) ⟨rfl, rfl⟩
  · rintro n g t' hn ⟨rfl, hpt⟩
    obtain ⟨c, hc⟩ : ∃ c, rg_t s a 5 - n = c + 1 := ⟨rg_t s a 5 - n - 1, by omega⟩
    have hlt := o5 c (by omega)
    have hat := pu_at Rw o4 (show c < rg_t s a 5 by omega)
    obtain ⟨p1, p2, p3⟩ := C.1.2.2 _ hlt
    have q1 := O.1.2.2.2.1 _ hlt
    have d1 : (nI (rg_p s (rg_t s a (6 + c))) - nI (rg_p s (rg_t s a 6))) &&& nI 4095 = nI (pu_d (rg_p s (rg_t s a 6)) (rg_p s (rg_t s a (6 + c)))) := pu_onq qq q1
    have ld := pu_d_lt (rg_p s (rg_t s a 6)) (rg_p s (rg_t s a (6 + c)))
    rw [hc, rg_pt_s] at hpt
    by_cases hcond : rg_u s (rg_t s a (6 + c)) = true ∧ pu_d (rg_p s (rg_t s a 6)) (rg_p s (rg_t s a (6 + c))) ≤ pu_d (rg_p s (rg_t s a 6)) h
    · right
      rw [if_pos hcond] at hpt
      rw [hcond.1] at p2
      have bt : ¬ bI true = nI 0 := by decide
      have hle := hcond.2
      show rs_to _ (f3_pointerFor_38 r (25 * r + a) (nI h) (f3_pointerFor_78 r (25 * r + a) (nI h)) (f3_pointerFor_87 r (25 * r + a) (nI h)) (g + 1) (2 * (25 * r + a) + 1) (nI (rg_p s (rg_t s a 6))) (nI (pu_d (rg_p s (rg_t s a 6)) h)) (ix (rg_t s a 5 - n)) t')
      rw [hc, ix_s]
      simp (disch := omega) only [pu_lt, pu_ck, pu_bI, pu_bV, pu_bR, pu_bL, pu_nt, pu_us, pu_un, mL_0, mL_1, mL_2, mL_3, mL_4, mL_5, mL_6, mL_7, mL_8, mL_9, mL_10, mL_11, mL_12, mL_13, mL_14, mL_15, mL_16, mL_23, mL_24, mL_32, mL_48, mL_64, mL_99, mL_100, mL_200, mL_336, mL_576, mL_768, mL_800, mL_999, mL_4095, mL_4096, mL_m1, nI_leI, nI_ltI, nI_eq, nI_clamp, nI_add, pk_mul, nI_nu, bI_eq0, bI_eq1, bo_ft, pu_of, pu_of24, pu_onward, pu_frq, if_true, if_false, true_or, or_true, false_or, or_false, and_true, true_and, and_false, false_and, not_true_eq_false, not_false_eq_true, if_neg, if_pos, f3_pointerFor_38, f3_pointerFor_78, hat, p1, p2, bt, d1]
      exact rs_ret ⟨by rw [hpt], rfl⟩
    · left
      rw [if_neg hcond] at hpt
      refine ⟨t', ⟨rfl, by rw [show rg_t s a 5 - (n + 1) = c by omega]; exact hpt⟩, ?_⟩
      show f3_pointerFor_38 r (25 * r + a) (nI h) (f3_pointerFor_78 r (25 * r + a) (nI h)) (f3_pointerFor_87 r (25 * r + a) (nI h)) (g + 1) (2 * (25 * r + a) + 1) (nI (rg_p s (rg_t s a 6))) (nI (pu_d (rg_p s (rg_t s a 6)) h)) (ix (rg_t s a 5 - n)) t' = f3_pointerFor_38 r (25 * r + a) (nI h) (f3_pointerFor_78 r (25 * r + a) (nI h)) (f3_pointerFor_87 r (25 * r + a) (nI h)) g (2 * (25 * r + a) + 1) (nI (rg_p s (rg_t s a 6))) (nI (pu_d (rg_p s (rg_t s a 6)) h)) (ix (rg_t s a 5 - (n + 1))) t'
      rw [hc, ix_s, show rg_t s a 5 - (n + 1) = c by omega, ← ix_d]
      by_cases hu : rg_u s (rg_t s a (6 + c)) = true
      · rw [hu] at p2
        have bt : ¬ bI true = nI 0 := by decide
        have hle : pu_d (rg_p s (rg_t s a 6)) h < pu_d (rg_p s (rg_t s a 6)) (rg_p s (rg_t s a (6 + c))) := Nat.lt_of_not_le fun q => hcond ⟨hu, q⟩
        simp (disch := omega) only [pu_lt, pu_ck, pu_bI, pu_bV, pu_bR, pu_bL, pu_nt, pu_us, pu_un, mL_0, mL_1, mL_2, mL_3, mL_4, mL_5, mL_6, mL_7, mL_8, mL_9, mL_10, mL_11, mL_12, mL_13, mL_14, mL_15, mL_16, mL_23, mL_24, mL_32, mL_48, mL_64, mL_99, mL_100, mL_200, mL_336, mL_576, mL_768, mL_800, mL_999, mL_4095, mL_4096, mL_m1, nI_leI, nI_ltI, nI_eq, nI_clamp, nI_add, pk_mul, nI_nu, bI_eq0, bI_eq1, bo_ft, pu_of, pu_of24, pu_onward, pu_frq, if_true, if_false, true_or, or_true, false_or, or_false, and_true, true_and, and_false, false_and, not_true_eq_false, not_false_eq_true, if_neg, if_pos, f3_pointerFor_38, f3_pointerFor_81, hat, p1, p2, bt, d1]
      · rw [show rg_u s (rg_t s a (6 + c)) = false by simpa using hu] at p2
        have bf : bI false = nI 0 := rfl
        simp (disch := omega) only [pu_lt, pu_ck, pu_bI, pu_bV, pu_bR, pu_bL, pu_nt, pu_us, pu_un, mL_0, mL_1, mL_2, mL_3, mL_4, mL_5, mL_6, mL_7, mL_8, mL_9, mL_10, mL_11, mL_12, mL_13, mL_14, mL_15, mL_16, mL_23, mL_24, mL_32, mL_48, mL_64, mL_99, mL_100, mL_200, mL_336, mL_576, mL_768, mL_800, mL_999, mL_4095, mL_4096, mL_m1, nI_leI, nI_ltI, nI_eq, nI_clamp, nI_add, pk_mul, nI_nu, bI_eq0, bI_eq1, bo_ft, pu_of, pu_of24, pu_onward, pu_frq, if_true, if_false, true_or, or_true, false_or, or_false, and_true, true_and, and_false, false_and, not_true_eq_false, not_false_eq_true, if_neg, if_pos, f3_pointerFor_38, f3_pointerFor_81, hat, p1, p2, bf, d1]
  · rintro g t' ⟨rfl, hpt⟩
    rw [Nat.sub_self] at hpt
    show rs_to _ (f3_pointerFor_38 r (25 * r + a) (nI h) (f3_pointerFor_78 r (25 * r + a) (nI h)) (f3_pointerFor_87 r (25 * r + a) (nI h)) (g + 1) (2 * (25 * r + a) + 1) (nI (rg_p s (rg_t s a 6))) (nI (pu_d (rg_p s (rg_t s a 6)) h)) (ix (rg_t s a 5 - rg_t s a 5)) t')
    rw [Nat.sub_self, ix_0]
    simp (disch := omega) only [pu_lt, pu_ck, pu_bI, pu_bV, pu_bR, pu_bL, pu_nt, pu_us, pu_un, mL_0, mL_1, mL_2, mL_3, mL_4, mL_5, mL_6, mL_7, mL_8, mL_9, mL_10, mL_11, mL_12, mL_13, mL_14, mL_15, mL_16, mL_23, mL_24, mL_32, mL_48, mL_64, mL_99, mL_100, mL_200, mL_336, mL_576, mL_768, mL_800, mL_999, mL_4095, mL_4096, mL_m1, nI_leI, nI_ltI, nI_eq, nI_clamp, nI_add, pk_mul, nI_nu, bI_eq0, bI_eq1, bo_ft, pu_of, pu_of24, pu_onward, pu_frq, if_true, if_false, true_or, or_true, false_or, or_false, and_true, true_and, and_false, false_and, not_true_eq_false, not_false_eq_true, if_neg, if_pos, f3_pointerFor_38, f3_pointerFor_87, nu24_neg]
    exact rs_ret ⟨by rw [hpt]; rfl, rfl⟩
theorem pu_ptrR {t : sr_t} {s : rg_T} {a h : Nat} (R : rg_RN t s) (O : rg_ok s) (ha : a < rg_N s) (hh : h < 4096) : F11_pointerTo (nI a) (nI h) t = some (.inl (some (sr_i (nu (rg_ptr s a h)))), t) := by
  have hN := O.1.1
  obtain ⟨o0, o1, o2, o3, o4, o5⟩ := O.2 a ha
  have tb5 := pu_tb5 R O ha
  have tb6 : F11_tableOf (nI a) (nI 6) t = some (.inl (some (sr_i (nI (rg_t s a 6)))), t) := pu_tb6 (k := 0) R O ha (by omega)
  have l6 : rg_t s a 6 < rg_N s := o5 0 (by omega)
  have p6 := (rg_RN_nd R l6).1
  have q6 := O.1.2.2.2.1 _ l6
  have qq : (nI (rg_p s (rg_t s a 6))).toBitVec.toNat % 4096 = rg_p s (rg_t s a 6) := by rw [pu_qn (by omega), Nat.mod_eq_of_lt q6]
  have dr : (nI h - nI (rg_p s (rg_t s a 6))) &&& nI 4095 = nI (pu_d (rg_p s (rg_t s a 6)) h) := pu_onq qq hh
  have ls := pu_d_lt (rg_p s (rg_t s a 6)) h
  simp (disch := omega) only [pu_lt, pu_ck, pu_bI, pu_bV, pu_bR, pu_bL, pu_nt, pu_us, pu_un, mL_0, mL_1, mL_2, mL_3, mL_4, mL_5, mL_6, mL_7, mL_8, mL_9, mL_10, mL_11, mL_12, mL_13, mL_14, mL_15, mL_16, mL_23, mL_24, mL_32, mL_48, mL_64, mL_99, mL_100, mL_200, mL_336, mL_576, mL_768, mL_800, mL_999, mL_4095, mL_4096, mL_m1, nI_leI, nI_ltI, nI_eq, nI_clamp, nI_add, pk_mul, nI_nu, bI_eq0, bI_eq1, bo_ft, pu_of, pu_of24, pu_onward, pu_frq, if_true, if_false, true_or, or_true, false_or, or_false, and_true, true_and, and_false, false_and, not_true_eq_false, not_false_eq_true, if_neg, if_pos, F11_pointerTo, tb6, pu_ixN', p6]
  refine pu_for (N := rg_t s a 5) (L := fun f k => f11_pointerTo_19 (nI a) (nI h) (f11_pointerTo_82 (nI a) (nI h)) f (nI (rg_p s (rg_t s a 6))) (nu (rg_pt s a h k)) (nI k) t) ?_ ?_ (pu_fu (by omega))
  · intro k g hk
    have hlt := o5 k hk
    have tbk := pu_tb6 R O ha hk
    obtain ⟨p1, p2, p3⟩ := rg_RN_nd R hlt
    have q1 := O.1.2.2.2.1 _ hlt
    have d1 : (nI (rg_p s (rg_t s a (6 + k))) - nI (rg_p s (rg_t s a 6))) &&& nI 4095 = nI (pu_d (rg_p s (rg_t s a 6)) (rg_p s (rg_t s a (6 + k)))) := pu_onq qq q1
    have ld := pu_d_lt (rg_p s (rg_t s a 6)) (rg_p s (rg_t s a (6 + k)))
    show f11_pointerTo_19 (nI a) (nI h) (f11_pointerTo_82 (nI a) (nI h)) (g + 1) (nI (rg_p s (rg_t s a 6))) (nu (rg_pt s a h k)) (nI k) t = f11_pointerTo_19 (nI a) (nI h) (f11_pointerTo_82 (nI a) (nI h)) g (nI (rg_p s (rg_t s a 6))) (nu (rg_pt s a h (k + 1))) (nI (k + 1)) t
    rw [rg_pt_s]
    by_cases hu : rg_u s (rg_t s a (6 + k)) = true
    · rw [hu] at p2
      have bt : bI true = nI 1 := rfl
      by_cases hle : pu_d (rg_p s (rg_t s a 6)) (rg_p s (rg_t s a (6 + k))) ≤ pu_d (rg_p s (rg_t s a 6)) h
      · rw [if_pos ⟨hu, hle⟩, nu_lt (show rg_t s a (6 + k) < 24 by omega)]
        simp (disch := omega) only [pu_lt, pu_ck, pu_bI, pu_bV, pu_bR, pu_bL, pu_nt, pu_us, pu_un, mL_0, mL_1, mL_2, mL_3, mL_4, mL_5, mL_6, mL_7, mL_8, mL_9, mL_10, mL_11, mL_12, mL_13, mL_14, mL_15, mL_16, mL_23, mL_24, mL_32, mL_48, mL_64, mL_99, mL_100, mL_200, mL_336, mL_576, mL_768, mL_800, mL_999, mL_4095, mL_4096, mL_m1, nI_leI, nI_ltI, nI_eq, nI_clamp, nI_add, pk_mul, nI_nu, bI_eq0, bI_eq1, bo_ft, pu_of, pu_of24, pu_onward, pu_frq, if_true, if_false, true_or, or_true, false_or, or_false, and_true, true_and, and_false, false_and, not_true_eq_false, not_false_eq_true, if_neg, if_pos, f11_pointerTo_19, f11_pointerTo_76, tb5, tbk, pu_ixN', p1, p2, bt, d1, dr]
      · rw [if_neg (fun q => hle q.2)]
        simp (disch := omega) only [pu_lt, pu_ck, pu_bI, pu_bV, pu_bR, pu_bL, pu_nt, pu_us, pu_un, mL_0, mL_1, mL_2, mL_3, mL_4, mL_5, mL_6, mL_7, mL_8, mL_9, mL_10, mL_11, mL_12, mL_13, mL_14, mL_15, mL_16, mL_23, mL_24, mL_32, mL_48, mL_64, mL_99, mL_100, mL_200, mL_336, mL_576, mL_768, mL_800, mL_999, mL_4095, mL_4096, mL_m1, nI_leI, nI_ltI, nI_eq, nI_clamp, nI_add, pk_mul, nI_nu, bI_eq0, bI_eq1, bo_ft, pu_of, pu_of24, pu_onward, pu_frq, if_true, if_false, true_or, or_true, false_or, or_false, and_true, true_and, and_false, false_and, not_true_eq_false, not_false_eq_true, if_neg, if_pos, f11_pointerTo_19, f11_pointerTo_76, tb5, tbk, pu_ixN', p1, p2, bt, d1, dr]
    · rw [if_neg (fun q => hu q.1)]
      rw [show rg_u s (rg_t s a (6 + k)) = false by simpa using hu] at p2
      have bf : ¬ bI false = nI 1 := by decide
      simp (disch := omega) only [pu_lt, pu_ck, pu_bI, pu_bV, pu_bR, pu_bL, pu_nt, pu_us, pu_un, mL_0, mL_1, mL_2, mL_3, mL_4, mL_5, mL_6, mL_7, mL_8, mL_9, mL_10, mL_11, mL_12, mL_13, mL_14, mL_15, mL_16, mL_23, mL_24, mL_32, mL_48, mL_64, mL_99, mL_100, mL_200, mL_336, mL_576, mL_768, mL_800, mL_999, mL_4095, mL_4096, mL_m1, nI_leI, nI_ltI, nI_eq, nI_clamp, nI_add, pk_mul, nI_nu, bI_eq0, bI_eq1, bo_ft, pu_of, pu_of24, pu_onward, pu_frq, if_true, if_false, true_or, or_true, false_or, or_false, and_true, true_and, and_false, false_and, not_true_eq_false, not_false_eq_true, if_neg, if_pos, f11_pointerTo_19, f11_pointerTo_76, tb5, tbk, pu_ixN', p1, p2, bf, d1, dr]
  · intro g
    show f11_pointerTo_19 (nI a) (nI h) (f11_pointerTo_82 (nI a) (nI h)) (g + 1) (nI (rg_p s (rg_t s a 6))) (nu (rg_pt s a h (rg_t s a 5))) (nI (rg_t s a 5)) t = _
    simp (disch := omega) only [pu_lt, pu_ck, pu_bI, pu_bV, pu_bR, pu_bL, pu_nt, pu_us, pu_un, mL_0, mL_1, mL_2, mL_3, mL_4, mL_5, mL_6, mL_7, mL_8, mL_9, mL_10, mL_11, mL_12, mL_13, mL_14, mL_15, mL_16, mL_23, mL_24, mL_32, mL_48, mL_64, mL_99, mL_100, mL_200, mL_336, mL_576, mL_768, mL_800, mL_999, mL_4095, mL_4096, mL_m1, nI_leI, nI_ltI, nI_eq, nI_clamp, nI_add, pk_mul, nI_nu, bI_eq0, bI_eq1, bo_ft, pu_of, pu_of24, pu_onward, pu_frq, if_true, if_false, true_or, or_true, false_or, or_false, and_true, true_and, and_false, false_and, not_true_eq_false, not_false_eq_true, if_neg, if_pos, f11_pointerTo_19, f11_pointerTo_82, tb5]
    rfl
end
