section
/-! the reference's lookup -/
def lk_v (s : rg_T) (key : Nat) (best : Bool) (n : Nat) : Nat → Nat → Bool
  | 0, _ => false
  | k + 1, m => lk_v s key best n k m || (lk_at s key best n k != lk_at s key best n (k + 1) && lk_at s key best n (k + 1) == m)
def lk_x (s : rg_T) (key : Nat) (best : Bool) (n x y k : Nat) : Nat := rg_cu (fun j => lk_at s key best n j != lk_at s key best n (j + 1) && (lk_at s key best n j == x && lk_at s key best n (j + 1) == y)) k
def S_hp (k i j : Nat) : Prop := (k = 11 ∧ i = 0 ∧ (j = 10 ∨ j = 13 ∨ j = 19)) ∨ (k = 35 ∧ i = 0) ∨ (k = 36 ∧ i = 0)
theorem ad_comm (x y : Nat) : ad x y = ad y x := by unfold ad; omega
set_option maxHeartbeats 2000000 in
theorem pu_hopsTo {t : sr_t} {s : rg_T} {a m hp tm : Nat} (R : rg_RN t s) (O : rg_ok s) (ha : a < rg_N s) (hm : m < rg_N s) (H10 : t.1 11 0 10 = nI a) (H13 : t.1 11 0 13 = nI hp) (H19 : t.1 11 0 19 = nI tm) : ∃ t', F11_hopsTo (nI m) t = some (.inl none, t') ∧ t'.1 11 0 10 = nI m ∧ t'.1 11 0 13 = nI (hp + if a = m then 0 else 1) ∧ t'.1 11 0 19 = nI (tm + if a = m then 0 else 1 + ad (rg_s s a) (rg_s s m)) ∧ (∀ y, y < 24 → t'.1 35 0 y = if a ≠ m ∧ y = m then nI 1 else t.1 35 0 y) ∧ (∀ x y, x < 24 → y < 24 → t'.1 36 0 (24 * x + y) = if a ≠ m ∧ (x = a ∧ y = m) then t.1 36 0 (24 * x + y) + nI 1 else t.1 36 0 (24 * x + y)) ∧ fr S_hp t t' := by
  have hN := O.1.1
  have s1 := (rg_RN_nd R ha).2.2
  have s2 := (rg_RN_nd R hm).2.2
  have z1 := O.1.2.2.2.2.2 a ha
  have z2 := O.1.2.2.2.2.2 m hm
  refine rs_via fun Q hQ => ?_
  by_cases e : a = m
  · rw [if_pos e, if_pos e] at hQ
    have e' : m = a := e.symm
    simp (disch := omega) only [pu_lt, pu_ck, pu_bI, pu_bV, pu_bR, pu_bL, pu_nt, pu_us, pu_un, mL_0, mL_1, mL_2, mL_3, mL_4, mL_5, mL_6, mL_7, mL_8, mL_9, mL_10, mL_11, mL_12, mL_13, mL_14, mL_15, mL_16, mL_23, mL_24, mL_32, mL_48, mL_64, mL_99, mL_100, mL_200, mL_336, mL_576, mL_768, mL_800, mL_999, mL_4095, mL_4096, mL_m1, nI_leI, nI_ltI, nI_eq, nI_clamp, nI_add, pk_mul, nI_nu, bI_eq0, bI_eq1, bo_ft, pu_of, pu_of24, pu_onward, pu_frq, if_true, if_false, true_or, or_true, false_or, or_false, and_true, true_and, and_false, false_and, not_true_eq_false, not_false_eq_true, if_neg, if_pos, F11_hopsTo, f11_hopsTo_81, H10, e']
    refine rs_ret (hQ _ ⟨?_, ?_, ?_, fun y hy => ?_, fun x y hx hy => ?_, fr_u fr_rfl (by unfold S_hp; omega)⟩)
    · rw [pu_us, e]
    · rw [pu_un (by omega), H13]; rfl
    · rw [pu_un (by omega), H19]; rfl
    · rw [pu_un (by omega), if_neg (fun q => q.1 (by omega))]
    · rw [pu_un (by omega), if_neg (fun q => q.1 (by omega))]
  · rw [if_neg e, if_neg e] at hQ
    have key : ∀ v : Int32, v = nI (ad (rg_s s a) (rg_s s m)) → rs_to Q (f11_hopsTo_51 (nI m) v (nI 1) (nI tm) (sr_u t 11 0 13 (nI (hp + 1)))) := by
      intro v hv
      subst hv
      simp (disch := omega) only [pu_lt, pu_ck, pu_bI, pu_bV, pu_bR, pu_bL, pu_nt, pu_us, pu_un, mL_0, mL_1, mL_2, mL_3, mL_4, mL_5, mL_6, mL_7, mL_8, mL_9, mL_10, mL_11, mL_12, mL_13, mL_14, mL_15, mL_16, mL_23, mL_24, mL_32, mL_48, mL_64, mL_99, mL_100, mL_200, mL_336, mL_576, mL_768, mL_800, mL_999, mL_4095, mL_4096, mL_m1, nI_leI, nI_ltI, nI_eq, nI_clamp, nI_add, pk_mul, nI_nu, bI_eq0, bI_eq1, bo_ft, pu_of, pu_of24, pu_onward, pu_frq, if_true, if_false, true_or, or_true, false_or, or_false, and_true, true_and, and_false, false_and, not_true_eq_false, not_false_eq_true, if_neg, if_pos, f11_hopsTo_51, f11_hopsTo_81, H10, pu_ixN']
      refine rs_ret (hQ _ ⟨?_, ?_, ?_, fun y hy => ?_, fun x y hx hy => ?_, fr_u (fr_u (fr_u (fr_u (fr_u fr_rfl (by unfold S_hp; omega)) (by unfold S_hp; omega)) (by unfold S_hp; omega)) (by unfold S_hp; omega)) (by unfold S_hp; omega)⟩)
      · rw [pu_us]
      · rw [pu_un (by omega), pu_un (by omega), pu_un (by omega), pu_un (by omega), pu_us]
      · rw [pu_un (by omega), pu_un (by omega), pu_un (by omega), pu_us]
      · by_cases ey : y = m
        · rw [if_pos ⟨e, ey⟩, ey, pu_un (by omega), pu_un (by omega), pu_us]
        · rw [if_neg (fun q => ey q.2), pu_un (by omega), pu_un (by omega), pu_un (by omega), pu_un (by omega), pu_un (by omega)]
      · by_cases ey : x = a ∧ y = m
        · obtain ⟨ex, ey⟩ := ey
          rw [if_pos ⟨e, ex, ey⟩, ex, ey, pu_un (by omega), pu_us]
        · rw [if_neg (fun q => ey q.2), pu_un (by omega), pu_un (by omega), pu_un (by omega), pu_un (by omega), pu_un (by omega)]
    have e' : ¬ m = a := fun h => e h.symm
    by_cases h : rg_s s a ≤ rg_s s m
    · have k1 := key (nI (rg_s s m - rg_s s a)) (by unfold ad; rw [show rg_s s a - rg_s s m = 0 by omega, Nat.zero_add])
      simp (disch := omega) only [pu_lt, pu_ck, pu_bI, pu_bV, pu_bR, pu_bL, pu_nt, pu_us, pu_un, mL_0, mL_1, mL_2, mL_3, mL_4, mL_5, mL_6, mL_7, mL_8, mL_9, mL_10, mL_11, mL_12, mL_13, mL_14, mL_15, mL_16, mL_23, mL_24, mL_32, mL_48, mL_64, mL_99, mL_100, mL_200, mL_336, mL_576, mL_768, mL_800, mL_999, mL_4095, mL_4096, mL_m1, nI_leI, nI_ltI, nI_eq, nI_clamp, nI_add, pk_mul, nI_nu, bI_eq0, bI_eq1, bo_ft, pu_of, pu_of24, pu_onward, pu_frq, if_true, if_false, true_or, or_true, false_or, or_false, and_true, true_and, and_false, false_and, not_true_eq_false, not_false_eq_true, if_neg, if_pos, F11_hopsTo, H10, H13, H19, e', pu_ixN', s1, s2, pk_sub]
      exact k1
    · have hng : nI (rg_s s m) - nI (rg_s s a) < 0 := pk_sneg (by omega) (by omega)
      have hng' : ¬ nI 0 ≤ nI (rg_s s m) - nI (rg_s s a) := fun q => Int32.lt_irrefl (Int32.lt_of_lt_of_le hng q)
      have k1 := key (-(nI (rg_s s m) - nI (rg_s s a))) (by rw [Int32.neg_sub, pk_sub (by omega)]; unfold ad; rw [show rg_s s m - rg_s s a = 0 by omega, Nat.add_zero])
      simp (disch := omega) only [pu_lt, pu_ck, pu_bI, pu_bV, pu_bR, pu_bL, pu_nt, pu_us, pu_un, mL_0, mL_1, mL_2, mL_3, mL_4, mL_5, mL_6, mL_7, mL_8, mL_9, mL_10, mL_11, mL_12, mL_13, mL_14, mL_15, mL_16, mL_23, mL_24, mL_32, mL_48, mL_64, mL_99, mL_100, mL_200, mL_336, mL_576, mL_768, mL_800, mL_999, mL_4095, mL_4096, mL_m1, nI_leI, nI_ltI, nI_eq, nI_clamp, nI_add, pk_mul, nI_nu, bI_eq0, bI_eq1, bo_ft, pu_of, pu_of24, pu_onward, pu_frq, if_true, if_false, true_or, or_true, false_or, or_false, and_true, true_and, and_false, false_and, not_true_eq_false, not_false_eq_true, if_neg, if_pos, F11_hopsTo, H10, H13, H19, e', pu_ixN', s1, s2, hng']
      exact k1
/-- the reference, k steps on; t0: what lay there before -/
def rf_I (t0 t : sr_t) (kp : Bool) (s : rg_T) (key : Nat) (best : Bool) (n k : Nat) : Prop := (t.1 11 0 10 = nI (lk_at s key best n k) ∧ t.1 11 0 11 = nI (lk_he s key best n k) ∧ t.1 11 0 12 = nI (lk_le s key best n k) ∧ t.1 11 0 17 = nI k) ∧ (t.1 11 0 13 = nI (lk_hp s key best n k) ∧ t.1 11 0 14 = nI (lk_kc s key best n 0 k) ∧ t.1 11 0 15 = nI (lk_kc s key best n 1 k) ∧ t.1 11 0 16 = nI (lk_kc s key best n 2 k) ∧ t.1 11 0 19 = nI (lk_tm s key best n k)) ∧ t.1 11 0 22 = bI kp ∧ (kp = true → ∀ j, j < k → t.1 29 0 j = nI (lk_at s key best n j) ∧ t.1 30 0 j = nI (lk_he s key best n j) ∧ t.1 31 0 j = nI (lk_le s key best n j) ∧ t.1 32 0 j = nI (lk_ki s key best n j)) ∧ (∀ y, y < 24 → t.1 35 0 y = bI (lk_v s key best n k y)) ∧ (∀ x y, x < 24 → y < 24 → t.1 36 0 (24 * x + y) = t0.1 36 0 (24 * x + y) + nI (lk_x s key best n x y k))
def S_gs (kp : Bool) (k i j : Nat) : Prop := (k = 11 ∧ i = 0 ∧ 10 ≤ j ∧ j ≤ 19 ∧ j ≠ 18) ∨ (k = 35 ∧ i = 0) ∨ (k = 36 ∧ i = 0) ∨ (kp.toNat = 1 ∧ 29 ≤ k ∧ k ≤ 32)
theorem cu1 {u : Nat → Bool} {k : Nat} {b : Bool} (h : u k = b) : rg_cu u (k + 1) = rg_cu u k + if b = true then 1 else 0 := by rw [rg_cu_s, h]
theorem rf_next {t0 t t1 : sr_t} {kp : Bool} {s : rg_T} {key : Nat} {best : Bool} {n k a m c h' l' : Nat} (I : rf_I t0 t kp s key best n k) (ea : lk_at s key best n k = a) (es : lk s key best n (k + 1) = (c, m, h', l')) (H10 : t1.1 11 0 10 = nI m) (H11 : t1.1 11 0 11 = nI h') (H12 : t1.1 11 0 12 = nI l') (H17 : t1.1 11 0 17 = nI (k + 1)) (H13 : t1.1 11 0 13 = nI (lk_hp s key best n k + if a = m then 0 else 1)) (H14 : t1.1 11 0 14 = nI (lk_kc s key best n 0 k + if c = 0 then 1 else 0)) (H15 : t1.1 11 0 15 = nI (lk_kc s key best n 1 k + if c = 1 then 1 else 0)) (H16 : t1.1 11 0 16 = nI (lk_kc s key best n 2 k + if c = 2 then 1 else 0)) (H19 : t1.1 11 0 19 = nI (lk_tm s key best n k + if a = m then 0 else 1 + ad (rg_s s a) (rg_s s m))) (H22 : t1.1 11 0 22 = bI kp) (Hr : kp = true → (t1.1 29 0 k = nI a ∧ t1.1 30 0 k = nI (lk_he s key best n k) ∧ t1.1 31 0 k = nI (lk_le s key best n k) ∧ t1.1 32 0 k = nI c) ∧ ∀ x j, 29 ≤ x → x ≤ 32 → j < k → t1.1 x 0 j = t.1 x 0 j) (Hv : ∀ y, y < 24 → t1.1 35 0 y = if a ≠ m ∧ y = m then nI 1 else t.1 35 0 y) (Hx : ∀ x y, x < 24 → y < 24 → t1.1 36 0 (24 * x + y) = if a ≠ m ∧ (x = a ∧ y = m) then t.1 36 0 (24 * x + y) + nI 1 else t.1 36 0 (24 * x + y)) : rf_I t0 t1 kp s key best n (k + 1) := by
  have em : lk_at s key best n (k + 1) = m := by unfold lk_at; rw [es]
  have eh' : lk_he s key best n (k + 1) = h' := by unfold lk_he; rw [es]
  have el' : lk_le s key best n (k + 1) = l' := by unfold lk_le; rw [es]
  have ec : lk_ki s key best n k = c := by unfold lk_ki; rw [es]
  obtain ⟨_, _, _, Ir, Iv, Ix⟩ := I
  refine ⟨⟨by rw [em]; exact H10, by rw [eh']; exact H11, by rw [el']; exact H12, H17⟩, ⟨?_, ?_, ?_, ?_, ?_⟩, H22, fun hkp j hj => ?_, fun y hy => ?_, fun x y hx hy => ?_⟩
  · rw [H13]
    congr 1
    show _ = rg_cu _ k + (if (lk_at s key best n k != lk_at s key best n (k + 1)) = true then 1 else 0)
    rw [ea, em]
    show rg_cu _ k + _ = _
    by_cases e : a = m
    · rw [if_pos e, if_neg (by simp [e])]
    · rw [if_neg e, if_pos (by simp [e])]
  · rw [H14]
    congr 1
    show _ = rg_cu _ k + (if (lk_ki s key best n k == 0) = true then 1 else 0)
    rw [ec]
    show rg_cu _ k + _ = _
    simp
  · rw [H15]
    congr 1
    show _ = rg_cu _ k + (if (lk_ki s key best n k == 1) = true then 1 else 0)
    rw [ec]
    show rg_cu _ k + _ = _
    simp
  · rw [H16]
    congr 1
    show _ = rg_cu _ k + (if (lk_ki s key best n k == 2) = true then 1 else 0)
    rw [ec]
    show rg_cu _ k + _ = _
    simp
  · rw [H19]
    congr 1
    show _ = sm _ k + (if lk_at s key best n k = lk_at s key best n (k + 1) then 0 else 1 + ad (rg_s s (lk_at s key best n k)) (rg_s s (lk_at s key best n (k + 1))))
    rw [ea, em]
    rfl
  · obtain ⟨r1, r2⟩ := Hr hkp
    by_cases e : j = k
    · rw [e, ea, ec]; exact r1
    · rw [r2 29 j (by omega) (by omega) (by omega), r2 30 j (by omega) (by omega) (by omega), r2 31 j (by omega) (by omega) (by omega), r2 32 j (by omega) (by omega) (by omega)]
      exact Ir hkp j (by omega)
  · rw [Hv y hy]
    show _ = bI (lk_v s key best n k y || (lk_at s key best n k != lk_at s key best n (k + 1) && lk_at s key best n (k + 1) == y))
    rw [ea, em, Iv y hy]
    by_cases e : a ≠ m ∧ y = m
    · rw [if_pos e]
      have : (a != m && m == y) = true := by simp [e.1, e.2]
      rw [this, Bool.or_true]
      rfl
    · rw [if_neg e]
      have : (a != m && m == y) = false := by
        rw [Bool.and_eq_false_iff]
        by_cases e1 : a = m
        · left; simp [e1]
        · right
          have : ¬ m = y := fun q => e ⟨e1, q.symm⟩
          simp [this]
      rw [this, Bool.or_false]
  · rw [Hx x y hx hy, Ix x y hx hy]
    have ex : lk_x s key best n x y (k + 1) = lk_x s key best n x y k + if (a != m && (a == x && m == y)) = true then 1 else 0 := by
      show rg_cu _ k + (if (lk_at s key best n k != lk_at s key best n (k + 1) && (lk_at s key best n k == x && lk_at s key best n (k + 1) == y)) = true then 1 else 0) = _
      rw [ea, em]
      rfl
    rw [ex]
    by_cases e : a ≠ m ∧ (x = a ∧ y = m)
    · have : (a != m && (a == x && m == y)) = true := by simp [e.1, e.2.1, e.2.2]
      rw [if_pos e, this, if_pos rfl, Int32.add_assoc, nI_add]
    · have : ¬ (a != m && (a == x && m == y)) = true := by
        intro q
        simp only [Bool.and_eq_true, bne_iff_ne, ne_eq, beq_iff_eq] at q
        exact e ⟨q.1, q.2.1.symm, q.2.2.symm⟩
      rw [if_neg e, if_neg this, Nat.add_zero]
end
