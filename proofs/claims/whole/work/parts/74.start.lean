section
/-! where a lookup starts -/
theorem fu1 : sr_fu = 999999 + 1 := rfl
theorem rg_ar_pos {s : rg_T} {n : Nat} (O : rg_ok s) (hn : n < rg_N s) (hx : rg_nx s n ≠ 24) : 1 ≤ rg_ar s n := by
  unfold rg_ar
  rw [if_neg hx]
  by_cases e : rg_nx s n = n
  · rw [if_pos e]; omega
  · rw [if_neg e]
    have hx' : rg_nx s n < rg_N s := by
      rcases rg_nx_cases O hn with h | h
      · exact absurd h hx
      · exact h.1
    have p1 := O.1.2.2.2.1 n hn
    have p2 := O.1.2.2.2.1 _ hx'
    have q : pu_d (rg_p s n) (rg_p s (rg_nx s n)) ≠ 0 := fun h => e (O.1.2.2.2.2.1 _ _ hn hx' ((pu_d_0 p1 p2).mp h)).symm
    omega
theorem pu_mod12 {w p e : Nat} (hw : w < 4096) (hp : p < 4096) (he : e ≤ 12) : (nI w - nI p).toBitVec.toNat % 2 ^ e = (w + 4096 - p) % 2 ^ e := by
  have h0 : (nI w - nI p).toBitVec = BitVec.ofNat 32 w - BitVec.ofNat 32 p := rfl
  rw [h0]
  simp only [BitVec.toNat_sub, BitVec.toNat_ofNat]
  have d32 : 2 ^ 32 = 2 ^ e * 2 ^ (32 - e) := by rw [← Nat.pow_add, show e + (32 - e) = 32 by omega]
  have d12 : 4096 = 2 ^ e * 2 ^ (12 - e) := by rw [← Nat.pow_add, show e + (12 - e) = 12 by omega]
  rw [Nat.mod_eq_of_lt (show w < 2 ^ 32 by omega), Nat.mod_eq_of_lt (show p < 2 ^ 32 by omega)]
  rw [Nat.mod_mod_of_dvd _ ⟨_, d32⟩]
  have e1 : 2 ^ 32 - p + w = (w + 4096 - p) + 2 ^ e * (2 ^ (32 - e) - 2 ^ (12 - e)) := by
    rw [Nat.mul_sub, ← d32, ← d12]
    omega
  rw [e1, Nat.add_mul_mod_self_left]
def S_st (i0 k i j : Nat) : Prop := k = 8 ∧ i = i0 ∧ (j = 4 ∨ j = 5)
def tp_H (t : sr_t) (i0 r a key : Nat) (best : Bool) : Prop := t.1 8 i0 0 = nI r ∧ t.1 8 i0 1 = nI key ∧ t.1 8 i0 2 = bI best ∧ t.1 8 i0 3 = nI (25 * r + a)
theorem rg_of_lt {s : rg_T} {key n m : Nat} : rg_of s key n m < 4097 := by
  unfold rg_of
  have h1 : 2 ^ (12 - rg_b s * m) ≤ 4096 := pu_pow12 (by omega)
  have h2 := Nat.mod_lt (key / 2 ^ (rg_b s * m) + 4096 - rg_p s n) (Nat.two_pow_pos (12 - rg_b s * m))
  omega
set_option maxHeartbeats 2000000 in
theorem pu_startC {t : sr_t} {s : rg_T} {i0 r a key : Nat} {best : Bool} (C : rg_C t r s) (K : rg_K t r s) (O : rg_ok s) (hr : r < 2) (ha : a < rg_N s) (hu : rg_u s a = true) (hk : key < 4096) (H : tp_H t i0 r a key best) : ∃ t', F8_startHere i0 t = some (.inl none, t') ∧ t'.1 8 i0 4 = nI (rg_sta s key best a).1 ∧ t'.1 8 i0 5 = nI (rg_sta s key best a).2 ∧ fr (S_st i0) t t' := by
  have hN := O.1.1
  obtain ⟨H0, H1, H2, H3⟩ := H
  obtain ⟨b1, b4⟩ := O.1.2.1
  have hL := pu_Lpos b1 b4
  have hp := (C.1.2.2 a ha).1
  have pa := O.1.2.2.2.1 a ha
  have h7 := C.1.1.2.2.2.1
  have k5 := (K.2 a ha).1
  have k6 := (K.2 a ha).2.1
  rw [rg_kx, if_pos hu] at k5
  rw [rg_ka, if_pos hu] at k6
  have nxl := rg_nx_le O ha
  have arl := rg_ar_le (s := s) (n := a)
  have f4 : fr (S_st i0) t (sr_u (sr_u t 8 i0 4 (nI (rg_p s a))) 8 i0 5 (nI (12 / rg_b s))) := fr_u (fr_u fr_rfl (by unfold S_st; omega)) (by unfold S_st; omega)
  have hd : rg_head (sr_u (sr_u t 8 i0 4 (nI (rg_p s a))) 8 i0 5 (nI (12 / rg_b s))) r s := (rg_B_fr hN f4 (fun k i j q => by unfold Fp_B at q; unfold S_st; omega) C.1).1
  refine rs_via fun Q hQ => ?_
  by_cases hb : best = true ∧ rg_nx s a ≠ 24
  · obtain ⟨hb1, hb2⟩ := hb
    subst hb1
    have est : rg_sta s key true a = ((rg_p s a + rg_of s key a (rg_ms s key a)) % 4096, rg_ms s key a) := if_pos ⟨rfl, hb2⟩
    have bt : ¬ bI true = nI 0 := by decide
    have k5' : ¬ nu (rg_nx s a) = nu 24 := fun h => hb2 ((nu_eq24 nxl).mp h)
    rw [est] at hQ
    simp (disch := omega) only [pu_lt, pu_ck, pu_bI, pu_bV, pu_bR, pu_bL, pu_nt, pu_us, pu_un, mL_0, mL_1, mL_2, mL_3, mL_4, mL_5, mL_6, mL_7, mL_8, mL_9, mL_10, mL_11, mL_12, mL_13, mL_14, mL_15, mL_16, mL_23, mL_24, mL_32, mL_48, mL_64, mL_99, mL_100, mL_200, mL_336, mL_576, mL_768, mL_800, mL_999, mL_4095, mL_4096, mL_m1, nI_leI, nI_ltI, nI_eq, nI_clamp, nI_add, pk_mul, nI_nu, bI_eq0, bI_eq1, bo_ft, pu_of, pu_of24, pu_onward, pu_frq, if_true, if_false, true_or, or_true, false_or, or_false, and_true, true_and, and_false, false_and, not_true_eq_false, not_false_eq_true, if_neg, if_pos, F8_startHere, H0, H1, H2, H3, hp, h7, k5, bt, k5', f8_startHere_51]
    refine rs_loop (N := 12 / rg_b s) (L := fun f m t' => f8_startHere_54 i0 (f8_startHere_103 i0) (f8_startHere_133 i0) f (nI (12 / rg_b s)) (nI m) t') (fun m t' => t' = (sr_u (sr_u t 8 i0 4 (nI (rg_p s a))) 8 i0 5 (nI (12 / rg_b s))) ∧ ∀ j, j < m → decide (rg_of s key a j < rg_ar s a) = false) ?_ ?_ (by unfold sr_fu; omega) ⟨rfl, fun j hj => by omega⟩
    · rintro m g t' hm ⟨rfl, hno⟩
      have w1 := pu_wLastC hd O.1 hk (Nat.le_of_lt hm)
      have wle : key / 2 ^ (rg_b s * m) ≤ key := Nat.div_le_self _ _
      have w2 := pu_wFirstC (x := nI (key / 2 ^ (rg_b s * m)) - nI (rg_p s a)) hd O.1 (Nat.le_of_lt hm)
      rw [pu_mod12 (by omega) pa (by omega)] at w2
      have w2' : F3_withoutFirst r (nI (key / 2 ^ (rg_b s * m)) - nI (rg_p s a)) (nI m) (sr_u (sr_u t 8 i0 4 (nI (rg_p s a))) 8 i0 5 (nI (12 / rg_b s))) = some (.inl (some (sr_i (nI (rg_of s key a m)))), (sr_u (sr_u t 8 i0 4 (nI (rg_p s a))) 8 i0 5 (nI (12 / rg_b s)))) := w2
      have ofl := rg_of_lt (s := s) (key := key) (n := a) (m := m)
      by_cases hx : rg_of s key a m < rg_ar s a
      · right
        have ems : rg_ms s key a = m := fi_eq (Nat.le_of_lt hm) hno (fun _ => decide_eq_true hx)
        rw [ems] at hQ
        have eand : nI (rg_p s a + rg_of s key a m) &&& nI 4095 = nI ((rg_p s a + rg_of s key a m) % 2 ^ 12) := pk_andN (by omega) 12 (by decide)
        show rs_to _ (f8_startHere_54 i0 (f8_startHere_103 i0) (f8_startHere_133 i0) (g + 1) (nI (12 / rg_b s)) (nI m) _)
        simp (disch := omega) only [pu_lt, pu_ck, pu_bI, pu_bV, pu_bR, pu_bL, pu_nt, pu_us, pu_un, mL_0, mL_1, mL_2, mL_3, mL_4, mL_5, mL_6, mL_7, mL_8, mL_9, mL_10, mL_11, mL_12, mL_13, mL_14, mL_15, mL_16, mL_23, mL_24, mL_32, mL_48, mL_64, mL_99, mL_100, mL_200, mL_336, mL_576, mL_768, mL_800, mL_999, mL_4095, mL_4096, mL_m1, nI_leI, nI_ltI, nI_eq, nI_clamp, nI_add, pk_mul, nI_nu, bI_eq0, bI_eq1, bo_ft, pu_of, pu_of24, pu_onward, pu_frq, if_true, if_false, true_or, or_true, false_or, or_false, and_true, true_and, and_false, false_and, not_true_eq_false, not_false_eq_true, if_neg, if_pos, f8_startHere_54, f8_startHere_103, H0, H1, H3, hp, k6, w1, w2', eand]
        refine rs_ret (hQ _ ⟨?_, ?_, ?_⟩)
        · rw [pu_un (by omega), pu_us]
        · rw [pu_us]
        · exact fr_u (fr_u f4 (by unfold S_st; omega)) (by unfold S_st; omega)
      · left
        refine ⟨_, ⟨rfl, fun j hj => ?_⟩, ?_⟩
        · by_cases e : j = m
          · rw [e]; exact decide_eq_false hx
          · exact hno j (by omega)
        · show f8_startHere_54 i0 (f8_startHere_103 i0) (f8_startHere_133 i0) (g + 1) (nI (12 / rg_b s)) (nI m) _ = f8_startHere_54 i0 (f8_startHere_103 i0) (f8_startHere_133 i0) g (nI (12 / rg_b s)) (nI (m + 1)) _
          simp (disch := omega) only [pu_lt, pu_ck, pu_bI, pu_bV, pu_bR, pu_bL, pu_nt, pu_us, pu_un, mL_0, mL_1, mL_2, mL_3, mL_4, mL_5, mL_6, mL_7, mL_8, mL_9, mL_10, mL_11, mL_12, mL_13, mL_14, mL_15, mL_16, mL_23, mL_24, mL_32, mL_48, mL_64, mL_99, mL_100, mL_200, mL_336, mL_576, mL_768, mL_800, mL_999, mL_4095, mL_4096, mL_m1, nI_leI, nI_ltI, nI_eq, nI_clamp, nI_add, pk_mul, nI_nu, bI_eq0, bI_eq1, bo_ft, pu_of, pu_of24, pu_onward, pu_frq, if_true, if_false, true_or, or_true, false_or, or_false, and_true, true_and, and_false, false_and, not_true_eq_false, not_false_eq_true, if_neg, if_pos, f8_startHere_54, H0, H1, H3, hp, k6, w1, w2']
    · rintro g t' ⟨rfl, hno⟩
      have ems : rg_ms s key a = 12 / rg_b s := fi_eq (Nat.le_refl _) hno (fun h => absurd h (by omega))
      rw [ems, rg_of_L O.1, Nat.add_zero, Nat.mod_eq_of_lt pa] at hQ
      show rs_to _ (f8_startHere_54 i0 (f8_startHere_103 i0) (f8_startHere_133 i0) (g + 1) (nI (12 / rg_b s)) (nI (12 / rg_b s)) _)
      simp (disch := omega) only [pu_lt, pu_ck, pu_bI, pu_bV, pu_bR, pu_bL, pu_nt, pu_us, pu_un, mL_0, mL_1, mL_2, mL_3, mL_4, mL_5, mL_6, mL_7, mL_8, mL_9, mL_10, mL_11, mL_12, mL_13, mL_14, mL_15, mL_16, mL_23, mL_24, mL_32, mL_48, mL_64, mL_99, mL_100, mL_200, mL_336, mL_576, mL_768, mL_800, mL_999, mL_4095, mL_4096, mL_m1, nI_leI, nI_ltI, nI_eq, nI_clamp, nI_add, pk_mul, nI_nu, bI_eq0, bI_eq1, bo_ft, pu_of, pu_of24, pu_onward, pu_frq, if_true, if_false, true_or, or_true, false_or, or_false, and_true, true_and, and_false, false_and, not_true_eq_false, not_false_eq_true, if_neg, if_pos, f8_startHere_54, f8_startHere_133]
      refine rs_ret (hQ _ ⟨?_, ?_, f4⟩)
      · rw [pu_un (by omega), pu_us]
      · rw [pu_us]
  · have est : rg_sta s key best a = (rg_p s a, 12 / rg_b s) := if_neg hb
    rw [est] at hQ
    have e0 : f8_startHere_50 i0 (sr_u (sr_u t 8 i0 4 (nI (rg_p s a))) 8 i0 5 (nI (12 / rg_b s))) = some (.inl none, (sr_u (sr_u t 8 i0 4 (nI (rg_p s a))) 8 i0 5 (nI (12 / rg_b s)))) := by
      show f8_startHere_54 i0 (f8_startHere_103 i0) (f8_startHere_133 i0) sr_fu 0 0 _ = _
      obtain ⟨g, hg⟩ : ∃ g, sr_fu = g + 1 := ⟨999999, rfl⟩
      rw [hg]
      simp (disch := omega) only [pu_lt, pu_ck, pu_bI, pu_bV, pu_bR, pu_bL, pu_nt, pu_us, pu_un, mL_0, mL_1, mL_2, mL_3, mL_4, mL_5, mL_6, mL_7, mL_8, mL_9, mL_10, mL_11, mL_12, mL_13, mL_14, mL_15, mL_16, mL_23, mL_24, mL_32, mL_48, mL_64, mL_99, mL_100, mL_200, mL_336, mL_576, mL_768, mL_800, mL_999, mL_4095, mL_4096, mL_m1, nI_leI, nI_ltI, nI_eq, nI_clamp, nI_add, pk_mul, nI_nu, bI_eq0, bI_eq1, bo_ft, pu_of, pu_of24, pu_onward, pu_frq, if_true, if_false, true_or, or_true, false_or, or_false, and_true, true_and, and_false, false_and, not_true_eq_false, not_false_eq_true, if_neg, if_pos, f8_startHere_54, f8_startHere_133]
    have fin : rs_to Q (some (.inl none, (sr_u (sr_u t 8 i0 4 (nI (rg_p s a))) 8 i0 5 (nI (12 / rg_b s))))) := by
      refine rs_ret (hQ _ ⟨?_, ?_, f4⟩)
      · rw [pu_un (by omega), pu_us]
      · rw [pu_us]
    by_cases hb1 : best = true
    · subst hb1
      have hx : rg_nx s a = 24 := Decidable.byContradiction fun h => hb ⟨rfl, h⟩
      have bt : ¬ bI true = nI 0 := by decide
      rw [hx] at k5
      simp (disch := omega) only [pu_lt, pu_ck, pu_bI, pu_bV, pu_bR, pu_bL, pu_nt, pu_us, pu_un, mL_0, mL_1, mL_2, mL_3, mL_4, mL_5, mL_6, mL_7, mL_8, mL_9, mL_10, mL_11, mL_12, mL_13, mL_14, mL_15, mL_16, mL_23, mL_24, mL_32, mL_48, mL_64, mL_99, mL_100, mL_200, mL_336, mL_576, mL_768, mL_800, mL_999, mL_4095, mL_4096, mL_m1, nI_leI, nI_ltI, nI_eq, nI_clamp, nI_add, pk_mul, nI_nu, bI_eq0, bI_eq1, bo_ft, pu_of, pu_of24, pu_onward, pu_frq, if_true, if_false, true_or, or_true, false_or, or_false, and_true, true_and, and_false, false_and, not_true_eq_false, not_false_eq_true, if_neg, if_pos, F8_startHere, H0, H1, H2, H3, hp, h7, k5, bt, e0]
      exact fin
    · have hb0 : best = false := by simpa using hb1
      subst hb0
      have bf : bI false = nI 0 := rfl
      simp (disch := omega) only [pu_lt, pu_ck, pu_bI, pu_bV, pu_bR, pu_bL, pu_nt, pu_us, pu_un, mL_0, mL_1, mL_2, mL_3, mL_4, mL_5, mL_6, mL_7, mL_8, mL_9, mL_10, mL_11, mL_12, mL_13, mL_14, mL_15, mL_16, mL_23, mL_24, mL_32, mL_48, mL_64, mL_99, mL_100, mL_200, mL_336, mL_576, mL_768, mL_800, mL_999, mL_4095, mL_4096, mL_m1, nI_leI, nI_ltI, nI_eq, nI_clamp, nI_add, pk_mul, nI_nu, bI_eq0, bI_eq1, bo_ft, pu_of, pu_of24, pu_onward, pu_frq, if_true, if_false, true_or, or_true, false_or, or_false, and_true, true_and, and_false, false_and, not_true_eq_false, not_false_eq_true, if_neg, if_pos, F8_startHere, H0, H1, H2, H3, hp, h7, bf, e0]
      exact fin
def S_sr (k i j : Nat) : Prop := k = 11 ∧ i = 0 ∧ (j = 11 ∨ j = 12)
set_option maxHeartbeats 2000000 in
theorem pu_startR {t : sr_t} {s : rg_T} {a key : Nat} {best : Bool} (R : rg_RN t s) (O : rg_ok s) (ha : a < rg_N s) (hk : key < 4096) (H : t.1 11 0 10 = nI a) : ∃ t', F11_starts (nI key) (bI best) t = some (.inl none, t') ∧ t'.1 11 0 11 = nI (rg_sta s key best a).1 ∧ t'.1 11 0 12 = nI (rg_sta s key best a).2 ∧ fr S_sr t t' := by
  have hN := O.1.1
  obtain ⟨b1, b4⟩ := O.1.2.1
  have hL := pu_Lpos b1 b4
  have hp := (rg_RN_nd R ha).1
  have pa := O.1.2.2.2.1 a ha
  have nxl := rg_nx_le O ha
  have arl := rg_ar_le (s := s) (n := a)
  have f1 : fr S_sr t (sr_u t 11 0 11 (nI (rg_p s a))) := fr_u fr_rfl (by unfold S_sr; omega)
  have f4 : fr S_sr t (sr_u (sr_u t 11 0 11 (nI (rg_p s a))) 11 0 12 (nI (12 / rg_b s))) := fr_u f1 (by unfold S_sr; omega)
  have R1 := rg_RN_fr O f1 (fun k i j q => by unfold Fp_R at q; unfold S_sr; omega) R
  have R4 := rg_RN_fr O f4 (fun k i j q => by unfold Fp_R at q; unfold S_sr; omega) R
  have l1 := pu_lettersR (rg_RN_hd R1).2 O.1
  have l4 := pu_lettersR (rg_RN_hd R4).2 O.1
  have hb4 := (rg_RN_hd R4).2
  have nx4 := pu_nextOf R4 O ha
  refine rs_via fun Q hQ => ?_
  by_cases hb : best = true ∧ rg_nx s a ≠ 24
  · obtain ⟨hb1, hb2⟩ := hb
    subst hb1
    have est : rg_sta s key true a = ((rg_p s a + rg_of s key a (rg_ms s key a)) % 4096, rg_ms s key a) := if_pos ⟨rfl, hb2⟩
    have bt : ¬ bI true = nI 0 := by decide
    have k5' : ¬ nu (rg_nx s a) = nu 24 := fun h => hb2 ((nu_eq24 nxl).mp h)
    have arp := rg_ar_pos O ha hb2
    have arc4 := pu_arcOf R4 O ha hb2
    rw [est] at hQ
    simp (disch := omega) only [pu_lt, pu_ck, pu_bI, pu_bV, pu_bR, pu_bL, pu_nt, pu_us, pu_un, mL_0, mL_1, mL_2, mL_3, mL_4, mL_5, mL_6, mL_7, mL_8, mL_9, mL_10, mL_11, mL_12, mL_13, mL_14, mL_15, mL_16, mL_23, mL_24, mL_32, mL_48, mL_64, mL_99, mL_100, mL_200, mL_336, mL_576, mL_768, mL_800, mL_999, mL_4095, mL_4096, mL_m1, nI_leI, nI_ltI, nI_eq, nI_clamp, nI_add, pk_mul, nI_nu, bI_eq0, bI_eq1, bo_ft, pu_of, pu_of24, pu_onward, pu_frq, if_true, if_false, true_or, or_true, false_or, or_false, and_true, true_and, and_false, false_and, not_true_eq_false, not_false_eq_true, if_neg, if_pos, F11_starts, H, hp, pu_ixN', l1, bt, nx4, k5', l4]
    have body : ∀ m g, m ≤ 12 / rg_b s → (rg_of s key a m < rg_ar s a → f11_starts_43 (nI key) (bI true) (f11_starts_97 (nI key) (bI true)) (f11_starts_134 (nI key) (bI true)) (g + 1) (nI (12 / rg_b s - m)) (sr_u (sr_u t 11 0 11 (nI (rg_p s a))) 11 0 12 (nI (12 / rg_b s))) = f11_starts_97 (nI key) (bI true) (nI (12 / rg_b s - m)) (nI (rg_of s key a m)) (sr_u (sr_u t 11 0 11 (nI (rg_p s a))) 11 0 12 (nI (12 / rg_b s)))) ∧ (¬ rg_of s key a m < rg_ar s a → f11_starts_43 (nI key) (bI true) (f11_starts_97 (nI key) (bI true)) (f11_starts_134 (nI key) (bI true)) (g + 1) (nI (12 / rg_b s - m)) (sr_u (sr_u t 11 0 11 (nI (rg_p s a))) 11 0 12 (nI (12 / rg_b s))) = f11_starts_43 (nI key) (bI true) (f11_starts_97 (nI key) (bI true)) (f11_starts_134 (nI key) (bI true)) g (nI (12 / rg_b s - m) + nu 24) (sr_u (sr_u t 11 0 11 (nI (rg_p s a))) 11 0 12 (nI (12 / rg_b s)))) := by
      intro m g hm
      have h12 := pu_bL12 hm
      have ee : rg_b s * (12 / rg_b s - m) = 12 - rg_b s * m := by rw [Nat.mul_sub, pu_L12 b1 b4]
      have pw := pu_power (n := 12 / rg_b s - m) hb4 (by omega)
      have fo := pu_firstOf (q := key) (n := 12 / rg_b s - m) hb4 O.1 hk (by omega)
      rw [show 12 / rg_b s - (12 / rg_b s - m) = m by omega] at fo
      rw [ee] at pw
      have wle : key / 2 ^ (rg_b s * m) ≤ key := Nat.div_le_self _ _
      have rr := pu_rr (w := key / 2 ^ (rg_b s * m)) (p := rg_p s a) (e := 12 - rg_b s * m) (by omega) pa (by omega)
      have rr' : (nI (key / 2 ^ (rg_b s * m)) - nI (rg_p s a) - (nI (key / 2 ^ (rg_b s * m)) - nI (rg_p s a)) / nI (2 ^ (12 - rg_b s * m)) * nI (2 ^ (12 - rg_b s * m)) + nI (2 ^ (12 - rg_b s * m))) - (nI (key / 2 ^ (rg_b s * m)) - nI (rg_p s a) - (nI (key / 2 ^ (rg_b s * m)) - nI (rg_p s a)) / nI (2 ^ (12 - rg_b s * m)) * nI (2 ^ (12 - rg_b s * m)) + nI (2 ^ (12 - rg_b s * m))) / nI (2 ^ (12 - rg_b s * m)) * nI (2 ^ (12 - rg_b s * m)) = nI (rg_of s key a m) := rr
      have p1 : 2 ^ (12 - rg_b s * m) ≤ 4096 := pu_pow12 (by omega)
      have p2 : 1 ≤ 2 ^ (12 - rg_b s * m) := Nat.one_le_two_pow
      have ofl := rg_of_lt (s := s) (key := key) (n := a) (m := m)
      constructor
      · intro hx
        simp (disch := omega) only [pu_lt, pu_ck, pu_bI, pu_bV, pu_bR, pu_bL, pu_nt, pu_us, pu_un, mL_0, mL_1, mL_2, mL_3, mL_4, mL_5, mL_6, mL_7, mL_8, mL_9, mL_10, mL_11, mL_12, mL_13, mL_14, mL_15, mL_16, mL_23, mL_24, mL_32, mL_48, mL_64, mL_99, mL_100, mL_200, mL_336, mL_576, mL_768, mL_800, mL_999, mL_4095, mL_4096, mL_m1, nI_leI, nI_ltI, nI_eq, nI_clamp, nI_add, pk_mul, nI_nu, bI_eq0, bI_eq1, bo_ft, pu_of, pu_of24, pu_onward, pu_frq, if_true, if_false, true_or, or_true, false_or, or_false, and_true, true_and, and_false, false_and, not_true_eq_false, not_false_eq_true, if_neg, if_pos, f11_starts_43, pw, fo, H, hp, pu_ixN', arc4, rr']
      · intro hx
        simp (disch := omega) only [pu_lt, pu_ck, pu_bI, pu_bV, pu_bR, pu_bL, pu_nt, pu_us, pu_un, mL_0, mL_1, mL_2, mL_3, mL_4, mL_5, mL_6, mL_7, mL_8, mL_9, mL_10, mL_11, mL_12, mL_13, mL_14, mL_15, mL_16, mL_23, mL_24, mL_32, mL_48, mL_64, mL_99, mL_100, mL_200, mL_336, mL_576, mL_768, mL_800, mL_999, mL_4095, mL_4096, mL_m1, nI_leI, nI_ltI, nI_eq, nI_clamp, nI_add, pk_mul, nI_nu, bI_eq0, bI_eq1, bo_ft, pu_of, pu_of24, pu_onward, pu_frq, if_true, if_false, true_or, or_true, false_or, or_false, and_true, true_and, and_false, false_and, not_true_eq_false, not_false_eq_true, if_neg, if_pos, f11_starts_43, pw, fo, H, hp, pu_ixN', arc4, rr']
    have fin : ∀ m, m ≤ 12 / rg_b s → rg_ms s key a = m → rs_to Q (f11_starts_97 (nI key) (bI true) (nI (12 / rg_b s - m)) (nI (rg_of s key a m)) (sr_u (sr_u t 11 0 11 (nI (rg_p s a))) 11 0 12 (nI (12 / rg_b s)))) := by
      intro m hm hms
      rw [hms] at hQ
      have ofl := rg_of_lt (s := s) (key := key) (n := a) (m := m)
      have f5 : fr S_sr t (sr_u (sr_u (sr_u t 11 0 11 (nI (rg_p s a))) 11 0 12 (nI (12 / rg_b s))) 11 0 11 (nI ((rg_p s a + rg_of s key a m) % 4096))) := fr_u f4 (by unfold S_sr; omega)
      have R5 := rg_RN_fr O f5 (fun k i j q => by unfold Fp_R at q; unfold S_sr; omega) R
      have l5 := pu_lettersR (rg_RN_hd R5).2 O.1
      simp (disch := omega) only [pu_lt, pu_ck, pu_bI, pu_bV, pu_bR, pu_bL, pu_nt, pu_us, pu_un, mL_0, mL_1, mL_2, mL_3, mL_4, mL_5, mL_6, mL_7, mL_8, mL_9, mL_10, mL_11, mL_12, mL_13, mL_14, mL_15, mL_16, mL_23, mL_24, mL_32, mL_48, mL_64, mL_99, mL_100, mL_200, mL_336, mL_576, mL_768, mL_800, mL_999, mL_4095, mL_4096, mL_m1, nI_leI, nI_ltI, nI_eq, nI_clamp, nI_add, pk_mul, nI_nu, bI_eq0, bI_eq1, bo_ft, pu_of, pu_of24, pu_onward, pu_frq, if_true, if_false, true_or, or_true, false_or, or_false, and_true, true_and, and_false, false_and, not_true_eq_false, not_false_eq_true, if_neg, if_pos, f11_starts_97, H, hp, pu_ixN', pk_rem96, l5, pk_sub]
      refine rs_ret (hQ _ ⟨?_, ?_, ?_⟩)
      · rw [pu_un (by omega), pu_us]
      · rw [pu_us, show 12 / rg_b s - (12 / rg_b s - m) = m by omega]
      · exact fr_u f5 (by unfold S_sr; omega)
    refine rs_loop (N := 12 / rg_b s) (L := fun f m t' => f11_starts_43 (nI key) (bI true) (f11_starts_97 (nI key) (bI true)) (f11_starts_134 (nI key) (bI true)) f (nI (12 / rg_b s - m)) t') (fun m t' => t' = (sr_u (sr_u t 11 0 11 (nI (rg_p s a))) 11 0 12 (nI (12 / rg_b s))) ∧ ∀ j, j < m → decide (rg_of s key a j < rg_ar s a) = false) ?_ ?_ (by unfold sr_fu; omega) ⟨rfl, fun j hj => by omega⟩
    · rintro m g t' hm ⟨rfl, hno⟩
      by_cases hx : rg_of s key a m < rg_ar s a
      · right
        have ems : rg_ms s key a = m := fi_eq (Nat.le_of_lt hm) hno (fun _ => decide_eq_true hx)
        show rs_to _ (f11_starts_43 (nI key) (bI true) (f11_starts_97 (nI key) (bI true)) (f11_starts_134 (nI key) (bI true)) (g + 1) (nI (12 / rg_b s - m)) _)
        rw [(body m g (by omega)).1 hx]
        exact fin m (by omega) ems
      · left
        refine ⟨_, ⟨rfl, fun j hj => ?_⟩, ?_⟩
        · by_cases e : j = m
          · rw [e]; exact decide_eq_false hx
          · exact hno j (by omega)
        · show f11_starts_43 (nI key) (bI true) (f11_starts_97 (nI key) (bI true)) (f11_starts_134 (nI key) (bI true)) (g + 1) (nI (12 / rg_b s - m)) _ = f11_starts_43 (nI key) (bI true) (f11_starts_97 (nI key) (bI true)) (f11_starts_134 (nI key) (bI true)) g (nI (12 / rg_b s - (m + 1))) _
          rw [(body m g (by omega)).2 hx]
          have e : nI (12 / rg_b s - m) + nu 24 = nI (12 / rg_b s - (m + 1)) := by
            rw [show 12 / rg_b s - m = 12 / rg_b s - (m + 1) + 1 by omega]
            exact pk_m1 _
          rw [e]
    · rintro g t' ⟨rfl, hno⟩
      have ems : rg_ms s key a = 12 / rg_b s := fi_eq (Nat.le_refl _) hno (fun h => absurd h (by omega))
      show rs_to _ (f11_starts_43 (nI key) (bI true) (f11_starts_97 (nI key) (bI true)) (f11_starts_134 (nI key) (bI true)) (g + 1) (nI (12 / rg_b s - 12 / rg_b s)) _)
      rw [(body (12 / rg_b s) g (Nat.le_refl _)).1 (by rw [rg_of_L O.1]; omega)]
      exact fin _ (Nat.le_refl _) ems
  · have est : rg_sta s key best a = (rg_p s a, 12 / rg_b s) := if_neg hb
    rw [est] at hQ
    have fin : rs_to Q (some (.inl none, (sr_u (sr_u t 11 0 11 (nI (rg_p s a))) 11 0 12 (nI (12 / rg_b s))))) := by
      refine rs_ret (hQ _ ⟨?_, ?_, f4⟩)
      · rw [pu_un (by omega), pu_us]
      · rw [pu_us]
    by_cases hb1 : best = true
    · subst hb1
      have hx : rg_nx s a = 24 := Decidable.byContradiction fun h => hb ⟨rfl, h⟩
      have bt : ¬ bI true = nI 0 := by decide
      rw [hx] at nx4
      simp (disch := omega) only [pu_lt, pu_ck, pu_bI, pu_bV, pu_bR, pu_bL, pu_nt, pu_us, pu_un, mL_0, mL_1, mL_2, mL_3, mL_4, mL_5, mL_6, mL_7, mL_8, mL_9, mL_10, mL_11, mL_12, mL_13, mL_14, mL_15, mL_16, mL_23, mL_24, mL_32, mL_48, mL_64, mL_99, mL_100, mL_200, mL_336, mL_576, mL_768, mL_800, mL_999, mL_4095, mL_4096, mL_m1, nI_leI, nI_ltI, nI_eq, nI_clamp, nI_add, pk_mul, nI_nu, bI_eq0, bI_eq1, bo_ft, pu_of, pu_of24, pu_onward, pu_frq, if_true, if_false, true_or, or_true, false_or, or_false, and_true, true_and, and_false, false_and, not_true_eq_false, not_false_eq_true, if_neg, if_pos, F11_starts, f11_starts_37, H, hp, pu_ixN', l1, bt, nx4]
      exact fin
    · have hb0 : best = false := by simpa using hb1
      subst hb0
      have bf : bI false = nI 0 := rfl
      simp (disch := omega) only [pu_lt, pu_ck, pu_bI, pu_bV, pu_bR, pu_bL, pu_nt, pu_us, pu_un, mL_0, mL_1, mL_2, mL_3, mL_4, mL_5, mL_6, mL_7, mL_8, mL_9, mL_10, mL_11, mL_12, mL_13, mL_14, mL_15, mL_16, mL_23, mL_24, mL_32, mL_48, mL_64, mL_99, mL_100, mL_200, mL_336, mL_576, mL_768, mL_800, mL_999, mL_4095, mL_4096, mL_m1, nI_leI, nI_ltI, nI_eq, nI_clamp, nI_add, pk_mul, nI_nu, bI_eq0, bI_eq1, bo_ft, pu_of, pu_of24, pu_onward, pu_frq, if_true, if_false, true_or, or_true, false_or, or_false, and_true, true_and, and_false, false_and, not_true_eq_false, not_false_eq_true, if_neg, if_pos, F11_starts, f11_starts_37, H, hp, pu_ixN', l1, bf]
      exact fin
end
