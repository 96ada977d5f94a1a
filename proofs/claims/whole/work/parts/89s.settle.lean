section
/-! step: settle -/
theorem bs_shr {x : Int32} {k : Nat} (hk : k < 32) : (x >>> (nI k &&& 31)) &&& nI 1 = bI (bs x k) := by
  have b0 : bs (x >>> (nI k &&& 31)) 0 = bs x k := by
    unfold bs
    rw [Int32.toBitVec_shiftRight]
    have e : ∀ y : Fin 32, ((nI y.val &&& 31).toBitVec.smod 32).toNat = y.val := by decide +kernel
    have e' := e ⟨k, hk⟩
    show (x.toBitVec.sshiftRight ((nI k &&& 31).toBitVec.smod 32).toNat).getLsbD 0 = _
    rw [e', BitVec.getLsbD_sshiftRight]
    simp [hk]
  have b1 : ∀ m, m < 32 → bs (nI 1) m = decide (m = 0) := fun m hm => (by decide +kernel : ∀ y : Fin 32, bs (nI 1) y.val = decide (y.val = 0)) ⟨m, hm⟩
  refine bs_ext (fun m hm => ?_)
  rw [bs_and, b1 m hm]
  by_cases h : m = 0
  · subst h
    rw [b0, decide_eq_true rfl, Bool.and_true]
    cases bs x k <;> decide
  · rw [decide_eq_false h, Bool.and_false]
    cases bs x k with
    | true => exact ((b1 m hm).trans (decide_eq_false h)).symm
    | false => exact (bs_0 (m := m)).symm
def se (B : Int32) (k m x : Nat) (w : st_T) : Nat → Nat × st_T
  | 0 => (0, w)
  | n + 1 => if bs B n = true ∧ (se B k m x w n).2.2.2.2.2 k n < x then ((se B k m x w n).1 + 1, st_h (se B k m x w n).2 k n ((se B k m x w n).2.2.2.2.1 k m) x) else se B k m x w n
theorem se_s {B : Int32} {k m x n : Nat} {w : st_T} : se B k m x w (n + 1) = if bs B n = true ∧ (se B k m x w n).2.2.2.2.2 k n < x then ((se B k m x w n).1 + 1, st_h (se B k m x w n).2 k n ((se B k m x w n).2.2.2.2.1 k m) x) else se B k m x w n := Eq.trans (Eq.refl _) (Eq.refl _)
theorem se_P {i N : Nat} {B : Int32} {k m x : Nat} {w : st_T} (P : st_P i N w) (hN : N ≤ 24) (hk : k < w.1.1) (hm : m < 24) (hx : x ≤ w.1.2.1) : ∀ n, n ≤ N → st_P i N (se B k m x w n).2 ∧ (se B k m x w n).2.1 = w.1 ∧ (se B k m x w n).2.2.1 = w.2.1 := by
  intro n
  induction n with
  | zero => intro _; exact ⟨P, rfl, rfl⟩
  | succ n ih =>
    intro hn
    obtain ⟨i1, i2, i3⟩ := ih (by omega)
    have := P.1.1
    rw [se_s]
    split
    · exact ⟨st_P_h i1 (i1.2.2 k (by omega) m hm).2.1 (by rw [i2]; exact hx) (Or.inl ⟨by rw [i2]; exact hk, by omega⟩), i2, i3⟩
    · exact ⟨i1, i2, i3⟩
theorem pc_se {i : Nat} {t : sr_t} {s : rg_T} {B : Int32} {k m x : Nat} {w : st_T} {K : Int32 → Int32 → sr_t → sr_Rs} (C : rg_C t 0 s) (O : rg_ok s) (P : st_P i (rg_N s) w) (hi : i < 2 ^ 20) (hk : k < w.1.1) (hm : m < 24) (hx : x ≤ w.1.2.1) (H : st_C t w) : ∃ t', (st_C t' (se B k m x w (rg_N s)).2 ∧ fr S_hc t t') ∧ f6_settleEntry_27 0 k (nI m) K sr_fu (nI 0) B (nI x) (nI 0) t = K (nI (se B k m x w (rg_N s)).1) B t' := by
  have hN := O.1.1
  have q1 := P.1.1
  have q2 := P.1.2.1
  refine pu_forR (N := rg_N s) (L := fun f n t' => f6_settleEntry_27 0 k (nI m) K f (nI (se B k m x w n).1) B (nI x) (nI n) t') (fin := fun t' => K (nI (se B k m x w (rg_N s)).1) B t') (P := fun n t' => st_C t' (se B k m x w n).2 ∧ fr S_hc t t') ?_ ?_ (by unfold sr_fu; omega) ⟨H, fr_rfl⟩
  · rintro n g t' hn ⟨p1, p2⟩
    have C' : rg_C t' 0 s := rg_C_fr hN p2 (fun k i j q => by unfold Fp_C at q; unfold S_hc; omega) C
    have h3 := C'.1.1.1
    obtain ⟨P1, b1, b2⟩ := se_P (B := B) (m := m) P hN hk hm hx n (by omega)
    obtain ⟨z1, z2, z3⟩ := P1.2.2 k (by omega) n (by omega)
    rw [b1] at z1
    have hv := (p1.2.2.1 k (by omega) n (by omega)).2
    have hl := (p1.2.2.1 k (by omega) m hm).1
    have ev := pc_ver (t := t') (k := k) (n := n) (by omega) hv
    have el := pc_val (t := t') (k := k) (n := m) hm hl
    have hb := pu_hasBit (t := t') (x := B) (k := n) (by omega)
    show ∃ t2, (st_C t2 (se B k m x w (n + 1)).2 ∧ fr S_hc t t2) ∧ f6_settleEntry_27 0 k (nI m) K (g + 1) (nI (se B k m x w n).1) B (nI x) (nI n) t' = f6_settleEntry_27 0 k (nI m) K g (nI (se B k m x w (n + 1)).1) B (nI x) (nI (n + 1)) t2
    rw [se_s]
    cases hbs : bs B n with
    | false =>
      rw [hbs] at hb
      have bf : bI false = nI 0 := rfl
      rw [bf] at hb
      refine ⟨t', ⟨?_, p2⟩, ?_⟩
      · rw [if_neg (by intro q; exact absurd q.1 (by decide))]; exact p1
      · rw [if_neg (by intro q; exact absurd q.1 (by decide))]
        simp (disch := omega) only [pv_lt, pu_ck, pv_bI, pv_bV, pu_bR, pv_bL, pv_nt, pu_us, pu_un, mL_0, mL_1, mL_2, mL_3, mL_4, mL_5, mL_6, mL_7, mL_8, mL_9, mL_10, mL_11, mL_12, mL_13, mL_14, mL_15, mL_16, mL_23, mL_24, mL_32, mL_48, mL_64, mL_99, mL_100, mL_200, mL_336, mL_576, mL_768, mL_800, mL_999, mL_4095, mL_4096, mL_m1, nI_leI, nI_ltI, nI_eq, nI_clamp, nI_add, pk_mul, nI_nu, bI_eq0, bI_eq1, bo_ft, Bool.true_eq_false, Bool.false_eq_true, pu_of, pu_of24, pu_onward, pu_frq, if_true, if_false, true_or, or_true, false_or, or_false, and_true, true_and, and_false, false_and, not_true_eq_false, not_false_eq_true, if_neg, if_pos, f6_settleEntry_27, f6_settleEntry_73, h3, hb]
    | true =>
      rw [hbs] at hb
      have bt : bI true = nI 1 := rfl
      rw [bt] at hb
      by_cases hlt : (se B k m x w n).2.2.2.2.2 k n < x
      · obtain ⟨t2, h1, h2, h4⟩ := pc_hold (k := k) (n := n) (v := (se B k m x w n).2.2.2.2.1 k m) (x := x) p1 (by omega) (by omega)
        refine ⟨t2, ⟨?_, fr_trans p2 h4⟩, ?_⟩
        · rw [if_pos ⟨rfl, hlt⟩]; exact h2
        · rw [if_pos ⟨rfl, hlt⟩]
          simp (disch := omega) only [pv_lt, pu_ck, pv_bI, pv_bV, pu_bR, pv_bL, pv_nt, pu_us, pu_un, mL_0, mL_1, mL_2, mL_3, mL_4, mL_5, mL_6, mL_7, mL_8, mL_9, mL_10, mL_11, mL_12, mL_13, mL_14, mL_15, mL_16, mL_23, mL_24, mL_32, mL_48, mL_64, mL_99, mL_100, mL_200, mL_336, mL_576, mL_768, mL_800, mL_999, mL_4095, mL_4096, mL_m1, nI_leI, nI_ltI, nI_eq, nI_clamp, nI_add, pk_mul, nI_nu, bI_eq0, bI_eq1, bo_ft, Bool.true_eq_false, Bool.false_eq_true, pu_of, pu_of24, pu_onward, pu_frq, if_true, if_false, true_or, or_true, false_or, or_false, and_true, true_and, and_false, false_and, not_true_eq_false, not_false_eq_true, if_neg, if_pos, f6_settleEntry_27, f6_settleEntry_73, h3, hb, ev, el, h1]
      · refine ⟨t', ⟨?_, p2⟩, ?_⟩
        · rw [if_neg (by intro q; exact hlt q.2)]; exact p1
        · rw [if_neg (by intro q; exact hlt q.2)]
          simp (disch := omega) only [pv_lt, pu_ck, pv_bI, pv_bV, pu_bR, pv_bL, pv_nt, pu_us, pu_un, mL_0, mL_1, mL_2, mL_3, mL_4, mL_5, mL_6, mL_7, mL_8, mL_9, mL_10, mL_11, mL_12, mL_13, mL_14, mL_15, mL_16, mL_23, mL_24, mL_32, mL_48, mL_64, mL_99, mL_100, mL_200, mL_336, mL_576, mL_768, mL_800, mL_999, mL_4095, mL_4096, mL_m1, nI_leI, nI_ltI, nI_eq, nI_clamp, nI_add, pk_mul, nI_nu, bI_eq0, bI_eq1, bo_ft, Bool.true_eq_false, Bool.false_eq_true, pu_of, pu_of24, pu_onward, pu_frq, if_true, if_false, true_or, or_true, false_or, or_false, and_true, true_and, and_false, false_and, not_true_eq_false, not_false_eq_true, if_neg, if_pos, f6_settleEntry_27, f6_settleEntry_73, h3, hb, ev]
  · rintro g t' ⟨p1, p2⟩
    have C' : rg_C t' 0 s := rg_C_fr hN p2 (fun k i j q => by unfold Fp_C at q; unfold S_hc; omega) C
    have h3 := C'.1.1.1
    show f6_settleEntry_27 0 k (nI m) K (g + 1) (nI (se B k m x w (rg_N s)).1) B (nI x) (nI (rg_N s)) t' = _
    simp (disch := omega) only [pv_lt, pu_ck, pv_bI, pv_bV, pu_bR, pv_bL, pv_nt, pu_us, pu_un, mL_0, mL_1, mL_2, mL_3, mL_4, mL_5, mL_6, mL_7, mL_8, mL_9, mL_10, mL_11, mL_12, mL_13, mL_14, mL_15, mL_16, mL_23, mL_24, mL_32, mL_48, mL_64, mL_99, mL_100, mL_200, mL_336, mL_576, mL_768, mL_800, mL_999, mL_4095, mL_4096, mL_m1, nI_leI, nI_ltI, nI_eq, nI_clamp, nI_add, pk_mul, nI_nu, bI_eq0, bI_eq1, bo_ft, Bool.true_eq_false, Bool.false_eq_true, pu_of, pu_of24, pu_onward, pu_frq, if_true, if_false, true_or, or_true, false_or, or_false, and_true, true_and, and_false, false_and, not_true_eq_false, not_false_eq_true, if_neg, if_pos, f6_settleEntry_27, h3]
theorem pr_se {i : Nat} {t : sr_t} {s : rg_T} {B : Int32} {k m x : Nat} {w : st_T} {K : Int32 → Int32 → sr_t → sr_Rs} (R : rg_R t s) (O : rg_ok s) (P : st_P i (rg_N s) w) (hi : i < 2 ^ 20) (hk : k < w.1.1) (hm : m < 24) (hx : x ≤ w.1.2.1) (H : st_R t w) : ∃ t', (st_R t' (se B k m x w (rg_N s)).2 ∧ fr S_hr t t') ∧ f11_settles_35 (nI m) (nI k) K sr_fu (nI x) B (nI 0) (nI 0) t = K B (nI (se B k m x w (rg_N s)).1) t' := by
  have hN := O.1.1
  have q1 := P.1.1
  have q2 := P.1.2.1
  refine pu_forR (N := rg_N s) (L := fun f n t' => f11_settles_35 (nI m) (nI k) K f (nI x) B (nI (se B k m x w n).1) (nI n) t') (fin := fun t' => K B (nI (se B k m x w (rg_N s)).1) t') (P := fun n t' => st_R t' (se B k m x w n).2 ∧ fr S_hr t t') ?_ ?_ (by unfold sr_fu; omega) ⟨H, fr_rfl⟩
  · rintro n g t' hn ⟨p1, p2⟩
    have R' : rg_R t' s := rg_R_fr O p2 (fun k i j q => by unfold Fp_R at q; unfold S_hr; omega) R
    have h3 := R'.1.1.1
    obtain ⟨P1, b1, b2⟩ := se_P (B := B) (m := m) P hN hk hm hx n (by omega)
    obtain ⟨z1, z2, z3⟩ := P1.2.2 k (by omega) n (by omega)
    rw [b1] at z1
    have hv := (p1.2.2 k (by omega) n (by omega)).2
    have hl := (p1.2.2 k (by omega) m hm).1
    have hb := bs_shr (x := B) (k := n) (by omega)
    show ∃ t2, (st_R t2 (se B k m x w (n + 1)).2 ∧ fr S_hr t t2) ∧ f11_settles_35 (nI m) (nI k) K (g + 1) (nI x) B (nI (se B k m x w n).1) (nI n) t' = f11_settles_35 (nI m) (nI k) K g (nI x) B (nI (se B k m x w (n + 1)).1) (nI (n + 1)) t2
    rw [se_s]
    cases hbs : bs B n with
    | false =>
      have bf : bI false = nI 0 := rfl
      rw [hbs, bf] at hb
      refine ⟨t', ⟨?_, p2⟩, ?_⟩
      · rw [if_neg (by intro q; exact absurd q.1 (by decide))]; exact p1
      · rw [if_neg (by intro q; exact absurd q.1 (by decide))]
        simp (disch := omega) only [pv_lt, pu_ck, pv_bI, pv_bV, pu_bR, pv_bL, pv_nt, pu_us, pu_un, mL_0, mL_1, mL_2, mL_3, mL_4, mL_5, mL_6, mL_7, mL_8, mL_9, mL_10, mL_11, mL_12, mL_13, mL_14, mL_15, mL_16, mL_23, mL_24, mL_32, mL_48, mL_64, mL_99, mL_100, mL_200, mL_336, mL_576, mL_768, mL_800, mL_999, mL_4095, mL_4096, mL_m1, nI_leI, nI_ltI, nI_eq, nI_clamp, nI_add, pk_mul, nI_nu, bI_eq0, bI_eq1, bo_ft, Bool.true_eq_false, Bool.false_eq_true, pu_of, pu_of24, pu_onward, pu_frq, if_true, if_false, true_or, or_true, false_or, or_false, and_true, true_and, and_false, false_and, not_true_eq_false, not_false_eq_true, if_neg, if_pos, f11_settles_35, f11_settles_93, h3, hb]
    | true =>
      have bt : bI true = nI 1 := rfl
      rw [hbs, bt] at hb
      by_cases hlt : (se B k m x w n).2.2.2.2.2 k n < x
      · obtain ⟨t2, h1, h2, h4⟩ := pr_holds (k := k) (n := n) (v := (se B k m x w n).2.2.2.2.1 k m) (x := x) p1 (by omega) (by omega)
        refine ⟨t2, ⟨?_, fr_trans p2 h4⟩, ?_⟩
        · rw [if_pos ⟨rfl, hlt⟩]; exact h2
        · rw [if_pos ⟨rfl, hlt⟩]
          simp (disch := omega) only [pv_lt, pu_ck, pv_bI, pv_bV, pu_bR, pv_bL, pv_nt, pu_us, pu_un, mL_0, mL_1, mL_2, mL_3, mL_4, mL_5, mL_6, mL_7, mL_8, mL_9, mL_10, mL_11, mL_12, mL_13, mL_14, mL_15, mL_16, mL_23, mL_24, mL_32, mL_48, mL_64, mL_99, mL_100, mL_200, mL_336, mL_576, mL_768, mL_800, mL_999, mL_4095, mL_4096, mL_m1, nI_leI, nI_ltI, nI_eq, nI_clamp, nI_add, pk_mul, nI_nu, bI_eq0, bI_eq1, bo_ft, Bool.true_eq_false, Bool.false_eq_true, pu_of, pu_of24, pu_onward, pu_frq, if_true, if_false, true_or, or_true, false_or, or_false, and_true, true_and, and_false, false_and, not_true_eq_false, not_false_eq_true, if_neg, if_pos, f11_settles_35, f11_settles_93, h3, hb, pr_cell, hv, hl, h1, pu_ixN']
      · refine ⟨t', ⟨?_, p2⟩, ?_⟩
        · rw [if_neg (by intro q; exact hlt q.2)]; exact p1
        · rw [if_neg (by intro q; exact hlt q.2)]
          simp (disch := omega) only [pv_lt, pu_ck, pv_bI, pv_bV, pu_bR, pv_bL, pv_nt, pu_us, pu_un, mL_0, mL_1, mL_2, mL_3, mL_4, mL_5, mL_6, mL_7, mL_8, mL_9, mL_10, mL_11, mL_12, mL_13, mL_14, mL_15, mL_16, mL_23, mL_24, mL_32, mL_48, mL_64, mL_99, mL_100, mL_200, mL_336, mL_576, mL_768, mL_800, mL_999, mL_4095, mL_4096, mL_m1, nI_leI, nI_ltI, nI_eq, nI_clamp, nI_add, pk_mul, nI_nu, bI_eq0, bI_eq1, bo_ft, Bool.true_eq_false, Bool.false_eq_true, pu_of, pu_of24, pu_onward, pu_frq, if_true, if_false, true_or, or_true, false_or, or_false, and_true, true_and, and_false, false_and, not_true_eq_false, not_false_eq_true, if_neg, if_pos, f11_settles_35, f11_settles_93, h3, hb, pr_cell, hv, pu_ixN']
  · rintro g t' ⟨p1, p2⟩
    have R' : rg_R t' s := rg_R_fr O p2 (fun k i j q => by unfold Fp_R at q; unfold S_hr; omega) R
    have h3 := R'.1.1.1
    show f11_settles_35 (nI m) (nI k) K (g + 1) (nI x) B (nI (se B k m x w (rg_N s)).1) (nI (rg_N s)) t' = _
    simp (disch := omega) only [pv_lt, pu_ck, pv_bI, pv_bV, pu_bR, pv_bL, pv_nt, pu_us, pu_un, mL_0, mL_1, mL_2, mL_3, mL_4, mL_5, mL_6, mL_7, mL_8, mL_9, mL_10, mL_11, mL_12, mL_13, mL_14, mL_15, mL_16, mL_23, mL_24, mL_32, mL_48, mL_64, mL_99, mL_100, mL_200, mL_336, mL_576, mL_768, mL_800, mL_999, mL_4095, mL_4096, mL_m1, nI_leI, nI_ltI, nI_eq, nI_clamp, nI_add, pk_mul, nI_nu, bI_eq0, bI_eq1, bo_ft, Bool.true_eq_false, Bool.false_eq_true, pu_of, pu_of24, pu_onward, pu_frq, if_true, if_false, true_or, or_true, false_or, or_false, and_true, true_and, and_false, false_and, not_true_eq_false, not_false_eq_true, if_neg, if_pos, f11_settles_35, h3]
/-- an entry settled -/
def sE (s : rg_T) (k m : Nat) (w : st_T) : Nat × st_T := if bs (kB s (w.2.1 k) w.1.2.2) m = true then se (kB s (w.2.1 k) w.1.2.2) k m (w.2.2.2.2 k m) w (rg_N s) else ((se (kB s (w.2.1 k) w.1.2.2) k m (w.2.2.2.2 k m) w (rg_N s)).1 + 1, st_h (se (kB s (w.2.1 k) w.1.2.2) k m (w.2.2.2.2 k m) w (rg_N s)).2 k m 0 0)
theorem sE_P {i : Nat} {s : rg_T} {k m : Nat} {w : st_T} (P : st_P i (rg_N s) w) (hN : rg_N s ≤ 24) (hk : k < w.1.1) (hm : m < 24) : st_P i (rg_N s) (sE s k m w).2 ∧ (sE s k m w).2.1 = w.1 := by
  have q1 := P.1.1
  obtain ⟨a, b, c⟩ := se_P (B := kB s (w.2.1 k) w.1.2.2) (m := m) P hN hk hm (P.2.2 k (by omega) m hm).1 (rg_N s) (Nat.le_refl _)
  unfold sE
  split
  · exact ⟨a, b⟩
  · exact ⟨st_P_h a (by omega) (by omega) (Or.inr rfl), b⟩
theorem pc_sE {i : Nat} {t : sr_t} {s : rg_T} {k m : Nat} {w : st_T} (C : rg_C t 0 s) (O : rg_ok s) (P : st_P i (rg_N s) w) (hi : i < 2 ^ 20) (hk : k < w.1.1) (hm : m < 24) (H : st_C t w) : ∃ t', F6_settleEntry 0 k (nI m) t = some (.inl (some (sr_i (nI (sE s k m w).1))), t') ∧ st_C t' (sE s k m w).2 ∧ fr S_hc t t' := by
  have hN := O.1.1
  have q1 := P.1.1
  have h00 := (H.2.1 k hk).1
  have h64 := H.1.2.2
  have ek := pc_keepers (c := w.1.2.2) C.1 O.1 (by omega) (P.2.1 k hk).1 P.1.2.2.2
  have ev := pc_ver (t := t) (k := k) (n := m) hm (H.2.2.1 k (by omega) m hm).2
  unfold sE
  generalize kB s (w.2.1 k) w.1.2.2 = B at *
  obtain ⟨t1, ⟨p1, p2⟩, e1⟩ := pc_se (B := B) (m := m) (K := f6_settleEntry_79 0 k (nI m)) C O P hi hk hm (P.2.2 k (by omega) m hm).1 H
  have st : F6_settleEntry 0 k (nI m) t = f6_settleEntry_79 0 k (nI m) (nI (se B k m (w.2.2.2.2 k m) w (rg_N s)).1) B t1 := by
    rw [← e1]
    simp (disch := omega) only [pv_lt, pu_ck, pv_bI, pv_bV, pu_bR, pv_bL, pv_nt, pu_us, pu_un, mL_0, mL_1, mL_2, mL_3, mL_4, mL_5, mL_6, mL_7, mL_8, mL_9, mL_10, mL_11, mL_12, mL_13, mL_14, mL_15, mL_16, mL_23, mL_24, mL_32, mL_48, mL_64, mL_99, mL_100, mL_200, mL_336, mL_576, mL_768, mL_800, mL_999, mL_4095, mL_4096, mL_m1, nI_leI, nI_ltI, nI_eq, nI_clamp, nI_add, pk_mul, nI_nu, bI_eq0, bI_eq1, bo_ft, Bool.true_eq_false, Bool.false_eq_true, pu_of, pu_of24, pu_onward, pu_frq, if_true, if_false, true_or, or_true, false_or, or_false, and_true, true_and, and_false, false_and, not_true_eq_false, not_false_eq_true, if_neg, if_pos, F6_settleEntry, h00, h64, ek, ev]
  rw [st]
  have hb := pu_hasBit (t := t1) (x := B) (k := m) (by omega)
  cases hbs : bs B m with
  | true =>
    rw [hbs] at hb
    have bt : bI true = nI 1 := rfl
    rw [bt] at hb
    refine ⟨t1, ?_, ?_, p2⟩
    · rw [if_pos rfl]
      simp (disch := omega) only [pv_lt, pu_ck, pv_bI, pv_bV, pu_bR, pv_bL, pv_nt, pu_us, pu_un, mL_0, mL_1, mL_2, mL_3, mL_4, mL_5, mL_6, mL_7, mL_8, mL_9, mL_10, mL_11, mL_12, mL_13, mL_14, mL_15, mL_16, mL_23, mL_24, mL_32, mL_48, mL_64, mL_99, mL_100, mL_200, mL_336, mL_576, mL_768, mL_800, mL_999, mL_4095, mL_4096, mL_m1, nI_leI, nI_ltI, nI_eq, nI_clamp, nI_add, pk_mul, nI_nu, bI_eq0, bI_eq1, bo_ft, Bool.true_eq_false, Bool.false_eq_true, pu_of, pu_of24, pu_onward, pu_frq, if_true, if_false, true_or, or_true, false_or, or_false, and_true, true_and, and_false, false_and, not_true_eq_false, not_false_eq_true, if_neg, if_pos, f6_settleEntry_79, f6_settleEntry_96, hb]
    · rw [if_pos rfl]; exact p1
  | false =>
    rw [hbs] at hb
    have bf : bI false = nI 0 := rfl
    rw [bf] at hb
    obtain ⟨t2, h1, h2, h4⟩ := pc_hold (k := k) (n := m) (v := 0) (x := 0) p1 (by omega) hm
    have hd : F0_drop k (nI m) t1 = some (.inl none, t2) := by
      simp (disch := omega) only [pv_lt, pu_ck, pv_bI, pv_bV, pu_bR, pv_bL, pv_nt, pu_us, pu_un, mL_0, mL_1, mL_2, mL_3, mL_4, mL_5, mL_6, mL_7, mL_8, mL_9, mL_10, mL_11, mL_12, mL_13, mL_14, mL_15, mL_16, mL_23, mL_24, mL_32, mL_48, mL_64, mL_99, mL_100, mL_200, mL_336, mL_576, mL_768, mL_800, mL_999, mL_4095, mL_4096, mL_m1, nI_leI, nI_ltI, nI_eq, nI_clamp, nI_add, pk_mul, nI_nu, bI_eq0, bI_eq1, bo_ft, Bool.true_eq_false, Bool.false_eq_true, pu_of, pu_of24, pu_onward, pu_frq, if_true, if_false, true_or, or_true, false_or, or_false, and_true, true_and, and_false, false_and, not_true_eq_false, not_false_eq_true, if_neg, if_pos, F0_drop, h1]
    refine ⟨t2, ?_, ?_, fr_trans p2 h4⟩
    · rw [if_neg (by decide)]
      simp (disch := omega) only [pv_lt, pu_ck, pv_bI, pv_bV, pu_bR, pv_bL, pv_nt, pu_us, pu_un, mL_0, mL_1, mL_2, mL_3, mL_4, mL_5, mL_6, mL_7, mL_8, mL_9, mL_10, mL_11, mL_12, mL_13, mL_14, mL_15, mL_16, mL_23, mL_24, mL_32, mL_48, mL_64, mL_99, mL_100, mL_200, mL_336, mL_576, mL_768, mL_800, mL_999, mL_4095, mL_4096, mL_m1, nI_leI, nI_ltI, nI_eq, nI_clamp, nI_add, pk_mul, nI_nu, bI_eq0, bI_eq1, bo_ft, Bool.true_eq_false, Bool.false_eq_true, pu_of, pu_of24, pu_onward, pu_frq, if_true, if_false, true_or, or_true, false_or, or_false, and_true, true_and, and_false, false_and, not_true_eq_false, not_false_eq_true, if_neg, if_pos, f6_settleEntry_79, f6_settleEntry_96, hb, hd]
    · rw [if_neg (by decide)]; exact h2
theorem pr_sE {i : Nat} {t : sr_t} {s : rg_T} {k m : Nat} {w : st_T} (R : rg_R t s) (O : rg_ok s) (P : st_P i (rg_N s) w) (hi : i < 2 ^ 20) (hk : k < w.1.1) (hm : m < 24) (H : st_R t w) : ∃ t', F11_settles (nI m) (nI k) t = some (.inl (some (sr_i (nI (if w.2.2.2.2 k m = 0 then 0 else (sE s k m w).1)))), t') ∧ st_R t' (if w.2.2.2.2 k m = 0 then w else (sE s k m w).2) ∧ fr S_hr t t' := by
  have hN := O.1.1
  have q1 := P.1.1
  have q2 := P.1.2.1
  have hle := (P.2.2 k (by omega) m hm).1
  have h40 := (H.2.2 k (by omega) m hm).2
  by_cases h0 : w.2.2.2.2 k m = 0
  · rw [if_pos h0, if_pos h0]
    rw [h0] at h40
    refine ⟨t, ?_, H, fr_rfl⟩
    simp (disch := omega) only [pv_lt, pu_ck, pv_bI, pv_bV, pu_bR, pv_bL, pv_nt, pu_us, pu_un, mL_0, mL_1, mL_2, mL_3, mL_4, mL_5, mL_6, mL_7, mL_8, mL_9, mL_10, mL_11, mL_12, mL_13, mL_14, mL_15, mL_16, mL_23, mL_24, mL_32, mL_48, mL_64, mL_99, mL_100, mL_200, mL_336, mL_576, mL_768, mL_800, mL_999, mL_4095, mL_4096, mL_m1, nI_leI, nI_ltI, nI_eq, nI_clamp, nI_add, pk_mul, nI_nu, bI_eq0, bI_eq1, bo_ft, Bool.true_eq_false, Bool.false_eq_true, pu_of, pu_of24, pu_onward, pu_frq, if_true, if_false, true_or, or_true, false_or, or_false, and_true, true_and, and_false, false_and, not_true_eq_false, not_false_eq_true, if_neg, if_pos, F11_settles, pr_cell, h40, pu_ixN']
  · rw [if_neg h0, if_neg h0]
    have h37 := (H.2.1 k hk).1
    have ek := pr_keepers (c := w.1.2.2) R.1 O.1 (P.2.1 k hk).1 P.1.2.2.2 H.1.2.2
    unfold sE
    generalize kB s (w.2.1 k) w.1.2.2 = B at *
    obtain ⟨t1, ⟨p1, p2⟩, e1⟩ := pr_se (B := B) (m := m) (K := f11_settles_99 (nI m) (nI k)) R O P hi hk hm hle H
    have st : F11_settles (nI m) (nI k) t = f11_settles_99 (nI m) (nI k) B (nI (se B k m (w.2.2.2.2 k m) w (rg_N s)).1) t1 := by
      rw [← e1]
      simp (disch := omega) only [pv_lt, pu_ck, pv_bI, pv_bV, pu_bR, pv_bL, pv_nt, pu_us, pu_un, mL_0, mL_1, mL_2, mL_3, mL_4, mL_5, mL_6, mL_7, mL_8, mL_9, mL_10, mL_11, mL_12, mL_13, mL_14, mL_15, mL_16, mL_23, mL_24, mL_32, mL_48, mL_64, mL_99, mL_100, mL_200, mL_336, mL_576, mL_768, mL_800, mL_999, mL_4095, mL_4096, mL_m1, nI_leI, nI_ltI, nI_eq, nI_clamp, nI_add, pk_mul, nI_nu, bI_eq0, bI_eq1, bo_ft, Bool.true_eq_false, Bool.false_eq_true, pu_of, pu_of24, pu_onward, pu_frq, if_true, if_false, true_or, or_true, false_or, or_false, and_true, true_and, and_false, false_and, not_true_eq_false, not_false_eq_true, if_neg, if_pos, F11_settles, pr_cell, h40, h37, ek, pu_ixN']
    rw [st]
    have hb := bs_shr (x := B) (k := m) (by omega)
    cases hbs : bs B m with
    | true =>
      rw [hbs] at hb
      have bt : bI true = nI 1 := rfl
      rw [bt] at hb
      refine ⟨t1, ?_, ?_, p2⟩
      · rw [if_pos rfl]
        unfold f11_settles_99
        rw [mL_1, hb, if_pos rfl]
      · rw [if_pos rfl]; exact p1
    | false =>
      rw [hbs] at hb
      have bf : ¬ bI false = nI 1 := by decide
      obtain ⟨t2, h1, h2, h4⟩ := pr_holds (k := k) (n := m) (v := 0) (x := 0) p1 (by omega) hm
      refine ⟨t2, ?_, ?_, fr_trans p2 h4⟩
      · rw [if_neg (by decide)]
        unfold f11_settles_99
        rw [mL_1, hb, if_neg bf]
        simp (disch := omega) only [pv_lt, pu_ck, pv_bI, pv_bV, pu_bR, pv_bL, pv_nt, pu_us, pu_un, mL_0, mL_1, mL_2, mL_3, mL_4, mL_5, mL_6, mL_7, mL_8, mL_9, mL_10, mL_11, mL_12, mL_13, mL_14, mL_15, mL_16, mL_23, mL_24, mL_32, mL_48, mL_64, mL_99, mL_100, mL_200, mL_336, mL_576, mL_768, mL_800, mL_999, mL_4095, mL_4096, mL_m1, nI_leI, nI_ltI, nI_eq, nI_clamp, nI_add, pk_mul, nI_nu, bI_eq0, bI_eq1, bo_ft, Bool.true_eq_false, Bool.false_eq_true, pu_of, pu_of24, pu_onward, pu_frq, if_true, if_false, true_or, or_true, false_or, or_false, and_true, true_and, and_false, false_and, not_true_eq_false, not_false_eq_true, if_neg, if_pos, h1]
      · rw [if_neg (by decide)]; exact h2
def sF (s : rg_T) (m : Nat) (w : st_T) : Nat → Nat × st_T
  | 0 => (0, w)
  | k + 1 => if (sF s m w k).2.2.2.2.2 k m = 0 then sF s m w k else ((sF s m w k).1 + (sE s k m (sF s m w k).2).1, (sE s k m (sF s m w k).2).2)
theorem sF_s {s : rg_T} {m k : Nat} {w : st_T} : sF s m w (k + 1) = if (sF s m w k).2.2.2.2.2 k m = 0 then sF s m w k else ((sF s m w k).1 + (sE s k m (sF s m w k).2).1, (sE s k m (sF s m w k).2).2) := Eq.trans (Eq.refl _) (Eq.refl _)
theorem sF_P {i : Nat} {s : rg_T} {m : Nat} {w : st_T} (P : st_P i (rg_N s) w) (hN : rg_N s ≤ 24) (hm : m < 24) : ∀ k, k ≤ w.1.1 → st_P i (rg_N s) (sF s m w k).2 ∧ (sF s m w k).2.1 = w.1 := by
  intro k
  induction k with
  | zero => intro _; exact ⟨P, rfl⟩
  | succ k ih =>
    intro hk
    obtain ⟨a, b⟩ := ih (by omega)
    rw [sF_s]
    split
    · exact ⟨a, b⟩
    · have := sE_P (k := k) (m := m) a hN (by rw [b]; omega) hm
      exact ⟨this.1, this.2.trans b⟩
theorem pc_sF {i : Nat} {t : sr_t} {s : rg_T} {m : Nat} {w : st_T} (C : rg_C t 0 s) (O : rg_ok s) (P : st_P i (rg_N s) w) (hi : i < 2 ^ 20) (hm : m < 24) (H : st_C t w) : ∃ t', F6_settleFrom 0 (nI m) t = some (.inl (some (sr_i (nI (sF s m w w.1.1).1))), t') ∧ st_C t' (sF s m w w.1.1).2 ∧ fr S_hc t t' := by
  have hN := O.1.1
  have q1 := P.1.1
  have q2 := P.1.2.1
  have main : ∃ t', (st_C t' (sF s m w w.1.1).2 ∧ fr S_hc t t') ∧ f6_settleFrom_5 0 (nI m) (f6_settleFrom_48 0 (nI m)) sr_fu (nI 0) (nI 0) t = some (.inl (some (sr_i (nI (sF s m w w.1.1).1))), t') := by
    refine pu_forR (N := w.1.1) (L := fun f k t' => f6_settleFrom_5 0 (nI m) (f6_settleFrom_48 0 (nI m)) f (nI (sF s m w k).1) (nI k) t') (fin := fun t' => some (.inl (some (sr_i (nI (sF s m w w.1.1).1))), t')) (P := fun k t' => st_C t' (sF s m w k).2 ∧ fr S_hc t t') ?_ ?_ (by unfold sr_fu; omega) ⟨H, fr_rfl⟩
    · rintro k g t' hk ⟨p1, p2⟩
      have C' : rg_C t' 0 s := rg_C_fr hN p2 (fun k i j q => by unfold Fp_C at q; unfold S_hc; omega) C
      obtain ⟨P1, b1⟩ := sF_P (m := m) P hN hm k (by omega)
      have h62 := p1.1.1
      rw [b1] at h62
      have ea := pc_entryAt (t := t') (k := k) (by omega)
      have hv := (p1.2.2.1 k (by omega) m hm).2
      have hle := (P1.2.2 k (by omega) m hm).1
      rw [b1] at hle
      show ∃ t2, (st_C t2 (sF s m w (k + 1)).2 ∧ fr S_hc t t2) ∧ f6_settleFrom_5 0 (nI m) (f6_settleFrom_48 0 (nI m)) (g + 1) (nI (sF s m w k).1) (nI k) t' = f6_settleFrom_5 0 (nI m) (f6_settleFrom_48 0 (nI m)) g (nI (sF s m w (k + 1)).1) (nI (k + 1)) t2
      rw [sF_s]
      by_cases h0 : (sF s m w k).2.2.2.2.2 k m = 0
      · rw [h0] at hv
        have eh := pc_heldN (t := t') (k := k) (n := m) hm hv
        refine ⟨t', ⟨?_, p2⟩, ?_⟩
        · rw [if_pos h0]; exact p1
        · rw [if_pos h0]
          simp (disch := omega) only [pv_lt, pu_ck, pv_bI, pv_bV, pu_bR, pv_bL, pv_nt, pu_us, pu_un, mL_0, mL_1, mL_2, mL_3, mL_4, mL_5, mL_6, mL_7, mL_8, mL_9, mL_10, mL_11, mL_12, mL_13, mL_14, mL_15, mL_16, mL_23, mL_24, mL_32, mL_48, mL_64, mL_99, mL_100, mL_200, mL_336, mL_576, mL_768, mL_800, mL_999, mL_4095, mL_4096, mL_m1, nI_leI, nI_ltI, nI_eq, nI_clamp, nI_add, pk_mul, nI_nu, bI_eq0, bI_eq1, bo_ft, Bool.true_eq_false, Bool.false_eq_true, pu_of, pu_of24, pu_onward, pu_frq, if_true, if_false, true_or, or_true, false_or, or_false, and_true, true_and, and_false, false_and, not_true_eq_false, not_false_eq_true, if_neg, if_pos, f6_settleFrom_5, f6_settleFrom_42, h62, ea, eh]
      · have eh := pc_heldY (t := t') (k := k) (n := m) hm (by omega) hv (by omega)
        obtain ⟨t2, h1, h2, h4⟩ := pc_sE (m := m) C' O P1 hi (by rw [b1]; exact hk) hm p1
        have ea2 := pc_entryAt (t := t') (k := k) (by omega)
        refine ⟨t2, ⟨?_, fr_trans p2 h4⟩, ?_⟩
        · rw [if_neg h0]; exact h2
        · rw [if_neg h0]
          simp (disch := omega) only [pv_lt, pu_ck, pv_bI, pv_bV, pu_bR, pv_bL, pv_nt, pu_us, pu_un, mL_0, mL_1, mL_2, mL_3, mL_4, mL_5, mL_6, mL_7, mL_8, mL_9, mL_10, mL_11, mL_12, mL_13, mL_14, mL_15, mL_16, mL_23, mL_24, mL_32, mL_48, mL_64, mL_99, mL_100, mL_200, mL_336, mL_576, mL_768, mL_800, mL_999, mL_4095, mL_4096, mL_m1, nI_leI, nI_ltI, nI_eq, nI_clamp, nI_add, pk_mul, nI_nu, bI_eq0, bI_eq1, bo_ft, Bool.true_eq_false, Bool.false_eq_true, pu_of, pu_of24, pu_onward, pu_frq, if_true, if_false, true_or, or_true, false_or, or_false, and_true, true_and, and_false, false_and, not_true_eq_false, not_false_eq_true, if_neg, if_pos, f6_settleFrom_5, f6_settleFrom_42, h62, ea, eh, h1]
    · rintro g t' ⟨p1, p2⟩
      obtain ⟨P1, b1⟩ := sF_P (m := m) P hN hm w.1.1 (Nat.le_refl _)
      have h62 := p1.1.1
      rw [b1] at h62
      show f6_settleFrom_5 0 (nI m) (f6_settleFrom_48 0 (nI m)) (g + 1) (nI (sF s m w w.1.1).1) (nI w.1.1) t' = _
      simp (disch := omega) only [pv_lt, pu_ck, pv_bI, pv_bV, pu_bR, pv_bL, pv_nt, pu_us, pu_un, mL_0, mL_1, mL_2, mL_3, mL_4, mL_5, mL_6, mL_7, mL_8, mL_9, mL_10, mL_11, mL_12, mL_13, mL_14, mL_15, mL_16, mL_23, mL_24, mL_32, mL_48, mL_64, mL_99, mL_100, mL_200, mL_336, mL_576, mL_768, mL_800, mL_999, mL_4095, mL_4096, mL_m1, nI_leI, nI_ltI, nI_eq, nI_clamp, nI_add, pk_mul, nI_nu, bI_eq0, bI_eq1, bo_ft, Bool.true_eq_false, Bool.false_eq_true, pu_of, pu_of24, pu_onward, pu_frq, if_true, if_false, true_or, or_true, false_or, or_false, and_true, true_and, and_false, false_and, not_true_eq_false, not_false_eq_true, if_neg, if_pos, f6_settleFrom_5, f6_settleFrom_48, h62]
  obtain ⟨t', p, e⟩ := main
  exact ⟨t', e, p.1, p.2⟩
theorem pr_sF {i : Nat} {t : sr_t} {s : rg_T} {m : Nat} {w : st_T} (R : rg_R t s) (O : rg_ok s) (P : st_P i (rg_N s) w) (hi : i < 2 ^ 20) (hm : m < 24) (H : st_R t w) : ∃ t', f11_settle_22 (nI m) (f11_settle_45 (nI m)) sr_fu (nI 0) (nI 0) t = some (.inl (some (sr_i (nI (sF s m w w.1.1).1))), t') ∧ st_R t' (sF s m w w.1.1).2 ∧ fr S_hr t t' := by
  have hN := O.1.1
  have q1 := P.1.1
  have q2 := P.1.2.1
  have main : ∃ t', (st_R t' (sF s m w w.1.1).2 ∧ fr S_hr t t') ∧ f11_settle_22 (nI m) (f11_settle_45 (nI m)) sr_fu (nI 0) (nI 0) t = some (.inl (some (sr_i (nI (sF s m w w.1.1).1))), t') := by
    refine pu_forR (N := w.1.1) (L := fun f k t' => f11_settle_22 (nI m) (f11_settle_45 (nI m)) f (nI (sF s m w k).1) (nI k) t') (fin := fun t' => some (.inl (some (sr_i (nI (sF s m w w.1.1).1))), t')) (P := fun k t' => st_R t' (sF s m w k).2 ∧ fr S_hr t t') ?_ ?_ (by unfold sr_fu; omega) ⟨H, fr_rfl⟩
    · rintro k g t' hk ⟨p1, p2⟩
      have R' : rg_R t' s := rg_R_fr O p2 (fun k i j q => by unfold Fp_R at q; unfold S_hr; omega) R
      obtain ⟨P1, b1⟩ := sF_P (m := m) P hN hm k (by omega)
      have h62 := p1.1.1
      rw [b1] at h62
      obtain ⟨t2, h1, h2, h4⟩ := pr_sE (m := m) R' O P1 hi (by rw [b1]; exact hk) hm p1
      refine ⟨t2, ⟨?_, fr_trans p2 h4⟩, ?_⟩
      · rw [sF_s]
        by_cases h0 : (sF s m w k).2.2.2.2.2 k m = 0
        · rw [if_pos h0] at h2 ⊢; exact h2
        · rw [if_neg h0] at h2 ⊢; exact h2
      · show f11_settle_22 (nI m) (f11_settle_45 (nI m)) (g + 1) (nI (sF s m w k).1) (nI k) t' = f11_settle_22 (nI m) (f11_settle_45 (nI m)) g (nI (sF s m w (k + 1)).1) (nI (k + 1)) t2
        have es : (sF s m w (k + 1)).1 = (sF s m w k).1 + (if (sF s m w k).2.2.2.2.2 k m = 0 then 0 else (sE s k m (sF s m w k).2).1) := by
          rw [sF_s]
          by_cases h0 : (sF s m w k).2.2.2.2.2 k m = 0
          · rw [if_pos h0, if_pos h0]; rfl
          · rw [if_neg h0, if_neg h0]
        rw [es]
        simp (disch := omega) only [pv_lt, pu_ck, pv_bI, pv_bV, pu_bR, pv_bL, pv_nt, pu_us, pu_un, mL_0, mL_1, mL_2, mL_3, mL_4, mL_5, mL_6, mL_7, mL_8, mL_9, mL_10, mL_11, mL_12, mL_13, mL_14, mL_15, mL_16, mL_23, mL_24, mL_32, mL_48, mL_64, mL_99, mL_100, mL_200, mL_336, mL_576, mL_768, mL_800, mL_999, mL_4095, mL_4096, mL_m1, nI_leI, nI_ltI, nI_eq, nI_clamp, nI_add, pk_mul, nI_nu, bI_eq0, bI_eq1, bo_ft, Bool.true_eq_false, Bool.false_eq_true, pu_of, pu_of24, pu_onward, pu_frq, if_true, if_false, true_or, or_true, false_or, or_false, and_true, true_and, and_false, false_and, not_true_eq_false, not_false_eq_true, if_neg, if_pos, f11_settle_22, h62, h1]
    · rintro g t' ⟨p1, p2⟩
      obtain ⟨P1, b1⟩ := sF_P (m := m) P hN hm w.1.1 (Nat.le_refl _)
      have h62 := p1.1.1
      rw [b1] at h62
      show f11_settle_22 (nI m) (f11_settle_45 (nI m)) (g + 1) (nI (sF s m w w.1.1).1) (nI w.1.1) t' = _
      simp (disch := omega) only [pv_lt, pu_ck, pv_bI, pv_bV, pu_bR, pv_bL, pv_nt, pu_us, pu_un, mL_0, mL_1, mL_2, mL_3, mL_4, mL_5, mL_6, mL_7, mL_8, mL_9, mL_10, mL_11, mL_12, mL_13, mL_14, mL_15, mL_16, mL_23, mL_24, mL_32, mL_48, mL_64, mL_99, mL_100, mL_200, mL_336, mL_576, mL_768, mL_800, mL_999, mL_4095, mL_4096, mL_m1, nI_leI, nI_ltI, nI_eq, nI_clamp, nI_add, pk_mul, nI_nu, bI_eq0, bI_eq1, bo_ft, Bool.true_eq_false, Bool.false_eq_true, pu_of, pu_of24, pu_onward, pu_frq, if_true, if_false, true_or, or_true, false_or, or_false, and_true, true_and, and_false, false_and, not_true_eq_false, not_false_eq_true, if_neg, if_pos, f11_settle_22, f11_settle_45, h62]
  obtain ⟨t', p, e⟩ := main
  exact ⟨t', e, p.1, p.2⟩
end
