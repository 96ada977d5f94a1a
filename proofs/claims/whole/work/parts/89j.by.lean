section
/-! steps: cost, enough -/
def S_27 (K k i j : Nat) : Prop := k = K ∧ i = 0 ∧ j < 336
theorem pr_aside {t : sr_t} : ∃ t', F11_putsAside t = some (.inl none, t') ∧ (∀ j, j < 336 → t'.1 28 0 j = t.1 27 0 j) ∧ fr (S_27 28) t t' := by
  refine rs_via fun Q hQ => ?_
  simp (disch := omega) only [pv_lt, pu_ck, pv_bI, pv_bV, pu_bR, pv_bL, pv_nt, pu_us, pu_un, mL_0, mL_1, mL_2, mL_3, mL_4, mL_5, mL_6, mL_7, mL_8, mL_9, mL_10, mL_11, mL_12, mL_13, mL_14, mL_15, mL_16, mL_23, mL_24, mL_32, mL_48, mL_64, mL_99, mL_100, mL_200, mL_336, mL_576, mL_768, mL_800, mL_999, mL_4095, mL_4096, mL_m1, nI_leI, nI_ltI, nI_eq, nI_clamp, nI_add, pk_mul, nI_nu, bI_eq0, bI_eq1, bo_ft, Bool.true_eq_false, Bool.false_eq_true, pu_of, pu_of24, pu_onward, pu_frq, if_true, if_false, true_or, or_true, false_or, or_false, and_true, true_and, and_false, false_and, not_true_eq_false, not_false_eq_true, if_neg, if_pos, F11_putsAside]
  refine rs_loop (N := 336) (L := fun f k t' => f11_putsAside_2 f11_putsAside_27 f (nI k) t') (fun k t' => (∀ j, j < k → t'.1 28 0 j = t.1 27 0 j) ∧ fr (S_27 28) t t') ?_ ?_ (by unfold sr_fu; omega) ⟨fun j hj => by omega, fr_rfl⟩
  · rintro k g t' hk ⟨p1, p2⟩
    have e := p2.2 27 0 k (by unfold S_27; omega)
    left
    refine ⟨sr_u t' 28 0 k (t.1 27 0 k), ⟨fun j hj => ?_, fr_u p2 ⟨rfl, rfl, hk⟩⟩, ?_⟩
    · by_cases ej : j = k
      · rw [ej, pu_us]
      · rw [pu_un (by omega)]; exact p1 j (by omega)
    · show f11_putsAside_2 f11_putsAside_27 (g + 1) (nI k) t' = f11_putsAside_2 f11_putsAside_27 g (nI (k + 1)) _
      simp (disch := omega) only [pv_lt, pu_ck, pv_bI, pv_bV, pu_bR, pv_bL, pv_nt, pu_us, pu_un, mL_0, mL_1, mL_2, mL_3, mL_4, mL_5, mL_6, mL_7, mL_8, mL_9, mL_10, mL_11, mL_12, mL_13, mL_14, mL_15, mL_16, mL_23, mL_24, mL_32, mL_48, mL_64, mL_99, mL_100, mL_200, mL_336, mL_576, mL_768, mL_800, mL_999, mL_4095, mL_4096, mL_m1, nI_leI, nI_ltI, nI_eq, nI_clamp, nI_add, pk_mul, nI_nu, bI_eq0, bI_eq1, bo_ft, Bool.true_eq_false, Bool.false_eq_true, pu_of, pu_of24, pu_onward, pu_frq, if_true, if_false, true_or, or_true, false_or, or_false, and_true, true_and, and_false, false_and, not_true_eq_false, not_false_eq_true, if_neg, if_pos, f11_putsAside_2, e, pu_ixN']
  · rintro g t' ⟨p1, p2⟩
    show rs_to _ (f11_putsAside_2 f11_putsAside_27 (g + 1) (nI 336) t')
    simp (disch := omega) only [pv_lt, pu_ck, pv_bI, pv_bV, pu_bR, pv_bL, pv_nt, pu_us, pu_un, mL_0, mL_1, mL_2, mL_3, mL_4, mL_5, mL_6, mL_7, mL_8, mL_9, mL_10, mL_11, mL_12, mL_13, mL_14, mL_15, mL_16, mL_23, mL_24, mL_32, mL_48, mL_64, mL_99, mL_100, mL_200, mL_336, mL_576, mL_768, mL_800, mL_999, mL_4095, mL_4096, mL_m1, nI_leI, nI_ltI, nI_eq, nI_clamp, nI_add, pk_mul, nI_nu, bI_eq0, bI_eq1, bo_ft, Bool.true_eq_false, Bool.false_eq_true, pu_of, pu_of24, pu_onward, pu_frq, if_true, if_false, true_or, or_true, false_or, or_false, and_true, true_and, and_false, false_and, not_true_eq_false, not_false_eq_true, if_neg, if_pos, f11_putsAside_2, f11_putsAside_27]
    exact rs_ret (hQ _ ⟨p1, p2⟩)
theorem pr_back {t : sr_t} : ∃ t', F11_putsBack t = some (.inl none, t') ∧ (∀ j, j < 336 → t'.1 27 0 j = t.1 28 0 j) ∧ fr (S_27 27) t t' := by
  refine rs_via fun Q hQ => ?_
  simp (disch := omega) only [pv_lt, pu_ck, pv_bI, pv_bV, pu_bR, pv_bL, pv_nt, pu_us, pu_un, mL_0, mL_1, mL_2, mL_3, mL_4, mL_5, mL_6, mL_7, mL_8, mL_9, mL_10, mL_11, mL_12, mL_13, mL_14, mL_15, mL_16, mL_23, mL_24, mL_32, mL_48, mL_64, mL_99, mL_100, mL_200, mL_336, mL_576, mL_768, mL_800, mL_999, mL_4095, mL_4096, mL_m1, nI_leI, nI_ltI, nI_eq, nI_clamp, nI_add, pk_mul, nI_nu, bI_eq0, bI_eq1, bo_ft, Bool.true_eq_false, Bool.false_eq_true, pu_of, pu_of24, pu_onward, pu_frq, if_true, if_false, true_or, or_true, false_or, or_false, and_true, true_and, and_false, false_and, not_true_eq_false, not_false_eq_true, if_neg, if_pos, F11_putsBack]
  refine rs_loop (N := 336) (L := fun f k t' => f11_putsBack_2 f11_putsBack_27 f (nI k) t') (fun k t' => (∀ j, j < k → t'.1 27 0 j = t.1 28 0 j) ∧ fr (S_27 27) t t') ?_ ?_ (by unfold sr_fu; omega) ⟨fun j hj => by omega, fr_rfl⟩
  · rintro k g t' hk ⟨p1, p2⟩
    have e := p2.2 28 0 k (by unfold S_27; omega)
    left
    refine ⟨sr_u t' 27 0 k (t.1 28 0 k), ⟨fun j hj => ?_, fr_u p2 ⟨rfl, rfl, hk⟩⟩, ?_⟩
    · by_cases ej : j = k
      · rw [ej, pu_us]
      · rw [pu_un (by omega)]; exact p1 j (by omega)
    · show f11_putsBack_2 f11_putsBack_27 (g + 1) (nI k) t' = f11_putsBack_2 f11_putsBack_27 g (nI (k + 1)) _
      simp (disch := omega) only [pv_lt, pu_ck, pv_bI, pv_bV, pu_bR, pv_bL, pv_nt, pu_us, pu_un, mL_0, mL_1, mL_2, mL_3, mL_4, mL_5, mL_6, mL_7, mL_8, mL_9, mL_10, mL_11, mL_12, mL_13, mL_14, mL_15, mL_16, mL_23, mL_24, mL_32, mL_48, mL_64, mL_99, mL_100, mL_200, mL_336, mL_576, mL_768, mL_800, mL_999, mL_4095, mL_4096, mL_m1, nI_leI, nI_ltI, nI_eq, nI_clamp, nI_add, pk_mul, nI_nu, bI_eq0, bI_eq1, bo_ft, Bool.true_eq_false, Bool.false_eq_true, pu_of, pu_of24, pu_onward, pu_frq, if_true, if_false, true_or, or_true, false_or, or_false, and_true, true_and, and_false, false_and, not_true_eq_false, not_false_eq_true, if_neg, if_pos, f11_putsBack_2, e, pu_ixN']
  · rintro g t' ⟨p1, p2⟩
    show rs_to _ (f11_putsBack_2 f11_putsBack_27 (g + 1) (nI 336) t')
    simp (disch := omega) only [pv_lt, pu_ck, pv_bI, pv_bV, pu_bR, pv_bL, pv_nt, pu_us, pu_un, mL_0, mL_1, mL_2, mL_3, mL_4, mL_5, mL_6, mL_7, mL_8, mL_9, mL_10, mL_11, mL_12, mL_13, mL_14, mL_15, mL_16, mL_23, mL_24, mL_32, mL_48, mL_64, mL_99, mL_100, mL_200, mL_336, mL_576, mL_768, mL_800, mL_999, mL_4095, mL_4096, mL_m1, nI_leI, nI_ltI, nI_eq, nI_clamp, nI_add, pk_mul, nI_nu, bI_eq0, bI_eq1, bo_ft, Bool.true_eq_false, Bool.false_eq_true, pu_of, pu_of24, pu_onward, pu_frq, if_true, if_false, true_or, or_true, false_or, or_false, and_true, true_and, and_false, false_and, not_true_eq_false, not_false_eq_true, if_neg, if_pos, f11_putsBack_2, f11_putsBack_27]
    exact rs_ret (hQ _ ⟨p1, p2⟩)
theorem rg_t_by {s : rg_T} {b d n : Nat} : rg_t (rg_by s b d) n = if rg_u s n = true then rg_lay (rg_sb s b) b d n else rg_t s n := by
  show (if rg_u s n = true then rg_lay (rg_sd (rg_sb s b) d) b d n else rg_t s n) = _
  rw [rg_lay_sd]
set_option maxHeartbeats 4000000 in
theorem pr_by {i : Nat} {t : sr_t} {s : rg_T} {w : st_T} {b d : Nat} (X : J i t s w) (b1 : 1 ≤ b) (b4 : b ≤ 4) (d1 : 1 ≤ d) (d8 : d ≤ 8) : ∃ t', F11_samplesBy (nI (2 ^ b)) (nI d) t = some (.inl none, t') ∧ t'.1 11 0 40 = nI (sS (rg_by s b d) (fH (rg_by s b d) true) (64 * rg_N s)) ∧ t'.1 11 0 46 = nI (sM (rg_by s b d) (fH (rg_by s b d) true) (64 * rg_N s)) ∧ fr Sr0 t t' := by
  obtain ⟨O, C, K, nb, sp, R, kp, L, W⟩ := X
  have hN := O.1.1
  obtain ⟨t1, e1, a1, f1⟩ := pr_aside (t := t)
  have h7 := R.1.1.2.1
  have O1 : rg_ok (rg_sb s b) := rg_ok_sb O b1 b4
  have Ob := rg_ok_by O b1 b4 d1 d8
  have f2 : fr (fun k i j => S_27 28 k i j ∨ (k = 11 ∧ i = 0 ∧ j = 7)) t (sr_u t1 11 0 7 (nI (2 ^ b))) := fr_trans (fr_mono f1 (fun k i j q => Or.inl q)) (fr_u fr_rfl (Or.inr ⟨rfl, rfl, rfl⟩))
  have RB2 : rg_RB (sr_u t1 11 0 7 (nI (2 ^ b))) (rg_sb s b) := by
    obtain ⟨⟨⟨r1, r2, r3⟩, rn⟩, _⟩ := R
    refine ⟨⟨?_, ?_, ?_⟩, fun n hn => ⟨?_, ?_, ?_⟩⟩
    · rw [pu_un (by omega), f1.2 _ _ _ (by unfold S_27; omega)]; exact r1
    · rw [pu_us]; rfl
    · rw [pu_un (by omega), f1.2 _ _ _ (by unfold S_27; omega)]; exact r3
    · rw [pu_un (by omega), f1.2 _ _ _ (by unfold S_27; omega)]; exact (rn n hn).1
    · rw [pu_un (by omega), f1.2 _ _ _ (by unfold S_27; omega)]; exact (rn n hn).2.1
    · rw [pu_un (by omega), f1.2 _ _ _ (by unfold S_27; omega)]; exact (rn n hn).2.2
  refine rs_via fun Q hQ => ?_
  simp (disch := omega) only [pv_lt, pu_ck, pv_bI, pv_bV, pu_bR, pv_bL, pv_nt, pu_us, pu_un, mL_0, mL_1, mL_2, mL_3, mL_4, mL_5, mL_6, mL_7, mL_8, mL_9, mL_10, mL_11, mL_12, mL_13, mL_14, mL_15, mL_16, mL_23, mL_24, mL_32, mL_48, mL_64, mL_99, mL_100, mL_200, mL_336, mL_576, mL_768, mL_800, mL_999, mL_4095, mL_4096, mL_m1, nI_leI, nI_ltI, nI_eq, nI_clamp, nI_add, pk_mul, nI_nu, bI_eq0, bI_eq1, bo_ft, Bool.true_eq_false, Bool.false_eq_true, pu_of, pu_of24, pu_onward, pu_frq, if_true, if_false, true_or, or_true, false_or, or_false, and_true, true_and, and_false, false_and, not_true_eq_false, not_false_eq_true, if_neg, if_pos, F11_samplesBy, e1, h7]
  refine rs_loop (N := rg_N s) (L := fun f n t' => f11_samplesBy_17 (nI (2 ^ b)) (nI d) (f11_samplesBy_60 (nI (2 ^ b)) (nI d)) f (nI (2 ^ rg_b s)) (nI n) t') (fun n t' => rg_RB t' (rg_sb s b) ∧ (∀ m, m < rg_N s → rg_rt t' 27 (14 * m) (if m < n then rg_t (rg_by s b d) m else rg_t s m)) ∧ fr (S_27 27) (sr_u t1 11 0 7 (nI (2 ^ b))) t') ?_ ?_ (by unfold sr_fu; omega) ⟨RB2, fun m hm => ?_, fr_rfl⟩
  · rintro n g t' hn ⟨p1, p2, p3⟩
    have hN' := p1.1.1
    have hup := (p1.2 n hn).2.1
    have hN'' : t'.1 11 0 1 = nI (rg_N s) := hN'
    have hup' : t'.1 25 0 n = bI (rg_u s n) := hup
    have okT : ∀ m, m < rg_N s → rg_tok (rg_N s) (if m < n then rg_t (rg_by s b d) m else rg_t s m) := fun m hm => by
      split
      · exact Ob.2 m hm
      · exact O.2 m hm
    left
    by_cases hu : rg_u s n = true
    · obtain ⟨t4, g1, g2, g3⟩ := pu_lays27 (s := rg_sb s b) (b := b) (d := d) (a := 14 * n) p1 O1.1 hn hu b4 d8 (by omega)
      rw [hu] at hup'
      have bt : bI true = nI 1 := rfl
      refine ⟨t4, ⟨rg_RB_fr g3 (fun k i j q hk => by unfold S_rt; omega) p1, fun m hm => ?_, fr_trans p3 (fr_mono g3 (fun k i j q => by unfold S_rt at q; unfold S_27; omega))⟩, ?_⟩
      · by_cases e : m = n
        · rw [if_pos (by omega), e, rg_t_by, if_pos hu]; exact g2
        · have q := p2 m hm
          have okm := okT m hm
          have ee : (if m < n + 1 then rg_t (rg_by s b d) m else rg_t s m) = (if m < n then rg_t (rg_by s b d) m else rg_t s m) := by
            by_cases h : m < n
            · rw [if_pos h, if_pos (by omega)]
            · rw [if_neg h, if_neg (by omega)]
          rw [ee]
          exact rg_rt_fr (fun j h1 h2 => g3.2 _ _ _ (by unfold S_rt; omega)) okm.2.1 okm.2.2.2.2.1 q
      · show f11_samplesBy_17 (nI (2 ^ b)) (nI d) (f11_samplesBy_60 (nI (2 ^ b)) (nI d)) (g + 1) (nI (2 ^ rg_b s)) (nI n) t' = f11_samplesBy_17 (nI (2 ^ b)) (nI d) (f11_samplesBy_60 (nI (2 ^ b)) (nI d)) g (nI (2 ^ rg_b s)) (nI (n + 1)) t4
        simp (disch := omega) only [pv_lt, pu_ck, pv_bI, pv_bV, pu_bR, pv_bL, pv_nt, pu_us, pu_un, mL_0, mL_1, mL_2, mL_3, mL_4, mL_5, mL_6, mL_7, mL_8, mL_9, mL_10, mL_11, mL_12, mL_13, mL_14, mL_15, mL_16, mL_23, mL_24, mL_32, mL_48, mL_64, mL_99, mL_100, mL_200, mL_336, mL_576, mL_768, mL_800, mL_999, mL_4095, mL_4096, mL_m1, nI_leI, nI_ltI, nI_eq, nI_clamp, nI_add, pk_mul, nI_nu, bI_eq0, bI_eq1, bo_ft, Bool.true_eq_false, Bool.false_eq_true, pu_of, pu_of24, pu_onward, pu_frq, if_true, if_false, true_or, or_true, false_or, or_false, and_true, true_and, and_false, false_and, not_true_eq_false, not_false_eq_true, if_neg, if_pos, f11_samplesBy_17, f11_samplesBy_54, hN'', hup', bt, g1, pu_ixN']
    · have hu' : rg_u s n = false := by simpa using hu
      rw [hu'] at hup'
      have bf : ¬ bI false = nI 1 := by decide
      refine ⟨t', ⟨p1, fun m hm => ?_, p3⟩, ?_⟩
      · by_cases e : m = n
        · have q := p2 m hm
          rw [if_neg (by omega)] at q
          rw [if_pos (by omega), e, rg_t_by, if_neg hu, ← e]; exact q
        · have q := p2 m hm
          have ee : (if m < n + 1 then rg_t (rg_by s b d) m else rg_t s m) = (if m < n then rg_t (rg_by s b d) m else rg_t s m) := by
            by_cases h : m < n
            · rw [if_pos h, if_pos (by omega)]
            · rw [if_neg h, if_neg (by omega)]
          rw [ee]
          exact q
      · show f11_samplesBy_17 (nI (2 ^ b)) (nI d) (f11_samplesBy_60 (nI (2 ^ b)) (nI d)) (g + 1) (nI (2 ^ rg_b s)) (nI n) t' = f11_samplesBy_17 (nI (2 ^ b)) (nI d) (f11_samplesBy_60 (nI (2 ^ b)) (nI d)) g (nI (2 ^ rg_b s)) (nI (n + 1)) t'
        simp (disch := omega) only [pv_lt, pu_ck, pv_bI, pv_bV, pu_bR, pv_bL, pv_nt, pu_us, pu_un, mL_0, mL_1, mL_2, mL_3, mL_4, mL_5, mL_6, mL_7, mL_8, mL_9, mL_10, mL_11, mL_12, mL_13, mL_14, mL_15, mL_16, mL_23, mL_24, mL_32, mL_48, mL_64, mL_99, mL_100, mL_200, mL_336, mL_576, mL_768, mL_800, mL_999, mL_4095, mL_4096, mL_m1, nI_leI, nI_ltI, nI_eq, nI_clamp, nI_add, pk_mul, nI_nu, bI_eq0, bI_eq1, bo_ft, Bool.true_eq_false, Bool.false_eq_true, pu_of, pu_of24, pu_onward, pu_frq, if_true, if_false, true_or, or_true, false_or, or_false, and_true, true_and, and_false, false_and, not_true_eq_false, not_false_eq_true, if_neg, if_pos, f11_samplesBy_17, f11_samplesBy_54, hN'', hup', bf, pu_ixN']
  · rintro g t3 ⟨p1, p2, p3⟩
    have hN'' : t3.1 11 0 1 = nI (rg_N s) := p1.1.1
    have RN : rg_RN t3 (rg_by s b d) := ⟨⟨rg_d s, O.1.2.2.1.1, O.1.2.2.1.2, p1⟩, fun m hm => by
      have q := p2 m hm
      rw [if_pos (show m < rg_N s from hm)] at q
      exact q⟩
    have k3 : t3.1 11 0 22 = nI 0 := by rw [p3.2 _ _ _ (by unfold S_27; omega), pu_un (by omega), f1.2 _ _ _ (by unfold S_27; omega)]; exact kp
    obtain ⟨t4, e4, I4, f4⟩ := pr_samples (best := true) RN Ob k3
    have e4' : F11_samples (nI 1) t3 = some (.inl none, t4) := e4
    obtain ⟨t6, e6, a6, f6⟩ := pr_back (t := sr_u t4 11 0 7 (nI (2 ^ rg_b s)))
    obtain ⟨⟨z0, _, _, _, _, _, z6, _⟩, _, _⟩ := I4
    show rs_to _ (f11_samplesBy_17 (nI (2 ^ b)) (nI d) (f11_samplesBy_60 (nI (2 ^ b)) (nI d)) (g + 1) (nI (2 ^ rg_b s)) (nI (rg_N s)) t3)
    simp (disch := omega) only [pv_lt, pu_ck, pv_bI, pv_bV, pu_bR, pv_bL, pv_nt, pu_us, pu_un, mL_0, mL_1, mL_2, mL_3, mL_4, mL_5, mL_6, mL_7, mL_8, mL_9, mL_10, mL_11, mL_12, mL_13, mL_14, mL_15, mL_16, mL_23, mL_24, mL_32, mL_48, mL_64, mL_99, mL_100, mL_200, mL_336, mL_576, mL_768, mL_800, mL_999, mL_4095, mL_4096, mL_m1, nI_leI, nI_ltI, nI_eq, nI_clamp, nI_add, pk_mul, nI_nu, bI_eq0, bI_eq1, bo_ft, Bool.true_eq_false, Bool.false_eq_true, pu_of, pu_of24, pu_onward, pu_frq, if_true, if_false, true_or, or_true, false_or, or_false, and_true, true_and, and_false, false_and, not_true_eq_false, not_false_eq_true, if_neg, if_pos, f11_samplesBy_17, f11_samplesBy_60, hN'', e4', e6]
    refine rs_ret (hQ _ ⟨?_, ?_, ?_, fun k i j q => ?_⟩)
    · rw [f6.2 _ _ _ (by unfold S_27; omega), pu_un (by omega)]; exact z0
    · rw [f6.2 _ _ _ (by unfold S_27; omega), pu_un (by omega)]; exact z6
    · rw [f6.1]
      show t4.2 = t.2
      rw [f4.1, p3.1]
      exact f1.1
    · by_cases c1 : k = 27 ∧ i = 0 ∧ j < 336
      · obtain ⟨rfl, rfl, hj⟩ := c1
        rw [a6 j hj, pu_un (by omega), f4.2 _ _ _ (by unfold S_sr'; omega), p3.2 _ _ _ (by unfold S_27; omega), pu_un (by omega), a1 j hj]
      · rw [f6.2 _ _ _ (fun e => c1 e)]
        by_cases c2 : k = 11 ∧ i = 0 ∧ j = 7
        · obtain ⟨rfl, rfl, rfl⟩ := c2
          rw [pu_us]; exact h7.symm
        · rw [pu_un c2, f4.2 _ _ _ (fun e => q (by unfold S_sr' at e; unfold Sr0; omega)), p3.2 _ _ _ (fun e => c1 e), pu_un c2, f1.2 _ _ _ (fun e => q (by unfold S_27 at e; unfold Sr0; omega))]
  · rw [if_neg (by omega)]
    refine rg_rt_fr (fun j _ _ => ?_) (O.2 m hm).2.1 (O.2 m hm).2.2.2.2.1 (R.2 m hm)
    rw [pu_un (by omega), f1.2 _ _ _ (by unfold S_27; omega)]
def ct (s : rg_T) (b d : Nat) : Nat := sS (rg_by s b d) (fH (rg_by s b d) true) (64 * rg_N s)
def mh (s : rg_T) (b d : Nat) : Nat := sM (rg_by s b d) (fH (rg_by s b d) true) (64 * rg_N s)
theorem sSH_le {P : rg_T} {m : Nat} (hm : m ≤ 1536) : sS P (fH P true) m ≤ 307200 := by
  have := sm_le (f := sv P (fH P true)) (c := 200) m (fun k _ => svH_le)
  unfold sS
  omega
theorem ct_le {s : rg_T} {b d : Nat} (O : rg_ok s) : ct s b d ≤ 307200 := by
  have hN := O.1.1
  exact sSH_le (by omega)
theorem mh_le {s : rg_T} {b d : Nat} : mh s b d ≤ 200 := sM_le _ (fun x _ => svH_le)
theorem nD_no {t : sr_t} {a : Int32} (hb : a < nI 1 ∨ nI 8 < a) : F10_needDegree a t = some (.inr 0, t) := c_no (l := 1) (h := 8) hb
theorem nD_ok {t : sr_t} {d : Nat} (d1 : 1 ≤ d) (d8 : d ≤ 8) : F10_needDegree (nI d) t = some (.inl none, t) := by simp (disch := omega) only [pv_lt, pu_ck, pv_bI, pv_bV, pu_bR, pv_bL, pv_nt, pu_us, pu_un, mL_0, mL_1, mL_2, mL_3, mL_4, mL_5, mL_6, mL_7, mL_8, mL_9, mL_10, mL_11, mL_12, mL_13, mL_14, mL_15, mL_16, mL_23, mL_24, mL_32, mL_48, mL_64, mL_99, mL_100, mL_200, mL_336, mL_576, mL_768, mL_800, mL_999, mL_4095, mL_4096, mL_m1, nI_leI, nI_ltI, nI_eq, nI_clamp, nI_add, pk_mul, nI_nu, bI_eq0, bI_eq1, bo_ft, Bool.true_eq_false, Bool.false_eq_true, pu_of, pu_of24, pu_onward, pu_frq, if_true, if_false, true_or, or_true, false_or, or_false, and_true, true_and, and_false, false_and, not_true_eq_false, not_false_eq_true, if_neg, if_pos, F10_needDegree]
theorem s_cost {i : Nat} (hi : i + 4 ≤ 2048) (a c : Int32) : sr_ok3 (sr_Inv i) (sr_Inv (i + 4)) (fun t => FL_cost_23 a c t) (fun t => F11_cost a c t) := by
  refine ok3_qf hi (F := F10_cost a c) (G := F11_cost a c) (hc := hcL_cost_23) (fun t s w X => ?_)
  rcases a_base a with ⟨b, b1, b4, rfl⟩ | ha
  · have nB := nB_ok (t := t) b1 b4
    have iB := iB_ok (t := t) b1 b4
    rcases a_in c 1 8 (by omega) (by omega) with hc | ⟨d, d1, d8, rfl⟩
    · right
      have nD := nD_no (t := t) hc
      have iD : F11_isIn c (nI 1) (nI 8) t = some (.inl (some (sr_i (nI 0))), t) := iIn_no hc
      refine ⟨0, nI 1, nI 0, sr_u t 11 0 0 (nI 1), ?_, rfl, by decide, ?_, pu_us, Sr_0⟩
      · simp (disch := omega) only [pv_lt, pu_ck, pv_bI, pv_bV, pu_bR, pv_bL, pv_nt, pu_us, pu_un, mL_0, mL_1, mL_2, mL_3, mL_4, mL_5, mL_6, mL_7, mL_8, mL_9, mL_10, mL_11, mL_12, mL_13, mL_14, mL_15, mL_16, mL_23, mL_24, mL_32, mL_48, mL_64, mL_99, mL_100, mL_200, mL_336, mL_576, mL_768, mL_800, mL_999, mL_4095, mL_4096, mL_m1, nI_leI, nI_ltI, nI_eq, nI_clamp, nI_add, pk_mul, nI_nu, bI_eq0, bI_eq1, bo_ft, Bool.true_eq_false, Bool.false_eq_true, pu_of, pu_of24, pu_onward, pu_frq, if_true, if_false, true_or, or_true, false_or, or_false, and_true, true_and, and_false, false_and, not_true_eq_false, not_false_eq_true, if_neg, if_pos, F10_cost, nB, nD, bVr]
      · simp (disch := omega) only [pv_lt, pu_ck, pv_bI, pv_bV, pu_bR, pv_bL, pv_nt, pu_us, pu_un, mL_0, mL_1, mL_2, mL_3, mL_4, mL_5, mL_6, mL_7, mL_8, mL_9, mL_10, mL_11, mL_12, mL_13, mL_14, mL_15, mL_16, mL_23, mL_24, mL_32, mL_48, mL_64, mL_99, mL_100, mL_200, mL_336, mL_576, mL_768, mL_800, mL_999, mL_4095, mL_4096, mL_m1, nI_leI, nI_ltI, nI_eq, nI_clamp, nI_add, pk_mul, nI_nu, bI_eq0, bI_eq1, bo_ft, Bool.true_eq_false, Bool.false_eq_true, pu_of, pu_of24, pu_onward, pu_frq, if_true, if_false, true_or, or_true, false_or, or_false, and_true, true_and, and_false, false_and, not_true_eq_false, not_false_eq_true, if_neg, if_pos, F11_cost, f11_cost_22, f11_cost_23, iB, iD]
    · left
      have nD := nD_ok (t := t) d1 d8
      obtain ⟨t1, e1, c1, k1, f1⟩ := pc_copy X
      obtain ⟨t2, e2, _, I2, f2⟩ := pc_laid (b := b) (d := d) ⟨s, c1, X.1, fun _ _ => rfl⟩ b1 b4 d1 d8
      have y3 : t2.1 5 0 3 = nI (ct s b d) := I2.1
      refine ⟨nI (ct s b d), ⟨t2, ?_, frI_of (fr_mono (fr_trans f1 f2) (fun k i j q => S_tr_Sc q))⟩, fun t' X' ft => ?_⟩
      · simp (disch := omega) only [pv_lt, pu_ck, pv_bI, pv_bV, pu_bR, pv_bL, pv_nt, pu_us, pu_un, mL_0, mL_1, mL_2, mL_3, mL_4, mL_5, mL_6, mL_7, mL_8, mL_9, mL_10, mL_11, mL_12, mL_13, mL_14, mL_15, mL_16, mL_23, mL_24, mL_32, mL_48, mL_64, mL_99, mL_100, mL_200, mL_336, mL_576, mL_768, mL_800, mL_999, mL_4095, mL_4096, mL_m1, nI_leI, nI_ltI, nI_eq, nI_clamp, nI_add, pk_mul, nI_nu, bI_eq0, bI_eq1, bo_ft, Bool.true_eq_false, Bool.false_eq_true, pu_of, pu_of24, pu_onward, pu_frq, if_true, if_false, true_or, or_true, false_or, or_false, and_true, true_and, and_false, false_and, not_true_eq_false, not_false_eq_true, if_neg, if_pos, F10_cost, nB, nD, F1_costOf, e1, e2, y3]
      · obtain ⟨t3, e3, z0, _, f3⟩ := pr_by (J_thr (v := nI 0) X') b1 b4 d1 d8
        have z0' : t3.1 11 0 40 = nI (ct s b d) := z0
        have iB := iB_ok (t := t') b1 b4
        have iD := iIn_ok (t := t') d1 d8 (by omega)
        refine ⟨t3, ?_, (Sr_q f3).1, (Sr_q f3).2⟩
        simp (disch := omega) only [pv_lt, pu_ck, pv_bI, pv_bV, pu_bR, pv_bL, pv_nt, pu_us, pu_un, mL_0, mL_1, mL_2, mL_3, mL_4, mL_5, mL_6, mL_7, mL_8, mL_9, mL_10, mL_11, mL_12, mL_13, mL_14, mL_15, mL_16, mL_23, mL_24, mL_32, mL_48, mL_64, mL_99, mL_100, mL_200, mL_336, mL_576, mL_768, mL_800, mL_999, mL_4095, mL_4096, mL_m1, nI_leI, nI_ltI, nI_eq, nI_clamp, nI_add, pk_mul, nI_nu, bI_eq0, bI_eq1, bo_ft, Bool.true_eq_false, Bool.false_eq_true, pu_of, pu_of24, pu_onward, pu_frq, if_true, if_false, true_or, or_true, false_or, or_false, and_true, true_and, and_false, false_and, not_true_eq_false, not_false_eq_true, if_neg, if_pos, F11_cost, f11_cost_23, iB, iD, e3, z0']
  · right
    have nB := nB_no (t := t) ha
    have iB := iB_no (t := t) ha
    refine ⟨0, nI 1, nI 0, sr_u t 11 0 0 (nI 1), ?_, rfl, by decide, ?_, pu_us, Sr_0⟩
    · simp (disch := omega) only [pv_lt, pu_ck, pv_bI, pv_bV, pu_bR, pv_bL, pv_nt, pu_us, pu_un, mL_0, mL_1, mL_2, mL_3, mL_4, mL_5, mL_6, mL_7, mL_8, mL_9, mL_10, mL_11, mL_12, mL_13, mL_14, mL_15, mL_16, mL_23, mL_24, mL_32, mL_48, mL_64, mL_99, mL_100, mL_200, mL_336, mL_576, mL_768, mL_800, mL_999, mL_4095, mL_4096, mL_m1, nI_leI, nI_ltI, nI_eq, nI_clamp, nI_add, pk_mul, nI_nu, bI_eq0, bI_eq1, bo_ft, Bool.true_eq_false, Bool.false_eq_true, pu_of, pu_of24, pu_onward, pu_frq, if_true, if_false, true_or, or_true, false_or, or_false, and_true, true_and, and_false, false_and, not_true_eq_false, not_false_eq_true, if_neg, if_pos, F10_cost, nB, bVr]
    · simp (disch := omega) only [pv_lt, pu_ck, pv_bI, pv_bV, pu_bR, pv_bL, pv_nt, pu_us, pu_un, mL_0, mL_1, mL_2, mL_3, mL_4, mL_5, mL_6, mL_7, mL_8, mL_9, mL_10, mL_11, mL_12, mL_13, mL_14, mL_15, mL_16, mL_23, mL_24, mL_32, mL_48, mL_64, mL_99, mL_100, mL_200, mL_336, mL_576, mL_768, mL_800, mL_999, mL_4095, mL_4096, mL_m1, nI_leI, nI_ltI, nI_eq, nI_clamp, nI_add, pk_mul, nI_nu, bI_eq0, bI_eq1, bo_ft, Bool.true_eq_false, Bool.false_eq_true, pu_of, pu_of24, pu_onward, pu_frq, if_true, if_false, true_or, or_true, false_or, or_false, and_true, true_and, and_false, false_and, not_true_eq_false, not_false_eq_true, if_neg, if_pos, F11_cost, f11_cost_22, f11_cost_23, iB]
theorem s_enough {i : Nat} (hi : i + 4 ≤ 2048) (a : Int32) : sr_ok3 (sr_Inv i) (sr_Inv (i + 4)) (fun t => FL_enough_23 a t) (fun t => F11_enough a t) := by
  refine ok3_qf hi (F := F10_enough a) (G := F11_enough a) (hc := hcL_enough_23) (fun t s w X => ?_)
  have O := X.1
  have hN := O.1.1
  obtain ⟨b1, b4⟩ := O.1.2.1
  rcases a_in a 1 200 (by omega) (by omega) with hc | ⟨q, q1, q2, rfl⟩
  · right
    have nD : F10_enough a t = some (.inr 0, t) := c_no (l := 1) (h := 200) hc
    have iD : F11_isIn a (nI 1) (nI 200) t = some (.inl (some (sr_i (nI 0))), t) := iIn_no hc
    refine ⟨0, nI 1, nI 0, sr_u t 11 0 0 (nI 1), nD, rfl, by decide, ?_, pu_us, Sr_0⟩
    simp (disch := omega) only [pv_lt, pu_ck, pv_bI, pv_bV, pu_bR, pv_bL, pv_nt, pu_us, pu_un, mL_0, mL_1, mL_2, mL_3, mL_4, mL_5, mL_6, mL_7, mL_8, mL_9, mL_10, mL_11, mL_12, mL_13, mL_14, mL_15, mL_16, mL_23, mL_24, mL_32, mL_48, mL_64, mL_99, mL_100, mL_200, mL_336, mL_576, mL_768, mL_800, mL_999, mL_4095, mL_4096, mL_m1, nI_leI, nI_ltI, nI_eq, nI_clamp, nI_add, pk_mul, nI_nu, bI_eq0, bI_eq1, bo_ft, Bool.true_eq_false, Bool.false_eq_true, pu_of, pu_of24, pu_onward, pu_frq, if_true, if_false, true_or, or_true, false_or, or_false, and_true, true_and, and_false, false_and, not_true_eq_false, not_false_eq_true, if_neg, if_pos, F11_enough, f11_enough_17, iD]
  · left
    obtain ⟨E, hE⟩ : ∃ E, E = fi (fun k => decide (mh s (rg_b s) (k + 1) ≤ q)) 8 := ⟨_, rfl⟩
    obtain ⟨v, hv⟩ : ∃ v : Int32, v = if E < 8 then nI (E + 1) else nu 24 := ⟨_, rfl⟩
    have ef : ∀ k, k < 8 → (∀ j, j < k → decide (mh s (rg_b s) (j + 1) ≤ q) = false) → mh s (rg_b s) (k + 1) ≤ q → v = nI (k + 1) := fun k hk hno hle => by
      have : E = k := by rw [hE]; exact fi_eq (by omega) hno (fun _ => decide_eq_true hle)
      rw [hv, this, if_pos hk]
    have en : (∀ j, j < 8 → decide (mh s (rg_b s) (j + 1) ≤ q) = false) → v = nu 24 := fun hno => by
      have : E = 8 := by rw [hE]; exact fi_eq (by omega) hno (fun h => by omega)
      rw [hv, this, if_neg (by omega)]
    have cls : ∃ t1, F10_enough (nI q) t = some (.inl (some (sr_i v)), t1) ∧ fr Sc t t1 := by
      obtain ⟨t1, e1, c1, k1, f1⟩ := pc_copy X
      have main : ∃ t2, f1_leastDegreeFor_10 0 (nI q) (f1_leastDegreeFor_36 0 (nI q)) (f1_leastDegreeFor_44 0 (nI q)) sr_fu (nI (0 + 1)) t1 = some (.inl (some (sr_i v)), t2) ∧ fr Sc t t2 := by
        refine rs_via fun Q hQ => ?_
        refine rs_loop (N := 8) (L := fun f k t' => f1_leastDegreeFor_10 0 (nI q) (f1_leastDegreeFor_36 0 (nI q)) (f1_leastDegreeFor_44 0 (nI q)) f (nI (k + 1)) t') (fun k t' => Tr t' s ∧ (∀ j, j < k → decide (mh s (rg_b s) (j + 1) ≤ q) = false) ∧ fr Sc t t') ?_ ?_ (by unfold sr_fu; omega) ⟨⟨s, c1, O, fun _ _ => rfl⟩, fun j hj => by omega, fr_mono f1 (fun k i j q => S_tr_Sc q)⟩
        · rintro k g t' hk ⟨p1, p2, p3⟩
          have h5 := (J_c X p3).2.1.1.1.2.1
          obtain ⟨t2, e2, T2, I2, f2⟩ := pc_laid (b := rg_b s) (d := k + 1) p1 b1 b4 (by omega) (by omega)
          have y8 : t2.1 5 0 8 = nI (mh s (rg_b s) (k + 1)) := I2.2.2.2.2.2.1
          have ml := mh_le (s := s) (b := rg_b s) (d := k + 1)
          have f2' : fr Sc t t2 := fr_trans p3 (fr_mono f2 (fun k i j q => S_tr_Sc q))
          by_cases hle : mh s (rg_b s) (k + 1) ≤ q
          · right
            show rs_to _ (f1_leastDegreeFor_10 0 (nI q) (f1_leastDegreeFor_36 0 (nI q)) (f1_leastDegreeFor_44 0 (nI q)) (g + 1) (nI (k + 1)) t')
            simp (disch := omega) only [pv_lt, pu_ck, pv_bI, pv_bV, pu_bR, pv_bL, pv_nt, pu_us, pu_un, mL_0, mL_1, mL_2, mL_3, mL_4, mL_5, mL_6, mL_7, mL_8, mL_9, mL_10, mL_11, mL_12, mL_13, mL_14, mL_15, mL_16, mL_23, mL_24, mL_32, mL_48, mL_64, mL_99, mL_100, mL_200, mL_336, mL_576, mL_768, mL_800, mL_999, mL_4095, mL_4096, mL_m1, nI_leI, nI_ltI, nI_eq, nI_clamp, nI_add, pk_mul, nI_nu, bI_eq0, bI_eq1, bo_ft, Bool.true_eq_false, Bool.false_eq_true, pu_of, pu_of24, pu_onward, pu_frq, if_true, if_false, true_or, or_true, false_or, or_false, and_true, true_and, and_false, false_and, not_true_eq_false, not_false_eq_true, if_neg, if_pos, f1_leastDegreeFor_10, f1_leastDegreeFor_36, h5, e2, y8]
            rw [← ef k hk p2 hle]
            exact rs_ret (hQ _ f2')
          · left
            refine ⟨t2, ⟨T2, fun j hj => ?_, f2'⟩, ?_⟩
            · by_cases ej : j = k
              · rw [ej]; exact decide_eq_false hle
              · exact p2 j (by omega)
            · show f1_leastDegreeFor_10 0 (nI q) (f1_leastDegreeFor_36 0 (nI q)) (f1_leastDegreeFor_44 0 (nI q)) (g + 1) (nI (k + 1)) t' = f1_leastDegreeFor_10 0 (nI q) (f1_leastDegreeFor_36 0 (nI q)) (f1_leastDegreeFor_44 0 (nI q)) g (nI (k + 1 + 1)) t2
              simp (disch := omega) only [pv_lt, pu_ck, pv_bI, pv_bV, pu_bR, pv_bL, pv_nt, pu_us, pu_un, mL_0, mL_1, mL_2, mL_3, mL_4, mL_5, mL_6, mL_7, mL_8, mL_9, mL_10, mL_11, mL_12, mL_13, mL_14, mL_15, mL_16, mL_23, mL_24, mL_32, mL_48, mL_64, mL_99, mL_100, mL_200, mL_336, mL_576, mL_768, mL_800, mL_999, mL_4095, mL_4096, mL_m1, nI_leI, nI_ltI, nI_eq, nI_clamp, nI_add, pk_mul, nI_nu, bI_eq0, bI_eq1, bo_ft, Bool.true_eq_false, Bool.false_eq_true, pu_of, pu_of24, pu_onward, pu_frq, if_true, if_false, true_or, or_true, false_or, or_false, and_true, true_and, and_false, false_and, not_true_eq_false, not_false_eq_true, if_neg, if_pos, f1_leastDegreeFor_10, h5, e2, y8]
        · rintro g t' ⟨p1, p2, p3⟩
          show rs_to _ (f1_leastDegreeFor_10 0 (nI q) (f1_leastDegreeFor_36 0 (nI q)) (f1_leastDegreeFor_44 0 (nI q)) (g + 1) (nI (8 + 1)) t')
          simp (disch := omega) only [pv_lt, pu_ck, pv_bI, pv_bV, pu_bR, pv_bL, pv_nt, pu_us, pu_un, mL_0, mL_1, mL_2, mL_3, mL_4, mL_5, mL_6, mL_7, mL_8, mL_9, mL_10, mL_11, mL_12, mL_13, mL_14, mL_15, mL_16, mL_23, mL_24, mL_32, mL_48, mL_64, mL_99, mL_100, mL_200, mL_336, mL_576, mL_768, mL_800, mL_999, mL_4095, mL_4096, mL_m1, nI_leI, nI_ltI, nI_eq, nI_clamp, nI_add, pk_mul, nI_nu, bI_eq0, bI_eq1, bo_ft, Bool.true_eq_false, Bool.false_eq_true, pu_of, pu_of24, pu_onward, pu_frq, if_true, if_false, true_or, or_true, false_or, or_false, and_true, true_and, and_false, false_and, not_true_eq_false, not_false_eq_true, if_neg, if_pos, f1_leastDegreeFor_10, f1_leastDegreeFor_44]
          rw [← en p2]
          exact rs_ret (hQ _ p3)
      obtain ⟨t2, e2, f2⟩ := main
      have e2' : f1_leastDegreeFor_10 0 (nI q) (f1_leastDegreeFor_36 0 (nI q)) (f1_leastDegreeFor_44 0 (nI q)) sr_fu (nI 1) t1 = some (.inl (some (sr_i v)), t2) := e2
      refine ⟨t2, ?_, f2⟩
      simp (disch := omega) only [pv_lt, pu_ck, pv_bI, pv_bV, pu_bR, pv_bL, pv_nt, pu_us, pu_un, mL_0, mL_1, mL_2, mL_3, mL_4, mL_5, mL_6, mL_7, mL_8, mL_9, mL_10, mL_11, mL_12, mL_13, mL_14, mL_15, mL_16, mL_23, mL_24, mL_32, mL_48, mL_64, mL_99, mL_100, mL_200, mL_336, mL_576, mL_768, mL_800, mL_999, mL_4095, mL_4096, mL_m1, nI_leI, nI_ltI, nI_eq, nI_clamp, nI_add, pk_mul, nI_nu, bI_eq0, bI_eq1, bo_ft, Bool.true_eq_false, Bool.false_eq_true, pu_of, pu_of24, pu_onward, pu_frq, if_true, if_false, true_or, or_true, false_or, or_false, and_true, true_and, and_false, false_and, not_true_eq_false, not_false_eq_true, if_neg, if_pos, F10_enough, F1_leastDegreeFor, e1, e2']
    obtain ⟨t1, e1, f1⟩ := cls
    refine ⟨v, ⟨t1, e1, frI_of f1⟩, fun t' X' ft => ?_⟩
    have ref : ∃ t2, F11_enough (nI q) t' = some (.inl (some (sr_i v)), t2) ∧ fr Sr0 (sr_u t' 11 0 0 (nI 0)) t2 := by
      have X0 := J_thr (v := nI 0) X'
      have iD := iIn_ok (t := t') (j := q) (l := 1) (h := 200) q1 q2 (by omega)
      refine rs_via fun Q hQ => ?_
      simp (disch := omega) only [pv_lt, pu_ck, pv_bI, pv_bV, pu_bR, pv_bL, pv_nt, pu_us, pu_un, mL_0, mL_1, mL_2, mL_3, mL_4, mL_5, mL_6, mL_7, mL_8, mL_9, mL_10, mL_11, mL_12, mL_13, mL_14, mL_15, mL_16, mL_23, mL_24, mL_32, mL_48, mL_64, mL_99, mL_100, mL_200, mL_336, mL_576, mL_768, mL_800, mL_999, mL_4095, mL_4096, mL_m1, nI_leI, nI_ltI, nI_eq, nI_clamp, nI_add, pk_mul, nI_nu, bI_eq0, bI_eq1, bo_ft, Bool.true_eq_false, Bool.false_eq_true, pu_of, pu_of24, pu_onward, pu_frq, if_true, if_false, true_or, or_true, false_or, or_false, and_true, true_and, and_false, false_and, not_true_eq_false, not_false_eq_true, if_neg, if_pos, F11_enough, f11_enough_17, iD]
      refine rs_loop (N := 8) (L := fun f k t2 => f11_enough_31 (nI q) (f11_enough_54 (nI q)) (f11_enough_62 (nI q)) f (nI (k + 1)) t2) (fun k t2 => (∀ j, j < k → decide (mh s (rg_b s) (j + 1) ≤ q) = false) ∧ fr Sr0 (sr_u t' 11 0 0 (nI 0)) t2) ?_ ?_ (by unfold sr_fu; omega) ⟨fun j hj => by omega, fr_rfl⟩
      · rintro k g t2 hk ⟨p2, p3⟩
        have X2 := J_r X0 p3
        have h7 := X2.2.2.2.2.2.1.1.1.2.1
        obtain ⟨t3, e3, _, z6, f3⟩ := pr_by (b := rg_b s) (d := k + 1) X2 b1 b4 (by omega) (by omega)
        have z6' : t3.1 11 0 46 = nI (mh s (rg_b s) (k + 1)) := z6
        have ml := mh_le (s := s) (b := rg_b s) (d := k + 1)
        by_cases hle : mh s (rg_b s) (k + 1) ≤ q
        · right
          show rs_to _ (f11_enough_31 (nI q) (f11_enough_54 (nI q)) (f11_enough_62 (nI q)) (g + 1) (nI (k + 1)) t2)
          simp (disch := omega) only [pv_lt, pu_ck, pv_bI, pv_bV, pu_bR, pv_bL, pv_nt, pu_us, pu_un, mL_0, mL_1, mL_2, mL_3, mL_4, mL_5, mL_6, mL_7, mL_8, mL_9, mL_10, mL_11, mL_12, mL_13, mL_14, mL_15, mL_16, mL_23, mL_24, mL_32, mL_48, mL_64, mL_99, mL_100, mL_200, mL_336, mL_576, mL_768, mL_800, mL_999, mL_4095, mL_4096, mL_m1, nI_leI, nI_ltI, nI_eq, nI_clamp, nI_add, pk_mul, nI_nu, bI_eq0, bI_eq1, bo_ft, Bool.true_eq_false, Bool.false_eq_true, pu_of, pu_of24, pu_onward, pu_frq, if_true, if_false, true_or, or_true, false_or, or_false, and_true, true_and, and_false, false_and, not_true_eq_false, not_false_eq_true, if_neg, if_pos, f11_enough_31, f11_enough_54, h7, e3, z6']
          rw [← ef k hk p2 hle]
          exact rs_ret (hQ _ (fr_trans p3 f3))
        · left
          refine ⟨t3, ⟨fun j hj => ?_, fr_trans p3 f3⟩, ?_⟩
          · by_cases ej : j = k
            · rw [ej]; exact decide_eq_false hle
            · exact p2 j (by omega)
          · show f11_enough_31 (nI q) (f11_enough_54 (nI q)) (f11_enough_62 (nI q)) (g + 1) (nI (k + 1)) t2 = f11_enough_31 (nI q) (f11_enough_54 (nI q)) (f11_enough_62 (nI q)) g (nI (k + 1 + 1)) t3
            simp (disch := omega) only [pv_lt, pu_ck, pv_bI, pv_bV, pu_bR, pv_bL, pv_nt, pu_us, pu_un, mL_0, mL_1, mL_2, mL_3, mL_4, mL_5, mL_6, mL_7, mL_8, mL_9, mL_10, mL_11, mL_12, mL_13, mL_14, mL_15, mL_16, mL_23, mL_24, mL_32, mL_48, mL_64, mL_99, mL_100, mL_200, mL_336, mL_576, mL_768, mL_800, mL_999, mL_4095, mL_4096, mL_m1, nI_leI, nI_ltI, nI_eq, nI_clamp, nI_add, pk_mul, nI_nu, bI_eq0, bI_eq1, bo_ft, Bool.true_eq_false, Bool.false_eq_true, pu_of, pu_of24, pu_onward, pu_frq, if_true, if_false, true_or, or_true, false_or, or_false, and_true, true_and, and_false, false_and, not_true_eq_false, not_false_eq_true, if_neg, if_pos, f11_enough_31, h7, e3, z6']
      · rintro g t2 ⟨p2, p3⟩
        show rs_to _ (f11_enough_31 (nI q) (f11_enough_54 (nI q)) (f11_enough_62 (nI q)) (g + 1) (nI (8 + 1)) t2)
        simp (disch := omega) only [pv_lt, pu_ck, pv_bI, pv_bV, pu_bR, pv_bL, pv_nt, pu_us, pu_un, mL_0, mL_1, mL_2, mL_3, mL_4, mL_5, mL_6, mL_7, mL_8, mL_9, mL_10, mL_11, mL_12, mL_13, mL_14, mL_15, mL_16, mL_23, mL_24, mL_32, mL_48, mL_64, mL_99, mL_100, mL_200, mL_336, mL_576, mL_768, mL_800, mL_999, mL_4095, mL_4096, mL_m1, nI_leI, nI_ltI, nI_eq, nI_clamp, nI_add, pk_mul, nI_nu, bI_eq0, bI_eq1, bo_ft, Bool.true_eq_false, Bool.false_eq_true, pu_of, pu_of24, pu_onward, pu_frq, if_true, if_false, true_or, or_true, false_or, or_false, and_true, true_and, and_false, false_and, not_true_eq_false, not_false_eq_true, if_neg, if_pos, f11_enough_31, f11_enough_62]
        rw [← en p2]
        exact rs_ret (hQ _ p3)
    obtain ⟨t2, g1, g2⟩ := ref
    exact ⟨t2, g1, (Sr_q g2).1, (Sr_q g2).2⟩
end
