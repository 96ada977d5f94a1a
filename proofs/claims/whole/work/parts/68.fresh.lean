section
/-! the class keeps what it keeps beside -/
def S_rn (r n k i j : Nat) : Prop := (k = 2 ∧ i = 25 * r + n ∧ 5 ≤ j ∧ j ≤ 7) ∨ (k = 3 ∧ i = r ∧ j = 4)
theorem pu_rn72 {t : sr_t} {s : rg_T} {r n : Nat} (B : rg_B t r s) (O : rg_okB s) (hr : r < 2) (hn : n < rg_N s) (hu : rg_u s n = true) : f3_refreshNode_72 r (25 * r + n) t = some (.inl none, sr_u t 2 (25 * r + n) 7 (nI (rg_ld s n))) := by
  have hN := O.1
  have hp := O.2.2.2.1 n hn
  have h1 := (B.2.2 n hn).1
  obtain ⟨c1, c2, c3⟩ := rg_lb_up (q := (rg_p s n + 4095) % 4096) O hn hu
  have e1 : F3_lastBackFrom r (nI (rg_p s n) - nI 1) t = some (.inl (some (sr_r 2 (25 * r + rg_lb s ((rg_p s n + 4095) % 4096)))), t) := pu_lastBack B O hr (pu_q1 hp)
  have h2 := (B.2.2 _ c1).1
  have e2 := pu_stretch (t := t) O c1 hn
  simp (disch := omega) only [pu_lt, pu_ck, pu_bI, pu_bV, pu_bR, pu_bL, pu_nt, pu_us, pu_un, mL_0, mL_1, mL_2, mL_3, mL_4, mL_5, mL_6, mL_7, mL_8, mL_9, mL_10, mL_11, mL_12, mL_13, mL_14, mL_15, mL_16, mL_23, mL_24, mL_32, mL_48, mL_64, mL_99, mL_100, mL_200, mL_336, mL_576, mL_768, mL_800, mL_999, mL_4095, mL_4096, mL_m1, nI_leI, nI_ltI, nI_eq, nI_clamp, nI_add, pk_mul, nI_nu, bI_eq0, bI_eq1, bo_ft, pu_of, pu_of24, pu_onward, pu_frq, if_true, if_false, true_or, or_true, false_or, or_false, and_true, true_and, and_false, false_and, not_true_eq_false, not_false_eq_true, if_neg, if_pos, f3_refreshNode_72, h1, e1, h2, e2]
  rfl
theorem pu_refreshNode {t : sr_t} {s : rg_T} {r n c : Nat} (C : rg_C t r s) (O : rg_ok s) (hr : r < 2) (hn : n < rg_N s) (hc : t.1 3 r 4 = nI c) : ∃ t', F3_refreshNode r (25 * r + n) t = some (.inl none, t') ∧ rg_Kn t' r s n ∧ t'.1 3 r 4 = nI (c + if rg_u s n then 1 else 0) ∧ fr (S_rn r n) t t' := by
  have hN := O.1.1
  obtain ⟨h1, h2, h3⟩ := C.1.2.2 n hn
  have f3 : fr (S_rn r n) t (sr_u (sr_u (sr_u t 2 (25 * r + n) 5 (nu 24)) 2 (25 * r + n) 6 (nI 0)) 2 (25 * r + n) 7 (nI 0)) := fr_u (fr_u (fr_u fr_rfl (by unfold S_rn; omega)) (by unfold S_rn; omega)) (by unfold S_rn; omega)
  by_cases hu : rg_u s n = true
  · rw [hu] at h2
    have f4 : fr (S_rn r n) t (sr_u (sr_u (sr_u (sr_u t 2 (25 * r + n) 5 (nu 24)) 2 (25 * r + n) 6 (nI 0)) 2 (25 * r + n) 7 (nI 0)) 3 r 4 (nI (c + 1))) := fr_u f3 (by unfold S_rn; omega)
    have C4 := rg_C_fr hN f4 (fun k i j q => by unfold Fp_C at q; unfold S_rn; omega) C
    have e4 := pu_findNext C4 O hr hn
    have b1 : ¬ bI true = nI 0 := by decide
    rcases rg_nx_cases O hn with hx | ⟨hx, hxu⟩
    · have f6 : fr (S_rn r n) t (sr_u (sr_u (sr_u (sr_u (sr_u t 2 (25 * r + n) 5 (nu 24)) 2 (25 * r + n) 6 (nI 0)) 2 (25 * r + n) 7 (nI 0)) 3 r 4 (nI (c + 1))) 2 (25 * r + n) 5 (nu 24)) := fr_u f4 (by unfold S_rn; omega)
      have B6 := rg_B_fr hN f6 (fun k i j q => by unfold Fp_B at q; unfold S_rn; omega) C.1
      rw [hx] at e4
      have rn := pu_rn72 B6 O.1 hr hn hu
      refine rs_via fun Q hQ => ?_
      simp (disch := omega) only [pu_lt, pu_ck, pu_bI, pu_bV, pu_bR, pu_bL, pu_nt, pu_us, pu_un, mL_0, mL_1, mL_2, mL_3, mL_4, mL_5, mL_6, mL_7, mL_8, mL_9, mL_10, mL_11, mL_12, mL_13, mL_14, mL_15, mL_16, mL_23, mL_24, mL_32, mL_48, mL_64, mL_99, mL_100, mL_200, mL_336, mL_576, mL_768, mL_800, mL_999, mL_4095, mL_4096, mL_m1, nI_leI, nI_ltI, nI_eq, nI_clamp, nI_add, pk_mul, nI_nu, bI_eq0, bI_eq1, bo_ft, pu_of, pu_of24, pu_onward, pu_frq, if_true, if_false, true_or, or_true, false_or, or_false, and_true, true_and, and_false, false_and, not_true_eq_false, not_false_eq_true, if_neg, if_pos, F3_refreshNode, h2, b1, hc, e4, rn]
      refine rs_ret (hQ _ ⟨⟨?_, ?_, ?_⟩, ?_, fr_u f6 (?_ : S_rn r n 2 (25 * r + n) 7)⟩)
      · rw [pu_un (by omega), pu_us, rg_kx, if_pos hu, hx]
      · rw [pu_un (by omega), pu_un (by omega), pu_un (by omega), pu_un (by omega), pu_us, rg_ka, if_pos hu, rg_ar, if_pos hx]
      · rw [pu_us, rg_kl, if_pos hu]
      · rw [pu_un (by omega), pu_un (by omega), pu_us, hu, if_pos rfl]
      · unfold S_rn; omega
    · have f6 : fr (S_rn r n) t (sr_u (sr_u (sr_u (sr_u (sr_u t 2 (25 * r + n) 5 (nu 24)) 2 (25 * r + n) 6 (nI 0)) 2 (25 * r + n) 7 (nI 0)) 3 r 4 (nI (c + 1))) 2 (25 * r + n) 5 (nI (rg_nx s n))) := fr_u f4 (by unfold S_rn; omega)
      have f9 : fr (S_rn r n) t (sr_u (sr_u (sr_u (sr_u (sr_u (sr_u t 2 (25 * r + n) 5 (nu 24)) 2 (25 * r + n) 6 (nI 0)) 2 (25 * r + n) 7 (nI 0)) 3 r 4 (nI (c + 1))) 2 (25 * r + n) 5 (nI (rg_nx s n))) 2 (25 * r + n) 6 (nI (if n = rg_nx s n then 4096 else pu_d (rg_p s n) (rg_p s (rg_nx s n))))) := fr_u f6 (by unfold S_rn; omega)
      have B9 := rg_B_fr hN f9 (fun k i j q => by unfold Fp_B at q; unfold S_rn; omega) C.1
      rw [nu_lt (k := rg_nx s n) (by omega)] at e4
      have h4 := (C.1.2.2 _ hx).1
      have e6 := pu_stretch (t := (sr_u (sr_u (sr_u (sr_u (sr_u t 2 (25 * r + n) 5 (nu 24)) 2 (25 * r + n) 6 (nI 0)) 2 (25 * r + n) 7 (nI 0)) 3 r 4 (nI (c + 1))) 2 (25 * r + n) 5 (nI (rg_nx s n)))) O.1 hn hx
      have rn := pu_rn72 B9 O.1 hr hn hu
      refine rs_via fun Q hQ => ?_
      simp (disch := omega) only [pu_lt, pu_ck, pu_bI, pu_bV, pu_bR, pu_bL, pu_nt, pu_us, pu_un, mL_0, mL_1, mL_2, mL_3, mL_4, mL_5, mL_6, mL_7, mL_8, mL_9, mL_10, mL_11, mL_12, mL_13, mL_14, mL_15, mL_16, mL_23, mL_24, mL_32, mL_48, mL_64, mL_99, mL_100, mL_200, mL_336, mL_576, mL_768, mL_800, mL_999, mL_4095, mL_4096, mL_m1, nI_leI, nI_ltI, nI_eq, nI_clamp, nI_add, pk_mul, nI_nu, bI_eq0, bI_eq1, bo_ft, pu_of, pu_of24, pu_onward, pu_frq, if_true, if_false, true_or, or_true, false_or, or_false, and_true, true_and, and_false, false_and, not_true_eq_false, not_false_eq_true, if_neg, if_pos, F3_refreshNode, h2, b1, hc, e4, h1, h4, e6, rn]
      refine rs_ret (hQ _ ⟨⟨?_, ?_, ?_⟩, ?_, fr_u f9 (?_ : S_rn r n 2 (25 * r + n) 7)⟩)
      · rw [pu_un (by omega), pu_un (by omega), pu_us, rg_kx, if_pos hu, nu_lt (by omega)]
      · have ea : rg_ar s n = if rg_nx s n = n then 4096 else pu_d (rg_p s n) (rg_p s (rg_nx s n)) := by
          unfold rg_ar
          exact if_neg (show ¬ rg_nx s n = 24 by omega)
        rw [pu_un (by omega), pu_us, rg_ka, if_pos hu, ea]
        by_cases e : rg_nx s n = n
        · rw [if_pos e, if_pos e.symm]
        · rw [if_neg e, if_neg (fun h => e h.symm)]
      · rw [pu_us, rg_kl, if_pos hu]
      · rw [pu_un (by omega), pu_un (by omega), pu_un (by omega), pu_us, hu, if_pos rfl]
      · unfold S_rn; omega
  · have hu' : rg_u s n = false := by simpa using hu
    rw [hu'] at h2
    have b0 : bI false = nI 0 := rfl
    refine rs_via fun Q hQ => ?_
    simp (disch := omega) only [pu_lt, pu_ck, pu_bI, pu_bV, pu_bR, pu_bL, pu_nt, pu_us, pu_un, mL_0, mL_1, mL_2, mL_3, mL_4, mL_5, mL_6, mL_7, mL_8, mL_9, mL_10, mL_11, mL_12, mL_13, mL_14, mL_15, mL_16, mL_23, mL_24, mL_32, mL_48, mL_64, mL_99, mL_100, mL_200, mL_336, mL_576, mL_768, mL_800, mL_999, mL_4095, mL_4096, mL_m1, nI_leI, nI_ltI, nI_eq, nI_clamp, nI_add, pk_mul, nI_nu, bI_eq0, bI_eq1, bo_ft, pu_of, pu_of24, pu_onward, pu_frq, if_true, if_false, true_or, or_true, false_or, or_false, and_true, true_and, and_false, false_and, not_true_eq_false, not_false_eq_true, if_neg, if_pos, F3_refreshNode, h2, b0]
    refine rs_ret (hQ _ ⟨⟨?_, ?_, ?_⟩, ?_, f3⟩)
    · rw [pu_un (by omega), pu_un (by omega), pu_us, rg_kx, if_neg hu]
    · rw [pu_un (by omega), pu_us, rg_ka, if_neg hu]
    · rw [pu_us, rg_kl, if_neg hu]
    · rw [pu_un (by omega), pu_un (by omega), pu_un (by omega), hc, hu']; rfl
theorem pu_refresh {t : sr_t} {s : rg_T} {r : Nat} (C : rg_C t r s) (O : rg_ok s) (hr : r < 2) : ∃ t', F3_refresh r t = some (.inl none, t') ∧ rg_C t' r s ∧ rg_K t' r s ∧ fr (Fp_K r) t t' := by
  have hN := O.1.1
  have f0 : fr (Fp_K r) t (sr_u t 3 r 4 (nI 0)) := fr_u fr_rfl (by unfold Fp_K; omega)
  have C0 : rg_C (sr_u t 3 r 4 (nI 0)) r s := rg_C_fr hN f0 (fun k i j q => by unfold Fp_C at q; unfold Fp_K; omega) C
  refine rs_via fun Q hQ => ?_
  simp (disch := omega) only [pu_lt, pu_ck, pu_bI, pu_bV, pu_bR, pu_bL, pu_nt, pu_us, pu_un, mL_0, mL_1, mL_2, mL_3, mL_4, mL_5, mL_6, mL_7, mL_8, mL_9, mL_10, mL_11, mL_12, mL_13, mL_14, mL_15, mL_16, mL_23, mL_24, mL_32, mL_48, mL_64, mL_99, mL_100, mL_200, mL_336, mL_576, mL_768, mL_800, mL_999, mL_4095, mL_4096, mL_m1, nI_leI, nI_ltI, nI_eq, nI_clamp, nI_add, pk_mul, nI_nu, bI_eq0, bI_eq1, bo_ft, pu_of, pu_of24, pu_onward, pu_frq, if_true, if_false, true_or, or_true, false_or, or_false, and_true, true_and, and_false, false_and, not_true_eq_false, not_false_eq_true, if_neg, if_pos, F3_refresh]
  refine rs_loop (N := rg_N s) (L := fun f n t' => f3_refresh_7 r (f3_refresh_30 r) f (nI n) t') (fun n t' => rg_C t' r s ∧ t'.1 3 r 4 = nI (rg_cu (rg_u s) n) ∧ (∀ m, m < n → rg_Kn t' r s m) ∧ fr (Fp_K r) t t') ?_ ?_ (by unfold sr_fu; omega) ⟨C0, pu_us, fun m hm => by omega, f0⟩
  · rintro n g t' hn ⟨p1, p2, p3, p4⟩
    obtain ⟨t1, e1, e2, e3, e4⟩ := pu_refreshNode p1 O hr hn p2
    refine Or.inl ⟨t1, ⟨?_, ?_, ?_, ?_⟩, ?_⟩
    · exact rg_C_fr hN e4 (fun k i j q => by unfold Fp_C at q; unfold S_rn; omega) p1
    · rw [e3, rg_cu_s]
    · intro m hm
      by_cases e : m = n
      · rw [e]; exact e2
      · have q := p3 m (by omega)
        refine ⟨?_, ?_, ?_⟩
        · rw [e4.2 _ _ _ (by unfold S_rn; omega)]; exact q.1
        · rw [e4.2 _ _ _ (by unfold S_rn; omega)]; exact q.2.1
        · rw [e4.2 _ _ _ (by unfold S_rn; omega)]; exact q.2.2
    · exact fr_trans p4 (fr_mono e4 (fun k i j q => by unfold S_rn at q; unfold Fp_K; omega))
    · have hN' := p1.1.1.1
      show f3_refresh_7 r (f3_refresh_30 r) (g + 1) (nI n) t' = f3_refresh_7 r (f3_refresh_30 r) g (nI (n + 1)) t1
      simp (disch := omega) only [pu_lt, pu_ck, pu_bI, pu_bV, pu_bR, pu_bL, pu_nt, pu_us, pu_un, mL_0, mL_1, mL_2, mL_3, mL_4, mL_5, mL_6, mL_7, mL_8, mL_9, mL_10, mL_11, mL_12, mL_13, mL_14, mL_15, mL_16, mL_23, mL_24, mL_32, mL_48, mL_64, mL_99, mL_100, mL_200, mL_336, mL_576, mL_768, mL_800, mL_999, mL_4095, mL_4096, mL_m1, nI_leI, nI_ltI, nI_eq, nI_clamp, nI_add, pk_mul, nI_nu, bI_eq0, bI_eq1, bo_ft, pu_of, pu_of24, pu_onward, pu_frq, if_true, if_false, true_or, or_true, false_or, or_false, and_true, true_and, and_false, false_and, not_true_eq_false, not_false_eq_true, if_neg, if_pos, f3_refresh_7, hN', e1]
  · rintro g t' ⟨p1, p2, p3, p4⟩
    have hN' := p1.1.1.1
    show rs_to _ (f3_refresh_7 r (f3_refresh_30 r) (g + 1) (nI (rg_N s)) t')
    simp (disch := omega) only [pu_lt, pu_ck, pu_bI, pu_bV, pu_bR, pu_bL, pu_nt, pu_us, pu_un, mL_0, mL_1, mL_2, mL_3, mL_4, mL_5, mL_6, mL_7, mL_8, mL_9, mL_10, mL_11, mL_12, mL_13, mL_14, mL_15, mL_16, mL_23, mL_24, mL_32, mL_48, mL_64, mL_99, mL_100, mL_200, mL_336, mL_576, mL_768, mL_800, mL_999, mL_4095, mL_4096, mL_m1, nI_leI, nI_ltI, nI_eq, nI_clamp, nI_add, pk_mul, nI_nu, bI_eq0, bI_eq1, bo_ft, pu_of, pu_of24, pu_onward, pu_frq, if_true, if_false, true_or, or_true, false_or, or_false, and_true, true_and, and_false, false_and, not_true_eq_false, not_false_eq_true, if_neg, if_pos, f3_refresh_7, f3_refresh_30, hN']
    exact rs_ret (hQ _ ⟨p1, ⟨p2, p3⟩, p4⟩)
/-! pictures changed -/
def rg_su (s : rg_T) (n : Nat) (v : Bool) : rg_T := (s.1, s.2.1, (fun m => if m = n then v else rg_u s m), s.2.2.2)
def rg_st (s : rg_T) (n : Nat) (T : Nat → Nat) : rg_T := (s.1, s.2.1, s.2.2.1, s.2.2.2.1, fun m => if m = n then T else rg_t s m)
def rg_sb (s : rg_T) (b : Nat) : rg_T := ((s.1.1, b, s.1.2.2), s.2)
def rg_sd (s : rg_T) (d : Nat) : rg_T := ((s.1.1, s.1.2.1, d), s.2)
def rg_ss (s : rg_T) (n v : Nat) : rg_T := (s.1, s.2.1, s.2.2.1, (fun m => if m = n then v else rg_s s m), s.2.2.2.2)
/-- one node more, up, its table still to be laid -/
def rg_ad (s : rg_T) (p : Nat) (T : Nat → Nat) : rg_T := ((s.1.1 + 1, s.1.2), (fun m => if m = s.1.1 then p else rg_p s m), (fun m => if m = s.1.1 then true else rg_u s m), (fun m => if m = s.1.1 then 0 else rg_s s m), fun m => if m = s.1.1 then T else rg_t s m)
/-- all that are up laid by a base and a degree -/
def rg_la (s : rg_T) (b d : Nat) : rg_T := (s.1, s.2.1, s.2.2.1, s.2.2.2.1, fun m => if rg_u s m = true then rg_lay s b d m else rg_t s m)
theorem rg_cy_st {s : rg_T} {n : Nat} {T : Nat → Nat} {h : Nat} : ∀ k, rg_cy (rg_st s n T) h k = rg_cy s h k := by
  intro k
  induction k with
  | zero => rfl
  | succ k ih => exact congrArg (rg_sc s) ih
theorem rg_lay_st {s : rg_T} {n b d m : Nat} {T : Nat → Nat} : rg_lay (rg_st s n T) b d m = rg_lay s b d m := by
  funext i
  unfold rg_lay
  rw [rg_cy_st, rg_cy_st]
  rfl
theorem rg_cy_sd {s : rg_T} {d' h : Nat} : ∀ k, rg_cy (rg_sd s d') h k = rg_cy s h k := by
  intro k
  induction k with
  | zero => rfl
  | succ k ih => exact congrArg (rg_sc s) ih
theorem rg_lay_sd {s : rg_T} {d' b d m : Nat} : rg_lay (rg_sd s d') b d m = rg_lay s b d m := by
  funext i
  unfold rg_lay
  rw [rg_cy_sd, rg_cy_sd]
  rfl
theorem rg_cy_la {s : rg_T} {b' d' h : Nat} : ∀ k, rg_cy (rg_la s b' d') h k = rg_cy s h k := by
  intro k
  induction k with
  | zero => rfl
  | succ k ih => exact congrArg (rg_sc s) ih
theorem rg_ok_st {s : rg_T} {n : Nat} {T : Nat → Nat} (O : rg_ok s) (h : rg_tok (rg_N s) T) : rg_ok (rg_st s n T) := by
  refine ⟨O.1, fun m hm => ?_⟩
  show rg_tok (rg_N s) (if m = n then T else rg_t s m)
  split
  · exact h
  · exact O.2 m hm
theorem rg_ok_stB {s : rg_T} {n : Nat} {T : Nat → Nat} (O : rg_okB s) (h : rg_tok (rg_N s) T) (h2 : ∀ m, m < rg_N s → m ≠ n → rg_tok (rg_N s) (rg_t s m)) : rg_ok (rg_st s n T) := by
  refine ⟨O, fun m hm => ?_⟩
  show rg_tok (rg_N s) (if m = n then T else rg_t s m)
  split
  · exact h
  · exact h2 m hm (by assumption)
theorem rg_ok_su {s : rg_T} {n : Nat} {v : Bool} (O : rg_ok s) : rg_ok (rg_su s n v) := O
theorem rg_ok_sb {s : rg_T} {b : Nat} (O : rg_ok s) (h1 : 1 ≤ b) (h4 : b ≤ 4) : rg_ok (rg_sb s b) := ⟨⟨O.1.1, ⟨h1, h4⟩, O.1.2.2⟩, O.2⟩
theorem rg_ok_sd {s : rg_T} {d : Nat} (O : rg_ok s) (h1 : 1 ≤ d) (h8 : d ≤ 8) : rg_ok (rg_sd s d) := ⟨⟨O.1.1, O.1.2.1, ⟨h1, h8⟩, O.1.2.2.2⟩, O.2⟩
theorem rg_ok_ss {s : rg_T} {n v : Nat} (O : rg_ok s) (h : v ≤ 99) : rg_ok (rg_ss s n v) := by
  refine ⟨⟨O.1.1, O.1.2.1, O.1.2.2.1, O.1.2.2.2.1, O.1.2.2.2.2.1, fun m hm => ?_⟩, O.2⟩
  show (if m = n then v else rg_s s m) ≤ 99
  split
  · exact h
  · exact O.1.2.2.2.2.2 m hm
theorem rg_ok_la {s : rg_T} {b d : Nat} (O : rg_ok s) (hb : b ≤ 4) (h1 : 1 ≤ d) (h8 : d ≤ 8) : rg_ok (rg_la s b d) := by
  refine ⟨O.1, fun m hm => ?_⟩
  show rg_tok (rg_N s) (if rg_u s m = true then rg_lay s b d m else rg_t s m)
  split
  · exact rg_tokL O.1 hm (by assumption) hb h1 h8
  · exact O.2 m hm
/-- ring r's nodes and tables -/
def S_rg (r k i _j : Nat) : Prop := (k = 2 ∧ 25 * r ≤ i ∧ i < 25 * r + 24) ∨ (k = 3 ∧ i = r) ∨ (k = 7 ∧ 25 * r ≤ i ∧ i < 25 * r + 24) ∨ ((k = 4 ∨ k = 12) ∧ 50 * r ≤ i ∧ i < 50 * r + 48)
theorem pu_layAgain {t : sr_t} {s : rg_T} {r n : Nat} (B : rg_B t r s) (hT : ∀ m, m < rg_N s → m ≠ n → rg_tab t (25 * r + m) (rg_t s m) ∧ rg_tok (rg_N s) (rg_t s m)) (O : rg_okB s) (hr : r < 2) (hn : n < rg_N s) (hu : rg_u s n = true) : ∃ t', F3_layAgain r (25 * r + n) t = some (.inl none, t') ∧ rg_C t' r (rg_st s n (rg_lay s (rg_b s) (rg_d s) n)) ∧ rg_K t' r (rg_st s n (rg_lay s (rg_b s) (rg_d s) n)) ∧ rg_ok (rg_st s n (rg_lay s (rg_b s) (rg_d s) n)) ∧ fr (fun k i j => S_tab (25 * r + n) k i j ∨ Fp_K r k i j) t t' := by
  have hN := O.1
  obtain ⟨t1, e1, e2, e3⟩ := pu_layInto (i1 := 25 * r + n) B O hr hn hu
  have B1 := rg_B_fr hN e3 (fun k i j q => by unfold Fp_B at q; unfold S_tab; omega) B
  have O1 : rg_ok (rg_st s n (rg_lay s (rg_b s) (rg_d s) n)) := rg_ok_stB O (rg_tokL O hn hu O.2.1.2 O.2.2.1.1 O.2.2.1.2) (fun m hm hne => (hT m hm hne).2)
  have C1 : rg_C t1 r (rg_st s n (rg_lay s (rg_b s) (rg_d s) n)) := by
    refine ⟨B1, fun m hm => ?_⟩
    show rg_tab t1 (25 * r + m) (if m = n then rg_lay s (rg_b s) (rg_d s) n else rg_t s m)
    by_cases e : m = n
    · rw [if_pos e, e]; exact e2
    · rw [if_neg e]
      have hm' : m < rg_N s := hm
      exact rg_tab_fr e3 (fun k j => ⟨by unfold S_tab; omega, fun hk => ⟨by unfold S_tab; omega, by unfold S_tab; omega⟩⟩) (hT m hm e).1
  obtain ⟨t2, g1, g2, g3, g4⟩ := pu_refresh C1 O1 hr
  refine ⟨t2, ?_, g2, g3, O1, fr_trans (fr_mono e3 (fun k i j q => Or.inl q)) (fr_mono g4 (fun k i j q => Or.inr q))⟩
  simp (disch := omega) only [pu_lt, pu_ck, pu_bI, pu_bV, pu_bR, pu_bL, pu_nt, pu_us, pu_un, mL_0, mL_1, mL_2, mL_3, mL_4, mL_5, mL_6, mL_7, mL_8, mL_9, mL_10, mL_11, mL_12, mL_13, mL_14, mL_15, mL_16, mL_23, mL_24, mL_32, mL_48, mL_64, mL_99, mL_100, mL_200, mL_336, mL_576, mL_768, mL_800, mL_999, mL_4095, mL_4096, mL_m1, nI_leI, nI_ltI, nI_eq, nI_clamp, nI_add, pk_mul, nI_nu, bI_eq0, bI_eq1, bo_ft, pu_of, pu_of24, pu_onward, pu_frq, if_true, if_false, true_or, or_true, false_or, or_false, and_true, true_and, and_false, false_and, not_true_eq_false, not_false_eq_true, if_neg, if_pos, F3_layAgain, e1, g1]
end
