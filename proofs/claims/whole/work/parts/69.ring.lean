section
/-! the class changes its ring -/
theorem rg_C_nod {S : Nat → Nat → Nat → Prop} {t t' : sr_t} {r : Nat} {s s' : rg_T} (hN : rg_N s ≤ 24) (h : fr S t t') (hs : ∀ k i j, Fp_C r k i j → S k i j → k = 2 ∧ i < 25 * r + 24 ∧ 1 ≤ j ∧ j ≤ 3) (e1 : s'.1 = s.1) (e2 : s'.2.2.2.2 = s.2.2.2.2) (hn : rg_nod t' r s') (C : rg_C t r s) : rg_C t' r s' := by
  have eN : rg_N s' = rg_N s := by unfold rg_N; rw [e1]
  have eb : rg_b s' = rg_b s := by unfold rg_b; rw [e1]
  have ed : rg_d s' = rg_d s := by unfold rg_d; rw [e1]
  have et : rg_t s' = rg_t s := e2
  have g : ∀ k i j, Fp_C r k i j → ¬ (k = 2 ∧ i < 25 * r + 24 ∧ 1 ≤ j ∧ j ≤ 3) → t'.1 k i j = t.1 k i j := fun k i j q q' => h.2 k i j (fun hS => q' (hs k i j q hS))
  obtain ⟨⟨⟨h1, h2, h3, h4, h5⟩, ⟨n1, n2, n3⟩, nd⟩, tb⟩ := C
  refine ⟨⟨⟨?_, ?_, ?_, ?_, ?_⟩, ⟨fun n hn => ?_, ?_, ?_⟩, hn⟩, fun n hn => ⟨?_, rg_row_fr (t := t) ?_ (fun j => ?_) ?_, rg_row_fr (t := t) ?_ (fun j => ?_) ?_⟩⟩
  · rw [g _ _ _ (by unfold Fp_C; omega) (by omega), eN]; exact h1
  · rw [g _ _ _ (by unfold Fp_C; omega) (by omega), eb]; exact h2
  · rw [g _ _ _ (by unfold Fp_C; omega) (by omega), eb]; exact h3
  · rw [g _ _ _ (by unfold Fp_C; omega) (by omega), eb]; exact h4
  · rw [g _ _ _ (by unfold Fp_C; omega) (by omega), ed]; exact h5
  · rw [g _ _ _ (by unfold Fp_C; omega) (by omega)]; exact n1 n hn
  · rw [g _ _ _ (by unfold Fp_C; omega) (by omega)]; exact n2
  · rw [g _ _ _ (by unfold Fp_C; omega) (by omega)]; exact n3
  · rw [eN] at hn
    rw [g _ _ _ (by unfold Fp_C; omega) (by omega), et]; exact (tb n hn).1
  · rw [eN] at hn
    exact g _ _ _ (by unfold Fp_C; omega) (by omega)
  · rw [eN] at hn
    exact g _ _ _ (by unfold Fp_C; omega) (by omega)
  · rw [eN] at hn
    rw [et]; exact (tb n hn).2.1
  · rw [eN] at hn
    exact g _ _ _ (by unfold Fp_C; omega) (by omega)
  · rw [eN] at hn
    exact g _ _ _ (by unfold Fp_C; omega) (by omega)
  · rw [eN] at hn
    rw [et]; exact (tb n hn).2.2
def S_c1 (K I J k i j : Nat) : Prop := k = K ∧ i = I ∧ j = J
theorem fr_1 {t : sr_t} {k i j : Nat} {v : Int32} : fr (S_c1 k i j) t (sr_u t k i j v) := fr_u fr_rfl ⟨rfl, rfl, rfl⟩
theorem rg_C_su {t : sr_t} {s : rg_T} {r n : Nat} {v : Bool} (hN : rg_N s ≤ 24) (hn : n < rg_N s) (C : rg_C t r s) : rg_C (sr_u t 2 (25 * r + n) 2 (bI v)) r (rg_su s n v) := by
  refine rg_C_nod hN fr_1 (fun k i j q q' => by unfold S_c1 at q'; omega) rfl rfl ?_ C
  intro m hm
  obtain ⟨a, b, c⟩ := C.1.2.2 m hm
  refine ⟨?_, ?_, ?_⟩
  · rw [pu_un (by omega)]; exact a
  · show _ = bI (if m = n then v else rg_u s m)
    by_cases e : m = n
    · rw [if_pos e, e, pu_us]
    · rw [if_neg e, pu_un (by omega)]; exact b
  · rw [pu_un (by omega)]; exact c
theorem rg_C_ss {t : sr_t} {s : rg_T} {r n v : Nat} (hN : rg_N s ≤ 24) (hn : n < rg_N s) (C : rg_C t r s) : rg_C (sr_u t 2 (25 * r + n) 3 (nI v)) r (rg_ss s n v) := by
  refine rg_C_nod hN fr_1 (fun k i j q q' => by unfold S_c1 at q'; omega) rfl rfl ?_ C
  intro m hm
  obtain ⟨a, b, c⟩ := C.1.2.2 m hm
  refine ⟨?_, ?_, ?_⟩
  · rw [pu_un (by omega)]; exact a
  · rw [pu_un (by omega)]; exact b
  · show _ = nI (if m = n then v else rg_s s m)
    by_cases e : m = n
    · rw [if_pos e, e, pu_us]
    · rw [if_neg e, pu_un (by omega)]; exact c
def S_td (r n k i j : Nat) : Prop := (k = 2 ∧ i = 25 * r + n ∧ j = 2) ∨ Fp_K r k i j
theorem pu_takeDown {t : sr_t} {s : rg_T} {r n : Nat} (C : rg_C t r s) (O : rg_ok s) (hr : r < 2) (hn : n < rg_N s) : ∃ t', F3_takeDown r (25 * r + n) t = some (.inl none, t') ∧ rg_C t' r (rg_su s n false) ∧ rg_K t' r (rg_su s n false) ∧ fr (S_td r n) t t' := by
  have C1 := rg_C_su (v := false) O.1.1 hn C
  obtain ⟨t2, g1, g2, g3, g4⟩ := pu_refresh C1 (rg_ok_su O) hr
  have g1' : F3_refresh r (sr_u t 2 (25 * r + n) 2 (nI 0)) = some (.inl none, t2) := g1
  refine ⟨t2, ?_, g2, g3, fr_trans (fr_u fr_rfl (Or.inl ⟨rfl, rfl, rfl⟩)) (fr_mono g4 (fun k i j q => Or.inr q))⟩
  simp (disch := omega) only [pu_lt, pu_ck, pu_bI, pu_bV, pu_bR, pu_bL, pu_nt, pu_us, pu_un, mL_0, mL_1, mL_2, mL_3, mL_4, mL_5, mL_6, mL_7, mL_8, mL_9, mL_10, mL_11, mL_12, mL_13, mL_14, mL_15, mL_16, mL_23, mL_24, mL_32, mL_48, mL_64, mL_99, mL_100, mL_200, mL_336, mL_576, mL_768, mL_800, mL_999, mL_4095, mL_4096, mL_m1, nI_leI, nI_ltI, nI_eq, nI_clamp, nI_add, pk_mul, nI_nu, bI_eq0, bI_eq1, bo_ft, pu_of, pu_of24, pu_onward, pu_frq, if_true, if_false, true_or, or_true, false_or, or_false, and_true, true_and, and_false, false_and, not_true_eq_false, not_false_eq_true, if_neg, if_pos, F3_takeDown, g1']
def S_bu (r n k i j : Nat) : Prop := (k = 2 ∧ i = 25 * r + n ∧ j = 2) ∨ S_tab (25 * r + n) k i j ∨ Fp_K r k i j
theorem pu_bringUp {t : sr_t} {s : rg_T} {r n : Nat} (B : rg_B (sr_u t 2 (25 * r + n) 2 (nI 1)) r s) (hT : ∀ m, m < rg_N s → m ≠ n → rg_tab t (25 * r + m) (rg_t s m) ∧ rg_tok (rg_N s) (rg_t s m)) (O : rg_okB s) (hr : r < 2) (hn : n < rg_N s) (hu : rg_u s n = true) : ∃ t', F3_bringUp r (25 * r + n) t = some (.inl none, t') ∧ rg_C t' r (rg_st s n (rg_lay s (rg_b s) (rg_d s) n)) ∧ rg_K t' r (rg_st s n (rg_lay s (rg_b s) (rg_d s) n)) ∧ rg_ok (rg_st s n (rg_lay s (rg_b s) (rg_d s) n)) ∧ fr (S_bu r n) t t' := by
  obtain ⟨t2, g1, g2, g3, g4, g5⟩ := pu_layAgain B (fun m hm hne => ⟨rg_tab_fr fr_1 (fun k j => ⟨by unfold S_c1; omega, fun hk => ⟨by unfold S_c1; omega, by unfold S_c1; omega⟩⟩) (hT m hm hne).1, (hT m hm hne).2⟩) O hr hn hu
  refine ⟨t2, ?_, g2, g3, g4, fr_trans (fr_u fr_rfl (Or.inl ⟨rfl, rfl, rfl⟩)) (fr_mono g5 (fun k i j q => Or.inr q))⟩
  simp (disch := omega) only [pu_lt, pu_ck, pu_bI, pu_bV, pu_bR, pu_bL, pu_nt, pu_us, pu_un, mL_0, mL_1, mL_2, mL_3, mL_4, mL_5, mL_6, mL_7, mL_8, mL_9, mL_10, mL_11, mL_12, mL_13, mL_14, mL_15, mL_16, mL_23, mL_24, mL_32, mL_48, mL_64, mL_99, mL_100, mL_200, mL_336, mL_576, mL_768, mL_800, mL_999, mL_4095, mL_4096, mL_m1, nI_leI, nI_ltI, nI_eq, nI_clamp, nI_add, pk_mul, nI_nu, bI_eq0, bI_eq1, bo_ft, pu_of, pu_of24, pu_onward, pu_frq, if_true, if_false, true_or, or_true, false_or, or_false, and_true, true_and, and_false, false_and, not_true_eq_false, not_false_eq_true, if_neg, if_pos, F3_bringUp, g1]
theorem rg_okB_ad {s : rg_T} {p : Nat} {T : Nat → Nat} (O : rg_okB s) (hN : rg_N s < 24) (hp : p < 4096) (hf : ∀ n, n < rg_N s → rg_p s n ≠ p) : rg_okB (rg_ad s p T) := by
  obtain ⟨o1, o2, o3, o4, o5, o6⟩ := O
  have eN : ∀ m, m < rg_N (rg_ad s p T) → m < rg_N s + 1 := fun m h => h
  refine ⟨hN, o2, o3, fun n hn => ?_, fun n m hn hm => ?_, fun n hn => ?_⟩
  · have := eN n hn
    show (if n = rg_N s then p else rg_p s n) < 4096
    split
    · exact hp
    · exact o4 n (by omega)
  · have h1 := eN n hn
    have h2 := eN m hm
    show (if n = rg_N s then p else rg_p s n) = (if m = rg_N s then p else rg_p s m) → n = m
    by_cases e1 : n = rg_N s
    · by_cases e2 : m = rg_N s
      · intro _; rw [e1, e2]
      · rw [if_pos e1, if_neg e2]
        intro q
        exact absurd q.symm (hf m (by omega))
    · by_cases e2 : m = rg_N s
      · rw [if_neg e1, if_pos e2]
        intro q
        exact absurd q (hf n (by omega))
      · rw [if_neg e1, if_neg e2]
        exact o5 n m (by omega) (by omega)
  · have := eN n hn
    show (if n = rg_N s then 0 else rg_s s n) ≤ 99
    split
    · omega
    · exact o6 n (by omega)
def S_an (r n k i j : Nat) : Prop := (k = 3 ∧ i = r ∧ j = 3) ∨ (k = 2 ∧ i = 25 * r + n ∧ j = 1) ∨ S_bu r n k i j
theorem pu_addNode {t : sr_t} {s : rg_T} {r p : Nat} (C : rg_C t r s) (O : rg_ok s) (hr : r < 2) (hN : rg_N s < 24) (hp : p < 4096) (hf : ∀ n, n < rg_N s → rg_p s n ≠ p) (hs : t.1 2 (25 * r + rg_N s) 3 = nI 0) : ∃ t', F3_addNode r (nI p) t = some (.inl (some (sr_i (nI (rg_N s)))), t') ∧ rg_C t' r (rg_st (rg_ad s p (fun _ => 0)) (rg_N s) (rg_lay (rg_ad s p (fun _ => 0)) (rg_b s) (rg_d s) (rg_N s))) ∧ rg_K t' r (rg_st (rg_ad s p (fun _ => 0)) (rg_N s) (rg_lay (rg_ad s p (fun _ => 0)) (rg_b s) (rg_d s) (rg_N s))) ∧ rg_ok (rg_st (rg_ad s p (fun _ => 0)) (rg_N s) (rg_lay (rg_ad s p (fun _ => 0)) (rg_b s) (rg_d s) (rg_N s))) ∧ fr (S_an r (rg_N s)) t t' := by
  obtain ⟨⟨⟨h1, h2, h3, h4, h5⟩, ⟨n1, n2, n3⟩, nd⟩, tb⟩ := C
  have O1 := rg_okB_ad (T := fun _ => 0) O.1 hN hp hf
  have eN : ∀ m, m < rg_N (rg_ad s p (fun _ => 0)) → m < rg_N s + 1 := fun m h => h
  have B1 : rg_B (sr_u (sr_u (sr_u t 3 r 3 (nI (rg_N s + 1))) 2 (25 * r + rg_N s) 1 (nI p)) 2 (25 * r + rg_N s) 2 (nI 1)) r (rg_ad s p (fun _ => 0)) := by
    refine ⟨⟨?_, ?_, ?_, ?_, ?_⟩, ⟨fun n hn => ?_, ?_, ?_⟩, fun n hn => ⟨?_, ?_, ?_⟩⟩
    · rw [pu_un (by omega), pu_un (by omega), pu_us]; rfl
    · rw [pu_un (by omega), pu_un (by omega), pu_un (by omega)]; exact h2
    · rw [pu_un (by omega), pu_un (by omega), pu_un (by omega)]; exact h3
    · rw [pu_un (by omega), pu_un (by omega), pu_un (by omega)]; exact h4
    · rw [pu_un (by omega), pu_un (by omega), pu_un (by omega)]; exact h5
    · rw [pu_un (by omega), pu_un (by omega), pu_un (by omega)]; exact n1 n hn
    · rw [pu_un (by omega), pu_un (by omega), pu_un (by omega)]; exact n2
    · rw [pu_un (by omega), pu_un (by omega), pu_un (by omega)]; exact n3
    · show _ = nI (if n = rg_N s then p else rg_p s n)
      by_cases e : n = rg_N s
      · rw [if_pos e, e, pu_un (by omega), pu_us]
      · have := eN n hn
        rw [if_neg e, pu_un (by omega), pu_un (by omega), pu_un (by omega)]; exact (nd n (by omega)).1
    · show _ = bI (if n = rg_N s then true else rg_u s n)
      by_cases e : n = rg_N s
      · rw [if_pos e, e, pu_us]; rfl
      · have := eN n hn
        rw [if_neg e, pu_un (by omega), pu_un (by omega), pu_un (by omega)]; exact (nd n (by omega)).2.1
    · show _ = nI (if n = rg_N s then 0 else rg_s s n)
      by_cases e : n = rg_N s
      · rw [if_pos e, e, pu_un (by omega), pu_un (by omega), pu_un (by omega)]; exact hs
      · have := eN n hn
        rw [if_neg e, pu_un (by omega), pu_un (by omega), pu_un (by omega)]; exact (nd n (by omega)).2.2
  have mono : ∀ T, rg_tok (rg_N s) T → rg_tok (rg_N s + 1) T := fun T ⟨a1, a2, a3, a4, a5, a6⟩ => ⟨a1, a2, fun k hk => Nat.lt_succ_of_lt (a3 k hk), a4, a5, fun k hk => Nat.lt_succ_of_lt (a6 k hk)⟩
  have f2 : fr (S_an r (rg_N s)) t (sr_u (sr_u t 3 r 3 (nI (rg_N s + 1))) 2 (25 * r + rg_N s) 1 (nI p)) := fr_u (fr_u fr_rfl (Or.inl ⟨rfl, rfl, rfl⟩)) (Or.inr (Or.inl ⟨rfl, rfl, rfl⟩))
  obtain ⟨t2, g1, g2, g3, g4, g5⟩ := pu_bringUp (n := rg_N s) B1 (fun m hm hne => by
    have hm' := eN m hm
    have et : rg_t (rg_ad s p (fun _ => 0)) m = rg_t s m := if_neg hne
    rw [et]
    refine ⟨rg_tab_fr f2 (fun k j => ⟨by unfold S_an S_bu S_tab Fp_K; omega, fun hk => ⟨by unfold S_an S_bu S_tab Fp_K; omega, by unfold S_an S_bu S_tab Fp_K; omega⟩⟩) (tb m (by omega)), mono _ (O.2 m (by omega))⟩) O1 hr (Nat.lt_succ_self _) (if_pos rfl)
  have nn := g2.1.2.1.1 (rg_N s) (by omega)
  rw [nu_lt hN] at nn
  refine ⟨t2, ?_, g2, g3, g4, fr_trans f2 (fr_mono g5 (fun k i j q => Or.inr (Or.inr q)))⟩
  simp (disch := omega) only [pu_lt, pu_ck, pu_bI, pu_bV, pu_bR, pu_bL, pu_nt, pu_us, pu_un, mL_0, mL_1, mL_2, mL_3, mL_4, mL_5, mL_6, mL_7, mL_8, mL_9, mL_10, mL_11, mL_12, mL_13, mL_14, mL_15, mL_16, mL_23, mL_24, mL_32, mL_48, mL_64, mL_99, mL_100, mL_200, mL_336, mL_576, mL_768, mL_800, mL_999, mL_4095, mL_4096, mL_m1, nI_leI, nI_ltI, nI_eq, nI_clamp, nI_add, pk_mul, nI_nu, bI_eq0, bI_eq1, bo_ft, pu_of, pu_of24, pu_onward, pu_frq, if_true, if_false, true_or, or_true, false_or, or_false, and_true, true_and, and_false, false_and, not_true_eq_false, not_false_eq_true, if_neg, if_pos, F3_addNode, h1, g1, nn]
def S_ts (r k i _j : Nat) : Prop := (k = 7 ∧ 25 * r ≤ i ∧ i < 25 * r + 24) ∨ ((k = 4 ∨ k = 12) ∧ 50 * r ≤ i ∧ i < 50 * r + 48)
theorem pu_layAll {t : sr_t} {s : rg_T} {r : Nat} (C : rg_C t r s) (O : rg_ok s) (hr : r < 2) : ∃ t', F3_layAllAgain r t = some (.inl none, t') ∧ rg_C t' r (rg_la s (rg_b s) (rg_d s)) ∧ rg_K t' r (rg_la s (rg_b s) (rg_d s)) ∧ fr (fun k i j => S_ts r k i j ∨ Fp_K r k i j) t t' := by
  have hN := O.1.1
  refine rs_via fun Q hQ => ?_
  refine rs_loop (N := rg_N s) (L := fun f n t' => f3_layAllAgain_2 r (f3_layAllAgain_44 r) f (nI n) t') (fun n t' => rg_B t' r s ∧ (∀ m, m < rg_N s → rg_tab t' (25 * r + m) (if m < n then rg_t (rg_la s (rg_b s) (rg_d s)) m else rg_t s m)) ∧ fr (S_ts r) t t') ?_ ?_ (by unfold sr_fu; omega) ⟨C.1, fun m hm => by rw [if_neg (by omega)]; exact C.2 m hm, fr_rfl⟩
  · rintro n g t' hn ⟨p1, p2, p3⟩
    have hN' := p1.1.1
    have hup := (p1.2.2 n hn).2.1
    left
    by_cases hu : rg_u s n = true
    · obtain ⟨t1, e1, e2, e3⟩ := pu_layInto (i1 := 25 * r + n) p1 O.1 hr hn hu
      rw [hu] at hup
      have b1 : ¬ bI true = nI 0 := by decide
      refine ⟨t1, ⟨rg_B_fr hN e3 (fun k i j q => by unfold Fp_B at q; unfold S_tab; omega) p1, fun m hm => ?_, fr_trans p3 (fr_mono e3 (fun k i j q => by unfold S_tab at q; unfold S_ts; omega))⟩, ?_⟩
      · by_cases e : m = n
        · rw [if_pos (by omega), e]
          show rg_tab t1 (25 * r + n) (if rg_u s n = true then rg_lay s (rg_b s) (rg_d s) n else rg_t s n)
          rw [if_pos hu]; exact e2
        · have q := p2 m hm
          have ee : (if m < n + 1 then rg_t (rg_la s (rg_b s) (rg_d s)) m else rg_t s m) = (if m < n then rg_t (rg_la s (rg_b s) (rg_d s)) m else rg_t s m) := by
            by_cases h : m < n
            · rw [if_pos h, if_pos (by omega)]
            · rw [if_neg h, if_neg (by omega)]
          rw [ee]
          exact rg_tab_fr e3 (fun k j => ⟨by unfold S_tab; omega, fun hk => ⟨by unfold S_tab; omega, by unfold S_tab; omega⟩⟩) q
      · show f3_layAllAgain_2 r (f3_layAllAgain_44 r) (g + 1) (nI n) t' = f3_layAllAgain_2 r (f3_layAllAgain_44 r) g (nI (n + 1)) t1
        simp (disch := omega) only [pu_lt, pu_ck, pu_bI, pu_bV, pu_bR, pu_bL, pu_nt, pu_us, pu_un, mL_0, mL_1, mL_2, mL_3, mL_4, mL_5, mL_6, mL_7, mL_8, mL_9, mL_10, mL_11, mL_12, mL_13, mL_14, mL_15, mL_16, mL_23, mL_24, mL_32, mL_48, mL_64, mL_99, mL_100, mL_200, mL_336, mL_576, mL_768, mL_800, mL_999, mL_4095, mL_4096, mL_m1, nI_leI, nI_ltI, nI_eq, nI_clamp, nI_add, pk_mul, nI_nu, bI_eq0, bI_eq1, bo_ft, pu_of, pu_of24, pu_onward, pu_frq, if_true, if_false, true_or, or_true, false_or, or_false, and_true, true_and, and_false, false_and, not_true_eq_false, not_false_eq_true, if_neg, if_pos, f3_layAllAgain_2, f3_layAllAgain_38, hN', hup, b1, e1]
    · have hu' : rg_u s n = false := by simpa using hu
      rw [hu'] at hup
      have b0 : bI false = nI 0 := rfl
      refine ⟨t', ⟨p1, fun m hm => ?_, p3⟩, ?_⟩
      · by_cases e : m = n
        · have q := p2 m hm
          rw [if_neg (by omega)] at q
          rw [if_pos (by omega), e]
          show rg_tab t' (25 * r + n) (if rg_u s n = true then rg_lay s (rg_b s) (rg_d s) n else rg_t s n)
          rw [if_neg hu, ← e]; exact q
        · have q := p2 m hm
          have ee : (if m < n + 1 then rg_t (rg_la s (rg_b s) (rg_d s)) m else rg_t s m) = (if m < n then rg_t (rg_la s (rg_b s) (rg_d s)) m else rg_t s m) := by
            by_cases h : m < n
            · rw [if_pos h, if_pos (by omega)]
            · rw [if_neg h, if_neg (by omega)]
          rw [ee]
          exact q
      · show f3_layAllAgain_2 r (f3_layAllAgain_44 r) (g + 1) (nI n) t' = f3_layAllAgain_2 r (f3_layAllAgain_44 r) g (nI (n + 1)) t'
        simp (disch := omega) only [pu_lt, pu_ck, pu_bI, pu_bV, pu_bR, pu_bL, pu_nt, pu_us, pu_un, mL_0, mL_1, mL_2, mL_3, mL_4, mL_5, mL_6, mL_7, mL_8, mL_9, mL_10, mL_11, mL_12, mL_13, mL_14, mL_15, mL_16, mL_23, mL_24, mL_32, mL_48, mL_64, mL_99, mL_100, mL_200, mL_336, mL_576, mL_768, mL_800, mL_999, mL_4095, mL_4096, mL_m1, nI_leI, nI_ltI, nI_eq, nI_clamp, nI_add, pk_mul, nI_nu, bI_eq0, bI_eq1, bo_ft, pu_of, pu_of24, pu_onward, pu_frq, if_true, if_false, true_or, or_true, false_or, or_false, and_true, true_and, and_false, false_and, not_true_eq_false, not_false_eq_true, if_neg, if_pos, f3_layAllAgain_2, f3_layAllAgain_38, hN', hup, b0]
  · rintro g t' ⟨p1, p2, p3⟩
    have hN' := p1.1.1
    have C1 : rg_C t' r (rg_la s (rg_b s) (rg_d s)) := ⟨p1, fun m hm => by
      have q := p2 m hm
      rw [if_pos (show m < rg_N s from hm)] at q
      exact q⟩
    obtain ⟨t2, g1, g2, g3, g4⟩ := pu_refresh C1 (rg_ok_la O O.1.2.1.2 O.1.2.2.1.1 O.1.2.2.1.2) hr
    show rs_to _ (f3_layAllAgain_2 r (f3_layAllAgain_44 r) (g + 1) (nI (rg_N s)) t')
    simp (disch := omega) only [pu_lt, pu_ck, pu_bI, pu_bV, pu_bR, pu_bL, pu_nt, pu_us, pu_un, mL_0, mL_1, mL_2, mL_3, mL_4, mL_5, mL_6, mL_7, mL_8, mL_9, mL_10, mL_11, mL_12, mL_13, mL_14, mL_15, mL_16, mL_23, mL_24, mL_32, mL_48, mL_64, mL_99, mL_100, mL_200, mL_336, mL_576, mL_768, mL_800, mL_999, mL_4095, mL_4096, mL_m1, nI_leI, nI_ltI, nI_eq, nI_clamp, nI_add, pk_mul, nI_nu, bI_eq0, bI_eq1, bo_ft, pu_of, pu_of24, pu_onward, pu_frq, if_true, if_false, true_or, or_true, false_or, or_false, and_true, true_and, and_false, false_and, not_true_eq_false, not_false_eq_true, if_neg, if_pos, f3_layAllAgain_2, f3_layAllAgain_44, hN', g1]
    exact rs_ret (hQ _ ⟨g2, g3, fr_trans (fr_mono p3 (fun k i j q => Or.inl q)) (fr_mono g4 (fun k i j q => Or.inr q))⟩)
end
