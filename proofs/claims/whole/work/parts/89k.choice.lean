section
/-! step: choice -/
/-- a heap of the reference on which a picture lies -/
theorem pr_lie {i : Nat} {t : sr_t} {s : rg_T} {w : st_T} {b d : Nat} (X : J i t s w) (Ob : rg_ok (rg_by s b d)) : ∃ T : sr_t, rg_RN T (rg_by s b d) ∧ T.1 11 0 22 = nI 0 := by
  obtain ⟨O, C, K, nb, sp, R, kp, L, W⟩ := X
  obtain ⟨⟨⟨r1, r2, r3⟩, rn⟩, _⟩ := R
  refine ⟨(fun k i j => if k = 27 then nI (rg_t (rg_by s b d) (j / 14) (j % 14)) else if k = 11 ∧ i = 0 ∧ j = 7 then nI (2 ^ b) else t.1 k i j, t.2), ⟨⟨rg_d s, O.1.2.2.1.1, O.1.2.2.1.2, ⟨⟨?_, ?_, ?_⟩, fun n hn => ⟨?_, ?_, ?_⟩⟩⟩, fun n hn => ⟨?_, ?_, ?_, fun j hj => ?_, fun j hj => ?_⟩⟩, ?_⟩
  · exact r1
  · rfl
  · exact r3
  · exact (rn n hn).1
  · exact (rn n hn).2.1
  · exact (rn n hn).2.2
  · show nI (rg_t (rg_by s b d) (14 * n / 14) (14 * n % 14)) = _
    rw [show 14 * n / 14 = n by omega, show 14 * n % 14 = 0 by omega]
  · show nI (rg_t (rg_by s b d) ((14 * n + 1) / 14) ((14 * n + 1) % 14)) = _
    rw [show (14 * n + 1) / 14 = n by omega, show (14 * n + 1) % 14 = 1 by omega]
  · show nI (rg_t (rg_by s b d) ((14 * n + 5) / 14) ((14 * n + 5) % 14)) = _
    rw [show (14 * n + 5) / 14 = n by omega, show (14 * n + 5) % 14 = 5 by omega]
  · have h1 := (Ob.2 n hn).2.1
    show nI (rg_t (rg_by s b d) ((14 * n + 2 + j) / 14) ((14 * n + 2 + j) % 14)) = _
    rw [show (14 * n + 2 + j) / 14 = n by omega, show (14 * n + 2 + j) % 14 = 2 + j by omega]
  · have h5 := (Ob.2 n hn).2.2.2.2.1
    show nI (rg_t (rg_by s b d) ((14 * n + 6 + j) / 14) ((14 * n + 6 + j) % 14)) = _
    rw [show (14 * n + 6 + j) / 14 = n by omega, show (14 * n + 6 + j) % 14 = 6 + j by omega]
  · exact kp
theorem rg_lay_d {s : rg_T} {b d d' m : Nat} (h : min d (rg_up s) = min d' (rg_up s)) : rg_lay s b d m = rg_lay s b d' m := by
  funext i
  unfold rg_lay
  rw [h]
theorem ct_deg {i : Nat} {t : sr_t} {s : rg_T} {w : st_T} {b d d' : Nat} (X : J i t s w) (b1 : 1 ≤ b) (b4 : b ≤ 4) (d1 : 1 ≤ d) (d8 : d ≤ 8) (e1 : 1 ≤ d') (e8 : d' ≤ 8) (h : min d (rg_up s) = min d' (rg_up s)) : ct s b d = ct s b d' := by
  have O := X.1
  have hN := O.1.1
  have Ob := rg_ok_by O b1 b4 d1 d8
  have Ob' := rg_ok_by O b1 b4 e1 e8
  have et : rg_t (rg_by s b d) = rg_t (rg_by s b d') := by
    funext m
    rw [rg_t_by, rg_t_by]
    have : rg_lay (rg_sb s b) b d m = rg_lay (rg_sb s b) b d' m := rg_lay_d h
    rw [this]
  obtain ⟨T, RN, k⟩ := pr_lie X Ob
  have RN' : rg_RN T (rg_by s b d') := by
    obtain ⟨⟨d0, h1, h8, R1⟩, R2⟩ := RN
    refine ⟨⟨d0, h1, h8, R1⟩, fun n hn => ?_⟩
    rw [← et]; exact R2 n hn
  obtain ⟨t1, g1, I1, _⟩ := pr_samples (best := true) RN Ob k
  obtain ⟨t2, g2, I2, _⟩ := pr_samples (best := true) RN' Ob' k
  have e : t1 = t2 := by
    have := g1.symm.trans g2
    simp only [Option.some.injEq, Prod.mk.injEq, true_and] at this
    exact this
  subst e
  have z1 : t1.1 11 0 40 = nI (ct s b d) := I1.1.1
  have z2 : t1.1 11 0 40 = nI (ct s b d') := I2.1.1
  have l1 := ct_le (b := b) (d := d) O
  have l2 := ct_le (b := b) (d := d') O
  exact (nI_eq (by omega) (by omega)).mp (z1.symm.trans z2)
theorem bx_ge {v : Nat → Nat} : ∀ n, ∀ x, x < n → v x ≤ (bx v n).2 := by
  intro n
  induction n with
  | zero => intro x hx; omega
  | succ n ih =>
    intro x hx
    rw [bx_s]
    split
    · rename_i h
      by_cases e : x = n
      · rw [e]; exact Nat.le_refl _
      · exact Nat.le_trans (ih x (by omega)) (Nat.le_of_lt h)
    · rename_i h
      by_cases e : x = n
      · rw [e]; omega
      · exact ih x (by omega)
def cv (s : rg_T) (x : Nat) : Nat := 1000000 - ct s (x % 4 + 1) (x / 4 + 1)
def cc (x : Nat) : Nat := 100 * 2 ^ (x % 4 + 1) + (x / 4 + 1)
def fC (z : Int32) (s : rg_T) (n : Nat) : Int32 := if n = 0 then z else nI (cc (bx (cv s) n).1)
def lC (z : Nat) (s : rg_T) (n : Nat) : Nat := if n = 0 then z else 1000000 - (bx (cv s) n).2
theorem cv_b {s : rg_T} {x : Nat} (O : rg_ok s) : 692800 ≤ cv s x ∧ cv s x ≤ 1000000 := by
  have := ct_le (b := x % 4 + 1) (d := x / 4 + 1) O
  unfold cv
  omega
theorem cc_b {x : Nat} (h : x < 32) : 1 ≤ cc x ∧ cc x < 10000 := by
  have h1 : 2 ^ (x % 4 + 1) ≤ 2 ^ 4 := Nat.pow_le_pow_right (by decide) (by omega)
  have h2 : 1 ≤ 2 ^ (x % 4 + 1) := Nat.one_le_two_pow
  unfold cc
  omega
theorem bx_b {s : rg_T} {n : Nat} (O : rg_ok s) (hn : 1 ≤ n) : 692800 ≤ (bx (cv s) n).2 ∧ (bx (cv s) n).2 ≤ 1000000 ∧ (bx (cv s) n).1 < n := by
  have a := bx_ge (v := cv s) n 0 (by omega)
  have b := (cv_b (x := 0) O).1
  obtain ⟨c, d⟩ := bx_le (v := cv s) (c := 1000000) n (fun k _ => (cv_b O).2)
  exact ⟨by omega, c, by omega⟩
/-- the next one is better -/
theorem fC_y {z : Int32} {zl : Nat} {s : rg_T} {n : Nat} (h : (bx (cv s) n).2 < cv s n) (O : rg_ok s) : fC z s (n + 1) = nI (cc n) ∧ lC zl s (n + 1) = ct s (n % 4 + 1) (n / 4 + 1) := by
  unfold fC lC
  rw [bx_s, if_pos h, if_neg (by omega), if_neg (by omega)]
  have := ct_le (b := n % 4 + 1) (d := n / 4 + 1) O
  refine ⟨rfl, ?_⟩
  show 1000000 - cv s n = _
  unfold cv
  omega
theorem fC_n {z : Int32} {zl : Nat} {s : rg_T} {n : Nat} (h : ¬ (bx (cv s) n).2 < cv s n) (O : rg_ok s) : 1 ≤ n ∧ fC z s (n + 1) = fC z s n ∧ lC zl s (n + 1) = lC zl s n := by
  have hn : 1 ≤ n := by
    apply Decidable.byContradiction
    intro q
    have e : n = 0 := by omega
    subst e
    have := (cv_b (x := 0) O).1
    exact h (by show 0 < cv s 0; omega)
  unfold fC lC
  rw [bx_s, if_neg h, if_neg (by omega), if_neg (by omega), if_neg (by omega), if_neg (by omega)]
  exact ⟨hn, rfl, rfl⟩
theorem lC_lt {zl : Nat} {s : rg_T} {n : Nat} (O : rg_ok s) (hn : 1 ≤ n) : lC zl s n ≤ 307200 ∧ ((bx (cv s) n).2 < cv s n ↔ ct s (n % 4 + 1) (n / 4 + 1) < lC zl s n) := by
  obtain ⟨a, b, c⟩ := bx_b O hn
  have d := ct_le (b := n % 4 + 1) (d := n / 4 + 1) O
  unfold lC
  rw [if_neg (by omega)]
  unfold cv at *
  omega
set_option maxHeartbeats 4000000 in
theorem pc_choice {i : Nat} {t : sr_t} {s : rg_T} {w : st_T} {M D : Nat} (X : J i t s w) (hM : 1 ≤ M) (hM8 : M ≤ 8) (hD : D = max 1 (min M (rg_up s))) : ∃ t1, F1_bestChoice 0 (nI M) t = some (.inl (some (sr_i (fC (nI 0) s (4 * D)))), t1) ∧ fr Sc t t1 := by
  have O := X.1
  have hN := O.1.1
  have hU := rg_upN (s := s)
  obtain ⟨t1, e1, c1, k1, f1⟩ := pc_copy X
  have X1 := J_c X (fr_mono f1 (fun k i j q => S_tr_Sc q))
  have h4 : t1.1 3 0 4 = nI (rg_up s) := X1.2.2.1.1
  have hD8 : D ≤ 8 := by omega
  have mx : (if nI 1 < (if nI (rg_up s) < nI M then nI (rg_up s) else nI M) then (if nI (rg_up s) < nI M then nI (rg_up s) else nI M) else nI 1) = nI D := by
    have e : (if nI (rg_up s) < nI M then nI (rg_up s) else nI M) = nI (min M (rg_up s)) := by
      by_cases h : rg_up s < M
      · rw [if_pos (nI_lt h (by omega))]; congr 1; omega
      · rw [if_neg (nI_nlt (by omega) (by omega))]; congr 1; omega
    rw [e]
    by_cases h : 1 < min M (rg_up s)
    · rw [if_pos (nI_lt h (by omega))]; congr 1; omega
    · rw [if_neg (nI_nlt (by omega) (by omega))]; congr 1; omega
  have st : F1_bestChoice 0 (nI M) t = f1_bestChoice_30 0 (nI M) (f1_bestChoice_104 0 (nI M)) sr_fu (fC (nI 0) s (4 * 0)) (nI (lC 0 s (4 * 0))) (nI D) (nI (0 + 1)) t1 := by
    unfold F1_bestChoice
    rw [e1, pv_bV, h4]
    exact congrArg (fun z => f1_bestChoice_30 0 (nI M) (f1_bestChoice_104 0 (nI M)) sr_fu (nI 0) (nI 0) z (nI 1) t1) mx
  rw [st]
  refine rs_via fun Q hQ => ?_
  refine rs_loop (N := D) (L := fun f e t' => f1_bestChoice_30 0 (nI M) (f1_bestChoice_104 0 (nI M)) f (fC (nI 0) s (4 * e)) (nI (lC 0 s (4 * e))) (nI D) (nI (e + 1)) t') (fun e t' => Tr t' s ∧ fr Sc t t') ?_ ?_ (by unfold sr_fu; omega) ⟨⟨s, c1, O, fun _ _ => rfl⟩, fr_mono f1 (fun k i j q => S_tr_Sc q)⟩
  · rintro e g t' he ⟨p1, p2⟩
    left
    have start : f1_bestChoice_30 0 (nI M) (f1_bestChoice_104 0 (nI M)) (g + 1) (fC (nI 0) s (4 * e)) (nI (lC 0 s (4 * e))) (nI D) (nI (e + 1)) t' = f1_bestChoice_40 0 (nI M) (f1_bestChoice_98 0 (nI M) (f1_bestChoice_30 0 (nI M) (f1_bestChoice_104 0 (nI M)) g) (f1_bestChoice_104 0 (nI M))) sr_fu (fC (nI 0) s (4 * e)) (nI (lC 0 s (4 * e))) (nI D) (nI (e + 1)) (nI 2) t' := by
      conv => lhs; unfold f1_bestChoice_30
      rw [if_neg (nI_nlt (by omega) (by omega)), mL_2]
    have main : ∃ t2, (Tr t2 s ∧ fr Sc t t2) ∧ f1_bestChoice_40 0 (nI M) (f1_bestChoice_98 0 (nI M) (f1_bestChoice_30 0 (nI M) (f1_bestChoice_104 0 (nI M)) g) (f1_bestChoice_104 0 (nI M))) sr_fu (fC (nI 0) s (4 * e + 0)) (nI (lC 0 s (4 * e + 0))) (nI D) (nI (e + 1)) (nI (2 ^ (0 + 1))) t' = f1_bestChoice_30 0 (nI M) (f1_bestChoice_104 0 (nI M)) g (fC (nI 0) s (4 * (e + 1))) (nI (lC 0 s (4 * (e + 1)))) (nI D) (nI (e + 1 + 1)) t2 := by
      refine pu_forR (N := 4) (L := fun f k t2 => f1_bestChoice_40 0 (nI M) (f1_bestChoice_98 0 (nI M) (f1_bestChoice_30 0 (nI M) (f1_bestChoice_104 0 (nI M)) g) (f1_bestChoice_104 0 (nI M))) f (fC (nI 0) s (4 * e + k)) (nI (lC 0 s (4 * e + k))) (nI D) (nI (e + 1)) (nI (2 ^ (k + 1))) t2) (fin := fun t2 => f1_bestChoice_30 0 (nI M) (f1_bestChoice_104 0 (nI M)) g (fC (nI 0) s (4 * (e + 1))) (nI (lC 0 s (4 * (e + 1)))) (nI D) (nI (e + 1 + 1)) t2) (P := fun k t2 => Tr t2 s ∧ fr Sc t t2) ?_ ?_ (by unfold sr_fu; omega) ⟨p1, p2⟩
      · rintro k g2 t2 hk ⟨q1, q2⟩
        obtain ⟨t3, e3, T3, I3, f3⟩ := pc_laid (b := k + 1) (d := e + 1) q1 (by omega) (by omega) (by omega) (by omega)
        have y3 : t3.1 5 0 3 = nI (ct s (k + 1) (e + 1)) := I3.1
        have cl := ct_le (b := k + 1) (d := e + 1) O
        have p16 : 2 ^ (k + 1) ≤ 16 := pu_pow16 (by omega)
        have hx : (4 * e + k) % 4 = k ∧ (4 * e + k) / 4 = e := by omega
        refine ⟨t3, ⟨T3, fr_trans q2 (fr_mono f3 (fun k i j q => S_tr_Sc q))⟩, ?_⟩
        show f1_bestChoice_40 0 (nI M) _ (g2 + 1) (fC (nI 0) s (4 * e + k)) (nI (lC 0 s (4 * e + k))) (nI D) (nI (e + 1)) (nI (2 ^ (k + 1))) t2 = f1_bestChoice_40 0 (nI M) _ g2 (fC (nI 0) s (4 * e + (k + 1))) (nI (lC 0 s (4 * e + (k + 1)))) (nI D) (nI (e + 1)) (nI (2 ^ (k + 1 + 1))) t3
        have pw : nI (2 ^ (k + 1)) * 2 = nI (2 ^ (k + 1 + 1)) := by rw [mL_2, pk_mul, ← Nat.pow_succ]
        have cd : 100 * nI (2 ^ (k + 1)) + nI (e + 1) = nI (cc (4 * e + k)) := by
          rw [mL_100, pk_mul, nI_add]
          unfold cc
          rw [hx.1, hx.2]
        have un : f1_bestChoice_40 0 (nI M) (f1_bestChoice_98 0 (nI M) (f1_bestChoice_30 0 (nI M) (f1_bestChoice_104 0 (nI M)) g) (f1_bestChoice_104 0 (nI M))) (g2 + 1) (fC (nI 0) s (4 * e + k)) (nI (lC 0 s (4 * e + k))) (nI D) (nI (e + 1)) (nI (2 ^ (k + 1))) t2 = (if fC (nI 0) s (4 * e + k) = 0 then f1_bestChoice_40 0 (nI M) (f1_bestChoice_98 0 (nI M) (f1_bestChoice_30 0 (nI M) (f1_bestChoice_104 0 (nI M)) g) (f1_bestChoice_104 0 (nI M))) g2 (nI (cc (4 * e + k))) (nI (ct s (k + 1) (e + 1))) (nI D) (nI (e + 1)) (nI (2 ^ (k + 1 + 1))) t3 else if nI (lC 0 s (4 * e + k)) ≤ nI (ct s (k + 1) (e + 1)) then f1_bestChoice_40 0 (nI M) (f1_bestChoice_98 0 (nI M) (f1_bestChoice_30 0 (nI M) (f1_bestChoice_104 0 (nI M)) g) (f1_bestChoice_104 0 (nI M))) g2 (fC (nI 0) s (4 * e + k)) (nI (lC 0 s (4 * e + k))) (nI D) (nI (e + 1)) (nI (2 ^ (k + 1 + 1))) t3 else f1_bestChoice_40 0 (nI M) (f1_bestChoice_98 0 (nI M) (f1_bestChoice_30 0 (nI M) (f1_bestChoice_104 0 (nI M)) g) (f1_bestChoice_104 0 (nI M))) g2 (nI (cc (4 * e + k))) (nI (ct s (k + 1) (e + 1))) (nI D) (nI (e + 1)) (nI (2 ^ (k + 1 + 1))) t3) := by
          conv => lhs; unfold f1_bestChoice_40
          rw [if_neg (show ¬ (16 : Int32) < nI (2 ^ (k + 1)) from nI_nlt (b := 2 ^ (k + 1)) (a := 16) (by omega) (by omega)), e3, pv_bV]
          simp only [f1_bestChoice_71, f1_bestChoice_89, y3, pw, cd]
        rw [un]
        by_cases h : (bx (cv s) (4 * e + k)).2 < cv s (4 * e + k)
        · obtain ⟨w1, w2⟩ := fC_y (z := nI 0) (zl := 0) h O
          rw [hx.1, hx.2] at w2
          rw [← Nat.add_assoc, w1, w2]
          by_cases h0 : 4 * e + k = 0
          · have : fC (nI 0) s (4 * e + k) = 0 := if_pos h0
            rw [if_pos this]
          · obtain ⟨l1, l2⟩ := lC_lt (zl := 0) (n := 4 * e + k) O (by omega)
            rw [hx.1, hx.2] at l2
            have hlt := l2.mp h
            obtain ⟨_, _, bi⟩ := bx_b (n := 4 * e + k) O (by omega)
            have cb := cc_b (x := (bx (cv s) (4 * e + k)).1) (by omega)
            have nz : ¬ fC (nI 0) s (4 * e + k) = 0 := by
              unfold fC
              rw [if_neg h0]
              exact nI_ne0 (by omega) (by omega)
            rw [if_neg nz, if_neg (nI_ge hlt (by omega))]
        · obtain ⟨w0, w1, w2⟩ := fC_n (z := nI 0) (zl := 0) h O
          obtain ⟨l1, l2⟩ := lC_lt (zl := 0) (n := 4 * e + k) O w0
          rw [hx.1, hx.2] at l2
          have hlt : lC 0 s (4 * e + k) ≤ ct s (k + 1) (e + 1) := Nat.le_of_not_lt fun q => h (l2.mpr q)
          obtain ⟨_, _, bi⟩ := bx_b (n := 4 * e + k) O w0
          have cb := cc_b (x := (bx (cv s) (4 * e + k)).1) (by omega)
          have nz : ¬ fC (nI 0) s (4 * e + k) = 0 := by
            unfold fC
            rw [if_neg (by omega)]
            exact nI_ne0 (by omega) (by omega)
          rw [← Nat.add_assoc, w1, w2, if_neg nz, if_pos (nI_le hlt (by omega))]
      · rintro g2 t2 ⟨q1, q2⟩
        show f1_bestChoice_40 0 (nI M) _ (g2 + 1) (fC (nI 0) s (4 * e + 4)) (nI (lC 0 s (4 * e + 4))) (nI D) (nI (e + 1)) (nI (2 ^ (4 + 1))) t2 = _
        conv => lhs; unfold f1_bestChoice_40
        rw [if_pos (show (16 : Int32) < nI (2 ^ (4 + 1)) by decide)]
        unfold f1_bestChoice_98
        rw [nI_1, show 4 * e + 4 = 4 * (e + 1) by omega]
    obtain ⟨t2, q, e2⟩ := main
    refine ⟨t2, q, ?_⟩
    show f1_bestChoice_30 0 (nI M) (f1_bestChoice_104 0 (nI M)) (g + 1) (fC (nI 0) s (4 * e)) (nI (lC 0 s (4 * e))) (nI D) (nI (e + 1)) t' = _
    rw [start]
    exact e2
  · rintro g t' ⟨p1, p2⟩
    show rs_to _ (f1_bestChoice_30 0 (nI M) (f1_bestChoice_104 0 (nI M)) (g + 1) (fC (nI 0) s (4 * D)) (nI (lC 0 s (4 * D))) (nI D) (nI (D + 1)) t')
    have fin : rs_to Q (f1_bestChoice_104 0 (nI M) (fC (nI 0) s (4 * D)) t') := rs_ret (hQ _ p2)
    unfold f1_bestChoice_30
    rw [if_pos (nI_lt (by omega) (by omega))]
    exact fin
set_option maxHeartbeats 4000000 in
theorem pr_choice {i : Nat} {t : sr_t} {s : rg_T} {w : st_T} {M : Nat} (X : J i t s w) (hM : 1 ≤ M) (hM8 : M ≤ 8) : ∃ t1, f11_choice_37 (nI (M + 3)) (f11_choice_103 (nI (M + 3))) sr_fu (nu 24) (nI 100000000) (nI 1) t = some (.inl (some (sr_i (fC (nu 24) s (4 * M)))), t1) ∧ fr Sr0 t t1 := by
  have O := X.1
  have hN := O.1.1
  refine rs_via fun Q hQ => ?_
  show rs_to Q (f11_choice_37 (nI (M + 3)) (f11_choice_103 (nI (M + 3))) sr_fu (fC (nu 24) s (4 * 0)) (nI (lC 100000000 s (4 * 0))) (nI (0 + 1)) t)
  refine rs_loop (N := M) (L := fun f e t' => f11_choice_37 (nI (M + 3)) (f11_choice_103 (nI (M + 3))) f (fC (nu 24) s (4 * e)) (nI (lC 100000000 s (4 * e))) (nI (e + 1)) t') (fun e t' => fr Sr0 t t') ?_ ?_ (by unfold sr_fu; omega) fr_rfl
  · rintro e g t' he p2
    left
    have start : f11_choice_37 (nI (M + 3)) (f11_choice_103 (nI (M + 3))) (g + 1) (fC (nu 24) s (4 * e)) (nI (lC 100000000 s (4 * e))) (nI (e + 1)) t' = f11_choice_48 (nI (M + 3)) (f11_choice_97 (nI (M + 3)) (f11_choice_37 (nI (M + 3)) (f11_choice_103 (nI (M + 3))) g) (f11_choice_103 (nI (M + 3)))) sr_fu (fC (nu 24) s (4 * e)) (nI (lC 100000000 s (4 * e))) (nI (e + 1)) (nI 2) t' := by
      conv => lhs; unfold f11_choice_37
      rw [mL_3, nI_add, if_neg (nI_nlt (by omega) (by omega)), mL_2]
    have main : ∃ t2, fr Sr0 t t2 ∧ f11_choice_48 (nI (M + 3)) (f11_choice_97 (nI (M + 3)) (f11_choice_37 (nI (M + 3)) (f11_choice_103 (nI (M + 3))) g) (f11_choice_103 (nI (M + 3)))) sr_fu (fC (nu 24) s (4 * e + 0)) (nI (lC 100000000 s (4 * e + 0))) (nI (e + 1)) (nI (2 ^ (0 + 1))) t' = f11_choice_37 (nI (M + 3)) (f11_choice_103 (nI (M + 3))) g (fC (nu 24) s (4 * (e + 1))) (nI (lC 100000000 s (4 * (e + 1)))) (nI (e + 1 + 1)) t2 := by
      refine pu_forR (N := 4) (L := fun f k t2 => f11_choice_48 (nI (M + 3)) (f11_choice_97 (nI (M + 3)) (f11_choice_37 (nI (M + 3)) (f11_choice_103 (nI (M + 3))) g) (f11_choice_103 (nI (M + 3)))) f (fC (nu 24) s (4 * e + k)) (nI (lC 100000000 s (4 * e + k))) (nI (e + 1)) (nI (2 ^ (k + 1))) t2) (fin := fun t2 => f11_choice_37 (nI (M + 3)) (f11_choice_103 (nI (M + 3))) g (fC (nu 24) s (4 * (e + 1))) (nI (lC 100000000 s (4 * (e + 1)))) (nI (e + 1 + 1)) t2) (P := fun k t2 => fr Sr0 t t2) ?_ ?_ (by unfold sr_fu; omega) p2
      · rintro k g2 t2 hk q2
        obtain ⟨t3, e3, z0, _, f3⟩ := pr_by (b := k + 1) (d := e + 1) (J_r X q2) (by omega) (by omega) (by omega) (by omega)
        have y3 : t3.1 11 0 40 = nI (ct s (k + 1) (e + 1)) := z0
        have cl := ct_le (b := k + 1) (d := e + 1) O
        have p16 : 2 ^ (k + 1) ≤ 16 := pu_pow16 (by omega)
        have hx : (4 * e + k) % 4 = k ∧ (4 * e + k) / 4 = e := by omega
        refine ⟨t3, fr_trans q2 f3, ?_⟩
        show f11_choice_48 (nI (M + 3)) _ (g2 + 1) (fC (nu 24) s (4 * e + k)) (nI (lC 100000000 s (4 * e + k))) (nI (e + 1)) (nI (2 ^ (k + 1))) t2 = f11_choice_48 (nI (M + 3)) _ g2 (fC (nu 24) s (4 * e + (k + 1))) (nI (lC 100000000 s (4 * e + (k + 1)))) (nI (e + 1)) (nI (2 ^ (k + 1 + 1))) t3
        have pw : nI (2 ^ (k + 1)) * 2 = nI (2 ^ (k + 1 + 1)) := by rw [mL_2, pk_mul, ← Nat.pow_succ]
        have cd : 100 * nI (2 ^ (k + 1)) + nI (e + 1) = nI (cc (4 * e + k)) := by
          rw [mL_100, pk_mul, nI_add]
          unfold cc
          rw [hx.1, hx.2]
        have un : f11_choice_48 (nI (M + 3)) (f11_choice_97 (nI (M + 3)) (f11_choice_37 (nI (M + 3)) (f11_choice_103 (nI (M + 3))) g) (f11_choice_103 (nI (M + 3)))) (g2 + 1) (fC (nu 24) s (4 * e + k)) (nI (lC 100000000 s (4 * e + k))) (nI (e + 1)) (nI (2 ^ (k + 1))) t2 = (if nI (ct s (k + 1) (e + 1)) < nI (lC 100000000 s (4 * e + k)) then f11_choice_48 (nI (M + 3)) (f11_choice_97 (nI (M + 3)) (f11_choice_37 (nI (M + 3)) (f11_choice_103 (nI (M + 3))) g) (f11_choice_103 (nI (M + 3)))) g2 (nI (cc (4 * e + k))) (nI (ct s (k + 1) (e + 1))) (nI (e + 1)) (nI (2 ^ (k + 1 + 1))) t3 else f11_choice_48 (nI (M + 3)) (f11_choice_97 (nI (M + 3)) (f11_choice_37 (nI (M + 3)) (f11_choice_103 (nI (M + 3))) g) (f11_choice_103 (nI (M + 3)))) g2 (fC (nu 24) s (4 * e + k)) (nI (lC 100000000 s (4 * e + k))) (nI (e + 1)) (nI (2 ^ (k + 1 + 1))) t3) := by
          conv => lhs; unfold f11_choice_48
          rw [if_neg (show ¬ (16 : Int32) < nI (2 ^ (k + 1)) from nI_nlt (b := 2 ^ (k + 1)) (a := 16) (by omega) (by omega)), e3, pv_bV]
          simp only [f11_choice_88, y3, pw, cd]
        rw [un]
        by_cases h : (bx (cv s) (4 * e + k)).2 < cv s (4 * e + k)
        · obtain ⟨w1, w2⟩ := fC_y (z := nu 24) (zl := 100000000) h O
          rw [hx.1, hx.2] at w2
          rw [← Nat.add_assoc, w1, w2]
          by_cases h0 : 4 * e + k = 0
          · have : lC 100000000 s (4 * e + k) = 100000000 := if_pos h0
            rw [this, if_pos (nI_lt (by omega) (by omega))]
          · obtain ⟨l1, l2⟩ := lC_lt (zl := 100000000) (n := 4 * e + k) O (by omega)
            rw [hx.1, hx.2] at l2
            rw [if_pos (nI_lt (l2.mp h) (by omega))]
        · obtain ⟨w0, w1, w2⟩ := fC_n (z := nu 24) (zl := 100000000) h O
          obtain ⟨l1, l2⟩ := lC_lt (zl := 100000000) (n := 4 * e + k) O w0
          rw [hx.1, hx.2] at l2
          have hlt : lC 100000000 s (4 * e + k) ≤ ct s (k + 1) (e + 1) := Nat.le_of_not_lt fun q => h (l2.mpr q)
          rw [← Nat.add_assoc, w1, w2, if_neg (nI_nlt hlt (by omega))]
      · rintro g2 t2 q2
        show f11_choice_48 (nI (M + 3)) _ (g2 + 1) (fC (nu 24) s (4 * e + 4)) (nI (lC 100000000 s (4 * e + 4))) (nI (e + 1)) (nI (2 ^ (4 + 1))) t2 = _
        conv => lhs; unfold f11_choice_48
        rw [if_pos (show (16 : Int32) < nI (2 ^ (4 + 1)) by decide)]
        unfold f11_choice_97
        rw [nI_1, show 4 * e + 4 = 4 * (e + 1) by omega]
    obtain ⟨t2, q, e2⟩ := main
    refine ⟨t2, q, ?_⟩
    show f11_choice_37 (nI (M + 3)) (f11_choice_103 (nI (M + 3))) (g + 1) (fC (nu 24) s (4 * e)) (nI (lC 100000000 s (4 * e))) (nI (e + 1)) t' = _
    rw [start]
    exact e2
  · rintro g t' p2
    show rs_to _ (f11_choice_37 (nI (M + 3)) (f11_choice_103 (nI (M + 3))) (g + 1) (fC (nu 24) s (4 * M)) (nI (lC 100000000 s (4 * M))) (nI (M + 1)) t')
    have fin : rs_to Q (f11_choice_103 (nI (M + 3)) (fC (nu 24) s (4 * M)) t') := rs_ret (hQ _ p2)
    unfold f11_choice_37
    rw [mL_3, nI_add, if_pos (nI_lt (by omega) (by omega))]
    exact fin
theorem bx_stop {v : Nat → Nat} {n : Nat} : ∀ m, n ≤ m → (∀ x, n ≤ x → x < m → ∃ y, y < n ∧ v x = v y) → bx v m = bx v n := by
  intro m
  induction m with
  | zero => intro h _; rw [show n = 0 by omega]
  | succ m ih =>
    intro h hx
    by_cases e : n = m + 1
    · rw [e]
    · have i := ih (by omega) (fun x h1 h2 => hx x h1 (by omega))
      obtain ⟨y, y1, y2⟩ := hx m (by omega) (by omega)
      have := bx_ge (v := v) n y y1
      rw [bx_s, i, if_neg (by omega)]
theorem s_choice {i : Nat} (hi : i + 4 ≤ 2048) (a : Int32) : sr_ok3 (sr_Inv i) (sr_Inv (i + 4)) (fun t => FL_choice_23 a t) (fun t => F11_choice a t) := by
  refine ok3_qf hi (F := F10_choice a) (G := F11_choice a) (hc := hcL_choice_23) (fun t s w X => ?_)
  have O := X.1
  rcases a_in a 4 11 (by omega) (by omega) with hc | ⟨q, q1, q2, rfl⟩
  · right
    have nD : F10_choice a t = some (.inr 0, t) := c_no (l := 4) (h := 11) hc
    have iD : F11_isIn a (nI 4) (nI 11) t = some (.inl (some (sr_i (nI 0))), t) := iIn_no hc
    refine ⟨0, nI 1, nI 0, sr_u t 11 0 0 (nI 1), nD, rfl, by decide, ?_, pu_us, Sr_0⟩
    simp (disch := omega) only [pv_lt, pu_ck, pv_bI, pv_bV, pu_bR, pv_bL, pv_nt, pu_us, pu_un, mL_0, mL_1, mL_2, mL_3, mL_4, mL_5, mL_6, mL_7, mL_8, mL_9, mL_10, mL_11, mL_12, mL_13, mL_14, mL_15, mL_16, mL_23, mL_24, mL_32, mL_48, mL_64, mL_99, mL_100, mL_200, mL_336, mL_576, mL_768, mL_800, mL_999, mL_4095, mL_4096, mL_m1, nI_leI, nI_ltI, nI_eq, nI_clamp, nI_add, pk_mul, nI_nu, bI_eq0, bI_eq1, bo_ft, Bool.true_eq_false, Bool.false_eq_true, pu_of, pu_of24, pu_onward, pu_frq, if_true, if_false, true_or, or_true, false_or, or_false, and_true, true_and, and_false, false_and, not_true_eq_false, not_false_eq_true, if_neg, if_pos, F11_choice, f11_choice_16, iD]
  · left
    obtain ⟨M, rfl⟩ : ∃ M, q = M + 3 := ⟨q - 3, by omega⟩
    obtain ⟨D, hD⟩ : ∃ D, D = max 1 (min M (rg_up s)) := ⟨_, rfl⟩
    obtain ⟨t1, e1, f1⟩ := pc_choice X (by omega) (by omega) hD
    have hs : nI (M + 3) - nI 3 = nI M := by rw [pk_sub (by omega)]; rfl
    have hb : bx (cv s) (4 * M) = bx (cv s) (4 * D) := by
      refine bx_stop (n := 4 * D) (4 * M) (by omega) (fun x h1 h2 => ⟨4 * (D - 1) + x % 4, by omega, ?_⟩)
      unfold cv
      rw [show (4 * (D - 1) + x % 4) % 4 = x % 4 by omega, show (4 * (D - 1) + x % 4) / 4 + 1 = D by omega]
      rw [ct_deg (d := x / 4 + 1) (d' := D) X (by omega) (by omega) (by omega) (by omega) (by omega) (by omega) (by omega)]
    have eq : fC (nu 24) s (4 * M) = fC (nI 0) s (4 * D) := by
      unfold fC
      rw [if_neg (show ¬ 4 * M = 0 by omega), if_neg (show ¬ 4 * D = 0 by omega), hb]
    refine ⟨fC (nI 0) s (4 * D), ⟨t1, ?_, frI_of f1⟩, fun t' X' ft => ?_⟩
    · simp (disch := omega) only [pv_lt, pu_ck, pv_bI, pv_bV, pu_bR, pv_bL, pv_nt, pu_us, pu_un, mL_0, mL_1, mL_2, mL_3, mL_4, mL_5, mL_6, mL_7, mL_8, mL_9, mL_10, mL_11, mL_12, mL_13, mL_14, mL_15, mL_16, mL_23, mL_24, mL_32, mL_48, mL_64, mL_99, mL_100, mL_200, mL_336, mL_576, mL_768, mL_800, mL_999, mL_4095, mL_4096, mL_m1, nI_leI, nI_ltI, nI_eq, nI_clamp, nI_add, pk_mul, nI_nu, bI_eq0, bI_eq1, bo_ft, Bool.true_eq_false, Bool.false_eq_true, pu_of, pu_of24, pu_onward, pu_frq, if_true, if_false, true_or, or_true, false_or, or_false, and_true, true_and, and_false, false_and, not_true_eq_false, not_false_eq_true, if_neg, if_pos, F10_choice, hs, e1]
    · obtain ⟨t2, e2, f2⟩ := pr_choice (M := M) (J_thr (v := nI 0) X') (by omega) (by omega)
      rw [eq] at e2
      have iD := iIn_ok (t := t') (j := M + 3) (l := 4) (h := 11) q1 q2 (by omega)
      refine ⟨t2, ?_, (Sr_q f2).1, (Sr_q f2).2⟩
      simp (disch := omega) only [pv_lt, pu_ck, pv_bI, pv_bV, pu_bR, pv_bL, pv_nt, pu_us, pu_un, mL_0, mL_1, mL_2, mL_3, mL_4, mL_5, mL_6, mL_7, mL_8, mL_9, mL_10, mL_11, mL_12, mL_13, mL_14, mL_15, mL_16, mL_23, mL_24, mL_32, mL_48, mL_64, mL_99, mL_100, mL_200, mL_336, mL_576, mL_768, mL_800, mL_999, mL_4095, mL_4096, mL_m1, nI_leI, nI_ltI, nI_eq, nI_clamp, nI_add, pk_mul, nI_nu, bI_eq0, bI_eq1, bo_ft, Bool.true_eq_false, Bool.false_eq_true, pu_of, pu_of24, pu_onward, pu_frq, if_true, if_false, true_or, or_true, false_or, or_false, and_true, true_and, and_false, false_and, not_true_eq_false, not_false_eq_true, if_neg, if_pos, F11_choice, f11_choice_16, iD, mL_M, e2]
end
