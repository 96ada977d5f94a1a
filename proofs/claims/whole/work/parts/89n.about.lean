section
/-! step: about -/
theorem s_about {i : Nat} (hi : i + 4 ≤ 2048) (a b : Int32) : sr_ok3 (sr_Inv i) (sr_Inv (i + 4)) (fun t => FL_about_23 a b t) (fun t => F11_about a b t) := by
  refine ok3_q hi (F := F10_about a b) (G := F11_about a b) (hc := hcL_about_23) (fun t s w X => ?_)
  obtain ⟨O, C, K, nb, sp, R, kp, L, W⟩ := id X
  have hN := O.1.1
  have hp := W.1.2.1
  rcases a_in b 0 3 (by omega) (by omega) with hc | ⟨m, m0, m1, rfl⟩
  · right
    have n2 : F10_needWhat b (nI 3) t = some (.inr 3, t) := nW_no hc
    have i2 : F11_isIn b (nI 0) (nI 3) t = some (.inl (some (sr_i (nI 0))), t) := iIn_no hc
    refine ⟨3, nI 1, nI 0, sr_u t 11 0 0 (nI 1), ?_, rfl, by decide, ?_, pu_us, Sr_0⟩
    · unfold F10_about
      rw [mL_3, n2, bVr]
    · simp (disch := omega) only [pv_lt, pu_ck, pv_bI, pv_bV, pu_bR, pv_bL, pv_nt, pu_us, pu_un, mL_0, mL_1, mL_2, mL_3, mL_4, mL_5, mL_6, mL_7, mL_8, mL_9, mL_10, mL_11, mL_12, mL_13, mL_14, mL_15, mL_16, mL_23, mL_24, mL_32, mL_48, mL_64, mL_99, mL_100, mL_200, mL_336, mL_576, mL_768, mL_800, mL_999, mL_4095, mL_4096, mL_m1, nI_leI, nI_ltI, nI_eq, nI_clamp, nI_add, pk_mul, nI_nu, bI_eq0, bI_eq1, bo_ft, Bool.true_eq_false, Bool.false_eq_true, pu_of, pu_of24, pu_onward, pu_frq, if_true, if_false, true_or, or_true, false_or, or_false, and_true, true_and, and_false, false_and, not_true_eq_false, not_false_eq_true, if_neg, if_pos, F11_about, i2]
      simp (disch := omega) only [pv_lt, pu_ck, pv_bI, pv_bV, pu_bR, pv_bL, pv_nt, pu_us, pu_un, mL_0, mL_1, mL_2, mL_3, mL_4, mL_5, mL_6, mL_7, mL_8, mL_9, mL_10, mL_11, mL_12, mL_13, mL_14, mL_15, mL_16, mL_23, mL_24, mL_32, mL_48, mL_64, mL_99, mL_100, mL_200, mL_336, mL_576, mL_768, mL_800, mL_999, mL_4095, mL_4096, mL_m1, nI_leI, nI_ltI, nI_eq, nI_clamp, nI_add, pk_mul, nI_nu, bI_eq0, bI_eq1, bo_ft, Bool.true_eq_false, Bool.false_eq_true, pu_of, pu_of24, pu_onward, pu_frq, if_true, if_false, true_or, or_true, false_or, or_false, and_true, true_and, and_false, false_and, not_true_eq_false, not_false_eq_true, if_neg, if_pos, f11_about_26]
  · have n2 := nW_ok (t := t) m1 (by omega)
    have i2 := iIn_ok (t := t) m0 m1 (by omega)
    rcases a_place a with hb | ⟨q, hq, rfl⟩
    · right
      have n3 := nP_no (t := t) hb
      have i3 := iP_no (t := t) hb
      refine ⟨0, nI 2, nI 0, sr_u t 11 0 0 (nI 2), ?_, rfl, by decide, ?_, pu_us, Sr_0⟩
      · unfold F10_about
        rw [mL_3, n2, pv_bV, n3, bVr]
      · simp (disch := omega) only [pv_lt, pu_ck, pv_bI, pv_bV, pu_bR, pv_bL, pv_nt, pu_us, pu_un, mL_0, mL_1, mL_2, mL_3, mL_4, mL_5, mL_6, mL_7, mL_8, mL_9, mL_10, mL_11, mL_12, mL_13, mL_14, mL_15, mL_16, mL_23, mL_24, mL_32, mL_48, mL_64, mL_99, mL_100, mL_200, mL_336, mL_576, mL_768, mL_800, mL_999, mL_4095, mL_4096, mL_m1, nI_leI, nI_ltI, nI_eq, nI_clamp, nI_add, pk_mul, nI_nu, bI_eq0, bI_eq1, bo_ft, Bool.true_eq_false, Bool.false_eq_true, pu_of, pu_of24, pu_onward, pu_frq, if_true, if_false, true_or, or_true, false_or, or_false, and_true, true_and, and_false, false_and, not_true_eq_false, not_false_eq_true, if_neg, if_pos, F11_about, i2, i3]
        simp (disch := omega) only [pv_lt, pu_ck, pv_bI, pv_bV, pu_bR, pv_bL, pv_nt, pu_us, pu_un, mL_0, mL_1, mL_2, mL_3, mL_4, mL_5, mL_6, mL_7, mL_8, mL_9, mL_10, mL_11, mL_12, mL_13, mL_14, mL_15, mL_16, mL_23, mL_24, mL_32, mL_48, mL_64, mL_99, mL_100, mL_200, mL_336, mL_576, mL_768, mL_800, mL_999, mL_4095, mL_4096, mL_m1, nI_leI, nI_ltI, nI_eq, nI_clamp, nI_add, pk_mul, nI_nu, bI_eq0, bI_eq1, bo_ft, Bool.true_eq_false, Bool.false_eq_true, pu_of, pu_of24, pu_onward, pu_frq, if_true, if_false, true_or, or_true, false_or, or_false, and_true, true_and, and_false, false_and, not_true_eq_false, not_false_eq_true, if_neg, if_pos, f11_about_26]
    · left
      have n3 := nP_ok (t := t) hq
      have h64 := W.2.1.2.2
      have hc13 := W.1.2.2
      have cl : F10_about (nI q) (nI m) t = (sr_sw 0 2 (nI m) ((sr_bR 0 33 (F6_entryOf (nI q) t) (fun n3 t3 => (some (.inl (some (sr_i (t3.1 0 n3 1))), t3))))) (fun j => match j with | 0 => (sr_bI (F3_keeperBits 0 (nI q) (t.1 6 0 4) t) (fun v4 t4 => (some (.inl (some (sr_i v4)), t4)))) | 1 => (sr_bR 0 33 (F6_entryOf (nI q) t) (fun n5 t5 => (sr_bI (F0_bitsOfHolders n5 1 t5) (fun v6 t6 => (some (.inl (some (sr_i v6)), t6)))))) | 2 => (sr_bR 0 33 (F6_entryOf (nI q) t) (fun n7 t7 => (sr_bI (F0_bitsOfHolders n7 0 t7) (fun v8 t8 => (some (.inl (some (sr_i v8)), t8)))))) | _ => none)) := by
        unfold F10_about
        rw [mL_3, n2, pv_bV, n3, pv_bV]
        rfl
      have rf : ∀ t', J i t' s w → ∀ x, F11_knownAs (nI q) (sr_u t' 11 0 0 (nI 0)) = some (.inl (some (sr_i x)), sr_u t' 11 0 0 (nI 0)) → F11_about (nI q) (nI m) t' = (sr_sw 0 2 (nI m) ((if x = ((-1)) then f11_about_107 (nI q) (nI m) 0 (sr_u t' 11 0 0 (nI 0)) else (if x < 0 ∨ 32 ≤ x.toNatClampNeg then none else f11_about_107 (nI q) (nI m) ((sr_u t' 11 0 0 (nI 0)).1 38 0 x.toNatClampNeg) (sr_u t' 11 0 0 (nI 0))))) (fun j => match j with | 0 => (sr_bI (F11_keepersOf (nI q) (sr_u t' 11 0 0 (nI 0))) (fun v3 t3 => (some (.inl (some (sr_i v3)), t3)))) | 1 => (sr_bI (F11_holdersOf x 1 (sr_u t' 11 0 0 (nI 0))) (fun v4 t4 => (some (.inl (some (sr_i v4)), t4)))) | 2 => (sr_bI (F11_holdersOf x 0 (sr_u t' 11 0 0 (nI 0))) (fun v5 t5 => (some (.inl (some (sr_i v5)), t5)))) | _ => none)) := by
        intro t' X' x ex
        have j2 := iIn_ok (t := t') m0 m1 (by omega)
        have j3 := iP_ok (t := t') hq
        have : F11_about (nI q) (nI m) t' = f11_about_26 (nI q) (nI m) 0 t' := by
          unfold F11_about
          rw [mL_0, mL_3, j2, pv_bI, if_neg (show ¬ nI 1 = nI 0 by decide), j3, pv_bI, if_neg (show ¬ nI 1 = nI 0 by decide)]
        rw [this]
        unfold f11_about_26
        rw [mL_0, pv_lt, pu_us, if_pos (show nI 0 ≤ nI 0 by decide), ex, pv_bI]
        rfl
      have sw : ∀ {x : sr_Rs} {f : Nat → sr_Rs}, sr_sw 0 2 (nI m) x f = if m ≤ 2 then f m else x := by
        intro x f
        by_cases h : m ≤ 2
        · rw [if_pos h, sw_in (by omega) (by omega) (by omega)]
          congr 1
        · rw [if_neg h, sw_out (by omega) (by omega)]
      rw [cl]
      rcases kn_of w q with ⟨k, k1, k2, k3⟩ | hno
      · have hk32 : k < 32 := by have := W.1.1; omega
        have ee := pc_entryY W k1 k2 k3
        obtain ⟨u1, u2, u3, u4, u5, u6⟩ := W.2.2.2.1 k k1
        have hv : ∀ n, n < 24 → t.1 21 k n = nI (w.2.2.2.2 k n) ∧ w.2.2.2.2 k n < 2 ^ 31 := fun n hn => by
          obtain ⟨v1, v2, v3, v4, v5, v6, v7⟩ := W.2.2.2.2.1 k hk32 n hn
          exact ⟨v4, by omega⟩
        have hz : ∀ fl x, rg_N s ≤ x → x < 24 → hP (w.2.2.2.2 k) (w.2.2.1 k) fl x = false := fun fl x x1 x2 => by
          obtain ⟨v1, v2, v3, v4, v5, v6, v7⟩ := W.2.2.2.2.1 k hk32 x x2
          unfold hP
          rw [v7 (Or.inr x1)]
          simp
        have ch : ∀ fl, F0_bitsOfHolders k (bI fl) t = some (.inl (some (sr_i (pb (hP (w.2.2.2.2 k) (w.2.2.1 k) fl) (rg_N s)))), t) := fun fl => by
          rw [pc_holders (v := w.2.2.2.2 k) (l := w.2.2.1 k) (fl := fl) hv u4 (by omega), pb_eq 24 hN (hz fl)]
        refine ⟨if m = 0 then kB s q w.1.2.2 else if m = 1 then pb (hP (w.2.2.2.2 k) (w.2.2.1 k) true) (rg_N s) else if m = 2 then pb (hP (w.2.2.2.2 k) (w.2.2.1 k) false) (rg_N s) else nI (w.2.2.1 k), ⟨t, ?_, fun _ _ _ _ => rfl⟩, fun t' X' => ⟨sr_u t' 11 0 0 (nI 0), ?_, pu_us, Sr_0⟩⟩
        · rw [sw]
          have ek := pc_keepers (c := w.1.2.2) C.1 O.1 (by omega) hq (by omega)
          have c1 : F0_bitsOfHolders k 1 t = _ := ch true
          have c0 : F0_bitsOfHolders k 0 t = _ := ch false
          obtain h | h | h | h : m = 0 ∨ m = 1 ∨ m = 2 ∨ m = 3 := by omega
          · subst h
            simp only [h64, ek, pv_bI, if_pos (show 0 ≤ 2 by omega), if_true]
          · subst h
            simp only [ee, pu_bR (show k < 33 by omega), c1, pv_bI, if_pos (show 1 ≤ 2 by omega), if_true, if_neg (show ¬ 1 = 0 by omega)]
          · subst h
            simp only [ee, pu_bR (show k < 33 by omega), c0, pv_bI, if_pos (show 2 ≤ 2 by omega), if_true, if_neg (show ¬ 2 = 0 by omega), if_neg (show ¬ 2 = 1 by omega)]
          · subst h
            simp only [ee, pu_bR (show k < 33 by omega), u4, if_neg (show ¬ 3 ≤ 2 by omega), if_neg (show ¬ 3 = 0 by omega), if_neg (show ¬ 3 = 1 by omega), if_neg (show ¬ 3 = 2 by omega)]
        · have X2 := J_thr (v := nI 0) X'
          obtain ⟨_, _, _, _, _, R2, _, _, W2⟩ := id X2
          have ek := pr_knownY W2 k1 k2 k3
          rw [rf t' X' _ ek, sw]
          have kk := pr_keepers (c := w.1.2.2) R2.1 O.1 hq (by omega) W2.2.2.1.2.2
          obtain ⟨u1, u2, u3, u4, u5, u6⟩ := W2.2.2.2.1 k k1
          have rh : ∀ fl, F11_holdersOf (nI k) (bI fl) (sr_u t' 11 0 0 (nI 0)) = _ := fun fl => pr_holders (t := sr_u t' 11 0 0 (nI 0)) (v := w.2.2.2.2 k) (l := w.2.2.1 k) (N := rg_N s) (fl := fl) hk32 hN R2.1.1.1 (fun n hn => by
            obtain ⟨v1, v2, v3, v4, v5, v6, v7⟩ := W2.2.2.2.2.1 k hk32 n hn
            exact ⟨v6, by omega⟩) u6 (by omega)
          have c1 : F11_holdersOf (nI k) 1 (sr_u t' 11 0 0 (nI 0)) = _ := rh true
          have c0 : F11_holdersOf (nI k) 0 (sr_u t' 11 0 0 (nI 0)) = _ := rh false
          have nk : ¬ nI k = (-1 : Int32) := fun e => nI_neg (z := -1) (by omega) (by decide) e
          obtain h | h | h | h : m = 0 ∨ m = 1 ∨ m = 2 ∨ m = 3 := by omega
          · subst h
            simp only [kk, pv_bI, if_pos (show 0 ≤ 2 by omega), if_true]
          · subst h
            simp only [c1, pv_bI, if_pos (show 1 ≤ 2 by omega), if_true, if_neg (show ¬ 1 = 0 by omega)]
          · subst h
            simp only [c0, pv_bI, if_pos (show 2 ≤ 2 by omega), if_true, if_neg (show ¬ 2 = 0 by omega), if_neg (show ¬ 2 = 1 by omega)]
          · subst h
            rw [if_neg (show ¬ 3 ≤ 2 by omega), if_neg nk, if_neg (show ¬ 3 = 0 by omega), if_neg (show ¬ 3 = 1 by omega), if_neg (show ¬ 3 = 2 by omega), pu_ixN hk32 (by omega), nI_clamp (by omega), u6]
            rfl
      · have ee := pc_entryN W hq hno
        have ch : ∀ fl, F0_bitsOfHolders 32 (bI fl) t = some (.inl (some (sr_i (nI 0))), t) := fun fl => by
          rw [pc_holders (v := fun _ => 0) (l := 0) (fl := fl) (fun n hn => ⟨W.2.2.2.2.2.1 n hn, by omega⟩) W.2.2.2.2.2.2 (by omega), pb_eq (n := 0) 24 (by omega) (fun x _ _ => by unfold hP; simp)]
          rfl
        refine ⟨if m = 0 then kB s q w.1.2.2 else nI 0, ⟨t, ?_, fun _ _ _ _ => rfl⟩, fun t' X' => ⟨sr_u t' 11 0 0 (nI 0), ?_, pu_us, Sr_0⟩⟩
        · rw [sw]
          have ek := pc_keepers (c := w.1.2.2) C.1 O.1 (by omega) hq (by omega)
          have c1 : F0_bitsOfHolders 32 1 t = _ := ch true
          have c0 : F0_bitsOfHolders 32 0 t = _ := ch false
          have u4 := W.2.2.2.2.2.2
          obtain h | h | h | h : m = 0 ∨ m = 1 ∨ m = 2 ∨ m = 3 := by omega
          · subst h
            simp only [h64, ek, pv_bI, if_pos (show 0 ≤ 2 by omega), if_true]
          · subst h
            simp only [ee, pu_bR (show 32 < 33 by omega), c1, pv_bI, if_pos (show 1 ≤ 2 by omega), if_neg (show ¬ 1 = 0 by omega)]
          · subst h
            simp only [ee, pu_bR (show 32 < 33 by omega), c0, pv_bI, if_pos (show 2 ≤ 2 by omega), if_neg (show ¬ 2 = 0 by omega)]
          · subst h
            simp only [ee, pu_bR (show 32 < 33 by omega), u4, if_neg (show ¬ 3 ≤ 2 by omega), if_neg (show ¬ 3 = 0 by omega)]
        · have X2 := J_thr (v := nI 0) X'
          obtain ⟨_, _, _, _, _, R2, _, _, W2⟩ := id X2
          have ek := pr_knownN W2 hq hno
          rw [rf t' X' _ ek, sw]
          have kk := pr_keepers (c := w.1.2.2) R2.1 O.1 hq (by omega) W2.2.2.1.2.2
          have c1 := pr_holdersN (a := 1) hN R2.1.1.1
          have c0 := pr_holdersN (a := 0) hN R2.1.1.1
          obtain h | h | h | h : m = 0 ∨ m = 1 ∨ m = 2 ∨ m = 3 := by omega
          · subst h
            simp only [kk, pv_bI, if_pos (show 0 ≤ 2 by omega), if_true]
          · subst h
            simp only [c1, pv_bI, if_pos (show 1 ≤ 2 by omega), if_neg (show ¬ 1 = 0 by omega)]
          · subst h
            simp only [c0, pv_bI, if_pos (show 2 ≤ 2 by omega), if_neg (show ¬ 2 = 0 by omega)]
          · subst h
            rw [if_neg (show ¬ 3 ≤ 2 by omega), if_pos (show nu 24 = -1 from rfl), if_neg (show ¬ 3 = 0 by omega)]
            rfl
end
