section
/-! step: node -/
def nodeC (n m : Nat) (t : sr_t) : sr_Rs := sr_sw 0 6 (nI m) ((if (t.1 2 (25 * 0 + n) 2) = 0 then f10_node_143 (nI n) (nI m) ((-1)) t else (sr_bI (F10_partOfUpNode (25 * 0 + n) (nI m) t) (fun v4 t4 => f10_node_143 (nI n) (nI m) v4 t4)))) (fun j => match j with | 0 => (some (.inl (some (sr_i (t.1 2 (25 * 0 + n) 1))), t)) | 1 => (if (t.1 2 (25 * 0 + n) 2) = 0 then f10_node_81 (nI n) (nI m) 0 t else f10_node_81 (nI n) (nI m) 1 t) | 2 => (some (.inl (some (sr_i (t.1 7 (25 * 0 + n) 0))), t)) | 3 => (some (.inl (some (sr_i (t.1 4 (2 * (25 * 0 + n)) 1))), t)) | 4 => (some (.inl (some (sr_i (t.1 4 (2 * (25 * 0 + n) + 1) 1))), t)) | 5 => (sr_bI (F2_linkBits (25 * 0 + n) t) (fun v5 t5 => (some (.inl (some (sr_i v5)), t5)))) | 6 => (sr_bI (F3_bitsOfThoseLinkedTo 0 (nI n) t) (fun v6 t6 => (some (.inl (some (sr_i v6)), t6)))) | _ => none)
theorem sw06 {m : Nat} {x : sr_Rs} {f : Nat → sr_Rs} (hm : m < 2 ^ 31) : sr_sw 0 6 (nI m) x f = if m ≤ 6 then f m else x := by
  by_cases h : m ≤ 6
  · rw [if_pos h, sw_in hm (by omega) (by omega)]
    congr 1
  · rw [if_neg h, sw_out hm (by omega)]
theorem sw010 {m : Nat} {x : sr_Rs} {f : Nat → sr_Rs} (hm : m < 2 ^ 31) : sr_sw 0 10 (nI m) x f = if m ≤ 10 then f m else x := by
  by_cases h : m ≤ 10
  · rw [if_pos h, sw_in hm (by omega) (by omega)]
    congr 1
  · rw [if_neg h, sw_out hm (by omega)]
theorem sw710 {m : Nat} {x : sr_Rs} {f : Nat → sr_Rs} (hm : m < 2 ^ 31) : sr_sw 7 10 (nI m) x f = if 7 ≤ m ∧ m ≤ 10 then f (m - 7) else x := by
  by_cases h : 7 ≤ m ∧ m ≤ 10
  · rw [if_pos h, sw_in hm (by omega) (by omega)]
    congr 1
    omega
  · rw [if_neg h, sw_out hm (by omega)]
theorem nodeC_of {t : sr_t} {s : rg_T} {n m : Nat} (C : rg_C t 0 s) (O : rg_ok s) (hn : n < rg_N s) (hm : m ≤ 11) : F10_node (nI n) (nI m) t = nodeC n m t := by
  have hN := O.1.1
  have n1 := nN_ok C O hn
  have n2 : F10_needWhat (nI m) 11 t = some (.inl none, t) := nW_ok (t := t) (m := 11) hm (by omega)
  unfold F10_node
  rw [n1, pv_bV, n2, pv_bV, pu_of (by omega), pu_bR (by omega)]
  rfl
theorem nodeR_of {t : sr_t} {s : rg_T} {n m : Nat} (R : rg_R t s) (O : rg_ok s) (hn : n < rg_N s) (hm : m ≤ 11) : F11_node (nI n) (nI m) t = f11_node_55 (nI n) (nI m) (bI (rg_u s n)) (sr_u t 11 0 0 (nI 0)) := by
  have hN := O.1.1
  have i1 := iN_ok R.1 O.1 hn
  have i2 : F11_isIn (nI m) 0 11 t = some (.inl (some (sr_i (nI 1))), t) := iIn_ok (l := 0) (h := 11) (by omega) hm (by omega)
  have u25 := (R.1.2 n hn).2.1
  have e : F11_node (nI n) (nI m) t = f11_node_28 (nI n) (nI m) 0 t := by
    unfold F11_node
    rw [i1, pv_bI, if_neg (show ¬ nI 1 = 0 by decide), i2, pv_bI, if_neg (show ¬ nI 1 = 0 by decide)]
  rw [e]
  unfold f11_node_28
  rw [pv_lt, pu_us, if_pos (show (0 : Int32) ≤ 0 by decide), pu_ixN (show n < 24 by omega) (by omega), nI_clamp (by omega), pu_un (by omega), u25]
  cases rg_u s n with
  | true => rw [if_pos (show bI true = 1 from rfl)]; rfl
  | false => rw [if_neg (show ¬ bI false = 1 by decide)]; rfl
theorem s_node {i : Nat} (hi : i + 4 ≤ 2048) (a b : Int32) : sr_ok3 (sr_Inv i) (sr_Inv (i + 4)) (fun t => FL_node_23 a b t) (fun t => F11_node a b t) := by
  refine ok3_qf hi (F := F10_node a b) (G := F11_node a b) (hc := hcL_node_23) (fun t s w X => ?_)
  obtain ⟨O, C, K, nb, sp, R, kp, L, W⟩ := id X
  have hN := O.1.1
  rcases a_node a hN with ha | ⟨n, hn, rfl⟩
  · right
    have n1 := nN_no C ha
    have i1 := iN_no R.1 O.1 ha
    refine ⟨2, nI 1, nI 0, sr_u t 11 0 0 (nI 1), ?_, rfl, by decide, ?_, pu_us, Sr_0⟩
    · unfold F10_node
      rw [n1, bVr]
    · unfold F11_node
      rw [i1, pv_bI, if_pos (show nI 0 = 0 from rfl)]
      unfold f11_node_28
      rw [pv_lt, pu_us, if_neg (show ¬ (1 : Int32) ≤ 0 by decide)]
      rfl
  · have n1 := nN_ok C O hn
    have i1 := iN_ok R.1 O.1 hn
    rcases a_in b 0 11 (by omega) (by omega) with hc | ⟨m, m0, m1, rfl⟩
    · right
      have n2 : F10_needWhat b 11 t = some (.inr 3, t) := nW_no hc
      have i2 : F11_isIn b 0 11 t = some (.inl (some (sr_i (nI 0))), t) := iIn_no hc
      refine ⟨3, nI 2, nI 0, sr_u t 11 0 0 (nI 2), ?_, rfl, by decide, ?_, pu_us, Sr_0⟩
      · unfold F10_node
        rw [n1, pv_bV, n2, bVr]
      · unfold F11_node
        rw [i1, pv_bI, if_neg (show ¬ nI 1 = 0 by decide), i2, pv_bI, if_pos (show nI 0 = 0 from rfl)]
        unfold f11_node_28
        rw [pv_lt, pu_us, if_neg (show ¬ (2 : Int32) ≤ 0 by decide)]
        rfl
    · left
      have xb := C.1.2.2 n hn
      have xt := C.2 n hn
      have xk := K.2 n hn
      have red : (∃ v : Int32, (∃ t1, nodeC n m t = some (.inl (some (sr_i v)), t1) ∧ frI Sc t t1) ∧ ∀ t', J i t' s w → ∃ t2, f11_node_55 (nI n) (nI m) (bI (rg_u s n)) t' = some (.inl (some (sr_i v)), t2) ∧ fr Sr0 t' t2) → ∃ v : Int32, (∃ t1, F10_node (nI n) (nI m) t = some (.inl (some (sr_i v)), t1) ∧ frI Sc t t1) ∧ ∀ t', J i t' s w → frI Sc t t' → ∃ t2, F11_node (nI n) (nI m) t' = some (.inl (some (sr_i v)), t2) ∧ t2.1 11 0 0 = nI 0 ∧ fr Sr t' t2 := by
        rintro ⟨v, ⟨t1, e1, f1⟩, h2⟩
        refine ⟨v, ⟨t1, (nodeC_of C O hn m1).trans e1, f1⟩, fun t' X' _ => ?_⟩
        obtain ⟨t2, e2, f2⟩ := h2 _ (J_thr (v := nI 0) X')
        exact ⟨t2, (nodeR_of X'.2.2.2.2.2.1 O hn m1).trans e2, (Sr_q f2).1, (Sr_q f2).2⟩
      apply red
      have rfC : ∀ {x : sr_Rs}, (x = some (.inl (some (sr_i (nI 0))), t)) → True := fun _ => trivial
      have R24 : ∀ {t' : sr_t}, J i t' s w → t'.1 24 0 n = nI (rg_p s n) ∧ t'.1 25 0 n = bI (rg_u s n) := fun X' => ⟨(X'.2.2.2.2.2.1.1.2 n hn).1, (X'.2.2.2.2.2.1.1.2 n hn).2.1⟩
      have ix : ∀ {A : sr_Rs}, (if nI n < 0 ∨ 24 ≤ (nI n).toNatClampNeg then none else A) = A := fun {A} => pu_ixN (show n < 24 by omega) (by omega)
      have cl : (nI n).toNatClampNeg = n := nI_clamp (by omega)
      unfold nodeC f11_node_55
      simp only [sw06 (show m < 2 ^ 31 by omega), sw010 (show m < 2 ^ 31 by omega)]
      obtain h | h | h | h | h | h | h | h | h | h | h | h : m = 0 ∨ m = 1 ∨ m = 2 ∨ m = 3 ∨ m = 4 ∨ m = 5 ∨ m = 6 ∨ m = 7 ∨ m = 8 ∨ m = 9 ∨ m = 10 ∨ m = 11 := by omega
      · subst h
        refine ⟨nI (rg_p s n), ⟨t, ?_, fun _ _ _ _ => rfl⟩, fun t' X' => ⟨t', ?_, fr_rfl⟩⟩
        · rw [if_pos (by omega)]
          show (some (.inl (some (sr_i (t.1 2 (25 * 0 + n) 1))), t) : sr_Rs) = _
          rw [xb.1]
        · rw [if_pos (by omega)]
          show (if nI n < 0 ∨ 24 ≤ (nI n).toNatClampNeg then none else (some (.inl (some (sr_i (t'.1 24 0 (nI n).toNatClampNeg))), t')) : sr_Rs) = _
          rw [ix, cl, (R24 X').1]
      · subst h
        refine ⟨bI (rg_u s n), ⟨t, ?_, fun _ _ _ _ => rfl⟩, fun t' X' => ⟨t', ?_, fr_rfl⟩⟩
        · rw [if_pos (by omega)]
          show (if (t.1 2 (25 * 0 + n) 2) = 0 then f10_node_81 (nI n) (nI 1) 0 t else f10_node_81 (nI n) (nI 1) 1 t) = _
          rw [xb.2.1]
          cases rg_u s n with
          | true => rw [if_neg (show ¬ bI true = 0 by decide)]; rfl
          | false => rw [if_pos (show bI false = 0 from rfl)]; rfl
        · rw [if_pos (by omega)]
          show (if nI n < 0 ∨ 24 ≤ (nI n).toNatClampNeg then none else (some (.inl (some (sr_i (t'.1 25 0 (nI n).toNatClampNeg))), t')) : sr_Rs) = _
          rw [ix, cl, (R24 X').2]
      · subst h
        refine ⟨nI (rg_t s n 0), ⟨t, ?_, fun _ _ _ _ => rfl⟩, fun t' X' => ⟨t', ?_, fr_rfl⟩⟩
        · rw [if_pos (by omega)]
          show (some (.inl (some (sr_i (t.1 7 (25 * 0 + n) 0))), t) : sr_Rs) = _
          rw [xt.1]
        · have e : F11_tableOf (nI n) 0 t' = _ := pu_tb0 (rg_RN_of X'.2.2.2.2.2.1 O) O hn
          rw [if_pos (by omega)]
          show (sr_bI (F11_tableOf (nI n) 0 t') (fun v3 t3 => (some (.inl (some (sr_i v3)), t3)))) = _
          rw [e, pv_bI]
      · subst h
        refine ⟨nI (rg_t s n 1), ⟨t, ?_, fun _ _ _ _ => rfl⟩, fun t' X' => ⟨t', ?_, fr_rfl⟩⟩
        · rw [if_pos (by omega)]
          show (some (.inl (some (sr_i (t.1 4 (2 * (25 * 0 + n)) 1))), t) : sr_Rs) = _
          rw [xt.2.1.1]
        · have e : F11_tableOf (nI n) 1 t' = _ := pu_tb1 (rg_RN_of X'.2.2.2.2.2.1 O) O hn
          rw [if_pos (by omega)]
          show (sr_bI (F11_tableOf (nI n) 1 t') (fun v3 t3 => (some (.inl (some (sr_i v3)), t3)))) = _
          rw [e, pv_bI]
      · subst h
        refine ⟨nI (rg_t s n 5), ⟨t, ?_, fun _ _ _ _ => rfl⟩, fun t' X' => ⟨t', ?_, fr_rfl⟩⟩
        · rw [if_pos (by omega)]
          show (some (.inl (some (sr_i (t.1 4 (2 * (25 * 0 + n) + 1) 1))), t) : sr_Rs) = _
          rw [xt.2.2.1]
        · have e : F11_tableOf (nI n) 5 t' = _ := pu_tb5 (rg_RN_of X'.2.2.2.2.2.1 O) O hn
          rw [if_pos (by omega)]
          show (sr_bI (F11_tableOf (nI n) 5 t') (fun v3 t3 => (some (.inl (some (sr_i v3)), t3)))) = _
          rw [e, pv_bI]
      · subst h
        refine ⟨lB s n, ⟨t, ?_, fun _ _ _ _ => rfl⟩, fun t' X' => ⟨t', ?_, fr_rfl⟩⟩
        · rw [if_pos (by omega)]
          show (sr_bI (F2_linkBits (25 * 0 + n) t) (fun v5 t5 => (some (.inl (some (sr_i v5)), t5)))) = _
          rw [pc_links C O hn, pv_bI]
        · rw [if_pos (by omega)]
          show (sr_bI (F11_linksOf (nI n) t') (fun v3 t3 => (some (.inl (some (sr_i v3)), t3)))) = _
          rw [pr_links (rg_RN_of X'.2.2.2.2.2.1 O) O hn, pv_bI]
      · subst h
        refine ⟨pb (fun x => bs (lB s x) n) (rg_N s), ⟨t, ?_, fun _ _ _ _ => rfl⟩, fun t' X' => ⟨t', ?_, fr_rfl⟩⟩
        · rw [if_pos (by omega)]
          show (sr_bI (F3_bitsOfThoseLinkedTo 0 (nI n) t) (fun v5 t5 => (some (.inl (some (sr_i v5)), t5)))) = _
          rw [pc_linked C O (by omega) (by omega), pv_bI]
        · rw [if_pos (by omega)]
          show (sr_bI (F11_linkedBy (nI n) t') (fun v3 t3 => (some (.inl (some (sr_i v3)), t3)))) = _
          rw [pr_linked X'.2.2.2.2.2.1 O (by omega), pv_bI]
      all_goals (subst h; rw [if_neg (by omega), xb.2.1])
      all_goals (cases hu : rg_u s n with
        | false => ?_
        | true => ?_)
      · refine ⟨nu 24, ⟨t, ?_, fun _ _ _ _ => rfl⟩, fun t' X' => ⟨t', ?_, fr_rfl⟩⟩
        · rw [if_pos (show bI false = 0 from rfl)]; rfl
        · rw [if_pos (by omega)]
          show (if bI false = 0 then f11_node_176 (nI n) (nI 7) ((-1)) t' else _) = _
          rw [if_pos (show bI false = 0 from rfl)]; rfl
      · obtain ⟨t1, e1, f1⟩ := pu_staleC C O (by omega) hn hu
        refine ⟨nI (rg_sl s n), ⟨t1, ?_, fun k i j q => f1.2 k i j (fun e => q (by unfold S_tab at e; unfold Sc; omega))⟩, fun t' X' => ?_⟩
        · rw [if_neg (show ¬ bI true = 0 by decide)]
          unfold F10_partOfUpNode
          rw [sw710 (by omega), if_pos (by omega)]
          show sr_bI (sr_bI (F3_staleOf 0 (25 * 0 + n) t) (fun v1 t1 => (some (.inl (some (sr_i v1)), t1)))) _ = _
          rw [e1, pv_bI, pv_bI]
          rfl
        · obtain ⟨t2, e2, f2⟩ := pu_staleR X'.2.2.2.2.2.1 O hn hu
          refine ⟨t2, ?_, fr_mono f2 (fun k i j q => by unfold S_k at q; unfold Sr0; omega)⟩
          rw [if_pos (by omega)]
          show (if bI true = 0 then _ else (sr_bI (F11_staleOf (nI n) t') (fun v8 t8 => f11_node_176 (nI n) (nI 7) v8 t8))) = _
          rw [if_neg (show ¬ bI true = 0 by decide), e2, pv_bI]
          rfl
      · refine ⟨nu 24, ⟨t, ?_, fun _ _ _ _ => rfl⟩, fun t' X' => ⟨t', ?_, fr_rfl⟩⟩
        · rw [if_pos (show bI false = 0 from rfl)]; rfl
        · rw [if_pos (by omega)]
          show (if bI false = 0 then f11_node_190 (nI n) (nI 8) ((-1)) t' else _) = _
          rw [if_pos (show bI false = 0 from rfl)]; rfl
      · have k5 := xk.1
        unfold rg_kx at k5
        rw [if_pos hu] at k5
        refine ⟨nu (rg_nx s n), ⟨t, ?_, fun _ _ _ _ => rfl⟩, fun t' X' => ⟨t', ?_, fr_rfl⟩⟩
        · rw [if_neg (show ¬ bI true = 0 by decide)]
          unfold F10_partOfUpNode
          rw [sw710 (by omega), if_pos (by omega)]
          show sr_bI (some (.inl (some (sr_i (t.1 2 (25 * 0 + n) 5))), t)) _ = _
          rw [k5, pv_bI]
          rfl
        · rw [if_pos (by omega)]
          show (if bI true = 0 then _ else (sr_bI (F11_nextOf (nI n) t') (fun v8 t8 => f11_node_190 (nI n) (nI 8) v8 t8))) = _
          rw [if_neg (show ¬ bI true = 0 by decide), pu_nextOf (rg_RN_of X'.2.2.2.2.2.1 O) O hn, pv_bI]
          rfl
      · refine ⟨nu 24, ⟨t, ?_, fun _ _ _ _ => rfl⟩, fun t' X' => ⟨t', ?_, fr_rfl⟩⟩
        · rw [if_pos (show bI false = 0 from rfl)]; rfl
        · rw [if_pos (by omega)]
          show (if bI false = 0 then f11_node_204 (nI n) (nI 9) ((-1)) t' else _) = _
          rw [if_pos (show bI false = 0 from rfl)]; rfl
      · have k7 := xk.2.2
        unfold rg_kl at k7
        rw [if_pos hu, ld_eq O.1 hn hu] at k7
        refine ⟨nI (rg_ldR s n), ⟨t, ?_, fun _ _ _ _ => rfl⟩, fun t' X' => ⟨t', ?_, fr_rfl⟩⟩
        · rw [if_neg (show ¬ bI true = 0 by decide)]
          unfold F10_partOfUpNode
          rw [sw710 (by omega), if_pos (by omega)]
          show sr_bI (some (.inl (some (sr_i (t.1 2 (25 * 0 + n) 7))), t)) _ = _
          rw [k7, pv_bI]
          rfl
        · rw [if_pos (by omega)]
          show (if bI true = 0 then _ else (sr_bI (F11_loadOf (nI n) t') (fun v8 t8 => f11_node_204 (nI n) (nI 9) v8 t8))) = _
          rw [if_neg (show ¬ bI true = 0 by decide), pu_loadOf X'.2.2.2.2.2.1.1 O.1 hn, pv_bI]
          rfl
      · refine ⟨nu 24, ⟨t, ?_, fun _ _ _ _ => rfl⟩, fun t' X' => ⟨t', ?_, fr_rfl⟩⟩
        · rw [if_pos (show bI false = 0 from rfl)]; rfl
        · rw [if_pos (by omega)]
          show (if bI false = 0 then f11_node_218 (nI n) (nI 10) ((-1)) t' else _) = _
          rw [if_pos (show bI false = 0 from rfl)]; rfl
      · obtain ⟨t1, e1, f1⟩ := pc_harm X hn
        have x0 := C.1.2.1.1 n (by omega)
        rw [nu_lt (by omega)] at x0
        refine ⟨nI (hm s n), ⟨t1, ?_, frI_of f1⟩, fun t' X' => ?_⟩
        · rw [if_neg (show ¬ bI true = 0 by decide)]
          unfold F10_partOfUpNode
          rw [sw710 (by omega), if_pos (by omega)]
          show sr_bI (sr_bI (F1_harmOf 0 (t.1 2 (25 * 0 + n) 0) t) (fun v1 t1 => (some (.inl (some (sr_i v1)), t1)))) _ = _
          rw [x0, e1, pv_bI, pv_bI]
          rfl
        · obtain ⟨t2, e2, f2⟩ := pr_harm X' hn hu
          refine ⟨t2, ?_, f2⟩
          rw [if_pos (by omega)]
          show (if bI true = 0 then _ else (sr_bI (F11_harmOf (nI n) t') (fun v8 t8 => f11_node_218 (nI n) (nI 10) v8 t8))) = _
          rw [if_neg (show ¬ bI true = 0 by decide), e2, pv_bI]
          rfl
      · refine ⟨nu 24, ⟨t, ?_, fun _ _ _ _ => rfl⟩, fun t' X' => ⟨t', ?_, fr_rfl⟩⟩
        · rw [if_pos (show bI false = 0 from rfl)]; rfl
        · rw [if_neg (by omega)]
          rw [if_pos (show bI false = 0 from rfl)]; rfl
      · have k5 := xk.1
        have k6 := xk.2.1
        unfold rg_kx at k5
        unfold rg_ka at k6
        rw [if_pos hu] at k5 k6
        refine ⟨if rg_nx s n = 24 then nu 24 else nI (rg_ar s n), ⟨t, ?_, fun _ _ _ _ => rfl⟩, fun t' X' => ⟨t', ?_, fr_rfl⟩⟩
        · rw [if_neg (show ¬ bI true = 0 by decide)]
          unfold F10_partOfUpNode
          rw [sw710 (by omega), if_neg (by omega), k5, k6]
          by_cases h24 : rg_nx s n = 24
          · rw [if_pos h24, h24, if_pos (show nu 24 = -1 from rfl)]
            rfl
          · have hne : ¬ nu (rg_nx s n) = -1 := fun e => h24 ((nu_m1 (by
              have := rg_nx_le (n := n) O hn
              omega)).mp e)
            rw [if_neg h24, if_neg hne]
            rfl
        · rw [if_neg (by omega), if_neg (show ¬ bI true = 0 by decide), pu_nextOf (rg_RN_of X'.2.2.2.2.2.1 O) O hn, pv_bI]
          by_cases h24 : rg_nx s n = 24
          · rw [if_pos h24, h24, if_pos (show nu 24 = -1 from rfl)]
            rfl
          · have hne : ¬ nu (rg_nx s n) = -1 := fun e => h24 ((nu_m1 (by
              have := rg_nx_le (n := n) O hn
              omega)).mp e)
            rw [if_neg h24, if_neg hne, pu_arcOf (rg_RN_of X'.2.2.2.2.2.1 O) O hn h24, pv_bI]
            rfl
end
