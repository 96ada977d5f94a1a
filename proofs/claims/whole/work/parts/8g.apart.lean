section
/-! step: apart -/
theorem fl_24 {s : rg_T} {a b F : Nat} {r : Nat → Nat → Nat} (ha : a < 24) (ne : a ≠ b) (h : fl_K (fl_r0 s a b) r a b F b) : F ≤ 24 := by
  have h1 := fl_le (S := fun u => u == a) h (by omega) (by simp) (by simp; omega)
  have h2 : fl_C (fl_r0 s a b) (fun u => u == a) ≤ fw (fun u => if u = a then 24 else 0) 48 := by
    refine fw_le 48 (fun u hu => ?_)
    by_cases e : u = a
    · rw [if_pos e]
      refine Int.le_trans (fw_le 48 (g := fun v => if v = 24 + a then 24 else 0) (fun v hv => ?_)) ?_
      · show (if (u == a) = true ∧ (v == a) = false then (fl_r0 s a b u v : Int) else 0) ≤ if v = 24 + a then 24 else 0
        have c0 : fl_r0 s a b u v ≤ if v = 24 + a then 24 else 0 := by
          unfold fl_r0
          rw [if_pos (by omega)]
          by_cases q : v = 24 + u ∧ u < rg_N s ∧ rg_u s u = true
          · rw [if_pos q, if_pos (show v = 24 + a by omega)]
            split <;> omega
          · rw [if_neg q]
            omega
        by_cases q : v = 24 + a
        · rw [if_pos q] at c0 ⊢
          split <;> omega
        · rw [if_neg q] at c0 ⊢
          split <;> omega
      · rw [fw_one, if_pos (by omega)]
        exact Int.le_refl _
    · rw [if_neg e]
      refine Int.le_of_eq ((fw_congr 48 (fun v _ => ?_)).trans (fw_0 48))
      rw [if_neg (fun q => e (by simpa using q.1))]
  rw [fw_one, if_pos (by omega)] at h2
  omega
theorem fl_r1 {s : rg_T} {a b u v : Nat} : fl_r0 s a b u v ≤ 24 := by
  unfold fl_r0
  split
  · split
    · split <;> omega
    · omega
  · split <;> omega
theorem pr_row {t : sr_t} {s : rg_T} {x : Nat} {b0 b1 : Int32} {K : Int32 → sr_t → sr_Rs} (R : rg_R t s) (O : rg_ok s) (hx : x < rg_N s) : ∃ t', ((∀ j, t'.1 45 0 j = if 48 * (24 + x) ≤ j ∧ j < 48 * (24 + x) + rg_N s then bI (bs (UL s x) (j - 48 * (24 + x))) else t.1 45 0 j) ∧ fr S_gr t t') ∧ f11_apart_149 b0 b1 K sr_fu (nI x) (UL s x) (nI 0) t = K (nI x) t' := by
  have hN := O.1.1
  refine pu_forR (N := rg_N s) (L := fun f n t' => f11_apart_149 b0 b1 K f (nI x) (UL s x) (nI n) t') (fin := fun t' => K (nI x) t') (P := fun n t' => (∀ j, t'.1 45 0 j = if 48 * (24 + x) ≤ j ∧ j < 48 * (24 + x) + n then bI (bs (UL s x) (j - 48 * (24 + x))) else t.1 45 0 j) ∧ fr S_gr t t') ?_ ?_ (by unfold sr_fu; omega) ⟨fun j => by rw [if_neg (by omega)], fr_rfl⟩
  · rintro n g t' hn ⟨p1, p2⟩
    have R' : rg_R t' s := rg_R_fr O p2 (fun k i j q => by unfold Fp_R at q; unfold S_gr; omega) R
    have h3 := R'.1.1.1
    have sh := bs_shr (x := UL s x) (k := n) (by omega)
    refine ⟨sr_u t' 45 0 (48 * (24 + x) + n) (bI (bs (UL s x) n)), ⟨fun j => ?_, fr_u p2 (by unfold S_gr; omega)⟩, ?_⟩
    · by_cases e : j = 48 * (24 + x) + n
      · rw [e, pu_us, if_pos (by omega), show 48 * (24 + x) + n - 48 * (24 + x) = n by omega]
      · rw [pu_un (by omega), p1 j]
        by_cases q : 48 * (24 + x) ≤ j ∧ j < 48 * (24 + x) + n
        · rw [if_pos q, if_pos (by omega)]
        · rw [if_neg q, if_neg (by omega)]
    · show f11_apart_149 b0 b1 K (g + 1) (nI x) (UL s x) (nI n) t' = f11_apart_149 b0 b1 K g (nI x) (UL s x) (nI (n + 1)) (sr_u t' 45 0 (48 * (24 + x) + n) (bI (bs (UL s x) n)))
      simp (disch := omega) only [pv_lt, pu_ck, pv_bI, pv_bV, pu_bR, pv_bL, pv_nt, pu_us, pu_un, mL_0, mL_1, mL_2, mL_3, mL_4, mL_5, mL_6, mL_7, mL_8, mL_9, mL_10, mL_11, mL_12, mL_13, mL_14, mL_15, mL_16, mL_23, mL_24, mL_32, mL_48, mL_64, mL_99, mL_100, mL_200, mL_336, mL_576, mL_768, mL_800, mL_999, mL_4095, mL_4096, mL_m1, nI_leI, nI_ltI, nI_eq, nI_clamp, nI_add, pk_mul, nI_nu, bI_eq0, bI_eq1, bo_ft, Bool.true_eq_false, Bool.false_eq_true, pu_of, pu_of24, pu_onward, pu_frq, if_true, if_false, true_or, or_true, false_or, or_false, and_true, true_and, and_false, false_and, not_true_eq_false, not_false_eq_true, if_neg, if_pos, f11_apart_149, h3, sh, pu_ixN']
  · rintro g t' ⟨p1, p2⟩
    have R' : rg_R t' s := rg_R_fr O p2 (fun k i j q => by unfold Fp_R at q; unfold S_gr; omega) R
    have h3 := R'.1.1.1
    show f11_apart_149 b0 b1 K (g + 1) (nI x) (UL s x) (nI (rg_N s)) t' = _
    simp (disch := omega) only [pv_lt, pu_ck, pv_bI, pv_bV, pu_bR, pv_bL, pv_nt, pu_us, pu_un, mL_0, mL_1, mL_2, mL_3, mL_4, mL_5, mL_6, mL_7, mL_8, mL_9, mL_10, mL_11, mL_12, mL_13, mL_14, mL_15, mL_16, mL_23, mL_24, mL_32, mL_48, mL_64, mL_99, mL_100, mL_200, mL_336, mL_576, mL_768, mL_800, mL_999, mL_4095, mL_4096, mL_m1, nI_leI, nI_ltI, nI_eq, nI_clamp, nI_add, pk_mul, nI_nu, bI_eq0, bI_eq1, bo_ft, Bool.true_eq_false, Bool.false_eq_true, pu_of, pu_of24, pu_onward, pu_frq, if_true, if_false, true_or, or_true, false_or, or_false, and_true, true_and, and_false, false_and, not_true_eq_false, not_false_eq_true, if_neg, if_pos, f11_apart_149, h3]
def fl_x (u : Nat) : Nat := if u < 24 then u else u - 24
/-- one node's rows -/
theorem pr_node {t : sr_t} {s : rg_T} {a b x : Nat} {K1 : Int32 → sr_t → sr_Rs} {K2 : sr_t → sr_Rs} (R : rg_R t s) (O : rg_ok s) (hx : x < rg_N s) (hu : rg_u s x = true) (ht : ∀ u v, u < 48 → v < 48 → t.1 45 0 (48 * u + v) = nI (if fl_x u < x then fl_r0 s a b u v else 0)) : ∃ t', ((∀ u v, u < 48 → v < 48 → t'.1 45 0 (48 * u + v) = nI (if fl_x u < x + 1 then fl_r0 s a b u v else 0)) ∧ fr S_gr t t') ∧ f11_apart_138 (nI a) (nI b) K1 K2 (nI x) (if x = a ∨ x = b then nI 24 else nI 1) (nI (48 * x + 24 + x)) t = K1 (nI (x + 1)) t' := by
  have hN := O.1.1
  obtain ⟨w, hw⟩ : ∃ w : Nat, w = if x = a ∨ x = b then 24 else 1 := ⟨_, rfl⟩
  have hw' : (if x = a ∨ x = b then nI 24 else nI 1) = nI w := by
    rw [hw]
    split <;> rfl
  rw [hw']
  obtain ⟨t1, ht1⟩ : ∃ t1, t1 = sr_u t 45 0 (48 * x + 24 + x) (nI w) := ⟨_, rfl⟩
  have f1 : fr S_gr t t1 := by rw [ht1]; exact fr_u fr_rfl (by unfold S_gr; omega)
  have R1 : rg_R t1 s := rg_R_fr O f1 (fun k i j q => by unfold Fp_R at q; unfold S_gr; omega) R
  have e1 := pr_upLinks R1 O hx hu
  obtain ⟨t2, ⟨p1, f2⟩, e2⟩ := pr_row (b0 := nI a) (b1 := nI b) (K := f11_apart_186 (nI a) (nI b) K1 K2) R1 O hx
  refine ⟨t2, ⟨fun u v hu' hv => ?_, fr_trans f1 f2⟩, ?_⟩
  · rw [p1]
    by_cases q : 48 * (24 + x) ≤ 48 * u + v ∧ 48 * u + v < 48 * (24 + x) + rg_N s
    · have eu : u = 24 + x := by omega
      have ex : fl_x u = x := by unfold fl_x; rw [if_neg (by omega)]; omega
      rw [if_pos q, ex, if_pos (by omega), eu, show 48 * (24 + x) + v - 48 * (24 + x) = v by omega]
      unfold fl_r0
      rw [if_neg (by omega), show 24 + x - 24 = x by omega]
      cases hb : bs (UL s x) v with
      | true => rw [if_pos ⟨by omega, rfl⟩]; rfl
      | false => rw [if_neg (fun q => absurd q.2 (by decide))]; rfl
    · rw [if_neg q, ht1]
      by_cases q2 : u = x ∧ v = 24 + x
      · have ex : fl_x u = x := by unfold fl_x; rw [if_pos (by omega)]; omega
        rw [show 48 * u + v = 48 * x + 24 + x by omega, pu_us, ex, if_pos (by omega)]
        unfold fl_r0
        rw [if_pos (by omega), if_pos ⟨by omega, by rw [q2.1]; exact hx, by rw [q2.1]; exact hu⟩, hw, q2.1]
      · rw [pu_un (by omega), ht u v hu' hv]
        by_cases q3 : fl_x u < x
        · rw [if_pos q3, if_pos (by omega)]
        · rw [if_neg q3]
          by_cases q4 : fl_x u < x + 1
          · rw [if_pos q4]
            have z : fl_r0 s a b u v = 0 := by
              unfold fl_x at q3 q4
              unfold fl_r0
              by_cases h24 : u < 24
              · rw [if_pos h24] at q3 q4
                rw [if_pos h24, if_neg (by omega)]
              · rw [if_neg h24] at q3 q4
                rw [if_neg h24, if_neg]
                intro q5
                have eu : u - 24 = x := by omega
                rw [eu] at q5
                have := (UL_bs O (by omega) q5.2).2.1
                omega
            rw [z]
          · rw [if_neg q4]
  · have e2' : f11_apart_149 (nI a) (nI b) (f11_apart_186 (nI a) (nI b) K1 K2) sr_fu (nI x) (UL s x) (nI 0) t1 = K1 (nI x + 1) t2 := e2
    rw [show nI x + 1 = nI (x + 1) from nI_add x 1] at e2'
    rw [← e2']
    simp (disch := omega) only [pv_lt, pu_ck, pv_bI, pv_bV, pu_bR, pv_bL, pv_nt, pu_us, pu_un, mL_0, mL_1, mL_2, mL_3, mL_4, mL_5, mL_6, mL_7, mL_8, mL_9, mL_10, mL_11, mL_12, mL_13, mL_14, mL_15, mL_16, mL_23, mL_24, mL_32, mL_48, mL_64, mL_99, mL_100, mL_200, mL_336, mL_576, mL_768, mL_800, mL_999, mL_4095, mL_4096, mL_m1, nI_leI, nI_ltI, nI_eq, nI_clamp, nI_add, pk_mul, nI_nu, bI_eq0, bI_eq1, bo_ft, Bool.true_eq_false, Bool.false_eq_true, pu_of, pu_of24, pu_onward, pu_frq, if_true, if_false, true_or, or_true, false_or, or_false, and_true, true_and, and_false, false_and, not_true_eq_false, not_false_eq_true, if_neg, if_pos, f11_apart_138, ← ht1, e1, pu_ixN']
theorem pr_apart {t : sr_t} {s : rg_T} {a b : Nat} (R : rg_R t s) (O : rg_ok s) (ha : a < rg_N s) (hb : b < rg_N s) (ne : a ≠ b) : ∃ F t', f11_apart_67 (nI a) (nI b) (f11_apart_87 (nI a) (nI b)) sr_fu (nI 0) t = some (.inl (some (sr_i (nI F))), t') ∧ fr S_gr t t' ∧ ∃ (r : Nat → Nat → Nat) (T : Nat → Bool), fl_K (fl_r0 s a b) r a b F b ∧ T a = true ∧ T b = false ∧ ∀ u v, u < 48 → v < 48 → T u = true → T v = false → r u v = 0 := by
  have hN := O.1.1
  have e1 : ∃ t1, ((∀ j, j < 2304 → t1.1 45 0 j = nI 0) ∧ fr S_gr t t1) ∧ f11_apart_67 (nI a) (nI b) (f11_apart_87 (nI a) (nI b)) sr_fu (nI 0) t = f11_apart_87 (nI a) (nI b) t1 := by
    refine pu_forR (N := 2304) (L := fun f n t' => f11_apart_67 (nI a) (nI b) (f11_apart_87 (nI a) (nI b)) f (nI n) t') (fin := fun t' => f11_apart_87 (nI a) (nI b) t') (P := fun n t' => (∀ j, j < n → t'.1 45 0 j = nI 0) ∧ fr S_gr t t') ?_ ?_ (by unfold sr_fu; omega) ⟨fun y hy => by omega, fr_rfl⟩
    · rintro n g t' hn ⟨p1, p2⟩
      refine ⟨sr_u t' 45 0 n (nI 0), ⟨fun v hv => ?_, fr_u p2 (by unfold S_gr; omega)⟩, ?_⟩
      · by_cases e : v = n
        · rw [e, pu_us]
        · rw [pu_un (by omega)]; exact p1 v (by omega)
      · show f11_apart_67 (nI a) (nI b) (f11_apart_87 (nI a) (nI b)) (g + 1) (nI n) t' = f11_apart_67 (nI a) (nI b) (f11_apart_87 (nI a) (nI b)) g (nI (n + 1)) (sr_u t' 45 0 n (nI 0))
        simp (disch := omega) only [pv_lt, pu_ck, pv_bI, pv_bV, pu_bR, pv_bL, pv_nt, pu_us, pu_un, mL_0, mL_1, mL_2, mL_3, mL_4, mL_5, mL_6, mL_7, mL_8, mL_9, mL_10, mL_11, mL_12, mL_13, mL_14, mL_15, mL_16, mL_23, mL_24, mL_32, mL_48, mL_64, mL_99, mL_100, mL_200, mL_336, mL_576, mL_768, mL_800, mL_999, mL_4095, mL_4096, mL_m1, nI_leI, nI_ltI, nI_eq, nI_clamp, nI_add, pk_mul, nI_nu, bI_eq0, bI_eq1, bo_ft, Bool.true_eq_false, Bool.false_eq_true, pu_of, pu_of24, pu_onward, pu_frq, if_true, if_false, true_or, or_true, false_or, or_false, and_true, true_and, and_false, false_and, not_true_eq_false, not_false_eq_true, if_neg, if_pos, f11_apart_67, mL_2304, pu_ixN']
    · rintro g t' _
      show f11_apart_67 (nI a) (nI b) (f11_apart_87 (nI a) (nI b)) (g + 1) (nI 2304) t' = _
      simp (disch := omega) only [pv_lt, pu_ck, pv_bI, pv_bV, pu_bR, pv_bL, pv_nt, pu_us, pu_un, mL_0, mL_1, mL_2, mL_3, mL_4, mL_5, mL_6, mL_7, mL_8, mL_9, mL_10, mL_11, mL_12, mL_13, mL_14, mL_15, mL_16, mL_23, mL_24, mL_32, mL_48, mL_64, mL_99, mL_100, mL_200, mL_336, mL_576, mL_768, mL_800, mL_999, mL_4095, mL_4096, mL_m1, nI_leI, nI_ltI, nI_eq, nI_clamp, nI_add, pk_mul, nI_nu, bI_eq0, bI_eq1, bo_ft, Bool.true_eq_false, Bool.false_eq_true, pu_of, pu_of24, pu_onward, pu_frq, if_true, if_false, true_or, or_true, false_or, or_false, and_true, true_and, and_false, false_and, not_true_eq_false, not_false_eq_true, if_neg, if_pos, f11_apart_67, mL_2304]
  obtain ⟨t1, ⟨p1, p2⟩, e1⟩ := e1
  have e2 : ∃ t2, ((∀ u v, u < 48 → v < 48 → t2.1 45 0 (48 * u + v) = nI (if fl_x u < rg_N s then fl_r0 s a b u v else 0)) ∧ fr S_gr t t2) ∧ f11_apart_89 (nI a) (nI b) (f11_apart_192 (nI a) (nI b)) sr_fu (nI 0) t1 = f11_apart_192 (nI a) (nI b) t2 := by
    refine pu_forR (N := rg_N s) (L := fun f n t' => f11_apart_89 (nI a) (nI b) (f11_apart_192 (nI a) (nI b)) f (nI n) t') (fin := fun t' => f11_apart_192 (nI a) (nI b) t') (P := fun n t' => (∀ u v, u < 48 → v < 48 → t'.1 45 0 (48 * u + v) = nI (if fl_x u < n then fl_r0 s a b u v else 0)) ∧ fr S_gr t t') ?_ ?_ (by unfold sr_fu; omega) ⟨fun u v hu hv => by rw [if_neg (by omega)]; exact p1 _ (by omega), p2⟩
    · rintro n g t' hn ⟨q1, q2⟩
      have R' : rg_R t' s := rg_R_fr O q2 (fun k i j q => by unfold Fp_R at q; unfold S_gr; omega) R
      have h3 := R'.1.1.1
      have up := (R'.1.2 n hn).2.1
      show ∃ t2, ((∀ u v, u < 48 → v < 48 → t2.1 45 0 (48 * u + v) = nI (if fl_x u < n + 1 then fl_r0 s a b u v else 0)) ∧ fr S_gr t t2) ∧ f11_apart_89 (nI a) (nI b) (f11_apart_192 (nI a) (nI b)) (g + 1) (nI n) t' = f11_apart_89 (nI a) (nI b) (f11_apart_192 (nI a) (nI b)) g (nI (n + 1)) t2
      cases hu : rg_u s n with
      | false =>
        rw [hu, show bI false = nI 0 from rfl] at up
        refine ⟨t', ⟨fun u v hu' hv => ?_, q2⟩, ?_⟩
        · rw [q1 u v hu' hv]
          by_cases q3 : fl_x u < n
          · rw [if_pos q3, if_pos (by omega)]
          · rw [if_neg q3]
            by_cases q4 : fl_x u < n + 1
            · rw [if_pos q4]
              have z : fl_r0 s a b u v = 0 := by
                unfold fl_x at q3 q4
                unfold fl_r0
                by_cases h24 : u < 24
                · rw [if_pos h24] at q3 q4
                  rw [if_pos h24, if_neg]
                  intro q5
                  rw [show u = n by omega, hu] at q5
                  exact absurd q5.2.2 (by decide)
                · rw [if_neg h24] at q3 q4
                  rw [if_neg h24, if_neg]
                  intro q5
                  rw [show u - 24 = n by omega] at q5
                  have := (UL_bs O (by omega) q5.2).2.2.1
                  rw [hu] at this
                  exact absurd this (by decide)
              rw [z]
            · rw [if_neg q4]
        · simp (disch := omega) only [pv_lt, pu_ck, pv_bI, pv_bV, pu_bR, pv_bL, pv_nt, pu_us, pu_un, mL_0, mL_1, mL_2, mL_3, mL_4, mL_5, mL_6, mL_7, mL_8, mL_9, mL_10, mL_11, mL_12, mL_13, mL_14, mL_15, mL_16, mL_23, mL_24, mL_32, mL_48, mL_64, mL_99, mL_100, mL_200, mL_336, mL_576, mL_768, mL_800, mL_999, mL_4095, mL_4096, mL_m1, nI_leI, nI_ltI, nI_eq, nI_clamp, nI_add, pk_mul, nI_nu, bI_eq0, bI_eq1, bo_ft, Bool.true_eq_false, Bool.false_eq_true, pu_of, pu_of24, pu_onward, pu_frq, if_true, if_false, true_or, or_true, false_or, or_false, and_true, true_and, and_false, false_and, not_true_eq_false, not_false_eq_true, if_neg, if_pos, f11_apart_89, f11_apart_186, h3, up, pu_ixN']
      | true =>
        rw [hu, show bI true = nI 1 from rfl] at up
        obtain ⟨t2, ⟨z1, z2⟩, e2⟩ := pr_node (a := a) (b := b) (K1 := f11_apart_89 (nI a) (nI b) (f11_apart_192 (nI a) (nI b)) g) (K2 := f11_apart_192 (nI a) (nI b)) R' O hn hu q1
        refine ⟨t2, ⟨z1, fr_trans q2 z2⟩, ?_⟩
        rw [← e2]
        by_cases ea : n = a
        · rw [if_pos (Or.inl ea)]
          rw [ea] at up
          simp (disch := omega) only [pv_lt, pu_ck, pv_bI, pv_bV, pu_bR, pv_bL, pv_nt, pu_us, pu_un, mL_0, mL_1, mL_2, mL_3, mL_4, mL_5, mL_6, mL_7, mL_8, mL_9, mL_10, mL_11, mL_12, mL_13, mL_14, mL_15, mL_16, mL_23, mL_24, mL_32, mL_48, mL_64, mL_99, mL_100, mL_200, mL_336, mL_576, mL_768, mL_800, mL_999, mL_4095, mL_4096, mL_m1, nI_leI, nI_ltI, nI_eq, nI_clamp, nI_add, pk_mul, nI_nu, bI_eq0, bI_eq1, bo_ft, Bool.true_eq_false, Bool.false_eq_true, pu_of, pu_of24, pu_onward, pu_frq, if_true, if_false, true_or, or_true, false_or, or_false, and_true, true_and, and_false, false_and, not_true_eq_false, not_false_eq_true, if_neg, if_pos, f11_apart_89, f11_apart_132, h3, up, ea, pu_ixN']
        · by_cases eb : n = b
          · rw [if_pos (Or.inr eb)]
            rw [eb] at up ea
            simp (disch := omega) only [pv_lt, pu_ck, pv_bI, pv_bV, pu_bR, pv_bL, pv_nt, pu_us, pu_un, mL_0, mL_1, mL_2, mL_3, mL_4, mL_5, mL_6, mL_7, mL_8, mL_9, mL_10, mL_11, mL_12, mL_13, mL_14, mL_15, mL_16, mL_23, mL_24, mL_32, mL_48, mL_64, mL_99, mL_100, mL_200, mL_336, mL_576, mL_768, mL_800, mL_999, mL_4095, mL_4096, mL_m1, nI_leI, nI_ltI, nI_eq, nI_clamp, nI_add, pk_mul, nI_nu, bI_eq0, bI_eq1, bo_ft, Bool.true_eq_false, Bool.false_eq_true, pu_of, pu_of24, pu_onward, pu_frq, if_true, if_false, true_or, or_true, false_or, or_false, and_true, true_and, and_false, false_and, not_true_eq_false, not_false_eq_true, if_neg, if_pos, f11_apart_89, f11_apart_132, h3, up, ea, eb, pu_ixN']
          · rw [if_neg (by omega)]
            simp (disch := omega) only [pv_lt, pu_ck, pv_bI, pv_bV, pu_bR, pv_bL, pv_nt, pu_us, pu_un, mL_0, mL_1, mL_2, mL_3, mL_4, mL_5, mL_6, mL_7, mL_8, mL_9, mL_10, mL_11, mL_12, mL_13, mL_14, mL_15, mL_16, mL_23, mL_24, mL_32, mL_48, mL_64, mL_99, mL_100, mL_200, mL_336, mL_576, mL_768, mL_800, mL_999, mL_4095, mL_4096, mL_m1, nI_leI, nI_ltI, nI_eq, nI_clamp, nI_add, pk_mul, nI_nu, bI_eq0, bI_eq1, bo_ft, Bool.true_eq_false, Bool.false_eq_true, pu_of, pu_of24, pu_onward, pu_frq, if_true, if_false, true_or, or_true, false_or, or_false, and_true, true_and, and_false, false_and, not_true_eq_false, not_false_eq_true, if_neg, if_pos, f11_apart_89, h3, up, ea, eb, pu_ixN']
    · rintro g t' ⟨q1, q2⟩
      have R' : rg_R t' s := rg_R_fr O q2 (fun k i j q => by unfold Fp_R at q; unfold S_gr; omega) R
      have h3 := R'.1.1.1
      show f11_apart_89 (nI a) (nI b) (f11_apart_192 (nI a) (nI b)) (g + 1) (nI (rg_N s)) t' = _
      simp (disch := omega) only [pv_lt, pu_ck, pv_bI, pv_bV, pu_bR, pv_bL, pv_nt, pu_us, pu_un, mL_0, mL_1, mL_2, mL_3, mL_4, mL_5, mL_6, mL_7, mL_8, mL_9, mL_10, mL_11, mL_12, mL_13, mL_14, mL_15, mL_16, mL_23, mL_24, mL_32, mL_48, mL_64, mL_99, mL_100, mL_200, mL_336, mL_576, mL_768, mL_800, mL_999, mL_4095, mL_4096, mL_m1, nI_leI, nI_ltI, nI_eq, nI_clamp, nI_add, pk_mul, nI_nu, bI_eq0, bI_eq1, bo_ft, Bool.true_eq_false, Bool.false_eq_true, pu_of, pu_of24, pu_onward, pu_frq, if_true, if_false, true_or, or_true, false_or, or_false, and_true, true_and, and_false, false_and, not_true_eq_false, not_false_eq_true, if_neg, if_pos, f11_apart_89, h3]
  obtain ⟨t2, ⟨z1, f2⟩, e2⟩ := e2
  have H2 : hR t2 (fl_r0 s a b) := fun u v hu hv => by
    rw [z1 u v hu hv]
    by_cases q : fl_x u < rg_N s
    · rw [if_pos q]
    · rw [if_neg q]
      have z : fl_r0 s a b u v = 0 := by
        unfold fl_x at q
        unfold fl_r0
        by_cases h24 : u < 24
        · rw [if_pos h24] at q
          rw [if_pos h24, if_neg (by omega)]
        · rw [if_neg h24] at q
          rw [if_neg h24, if_neg]
          intro q5
          have := (UL_bs O (by omega) q5.2).1
          omega
      rw [z]
  have st : f11_apart_67 (nI a) (nI b) (f11_apart_87 (nI a) (nI b)) sr_fu (nI 0) t = f11_apart_194 (nI a) (nI b) (f11_apart_209 (nI a) (nI b)) sr_fu (nI 0) t2 := by
    have a1 : f11_apart_87 (nI a) (nI b) t1 = f11_apart_89 (nI a) (nI b) (f11_apart_192 (nI a) (nI b)) sr_fu (nI 0) t1 := by
      unfold f11_apart_87
      rw [mL_0]
    have a2 : f11_apart_192 (nI a) (nI b) t2 = f11_apart_194 (nI a) (nI b) (f11_apart_209 (nI a) (nI b)) sr_fu (nI 0) t2 := by
      unfold f11_apart_192
      rw [mL_0]
    rw [e1, a1, e2, a2]
  rw [st]
  have main : rs_to (fun o t' => ∃ F, o = .inl (some (sr_i (nI F))) ∧ fr S_gr t t' ∧ ∃ (r : Nat → Nat → Nat) (T : Nat → Bool), fl_K (fl_r0 s a b) r a b F b ∧ T a = true ∧ T b = false ∧ ∀ u v, u < 48 → v < 48 → T u = true → T v = false → r u v = 0) (f11_apart_194 (nI a) (nI b) (f11_apart_209 (nI a) (nI b)) sr_fu (nI 0) t2) := by
    refine rs_loopA (α := (Nat → Nat → Nat) × sr_t) (N := 25) (L := fun f k z => f11_apart_194 (nI a) (nI b) (f11_apart_209 (nI a) (nI b)) f (nI k) z.2) (fun k z => fl_K (fl_r0 s a b) z.1 a b k b ∧ hR z.2 z.1 ∧ fr S_gr t z.2) ?_ ?_ (a := (fl_r0 s a b, t2)) (by unfold sr_fu; omega) ⟨?_, H2, f2⟩
    · rintro k g ⟨r, t3⟩ hk ⟨K, H, f⟩
      have K : fl_K (fl_r0 s a b) r a b k b := K
      have H : hR t3 r := H
      have f : fr S_gr t t3 := f
      obtain ⟨x, t4, e4, g1, g2, g3⟩ := pr_once (by omega) (by omega) (fun u v _ _ => fl_r1) H K
      cases x with
      | false =>
        right
        obtain ⟨_, T, T1, T2, T3⟩ := g2 rfl
        show rs_to _ (f11_apart_194 (nI a) (nI b) (f11_apart_209 (nI a) (nI b)) (g + 1) (nI k) t3)
        rw [show bI false = nI 0 from rfl] at e4
        simp (disch := omega) only [pv_lt, pu_ck, pv_bI, pv_bV, pu_bR, pv_bL, pv_nt, pu_us, pu_un, mL_0, mL_1, mL_2, mL_3, mL_4, mL_5, mL_6, mL_7, mL_8, mL_9, mL_10, mL_11, mL_12, mL_13, mL_14, mL_15, mL_16, mL_23, mL_24, mL_32, mL_48, mL_64, mL_99, mL_100, mL_200, mL_336, mL_576, mL_768, mL_800, mL_999, mL_4095, mL_4096, mL_m1, nI_leI, nI_ltI, nI_eq, nI_clamp, nI_add, pk_mul, nI_nu, bI_eq0, bI_eq1, bo_ft, Bool.true_eq_false, Bool.false_eq_true, pu_of, pu_of24, pu_onward, pu_frq, if_true, if_false, true_or, or_true, false_or, or_false, and_true, true_and, and_false, false_and, not_true_eq_false, not_false_eq_true, if_neg, if_pos, f11_apart_194, f11_apart_209, e4]
        exact rs_ret ⟨k, rfl, fr_trans f g1, r, T, K, T1, T2, T3⟩
      | true =>
        left
        obtain ⟨r', H4, K4⟩ := g3 rfl
        refine ⟨(r', t4), ⟨K4, H4, fr_trans f g1⟩, ?_⟩
        show f11_apart_194 (nI a) (nI b) (f11_apart_209 (nI a) (nI b)) (g + 1) (nI k) t3 = f11_apart_194 (nI a) (nI b) (f11_apart_209 (nI a) (nI b)) g (nI (k + 1)) t4
        rw [show bI true = nI 1 from rfl] at e4
        simp (disch := omega) only [pv_lt, pu_ck, pv_bI, pv_bV, pu_bR, pv_bL, pv_nt, pu_us, pu_un, mL_0, mL_1, mL_2, mL_3, mL_4, mL_5, mL_6, mL_7, mL_8, mL_9, mL_10, mL_11, mL_12, mL_13, mL_14, mL_15, mL_16, mL_23, mL_24, mL_32, mL_48, mL_64, mL_99, mL_100, mL_200, mL_336, mL_576, mL_768, mL_800, mL_999, mL_4095, mL_4096, mL_m1, nI_leI, nI_ltI, nI_eq, nI_clamp, nI_add, pk_mul, nI_nu, bI_eq0, bI_eq1, bo_ft, Bool.true_eq_false, Bool.false_eq_true, pu_of, pu_of24, pu_onward, pu_frq, if_true, if_false, true_or, or_true, false_or, or_false, and_true, true_and, and_false, false_and, not_true_eq_false, not_false_eq_true, if_neg, if_pos, f11_apart_194, e4]
    · rintro g ⟨r, t3⟩ ⟨K, H, f⟩
      have K : fl_K (fl_r0 s a b) r a b 25 b := K
      have := fl_24 (by omega) ne K
      omega
    · refine ⟨fun u v _ _ => rfl, fun u hu hne => ?_⟩
      show fw (fun v => fl_G (fl_r0 s a b) (fl_r0 s a b) u v) 48 = _
      have z : fw (fun v => fl_G (fl_r0 s a b) (fl_r0 s a b) u v) 48 = 0 := (fw_congr 48 (fun v _ => Int.sub_self _)).trans (fw_0 48)
      rw [z, if_neg hne]
      split <;> rfl
  obtain ⟨o, t', e, F, rfl, hx⟩ := main
  exact ⟨F, t', e, hx⟩
theorem s_apart {i : Nat} (hi : i + 4 ≤ 2048) (a b : Int32) : sr_ok3 (sr_Inv i) (sr_Inv (i + 4)) (fun t => FL_apart_23 a b t) (fun t => F11_apart a b t) := by
  refine ok3_qf hi (F := F10_apart a b) (G := F11_apart a b) (hc := hcL_apart_23) (fun t s w X => ?_)
  obtain ⟨O, C, K, nb, sp, R, kp, L, W⟩ := id X
  have hN := O.1.1
  have thr : ∀ {T : sr_t} {x y u : Int32}, u = nI 1 ∨ u = nI 2 ∨ u = nI 3 → f11_apart_53 x y u T = some (.inl (some (sr_i (nI 0))), sr_u T 11 0 0 u) := by
    intro T x y u hu
    rcases hu with rfl | rfl | rfl <;> simp (disch := omega) only [pv_lt, pu_ck, pv_bI, pv_bV, pu_bR, pv_bL, pv_nt, pu_us, pu_un, mL_0, mL_1, mL_2, mL_3, mL_4, mL_5, mL_6, mL_7, mL_8, mL_9, mL_10, mL_11, mL_12, mL_13, mL_14, mL_15, mL_16, mL_23, mL_24, mL_32, mL_48, mL_64, mL_99, mL_100, mL_200, mL_336, mL_576, mL_768, mL_800, mL_999, mL_4095, mL_4096, mL_m1, nI_leI, nI_ltI, nI_eq, nI_clamp, nI_add, pk_mul, nI_nu, bI_eq0, bI_eq1, bo_ft, Bool.true_eq_false, Bool.false_eq_true, pu_of, pu_of24, pu_onward, pu_frq, if_true, if_false, true_or, or_true, false_or, or_false, and_true, true_and, and_false, false_and, not_true_eq_false, not_false_eq_true, if_neg, if_pos, f11_apart_53]
  rcases a_node a hN with ha | ⟨n, hn, rfl⟩
  · right
    have n1 := nN_no C ha
    have i1 := iN_no R.1 O.1 ha
    refine ⟨2, nI 1, nI 0, sr_u t 11 0 0 (nI 1), ?_, rfl, by decide, ?_, pu_us, Sr_0⟩
    · simp (disch := omega) only [pv_lt, pu_ck, pv_bI, pv_bV, pu_bR, pv_bL, pv_nt, pu_us, pu_un, mL_0, mL_1, mL_2, mL_3, mL_4, mL_5, mL_6, mL_7, mL_8, mL_9, mL_10, mL_11, mL_12, mL_13, mL_14, mL_15, mL_16, mL_23, mL_24, mL_32, mL_48, mL_64, mL_99, mL_100, mL_200, mL_336, mL_576, mL_768, mL_800, mL_999, mL_4095, mL_4096, mL_m1, nI_leI, nI_ltI, nI_eq, nI_clamp, nI_add, pk_mul, nI_nu, bI_eq0, bI_eq1, bo_ft, Bool.true_eq_false, Bool.false_eq_true, pu_of, pu_of24, pu_onward, pu_frq, if_true, if_false, true_or, or_true, false_or, or_false, and_true, true_and, and_false, false_and, not_true_eq_false, not_false_eq_true, if_neg, if_pos, F10_apart, n1, bVr]
    · simp (disch := omega) only [pv_lt, pu_ck, pv_bI, pv_bV, pu_bR, pv_bL, pv_nt, pu_us, pu_un, mL_0, mL_1, mL_2, mL_3, mL_4, mL_5, mL_6, mL_7, mL_8, mL_9, mL_10, mL_11, mL_12, mL_13, mL_14, mL_15, mL_16, mL_23, mL_24, mL_32, mL_48, mL_64, mL_99, mL_100, mL_200, mL_336, mL_576, mL_768, mL_800, mL_999, mL_4095, mL_4096, mL_m1, nI_leI, nI_ltI, nI_eq, nI_clamp, nI_add, pk_mul, nI_nu, bI_eq0, bI_eq1, bo_ft, Bool.true_eq_false, Bool.false_eq_true, pu_of, pu_of24, pu_onward, pu_frq, if_true, if_false, true_or, or_true, false_or, or_false, and_true, true_and, and_false, false_and, not_true_eq_false, not_false_eq_true, if_neg, if_pos, F11_apart, i1, f11_apart_17]
      exact thr (Or.inl rfl)
  · have n1 := nN_ok C O hn
    have i1 := iN_ok R.1 O.1 hn
    rcases a_node b hN with hb | ⟨m, hm, rfl⟩
    · right
      have n2 := nN_no C hb
      have i2 := iN_no R.1 O.1 hb
      refine ⟨2, nI 1, nI 0, sr_u t 11 0 0 (nI 1), ?_, rfl, by decide, ?_, pu_us, Sr_0⟩
      · simp (disch := omega) only [pv_lt, pu_ck, pv_bI, pv_bV, pu_bR, pv_bL, pv_nt, pu_us, pu_un, mL_0, mL_1, mL_2, mL_3, mL_4, mL_5, mL_6, mL_7, mL_8, mL_9, mL_10, mL_11, mL_12, mL_13, mL_14, mL_15, mL_16, mL_23, mL_24, mL_32, mL_48, mL_64, mL_99, mL_100, mL_200, mL_336, mL_576, mL_768, mL_800, mL_999, mL_4095, mL_4096, mL_m1, nI_leI, nI_ltI, nI_eq, nI_clamp, nI_add, pk_mul, nI_nu, bI_eq0, bI_eq1, bo_ft, Bool.true_eq_false, Bool.false_eq_true, pu_of, pu_of24, pu_onward, pu_frq, if_true, if_false, true_or, or_true, false_or, or_false, and_true, true_and, and_false, false_and, not_true_eq_false, not_false_eq_true, if_neg, if_pos, F10_apart, n1, n2, bVr]
      · simp (disch := omega) only [pv_lt, pu_ck, pv_bI, pv_bV, pu_bR, pv_bL, pv_nt, pu_us, pu_un, mL_0, mL_1, mL_2, mL_3, mL_4, mL_5, mL_6, mL_7, mL_8, mL_9, mL_10, mL_11, mL_12, mL_13, mL_14, mL_15, mL_16, mL_23, mL_24, mL_32, mL_48, mL_64, mL_99, mL_100, mL_200, mL_336, mL_576, mL_768, mL_800, mL_999, mL_4095, mL_4096, mL_m1, nI_leI, nI_ltI, nI_eq, nI_clamp, nI_add, pk_mul, nI_nu, bI_eq0, bI_eq1, bo_ft, Bool.true_eq_false, Bool.false_eq_true, pu_of, pu_of24, pu_onward, pu_frq, if_true, if_false, true_or, or_true, false_or, or_false, and_true, true_and, and_false, false_and, not_true_eq_false, not_false_eq_true, if_neg, if_pos, F11_apart, i1, i2, f11_apart_17]
        exact thr (Or.inl rfl)
    · have n2 := nN_ok C O hm
      have i2 := iN_ok R.1 O.1 hm
      by_cases en : n = m
      · right
        refine ⟨0, nI 2, nI 0, sr_u t 11 0 0 (nI 2), ?_, rfl, by decide, ?_, pu_us, Sr_0⟩
        · simp (disch := omega) only [pv_lt, pu_ck, pv_bI, pv_bV, pu_bR, pv_bL, pv_nt, pu_us, pu_un, mL_0, mL_1, mL_2, mL_3, mL_4, mL_5, mL_6, mL_7, mL_8, mL_9, mL_10, mL_11, mL_12, mL_13, mL_14, mL_15, mL_16, mL_23, mL_24, mL_32, mL_48, mL_64, mL_99, mL_100, mL_200, mL_336, mL_576, mL_768, mL_800, mL_999, mL_4095, mL_4096, mL_m1, nI_leI, nI_ltI, nI_eq, nI_clamp, nI_add, pk_mul, nI_nu, bI_eq0, bI_eq1, bo_ft, Bool.true_eq_false, Bool.false_eq_true, pu_of, pu_of24, pu_onward, pu_frq, if_true, if_false, true_or, or_true, false_or, or_false, and_true, true_and, and_false, false_and, not_true_eq_false, not_false_eq_true, if_neg, if_pos, F10_apart, n1, n2, en, bVr]
        · simp (disch := omega) only [pv_lt, pu_ck, pv_bI, pv_bV, pu_bR, pv_bL, pv_nt, pu_us, pu_un, mL_0, mL_1, mL_2, mL_3, mL_4, mL_5, mL_6, mL_7, mL_8, mL_9, mL_10, mL_11, mL_12, mL_13, mL_14, mL_15, mL_16, mL_23, mL_24, mL_32, mL_48, mL_64, mL_99, mL_100, mL_200, mL_336, mL_576, mL_768, mL_800, mL_999, mL_4095, mL_4096, mL_m1, nI_leI, nI_ltI, nI_eq, nI_clamp, nI_add, pk_mul, nI_nu, bI_eq0, bI_eq1, bo_ft, Bool.true_eq_false, Bool.false_eq_true, pu_of, pu_of24, pu_onward, pu_frq, if_true, if_false, true_or, or_true, false_or, or_false, and_true, true_and, and_false, false_and, not_true_eq_false, not_false_eq_true, if_neg, if_pos, F11_apart, i1, i2, en]
          exact thr (Or.inr (Or.inl rfl))
      have u1 := (R.1.2 n hn).2.1
      have u2 := (R.1.2 m hm).2.1
      cases hun : rg_u s n with
      | false =>
        right
        have nU := nU_no C O hn hun
        rw [hun, show bI false = nI 0 from rfl] at u1
        refine ⟨1, nI 3, nI 0, sr_u t 11 0 0 (nI 3), ?_, rfl, by decide, ?_, pu_us, Sr_0⟩
        · simp (disch := omega) only [pv_lt, pu_ck, pv_bI, pv_bV, pu_bR, pv_bL, pv_nt, pu_us, pu_un, mL_0, mL_1, mL_2, mL_3, mL_4, mL_5, mL_6, mL_7, mL_8, mL_9, mL_10, mL_11, mL_12, mL_13, mL_14, mL_15, mL_16, mL_23, mL_24, mL_32, mL_48, mL_64, mL_99, mL_100, mL_200, mL_336, mL_576, mL_768, mL_800, mL_999, mL_4095, mL_4096, mL_m1, nI_leI, nI_ltI, nI_eq, nI_clamp, nI_add, pk_mul, nI_nu, bI_eq0, bI_eq1, bo_ft, Bool.true_eq_false, Bool.false_eq_true, pu_of, pu_of24, pu_onward, pu_frq, if_true, if_false, true_or, or_true, false_or, or_false, and_true, true_and, and_false, false_and, not_true_eq_false, not_false_eq_true, if_neg, if_pos, F10_apart, n1, n2, en, nU, bVr]
        · simp (disch := omega) only [pv_lt, pu_ck, pv_bI, pv_bV, pu_bR, pv_bL, pv_nt, pu_us, pu_un, mL_0, mL_1, mL_2, mL_3, mL_4, mL_5, mL_6, mL_7, mL_8, mL_9, mL_10, mL_11, mL_12, mL_13, mL_14, mL_15, mL_16, mL_23, mL_24, mL_32, mL_48, mL_64, mL_99, mL_100, mL_200, mL_336, mL_576, mL_768, mL_800, mL_999, mL_4095, mL_4096, mL_m1, nI_leI, nI_ltI, nI_eq, nI_clamp, nI_add, pk_mul, nI_nu, bI_eq0, bI_eq1, bo_ft, Bool.true_eq_false, Bool.false_eq_true, pu_of, pu_of24, pu_onward, pu_frq, if_true, if_false, true_or, or_true, false_or, or_false, and_true, true_and, and_false, false_and, not_true_eq_false, not_false_eq_true, if_neg, if_pos, F11_apart, i1, i2, en, u1, f11_apart_48, pu_ixN']
          exact thr (Or.inr (Or.inr rfl))
      | true =>
        have nU := nU_ok C O hn hun
        rw [hun, show bI true = nI 1 from rfl] at u1
        cases hum : rg_u s m with
        | false =>
          right
          have nV := nU_no C O hm hum
          rw [hum, show bI false = nI 0 from rfl] at u2
          refine ⟨1, nI 3, nI 0, sr_u t 11 0 0 (nI 3), ?_, rfl, by decide, ?_, pu_us, Sr_0⟩
          · simp (disch := omega) only [pv_lt, pu_ck, pv_bI, pv_bV, pu_bR, pv_bL, pv_nt, pu_us, pu_un, mL_0, mL_1, mL_2, mL_3, mL_4, mL_5, mL_6, mL_7, mL_8, mL_9, mL_10, mL_11, mL_12, mL_13, mL_14, mL_15, mL_16, mL_23, mL_24, mL_32, mL_48, mL_64, mL_99, mL_100, mL_200, mL_336, mL_576, mL_768, mL_800, mL_999, mL_4095, mL_4096, mL_m1, nI_leI, nI_ltI, nI_eq, nI_clamp, nI_add, pk_mul, nI_nu, bI_eq0, bI_eq1, bo_ft, Bool.true_eq_false, Bool.false_eq_true, pu_of, pu_of24, pu_onward, pu_frq, if_true, if_false, true_or, or_true, false_or, or_false, and_true, true_and, and_false, false_and, not_true_eq_false, not_false_eq_true, if_neg, if_pos, F10_apart, n1, n2, en, nU, nV, bVr]
          · simp (disch := omega) only [pv_lt, pu_ck, pv_bI, pv_bV, pu_bR, pv_bL, pv_nt, pu_us, pu_un, mL_0, mL_1, mL_2, mL_3, mL_4, mL_5, mL_6, mL_7, mL_8, mL_9, mL_10, mL_11, mL_12, mL_13, mL_14, mL_15, mL_16, mL_23, mL_24, mL_32, mL_48, mL_64, mL_99, mL_100, mL_200, mL_336, mL_576, mL_768, mL_800, mL_999, mL_4095, mL_4096, mL_m1, nI_leI, nI_ltI, nI_eq, nI_clamp, nI_add, pk_mul, nI_nu, bI_eq0, bI_eq1, bo_ft, Bool.true_eq_false, Bool.false_eq_true, pu_of, pu_of24, pu_onward, pu_frq, if_true, if_false, true_or, or_true, false_or, or_false, and_true, true_and, and_false, false_and, not_true_eq_false, not_false_eq_true, if_neg, if_pos, F11_apart, i1, i2, en, u1, u2, f11_apart_48, pu_ixN']
            exact thr (Or.inr (Or.inr rfl))
        | true =>
          left
          have nV := nU_ok C O hm hum
          obtain ⟨F, t1, e1, f1, r1, S1, c1, c2, c3, c4⟩ := pc_apart (a := n) (b := m) C O (by omega) (by omega) en
          refine ⟨nI F, ⟨t1, ?_, frI_mono f1 (fun k i j e => by unfold S_ap at e; unfold Sc; omega)⟩, fun t' X' ft => ?_⟩
          · simp (disch := omega) only [pv_lt, pu_ck, pv_bI, pv_bV, pu_bR, pv_bL, pv_nt, pu_us, pu_un, mL_0, mL_1, mL_2, mL_3, mL_4, mL_5, mL_6, mL_7, mL_8, mL_9, mL_10, mL_11, mL_12, mL_13, mL_14, mL_15, mL_16, mL_23, mL_24, mL_32, mL_48, mL_64, mL_99, mL_100, mL_200, mL_336, mL_576, mL_768, mL_800, mL_999, mL_4095, mL_4096, mL_m1, nI_leI, nI_ltI, nI_eq, nI_clamp, nI_add, pk_mul, nI_nu, bI_eq0, bI_eq1, bo_ft, Bool.true_eq_false, Bool.false_eq_true, pu_of, pu_of24, pu_onward, pu_frq, if_true, if_false, true_or, or_true, false_or, or_false, and_true, true_and, and_false, false_and, not_true_eq_false, not_false_eq_true, if_neg, if_pos, F10_apart, n1, n2, en, nU, nV, e1]
          · have R' := X'.2.2.2.2.2.1
            have i1 := iN_ok R'.1 O.1 hn
            have i2 := iN_ok R'.1 O.1 hm
            have u1 := (R'.1.2 n hn).2.1
            have u2 := (R'.1.2 m hm).2.1
            rw [hun, show bI true = nI 1 from rfl] at u1
            rw [hum, show bI true = nI 1 from rfl] at u2
            obtain ⟨F', t2, e2, f2, r2, T2, d1, d2, d3, d4⟩ := pr_apart (J_thr (v := nI 0) X').2.2.2.2.2.1 O hn hm en
            have same := fl_same O hn hm hun en c1 c2 c3 c4 d1 d2 d3 d4
            rw [← same] at e2
            refine ⟨t2, ?_, (Sr_q (fr_mono f2 (fun k i j q => by unfold S_gr at q; unfold Sr0; omega))).1, (Sr_q (fr_mono f2 (fun k i j q => by unfold S_gr at q; unfold Sr0; omega))).2⟩
            simp (disch := omega) only [pv_lt, pu_ck, pv_bI, pv_bV, pu_bR, pv_bL, pv_nt, pu_us, pu_un, mL_0, mL_1, mL_2, mL_3, mL_4, mL_5, mL_6, mL_7, mL_8, mL_9, mL_10, mL_11, mL_12, mL_13, mL_14, mL_15, mL_16, mL_23, mL_24, mL_32, mL_48, mL_64, mL_99, mL_100, mL_200, mL_336, mL_576, mL_768, mL_800, mL_999, mL_4095, mL_4096, mL_m1, nI_leI, nI_ltI, nI_eq, nI_clamp, nI_add, pk_mul, nI_nu, bI_eq0, bI_eq1, bo_ft, Bool.true_eq_false, Bool.false_eq_true, pu_of, pu_of24, pu_onward, pu_frq, if_true, if_false, true_or, or_true, false_or, or_false, and_true, true_and, and_false, false_and, not_true_eq_false, not_false_eq_true, if_neg, if_pos, F11_apart, i1, i2, en, u1, u2, pu_ixN']
            simp (disch := omega) only [pv_lt, pu_ck, pv_bI, pv_bV, pu_bR, pv_bL, pv_nt, pu_us, pu_un, mL_0, mL_1, mL_2, mL_3, mL_4, mL_5, mL_6, mL_7, mL_8, mL_9, mL_10, mL_11, mL_12, mL_13, mL_14, mL_15, mL_16, mL_23, mL_24, mL_32, mL_48, mL_64, mL_99, mL_100, mL_200, mL_336, mL_576, mL_768, mL_800, mL_999, mL_4095, mL_4096, mL_m1, nI_leI, nI_ltI, nI_eq, nI_clamp, nI_add, pk_mul, nI_nu, bI_eq0, bI_eq1, bo_ft, Bool.true_eq_false, Bool.false_eq_true, pu_of, pu_of24, pu_onward, pu_frq, if_true, if_false, true_or, or_true, false_or, or_false, and_true, true_and, and_false, false_and, not_true_eq_false, not_false_eq_true, if_neg, if_pos, f11_apart_53]
            exact e2
end
