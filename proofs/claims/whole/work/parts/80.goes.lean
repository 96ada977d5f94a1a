section
/-! the reference's step -/
def S_73 (kp : Bool) (K k i j : Nat) : Prop := (k = 11 ∧ i = 0 ∧ 14 ≤ j ∧ j ≤ 17) ∨ (kp.toNat = 1 ∧ 29 ≤ k ∧ k ≤ 32 ∧ i = 0 ∧ j = K)
set_option maxHeartbeats 2000000 in
theorem pu_g173 {t : sr_t} {kp : Bool} {x y : Int32} {c a h l k s0 w0 b0 : Nat} (hc : c < 3) (hk : k < 200) (H14 : t.1 11 0 14 = nI s0) (H15 : t.1 11 0 15 = nI w0) (H16 : t.1 11 0 16 = nI b0) (H17 : t.1 11 0 17 = nI k) (H22 : t.1 11 0 22 = bI kp) : ∃ t', f11_goes_173 x y (nI c) (nI a) (nI h) (nI l) t = some (.inl none, t') ∧ (t'.1 11 0 14 = nI (s0 + if c = 0 then 1 else 0) ∧ t'.1 11 0 15 = nI (w0 + if c = 1 then 1 else 0) ∧ t'.1 11 0 16 = nI (b0 + if c = 2 then 1 else 0) ∧ t'.1 11 0 17 = nI (k + 1)) ∧ (kp = true → t'.1 29 0 k = nI a ∧ t'.1 30 0 k = nI h ∧ t'.1 31 0 k = nI l ∧ t'.1 32 0 k = nI c) ∧ fr (S_73 kp k) t t' := by
  have tail : ∀ (T : sr_t) (v1 v2 v3 : Nat) (Q : sr_O → sr_t → Prop), T = sr_u (sr_u (sr_u t 11 0 14 (nI v1)) 11 0 15 (nI v2)) 11 0 16 (nI v3) → (∀ t', ((t'.1 11 0 14 = nI v1 ∧ t'.1 11 0 15 = nI v2 ∧ t'.1 11 0 16 = nI v3 ∧ t'.1 11 0 17 = nI (k + 1)) ∧ (kp = true → t'.1 29 0 k = nI a ∧ t'.1 30 0 k = nI h ∧ t'.1 31 0 k = nI l ∧ t'.1 32 0 k = nI c) ∧ fr (S_73 kp k) t t') → Q (.inl none) t') → rs_to Q (if T.1 11 0 22 = nI 0 then f11_goes_279 x y T else (if T.1 11 0 17 < nI 0 ∨ 200 ≤ (T.1 11 0 17).toNatClampNeg then none else sr_lt (sr_u T 29 0 (T.1 11 0 17).toNatClampNeg (nI a)) (fun t2 => (if t2.1 11 0 17 < nI 0 ∨ 200 ≤ (t2.1 11 0 17).toNatClampNeg then none else sr_lt (sr_u t2 30 0 (t2.1 11 0 17).toNatClampNeg (nI h)) (fun t3 => (if t3.1 11 0 17 < nI 0 ∨ 200 ≤ (t3.1 11 0 17).toNatClampNeg then none else sr_lt (sr_u t3 31 0 (t3.1 11 0 17).toNatClampNeg (nI l)) (fun t4 => (if t4.1 11 0 17 < nI 0 ∨ 200 ≤ (t4.1 11 0 17).toNatClampNeg then none else sr_lt (sr_u t4 32 0 (t4.1 11 0 17).toNatClampNeg (nI c)) (fun t5 => f11_goes_279 x y t5))))))))) := by
    intro T v1 v2 v3 Q hT hQ
    have f3 : fr (S_73 kp k) t T := by
      rw [hT]
      exact fr_u (fr_u (fr_u fr_rfl (by unfold S_73; omega)) (by unfold S_73; omega)) (by unfold S_73; omega)
    have e22 : T.1 11 0 22 = bI kp := by rw [f3.2 _ _ _ (by unfold S_73; omega)]; exact H22
    have e17 : T.1 11 0 17 = nI k := by rw [hT]; simp (disch := omega) only [pu_lt, pu_ck, pu_bI, pu_bV, pu_bR, pu_bL, pu_nt, pu_us, pu_un, mL_0, mL_1, mL_2, mL_3, mL_4, mL_5, mL_6, mL_7, mL_8, mL_9, mL_10, mL_11, mL_12, mL_13, mL_14, mL_15, mL_16, mL_23, mL_24, mL_32, mL_48, mL_64, mL_99, mL_100, mL_200, mL_336, mL_576, mL_768, mL_800, mL_999, mL_4095, mL_4096, mL_m1, nI_leI, nI_ltI, nI_eq, nI_clamp, nI_add, pk_mul, nI_nu, bI_eq0, bI_eq1, bo_ft, pu_of, pu_of24, pu_onward, pu_frq, if_true, if_false, true_or, or_true, false_or, or_false, and_true, true_and, and_false, false_and, not_true_eq_false, not_false_eq_true, if_neg, if_pos, H17]
    have e14 : T.1 11 0 14 = nI v1 := by rw [hT]; simp (disch := omega) only [pu_lt, pu_ck, pu_bI, pu_bV, pu_bR, pu_bL, pu_nt, pu_us, pu_un, mL_0, mL_1, mL_2, mL_3, mL_4, mL_5, mL_6, mL_7, mL_8, mL_9, mL_10, mL_11, mL_12, mL_13, mL_14, mL_15, mL_16, mL_23, mL_24, mL_32, mL_48, mL_64, mL_99, mL_100, mL_200, mL_336, mL_576, mL_768, mL_800, mL_999, mL_4095, mL_4096, mL_m1, nI_leI, nI_ltI, nI_eq, nI_clamp, nI_add, pk_mul, nI_nu, bI_eq0, bI_eq1, bo_ft, pu_of, pu_of24, pu_onward, pu_frq, if_true, if_false, true_or, or_true, false_or, or_false, and_true, true_and, and_false, false_and, not_true_eq_false, not_false_eq_true, if_neg, if_pos]
    have e15 : T.1 11 0 15 = nI v2 := by rw [hT]; simp (disch := omega) only [pu_lt, pu_ck, pu_bI, pu_bV, pu_bR, pu_bL, pu_nt, pu_us, pu_un, mL_0, mL_1, mL_2, mL_3, mL_4, mL_5, mL_6, mL_7, mL_8, mL_9, mL_10, mL_11, mL_12, mL_13, mL_14, mL_15, mL_16, mL_23, mL_24, mL_32, mL_48, mL_64, mL_99, mL_100, mL_200, mL_336, mL_576, mL_768, mL_800, mL_999, mL_4095, mL_4096, mL_m1, nI_leI, nI_ltI, nI_eq, nI_clamp, nI_add, pk_mul, nI_nu, bI_eq0, bI_eq1, bo_ft, pu_of, pu_of24, pu_onward, pu_frq, if_true, if_false, true_or, or_true, false_or, or_false, and_true, true_and, and_false, false_and, not_true_eq_false, not_false_eq_true, if_neg, if_pos]
    have e16 : T.1 11 0 16 = nI v3 := by rw [hT]; simp (disch := omega) only [pu_lt, pu_ck, pu_bI, pu_bV, pu_bR, pu_bL, pu_nt, pu_us, pu_un, mL_0, mL_1, mL_2, mL_3, mL_4, mL_5, mL_6, mL_7, mL_8, mL_9, mL_10, mL_11, mL_12, mL_13, mL_14, mL_15, mL_16, mL_23, mL_24, mL_32, mL_48, mL_64, mL_99, mL_100, mL_200, mL_336, mL_576, mL_768, mL_800, mL_999, mL_4095, mL_4096, mL_m1, nI_leI, nI_ltI, nI_eq, nI_clamp, nI_add, pk_mul, nI_nu, bI_eq0, bI_eq1, bo_ft, pu_of, pu_of24, pu_onward, pu_frq, if_true, if_false, true_or, or_true, false_or, or_false, and_true, true_and, and_false, false_and, not_true_eq_false, not_false_eq_true, if_neg, if_pos]
    cases kp with
    | false =>
      have bf : bI false = nI 0 := rfl
      simp (disch := omega) only [pu_lt, pu_ck, pu_bI, pu_bV, pu_bR, pu_bL, pu_nt, pu_us, pu_un, mL_0, mL_1, mL_2, mL_3, mL_4, mL_5, mL_6, mL_7, mL_8, mL_9, mL_10, mL_11, mL_12, mL_13, mL_14, mL_15, mL_16, mL_23, mL_24, mL_32, mL_48, mL_64, mL_99, mL_100, mL_200, mL_336, mL_576, mL_768, mL_800, mL_999, mL_4095, mL_4096, mL_m1, nI_leI, nI_ltI, nI_eq, nI_clamp, nI_add, pk_mul, nI_nu, bI_eq0, bI_eq1, bo_ft, pu_of, pu_of24, pu_onward, pu_frq, if_true, if_false, true_or, or_true, false_or, or_false, and_true, true_and, and_false, false_and, not_true_eq_false, not_false_eq_true, if_neg, if_pos, e22, bf, f11_goes_279, e17]
      refine rs_ret (hQ _ ⟨⟨?_, ?_, ?_, ?_⟩, fun q => absurd q (by decide), fr_u f3 (by unfold S_73; omega)⟩)
      · rw [pu_un (by omega)]; exact e14
      · rw [pu_un (by omega)]; exact e15
      · rw [pu_un (by omega)]; exact e16
      · rw [pu_us]
    | true =>
      have bt : ¬ bI true = nI 0 := by decide
      have k1 : (true : Bool).toNat = 1 := rfl
      simp (disch := omega) only [pu_lt, pu_ck, pu_bI, pu_bV, pu_bR, pu_bL, pu_nt, pu_us, pu_un, mL_0, mL_1, mL_2, mL_3, mL_4, mL_5, mL_6, mL_7, mL_8, mL_9, mL_10, mL_11, mL_12, mL_13, mL_14, mL_15, mL_16, mL_23, mL_24, mL_32, mL_48, mL_64, mL_99, mL_100, mL_200, mL_336, mL_576, mL_768, mL_800, mL_999, mL_4095, mL_4096, mL_m1, nI_leI, nI_ltI, nI_eq, nI_clamp, nI_add, pk_mul, nI_nu, bI_eq0, bI_eq1, bo_ft, pu_of, pu_of24, pu_onward, pu_frq, if_true, if_false, true_or, or_true, false_or, or_false, and_true, true_and, and_false, false_and, not_true_eq_false, not_false_eq_true, if_neg, if_pos, e22, bt, f11_goes_279, e17, pu_ixN']
      refine rs_ret (hQ _ ⟨⟨?_, ?_, ?_, ?_⟩, fun _ => ⟨?_, ?_, ?_, ?_⟩, fr_u (fr_u (fr_u (fr_u (fr_u f3 (by unfold S_73; omega)) (by unfold S_73; omega)) (by unfold S_73; omega)) (by unfold S_73; omega)) (by unfold S_73; omega)⟩)
      · rw [pu_un (by omega), pu_un (by omega), pu_un (by omega), pu_un (by omega), pu_un (by omega)]; exact e14
      · rw [pu_un (by omega), pu_un (by omega), pu_un (by omega), pu_un (by omega), pu_un (by omega)]; exact e15
      · rw [pu_un (by omega), pu_un (by omega), pu_un (by omega), pu_un (by omega), pu_un (by omega)]; exact e16
      · rw [pu_us]
      · rw [pu_un (by omega), pu_un (by omega), pu_un (by omega), pu_un (by omega), pu_us]
      · rw [pu_un (by omega), pu_un (by omega), pu_un (by omega), pu_us]
      · rw [pu_un (by omega), pu_un (by omega), pu_us]
      · rw [pu_un (by omega), pu_us]
  refine rs_via fun Q hQ => ?_
  have hc3 : c = 0 ∨ c = 1 ∨ c = 2 := by omega
  rcases hc3 with rfl | rfl | rfl
  · have q := tail _ (s0 + 1) w0 b0 Q rfl hQ
    simp (disch := omega) only [pu_lt, pu_ck, pu_bI, pu_bV, pu_bR, pu_bL, pu_nt, pu_us, pu_un, mL_0, mL_1, mL_2, mL_3, mL_4, mL_5, mL_6, mL_7, mL_8, mL_9, mL_10, mL_11, mL_12, mL_13, mL_14, mL_15, mL_16, mL_23, mL_24, mL_32, mL_48, mL_64, mL_99, mL_100, mL_200, mL_336, mL_576, mL_768, mL_800, mL_999, mL_4095, mL_4096, mL_m1, nI_leI, nI_ltI, nI_eq, nI_clamp, nI_add, pk_mul, nI_nu, bI_eq0, bI_eq1, bo_ft, pu_of, pu_of24, pu_onward, pu_frq, if_true, if_false, true_or, or_true, false_or, or_false, and_true, true_and, and_false, false_and, not_true_eq_false, not_false_eq_true, if_neg, if_pos, f11_goes_173, f11_goes_187, f11_goes_206, f11_goes_225, H14, H15, H16, Nat.add_zero]
    simp (disch := omega) only [pu_lt, pu_ck, pu_bI, pu_bV, pu_bR, pu_bL, pu_nt, pu_us, pu_un, mL_0, mL_1, mL_2, mL_3, mL_4, mL_5, mL_6, mL_7, mL_8, mL_9, mL_10, mL_11, mL_12, mL_13, mL_14, mL_15, mL_16, mL_23, mL_24, mL_32, mL_48, mL_64, mL_99, mL_100, mL_200, mL_336, mL_576, mL_768, mL_800, mL_999, mL_4095, mL_4096, mL_m1, nI_leI, nI_ltI, nI_eq, nI_clamp, nI_add, pk_mul, nI_nu, bI_eq0, bI_eq1, bo_ft, pu_of, pu_of24, pu_onward, pu_frq, if_true, if_false, true_or, or_true, false_or, or_false, and_true, true_and, and_false, false_and, not_true_eq_false, not_false_eq_true, if_neg, if_pos] at q
    exact q
  · have q := tail _ s0 (w0 + 1) b0 Q rfl hQ
    simp (disch := omega) only [pu_lt, pu_ck, pu_bI, pu_bV, pu_bR, pu_bL, pu_nt, pu_us, pu_un, mL_0, mL_1, mL_2, mL_3, mL_4, mL_5, mL_6, mL_7, mL_8, mL_9, mL_10, mL_11, mL_12, mL_13, mL_14, mL_15, mL_16, mL_23, mL_24, mL_32, mL_48, mL_64, mL_99, mL_100, mL_200, mL_336, mL_576, mL_768, mL_800, mL_999, mL_4095, mL_4096, mL_m1, nI_leI, nI_ltI, nI_eq, nI_clamp, nI_add, pk_mul, nI_nu, bI_eq0, bI_eq1, bo_ft, pu_of, pu_of24, pu_onward, pu_frq, if_true, if_false, true_or, or_true, false_or, or_false, and_true, true_and, and_false, false_and, not_true_eq_false, not_false_eq_true, if_neg, if_pos, f11_goes_173, f11_goes_187, f11_goes_206, f11_goes_225, H14, H15, H16, Nat.add_zero]
    simp (disch := omega) only [pu_lt, pu_ck, pu_bI, pu_bV, pu_bR, pu_bL, pu_nt, pu_us, pu_un, mL_0, mL_1, mL_2, mL_3, mL_4, mL_5, mL_6, mL_7, mL_8, mL_9, mL_10, mL_11, mL_12, mL_13, mL_14, mL_15, mL_16, mL_23, mL_24, mL_32, mL_48, mL_64, mL_99, mL_100, mL_200, mL_336, mL_576, mL_768, mL_800, mL_999, mL_4095, mL_4096, mL_m1, nI_leI, nI_ltI, nI_eq, nI_clamp, nI_add, pk_mul, nI_nu, bI_eq0, bI_eq1, bo_ft, pu_of, pu_of24, pu_onward, pu_frq, if_true, if_false, true_or, or_true, false_or, or_false, and_true, true_and, and_false, false_and, not_true_eq_false, not_false_eq_true, if_neg, if_pos] at q
    exact q
  · have q := tail _ s0 w0 (b0 + 1) Q rfl hQ
    simp (disch := omega) only [pu_lt, pu_ck, pu_bI, pu_bV, pu_bR, pu_bL, pu_nt, pu_us, pu_un, mL_0, mL_1, mL_2, mL_3, mL_4, mL_5, mL_6, mL_7, mL_8, mL_9, mL_10, mL_11, mL_12, mL_13, mL_14, mL_15, mL_16, mL_23, mL_24, mL_32, mL_48, mL_64, mL_99, mL_100, mL_200, mL_336, mL_576, mL_768, mL_800, mL_999, mL_4095, mL_4096, mL_m1, nI_leI, nI_ltI, nI_eq, nI_clamp, nI_add, pk_mul, nI_nu, bI_eq0, bI_eq1, bo_ft, pu_of, pu_of24, pu_onward, pu_frq, if_true, if_false, true_or, or_true, false_or, or_false, and_true, true_and, and_false, false_and, not_true_eq_false, not_false_eq_true, if_neg, if_pos, f11_goes_173, f11_goes_187, f11_goes_206, f11_goes_225, H14, H15, H16, Nat.add_zero]
    simp (disch := omega) only [pu_lt, pu_ck, pu_bI, pu_bV, pu_bR, pu_bL, pu_nt, pu_us, pu_un, mL_0, mL_1, mL_2, mL_3, mL_4, mL_5, mL_6, mL_7, mL_8, mL_9, mL_10, mL_11, mL_12, mL_13, mL_14, mL_15, mL_16, mL_23, mL_24, mL_32, mL_48, mL_64, mL_99, mL_100, mL_200, mL_336, mL_576, mL_768, mL_800, mL_999, mL_4095, mL_4096, mL_m1, nI_leI, nI_ltI, nI_eq, nI_clamp, nI_add, pk_mul, nI_nu, bI_eq0, bI_eq1, bo_ft, pu_of, pu_of24, pu_onward, pu_frq, if_true, if_false, true_or, or_true, false_or, or_false, and_true, true_and, and_false, false_and, not_true_eq_false, not_false_eq_true, if_neg, if_pos] at q
    exact q
set_option maxHeartbeats 2000000 in
theorem pu_gTail {t0 t tt : sr_t} {s : rg_T} {kp : Bool} {key n k c m h' l' : Nat} {best : Bool} (R : rg_RN t s) (O : rg_ok s) (hn : n < rg_N s) (hu : rg_u s n = true) (hkey : key < 4096) (hk : k < lk_n s key best n) (I : rf_I t0 t kp s key best n k) (ft : fr S_sr t tt) (es : lk s key best n (k + 1) = (c, m, h', l')) (hm : m < rg_N s) (hc3 : c < 3) (hc : (c = 2 ∧ rg_sta s key best m = (h', l')) ∨ (c ≠ 2 ∧ tt.1 11 0 11 = nI h' ∧ tt.1 11 0 12 = nI l')) : ∃ t', f11_goes_156 (nI key) (bI best) (nI c) (nI (lk_at s key best n k)) (nI (lk_he s key best n k)) (nI (lk_le s key best n k)) (nI m) tt = some (.inl none, t') ∧ rf_I t0 t' kp s key best n (k + 1) ∧ fr (S_gs kp) t t' := by
  have hN := O.1.1
  obtain ⟨o1, o2, o3, o4⟩ := lk_ok (key := key) (best := best) O hn hu k (Nat.le_of_lt hk)
  have k200 := lk_n_le (s := s) (key := key) (n := n) (best := best)
  obtain ⟨⟨H10, H11, H12, H17⟩, ⟨H13, H14, H15, H16, H19⟩, H22, Ir, Iv, Ix⟩ := id I
  have R1 := rg_RN_fr O ft (fun k i j q => by unfold Fp_R at q; unfold S_sr; omega) R
  obtain ⟨t1, e1, p10, p13, p19, pv, px, pf⟩ := pu_hopsTo R1 O o1 hm (by rw [ft.2 _ _ _ (by unfold S_sr; omega)]; exact H10) (by rw [ft.2 _ _ _ (by unfold S_sr; omega)]; exact H13) (by rw [ft.2 _ _ _ (by unfold S_sr; omega)]; exact H19)
  have R2 := rg_RN_fr O pf (fun k i j q => by unfold Fp_R at q; unfold S_hp; omega) R1
  obtain ⟨t2, e2, z11, z12, zf⟩ : ∃ t2, (if nI c = nI 2 then sr_bV (F11_starts (nI key) (bI best) t1) (fun t2 => f11_goes_173 (nI key) (bI best) (nI c) (nI (lk_at s key best n k)) (nI (lk_he s key best n k)) (nI (lk_le s key best n k)) t2) else f11_goes_173 (nI key) (bI best) (nI c) (nI (lk_at s key best n k)) (nI (lk_he s key best n k)) (nI (lk_le s key best n k)) t1) = f11_goes_173 (nI key) (bI best) (nI c) (nI (lk_at s key best n k)) (nI (lk_he s key best n k)) (nI (lk_le s key best n k)) t2 ∧ t2.1 11 0 11 = nI h' ∧ t2.1 11 0 12 = nI l' ∧ fr S_sr t1 t2 := by
    rcases hc with ⟨hc, hst⟩ | ⟨hc, y1, y2⟩
    · obtain ⟨t2, g1, g2, g3, g4⟩ := pu_startR (best := best) R2 O hm hkey p10
      rw [hst] at g2 g3
      refine ⟨t2, ?_, g2, g3, g4⟩
      rw [if_pos (by rw [hc]), g1]
      rfl
    · refine ⟨t1, ?_, ?_, ?_, fr_rfl⟩
      · rw [if_neg (fun q => hc ((nI_eq (by omega) (by omega)).mp q))]
      · rw [pf.2 _ _ _ (by unfold S_hp; omega)]; exact y1
      · rw [pf.2 _ _ _ (by unfold S_hp; omega)]; exact y2
  have fA : fr (S_gs kp) t t2 := fr_trans (fr_mono ft (fun k i j q => by unfold S_sr at q; unfold S_gs; omega)) (fr_trans (fr_mono pf (fun k i j q => by unfold S_hp at q; unfold S_gs; omega)) (fr_mono zf (fun k i j q => by unfold S_sr at q; unfold S_gs; omega)))
  have g : ∀ k i j, ¬ S_sr k i j → ¬ S_hp k i j → t2.1 k i j = t.1 k i j := fun k i j q1 q2 => by rw [zf.2 k i j q1, pf.2 k i j q2, ft.2 k i j q1]
  obtain ⟨t3, e3, ⟨w14, w15, w16, w17⟩, wr, wf⟩ := pu_g173 (t := t2) (kp := kp) (x := nI key) (y := bI best) (c := c) (a := lk_at s key best n k) (h := lk_he s key best n k) (l := lk_le s key best n k) (k := k) hc3 (by omega) ((g _ _ _ (by unfold S_sr; omega) (by unfold S_hp; omega)).trans H14) ((g _ _ _ (by unfold S_sr; omega) (by unfold S_hp; omega)).trans H15) ((g _ _ _ (by unfold S_sr; omega) (by unfold S_hp; omega)).trans H16) ((g _ _ _ (by unfold S_sr; omega) (by unfold S_hp; omega)).trans H17) ((g _ _ _ (by unfold S_sr; omega) (by unfold S_hp; omega)).trans H22)
  refine ⟨t3, ?_, ?_, fr_trans fA (fr_mono wf (fun k i j q => by unfold S_73 at q; unfold S_gs; omega))⟩
  · unfold f11_goes_156
    rw [e1, pu_bV]
    exact e2.trans e3
  · refine rf_next I rfl es ?_ ?_ ?_ w17 ?_ w14 w15 w16 ?_ ?_ ?_ ?_ ?_
    · rw [wf.2 _ _ _ (by unfold S_73; omega), zf.2 _ _ _ (by unfold S_sr; omega)]; exact p10
    · rw [wf.2 _ _ _ (by unfold S_73; omega)]; exact z11
    · rw [wf.2 _ _ _ (by unfold S_73; omega)]; exact z12
    · rw [wf.2 _ _ _ (by unfold S_73; omega), zf.2 _ _ _ (by unfold S_sr; omega)]; exact p13
    · rw [wf.2 _ _ _ (by unfold S_73; omega), zf.2 _ _ _ (by unfold S_sr; omega)]; exact p19
    · rw [wf.2 _ _ _ (by unfold S_73; omega), g _ _ _ (by unfold S_sr; omega) (by unfold S_hp; omega)]; exact H22
    · intro hkp
      refine ⟨wr hkp, fun x j h1 h2 h3 => ?_⟩
      rw [wf.2 _ _ _ (by unfold S_73; omega), g _ _ _ (by unfold S_sr; omega) (by unfold S_hp; omega)]
    · intro y hy
      rw [wf.2 _ _ _ (by unfold S_73; omega), zf.2 _ _ _ (by unfold S_sr; omega), pv y hy, ft.2 _ _ _ (by unfold S_sr; omega)]
    · intro x y hx hy
      rw [wf.2 _ _ _ (by unfold S_73; omega), zf.2 _ _ _ (by unfold S_sr; omega), px x y hx hy, ft.2 _ _ _ (by unfold S_sr; omega)]
set_option maxHeartbeats 4000000 in
theorem pu_goes {t0 t : sr_t} {s : rg_T} {kp : Bool} {key n k : Nat} {best : Bool} (R : rg_RN t s) (O : rg_ok s) (hn : n < rg_N s) (hu : rg_u s n = true) (hkey : key < 4096) (hk : k < lk_n s key best n) (I : rf_I t0 t kp s key best n k) : ∃ t', F11_goes (nI key) (bI best) t = some (.inl none, t') ∧ rf_I t0 t' kp s key best n (k + 1) ∧ fr (S_gs kp) t t' := by
  have hN := O.1.1
  obtain ⟨o1, o2, o3, o4⟩ := lk_ok (key := key) (best := best) O hn hu k (Nat.le_of_lt hk)
  obtain ⟨x1, x2⟩ := lk_nf hk
  obtain ⟨y1, y2⟩ : rg_nx s (lk_at s key best n k) < rg_N s ∧ rg_u s (rg_nx s (lk_at s key best n k)) = true := by
    rcases rg_nx_cases O o1 with h | h
    · exact absurd h x1
    · exact ⟨h.1, h.2 o2⟩
  obtain ⟨⟨H10, H11, H12, H17⟩, _⟩ := id I
  obtain ⟨b1, b4⟩ := O.1.2.1
  have hL := pu_Lpos b1 b4
  have nx := pu_nextOf R O o1
  rw [nu_lt (by omega)] at nx
  have tb0 := pu_tb0 R O o1
  have hb := (rg_RN_hd R).2
  have t0' := (O.2 _ o1).1
  have p16 := pu_pow16 b4
  have est : lk s key best n (k + 1) = lk_step s key best (lk s key best n k) := rfl
  unfold lk_step at est
  by_cases hold : rg_t s (lk_at s key best n k) 0 = 2 ^ rg_b s
  · have hold' : ¬ rg_t s (lk s key best n k).2.1 0 ≠ 2 ^ rg_b s := fun h => h hold
    rw [if_neg hold'] at est
    have inA := pu_inArcR R O o1 x1 o3
    by_cases hsh : 0 < lk_le s key best n k ∧ pu_d (rg_p s (lk_at s key best n k)) (lk_he s key best n k) < rg_ar s (lk_at s key best n k)
    · have hsh' : 0 < (lk s key best n k).2.2.2 ∧ pu_d (rg_p s (lk s key best n k).2.1) (lk s key best n k).2.2.1 < rg_ar s (lk s key best n k).2.1 := hsh
      rw [if_pos hsh'] at est
      obtain ⟨s1, s2⟩ := hsh
      rw [decide_eq_true s2] at inA
      have bt : ¬ bI true = nI 0 := by decide
      have ll := pu_lettersR hb O.1
      have le := pu_letterR (k := 12 / rg_b s - lk_le s key best n k) hb O.1 hkey (by omega)
      have lel : rg_lt (rg_b s) key (12 / rg_b s - lk_le s key best n k) < 16 := by
        have := rg_lt_lt (b := rg_b s) (q := key) (k := 12 / rg_b s - lk_le s key best n k)
        omega
      have hqb := rg_qb o3 b4
      have shl := rg_sh_lt (b := rg_b s) (q := lk_he s key best n k) (c := rg_lt (rg_b s) key (12 / rg_b s - lk_le s key best n k))
      have shE : (lk_he s key best n k * 2 ^ rg_b s + rg_lt (rg_b s) key (12 / rg_b s - lk_le s key best n k)) % 4096 = rg_sh (rg_b s) (lk_he s key best n k) (rg_lt (rg_b s) key (12 / rg_b s - lk_le s key best n k)) := rfl
      have l1 : nI (lk_le s key best n k) - nI 1 = nI (lk_le s key best n k - 1) := pk_sub (by omega)
      have ls : nI (12 / rg_b s) - nI (lk_le s key best n k) = nI (12 / rg_b s - lk_le s key best n k) := pk_sub (by omega)
      have est' : lk s key best n (k + 1) = (if rg_ptr s (lk_at s key best n k) (rg_sh (rg_b s) (lk_he s key best n k) (rg_lt (rg_b s) key (12 / rg_b s - lk_le s key best n k))) = 24 then (2, rg_nx s (lk_at s key best n k), rg_sta s key best (rg_nx s (lk_at s key best n k))) else (0, rg_ptr s (lk_at s key best n k) (rg_sh (rg_b s) (lk_he s key best n k) (rg_lt (rg_b s) key (12 / rg_b s - lk_le s key best n k))), rg_sh (rg_b s) (lk_he s key best n k) (rg_lt (rg_b s) key (12 / rg_b s - lk_le s key best n k)), lk_le s key best n k - 1)) := est
      have ft : fr S_sr t (sr_u (sr_u t 11 0 11 (nI (rg_sh (rg_b s) (lk_he s key best n k) (rg_lt (rg_b s) key (12 / rg_b s - lk_le s key best n k))))) 11 0 12 (nI (lk_le s key best n k - 1))) := fr_u (fr_u fr_rfl (by unfold S_sr; omega)) (by unfold S_sr; omega)
      have R1 := rg_RN_fr O ft (fun k i j q => by unfold Fp_R at q; unfold S_sr; omega) R
      have pt := pu_ptrR R1 O o1 shl
      rcases rg_ptr_cases (h := rg_sh (rg_b s) (lk_he s key best n k) (rg_lt (rg_b s) key (12 / rg_b s - lk_le s key best n k))) O o1 with hp | ⟨hp1, hp2⟩
      · rw [if_pos hp] at est'
        rw [hp] at pt
        obtain ⟨t', g1, g2, g3⟩ := pu_gTail (t0 := t0) R O hn hu hkey hk I ft est' y1 (by omega) (Or.inl ⟨rfl, rfl⟩)
        refine ⟨t', ?_, g2, g3⟩
        simp (disch := omega) only [pu_lt, pu_ck, pu_bI, pu_bV, pu_bR, pu_bL, pu_nt, pu_us, pu_un, mL_0, mL_1, mL_2, mL_3, mL_4, mL_5, mL_6, mL_7, mL_8, mL_9, mL_10, mL_11, mL_12, mL_13, mL_14, mL_15, mL_16, mL_23, mL_24, mL_32, mL_48, mL_64, mL_99, mL_100, mL_200, mL_336, mL_576, mL_768, mL_800, mL_999, mL_4095, mL_4096, mL_m1, nI_leI, nI_ltI, nI_eq, nI_clamp, nI_add, pk_mul, nI_nu, bI_eq0, bI_eq1, bo_ft, pu_of, pu_of24, pu_onward, pu_frq, if_true, if_false, true_or, or_true, false_or, or_false, and_true, true_and, and_false, false_and, not_true_eq_false, not_false_eq_true, if_neg, if_pos, F11_goes, H10, H11, H12, nx, tb0, hb, hold, inA, bt, ll, ls, le, pk_rem96, shE, l1, pt, f11_goes_140, f11_goes_154]
        exact g1
      · rw [if_neg (by omega)] at est'
        rw [nu_lt (by omega)] at pt
        obtain ⟨t', g1, g2, g3⟩ := pu_gTail (t0 := t0) R O hn hu hkey hk I ft est' hp1 (by omega) (Or.inr ⟨by omega, by rw [pu_un (by omega), pu_us], by rw [pu_us]⟩)
        refine ⟨t', ?_, g2, g3⟩
        simp (disch := omega) only [pu_lt, pu_ck, pu_bI, pu_bV, pu_bR, pu_bL, pu_nt, pu_us, pu_un, mL_0, mL_1, mL_2, mL_3, mL_4, mL_5, mL_6, mL_7, mL_8, mL_9, mL_10, mL_11, mL_12, mL_13, mL_14, mL_15, mL_16, mL_23, mL_24, mL_32, mL_48, mL_64, mL_99, mL_100, mL_200, mL_336, mL_576, mL_768, mL_800, mL_999, mL_4095, mL_4096, mL_m1, nI_leI, nI_ltI, nI_eq, nI_clamp, nI_add, pk_mul, nI_nu, bI_eq0, bI_eq1, bo_ft, pu_of, pu_of24, pu_onward, pu_frq, if_true, if_false, true_or, or_true, false_or, or_false, and_true, true_and, and_false, false_and, not_true_eq_false, not_false_eq_true, if_neg, if_pos, F11_goes, H10, H11, H12, nx, tb0, hb, hold, inA, bt, ll, ls, le, pk_rem96, shE, l1, pt, f11_goes_140, f11_goes_154]
        exact g1
    · have hsh' : ¬ (0 < (lk s key best n k).2.2.2 ∧ pu_d (rg_p s (lk s key best n k).2.1) (lk s key best n k).2.2.1 < rg_ar s (lk s key best n k).2.1) := hsh
      rw [if_neg hsh'] at est
      have est' : lk s key best n (k + 1) = (1, rg_nx s (lk_at s key best n k), lk_he s key best n k, lk_le s key best n k) := est
      obtain ⟨t', g1, g2, g3⟩ := pu_gTail (t0 := t0) R O hn hu hkey hk I fr_rfl est' y1 (by omega) (Or.inr ⟨by omega, H11, H12⟩)
      refine ⟨t', ?_, g2, g3⟩
      by_cases hd : pu_d (rg_p s (lk_at s key best n k)) (lk_he s key best n k) < rg_ar s (lk_at s key best n k)
      · have hl0 : lk_le s key best n k = 0 := by
          apply Decidable.byContradiction
          intro q
          exact hsh ⟨by omega, hd⟩
        rw [decide_eq_true hd] at inA
        have bt : ¬ bI true = nI 0 := by decide
        rw [hl0] at H12 g1
        simp (disch := omega) only [pu_lt, pu_ck, pu_bI, pu_bV, pu_bR, pu_bL, pu_nt, pu_us, pu_un, mL_0, mL_1, mL_2, mL_3, mL_4, mL_5, mL_6, mL_7, mL_8, mL_9, mL_10, mL_11, mL_12, mL_13, mL_14, mL_15, mL_16, mL_23, mL_24, mL_32, mL_48, mL_64, mL_99, mL_100, mL_200, mL_336, mL_576, mL_768, mL_800, mL_999, mL_4095, mL_4096, mL_m1, nI_leI, nI_ltI, nI_eq, nI_clamp, nI_add, pk_mul, nI_nu, bI_eq0, bI_eq1, bo_ft, pu_of, pu_of24, pu_onward, pu_frq, if_true, if_false, true_or, or_true, false_or, or_false, and_true, true_and, and_false, false_and, not_true_eq_false, not_false_eq_true, if_neg, if_pos, F11_goes, H10, H11, H12, nx, tb0, hb, hold, inA, bt]
        exact g1
      · rw [decide_eq_false hd] at inA
        have bf : bI false = nI 0 := rfl
        simp (disch := omega) only [pu_lt, pu_ck, pu_bI, pu_bV, pu_bR, pu_bL, pu_nt, pu_us, pu_un, mL_0, mL_1, mL_2, mL_3, mL_4, mL_5, mL_6, mL_7, mL_8, mL_9, mL_10, mL_11, mL_12, mL_13, mL_14, mL_15, mL_16, mL_23, mL_24, mL_32, mL_48, mL_64, mL_99, mL_100, mL_200, mL_336, mL_576, mL_768, mL_800, mL_999, mL_4095, mL_4096, mL_m1, nI_leI, nI_ltI, nI_eq, nI_clamp, nI_add, pk_mul, nI_nu, bI_eq0, bI_eq1, bo_ft, pu_of, pu_of24, pu_onward, pu_frq, if_true, if_false, true_or, or_true, false_or, or_false, and_true, true_and, and_false, false_and, not_true_eq_false, not_false_eq_true, if_neg, if_pos, F11_goes, H10, H11, H12, nx, tb0, hb, hold, inA, bf]
        exact g1
  · have hold' : rg_t s (lk s key best n k).2.1 0 ≠ 2 ^ rg_b s := hold
    rw [if_pos hold'] at est
    obtain ⟨t', g1, g2, g3⟩ := pu_gTail (t0 := t0) R O hn hu hkey hk I fr_rfl est y1 (by omega) (Or.inl ⟨rfl, rfl⟩)
    refine ⟨t', ?_, g2, g3⟩
    simp (disch := omega) only [pu_lt, pu_ck, pu_bI, pu_bV, pu_bR, pu_bL, pu_nt, pu_us, pu_un, mL_0, mL_1, mL_2, mL_3, mL_4, mL_5, mL_6, mL_7, mL_8, mL_9, mL_10, mL_11, mL_12, mL_13, mL_14, mL_15, mL_16, mL_23, mL_24, mL_32, mL_48, mL_64, mL_99, mL_100, mL_200, mL_336, mL_576, mL_768, mL_800, mL_999, mL_4095, mL_4096, mL_m1, nI_leI, nI_ltI, nI_eq, nI_clamp, nI_add, pk_mul, nI_nu, bI_eq0, bI_eq1, bo_ft, pu_of, pu_of24, pu_onward, pu_frq, if_true, if_false, true_or, or_true, false_or, or_false, and_true, true_and, and_false, false_and, not_true_eq_false, not_false_eq_true, if_neg, if_pos, F11_goes, H10, H11, H12, nx, tb0, hb, hold]
    exact g1
end
