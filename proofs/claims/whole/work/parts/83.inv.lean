section
/-! the invariant, and what a step owes -/
def la_I (t : sr_t) : Prop := (t.1 8 0 9 = t.1 33 0 0 ∧ t.1 8 0 10 = t.1 33 0 1 ∧ t.1 8 0 11 = t.1 33 0 2 ∧ t.1 8 0 12 = t.1 33 0 3 ∧ t.1 8 0 13 = t.1 33 0 8 ∧ t.1 8 0 14 = t.1 33 0 6) ∧ (∃ b : Bool, t.1 8 0 7 = bI b ∧ t.1 33 0 4 = bI b) ∧ (∃ a, a ≤ 24 ∧ t.1 8 0 3 = nI a ∧ t.1 33 0 7 = nu a) ∧ (∃ st, st ≤ 200 ∧ t.1 8 0 8 = nI st ∧ t.1 33 0 5 = nI st ∧ t.1 11 0 28 = nI st ∧ ∀ j, j < st → t.1 14 0 (4 * j) = t.1 29 0 j ∧ t.1 14 0 (4 * j + 1) = t.1 30 0 j ∧ t.1 14 0 (4 * j + 2) = t.1 31 0 j ∧ t.1 14 0 (4 * j + 3) = t.1 32 0 j) ∧ (∃ wm, wm ≤ 4 ∧ t.1 4 104 1 = nI wm ∧ t.1 11 0 30 = nI wm ∧ ∀ j, j < wm → t.1 12 104 j = t.1 34 0 j)
/-- (known, puts, copies), keys, latest versions, values and versions by key and node -/
abbrev st_T : Type := (Nat × Nat × Nat) × (Nat → Nat) × (Nat → Nat) × (Nat → Nat → Nat) × (Nat → Nat → Nat)
def st_I (i : Nat) (t : sr_t) (N : Nat) (w : st_T) : Prop := (w.1.1 ≤ 32 ∧ w.1.2.1 ≤ i ∧ 1 ≤ w.1.2.2 ∧ w.1.2.2 ≤ 3) ∧ (t.1 6 0 2 = nI w.1.1 ∧ t.1 6 0 3 = nI w.1.2.1 ∧ t.1 6 0 4 = nI w.1.2.2) ∧ (t.1 11 0 33 = nI w.1.1 ∧ t.1 11 0 34 = nI w.1.2.1 ∧ t.1 11 0 9 = nI w.1.2.2) ∧ (∀ k, k < w.1.1 → w.2.1 k < 4096 ∧ w.2.2.1 k ≤ w.1.2.1 ∧ t.1 0 k 0 = nI (w.2.1 k) ∧ t.1 0 k 1 = nI (w.2.2.1 k) ∧ t.1 37 0 k = nI (w.2.1 k) ∧ t.1 38 0 k = nI (w.2.2.1 k)) ∧ (∀ k, k < 32 → ∀ n, n < 24 → w.2.2.2.2 k n ≤ w.1.2.1 ∧ w.2.2.2.1 k n ≤ 999 ∧ t.1 20 k n = nI (w.2.2.2.1 k n) ∧ t.1 21 k n = nI (w.2.2.2.2 k n) ∧ t.1 39 0 (32 * n + k) = nI (w.2.2.2.1 k n) ∧ t.1 40 0 (32 * n + k) = nI (w.2.2.2.2 k n) ∧ (w.1.1 ≤ k ∨ N ≤ n → w.2.2.2.2 k n = 0)) ∧ (∀ n, n < 24 → t.1 21 32 n = nI 0) ∧ t.1 0 32 1 = nI 0
def J (i : Nat) (t : sr_t) (s : rg_T) (w : st_T) : Prop := rg_ok s ∧ rg_C t 0 s ∧ rg_K t 0 s ∧ rg_nob t 1 ∧ (∀ n, rg_N s ≤ n → n < 24 → t.1 2 n 3 = nI 0) ∧ rg_R t s ∧ t.1 11 0 22 = nI 0 ∧ la_I t ∧ st_I i t (rg_N s) w
def sr_Inv (i : Nat) (t : sr_t) : Prop := i ≤ 2048 ∧ ∃ s w, J i t s w
/-- what a question may change of the class, of the reference -/
def Sc (k i j : Nat) : Prop := (k = 8 ∧ 1 ≤ i) ∨ (k = 14 ∧ 1 ≤ i) ∨ ((k = 4 ∨ k = 12) ∧ 50 ≤ i ∧ i ≠ 104) ∨ (k = 7 ∧ 25 ≤ i) ∨ (k = 2 ∧ 25 ≤ i ∧ i < 49 ∧ 1 ≤ j) ∨ (k = 3 ∧ i = 1) ∨ k = 5 ∨ (15 ≤ k ∧ k ≤ 19)
def Sr (k _i j : Nat) : Prop := (k = 11 ∧ (j = 0 ∨ (10 ≤ j ∧ j ≤ 21) ∨ 40 ≤ j)) ∨ k = 28 ∨ k = 35 ∨ k = 36 ∨ 41 ≤ k
def frI (S : Nat → Nat → Nat → Prop) (t t' : sr_t) : Prop := ∀ k i j, ¬ S k i j → t'.1 k i j = t.1 k i j
def Sq (k i j : Nat) : Prop := Sc k i j ∨ Sr k i j
theorem frI_of {S : Nat → Nat → Nat → Prop} {t t' : sr_t} (h : fr S t t') : frI S t t' := h.2
theorem frI_mono {S S' : Nat → Nat → Nat → Prop} {t t1 : sr_t} (h : frI S t t1) (hs : ∀ k i j, S k i j → S' k i j) : frI S' t t1 := fun k i j hn => h k i j (fun q => hn (hs k i j q))
theorem frI_trans {S : Nat → Nat → Nat → Prop} {t t1 t2 : sr_t} (h1 : frI S t t1) (h2 : frI S t1 t2) : frI S t t2 := fun k i j h => (h2 k i j h).trans (h1 k i j h)
theorem la_I_fr {t t' : sr_t} {S : Nat → Nat → Nat → Prop} (h : frI S t t') (hs : ∀ k i j, ((k = 8 ∧ i = 0) ∨ (k = 14 ∧ i = 0) ∨ ((k = 4 ∨ k = 12) ∧ i = 104) ∨ (k = 33 ∧ i = 0) ∨ (k = 34 ∧ i = 0) ∨ (29 ≤ k ∧ k ≤ 32 ∧ i = 0) ∨ (k = 11 ∧ i = 0 ∧ (j = 28 ∨ j = 30))) → ¬ S k i j) (L : la_I t) : la_I t' := by
  have g : ∀ k i j, ((k = 8 ∧ i = 0) ∨ (k = 14 ∧ i = 0) ∨ ((k = 4 ∨ k = 12) ∧ i = 104) ∨ (k = 33 ∧ i = 0) ∨ (k = 34 ∧ i = 0) ∨ (29 ≤ k ∧ k ≤ 32 ∧ i = 0) ∨ (k = 11 ∧ i = 0 ∧ (j = 28 ∨ j = 30))) → t'.1 k i j = t.1 k i j := fun k i j q => h k i j (hs k i j q)
  obtain ⟨⟨h1, h2, h3, h4, h5, h6⟩, ⟨b, b1, b2⟩, ⟨a, a1, a2, a3⟩, ⟨st, s1, s2, s3, s4, s5⟩, ⟨wm, w1, w2, w3, w4⟩⟩ := L
  refine ⟨⟨?_, ?_, ?_, ?_, ?_, ?_⟩, ⟨b, ?_, ?_⟩, ⟨a, a1, ?_, ?_⟩, ⟨st, s1, ?_, ?_, ?_, fun j hj => ?_⟩, ⟨wm, w1, ?_, ?_, fun j hj => ?_⟩⟩
  · rw [g _ _ _ (by omega), g _ _ _ (by omega)]; exact h1
  · rw [g _ _ _ (by omega), g _ _ _ (by omega)]; exact h2
  · rw [g _ _ _ (by omega), g _ _ _ (by omega)]; exact h3
  · rw [g _ _ _ (by omega), g _ _ _ (by omega)]; exact h4
  · rw [g _ _ _ (by omega), g _ _ _ (by omega)]; exact h5
  · rw [g _ _ _ (by omega), g _ _ _ (by omega)]; exact h6
  · rw [g _ _ _ (by omega)]; exact b1
  · rw [g _ _ _ (by omega)]; exact b2
  · rw [g _ _ _ (by omega)]; exact a2
  · rw [g _ _ _ (by omega)]; exact a3
  · rw [g _ _ _ (by omega)]; exact s2
  · rw [g _ _ _ (by omega)]; exact s3
  · rw [g _ _ _ (by omega)]; exact s4
  · rw [g _ _ _ (by omega), g _ _ _ (by omega), g _ _ _ (by omega), g _ _ _ (by omega), g _ _ _ (by omega), g _ _ _ (by omega), g _ _ _ (by omega), g _ _ _ (by omega)]; exact s5 j hj
  · rw [g _ _ _ (by omega)]; exact w2
  · rw [g _ _ _ (by omega)]; exact w3
  · rw [g _ _ _ (by omega), g _ _ _ (by omega)]; exact w4 j hj
theorem st_I_fr {i N : Nat} {w : st_T} {t t' : sr_t} {S : Nat → Nat → Nat → Prop} (h : frI S t t') (hs : ∀ k i j, (k = 0 ∨ k = 6 ∨ k = 20 ∨ k = 21 ∨ (37 ≤ k ∧ k ≤ 40) ∨ (k = 11 ∧ i = 0 ∧ (j = 9 ∨ j = 33 ∨ j = 34))) → ¬ S k i j) (W : st_I i t N w) : st_I i t' N w := by
  have g : ∀ k i j, (k = 0 ∨ k = 6 ∨ k = 20 ∨ k = 21 ∨ (37 ≤ k ∧ k ≤ 40) ∨ (k = 11 ∧ i = 0 ∧ (j = 9 ∨ j = 33 ∨ j = 34))) → t'.1 k i j = t.1 k i j := fun k i j q => h k i j (hs k i j q)
  obtain ⟨h0, ⟨h1, h2, h3⟩, ⟨h4, h5, h6⟩, h7, h8, h9, h10⟩ := W
  refine ⟨h0, ⟨?_, ?_, ?_⟩, ⟨?_, ?_, ?_⟩, fun k hk => ?_, fun k hk n hn => ?_, fun n hn => ?_, ?_⟩
  · rw [g _ _ _ (by omega)]; exact h1
  · rw [g _ _ _ (by omega)]; exact h2
  · rw [g _ _ _ (by omega)]; exact h3
  · rw [g _ _ _ (by omega)]; exact h4
  · rw [g _ _ _ (by omega)]; exact h5
  · rw [g _ _ _ (by omega)]; exact h6
  · rw [g _ _ _ (by omega), g _ _ _ (by omega), g _ _ _ (by omega), g _ _ _ (by omega)]; exact h7 k hk
  · rw [g _ _ _ (by omega), g _ _ _ (by omega), g _ _ _ (by omega), g _ _ _ (by omega)]; exact h8 k hk n hn
  · rw [g _ _ _ (by omega)]; exact h9 n hn
  · rw [g _ _ _ (by omega)]; exact h10
theorem rg_C_fI {S : Nat → Nat → Nat → Prop} {t t' : sr_t} {r : Nat} {s : rg_T} (hN : rg_N s ≤ 24) (h : frI S t t') (hs : ∀ k i j, Fp_C r k i j → ¬ S k i j) (C : rg_C t r s) : rg_C t' r s := rg_C_fr (t := t) (t' := (t'.1, t.2)) (S := S) hN ⟨rfl, h⟩ hs C
theorem rg_K_fI {S : Nat → Nat → Nat → Prop} {t t' : sr_t} {r : Nat} {s : rg_T} (hN : rg_N s ≤ 24) (h : frI S t t') (hs : ∀ k i j, Fp_K r k i j → ¬ S k i j) (C : rg_K t r s) : rg_K t' r s := rg_K_fr (t := t) (t' := (t'.1, t.2)) (S := S) hN ⟨rfl, h⟩ hs C
theorem rg_nob_fI {S : Nat → Nat → Nat → Prop} {t t' : sr_t} {r : Nat} (h : frI S t t') (hs : ∀ i j, 25 * r ≤ i → i ≤ 25 * r + 24 → (j = 0 ∨ (i = 25 * r + 24 ∧ (j = 2 ∨ j = 7))) → ¬ S 2 i j) (B : rg_nob t r) : rg_nob t' r := rg_nob_fr (t := t) (t' := (t'.1, t.2)) (S := S) ⟨rfl, h⟩ hs B
theorem rg_R_fI {S : Nat → Nat → Nat → Prop} {t t' : sr_t} {s : rg_T} (O : rg_ok s) (h : frI S t t') (hs : ∀ k i j, Fp_R k i j → ¬ S k i j) (R : rg_R t s) : rg_R t' s := rg_R_fr (t := t) (t' := (t'.1, t.2)) (S := S) O ⟨rfl, h⟩ hs R
theorem J_fr {i : Nat} {t t' : sr_t} {s : rg_T} {w : st_T} (h : frI Sq t t') (X : J i t s w) : J i t' s w := by
  obtain ⟨O, C, K, nb, sp, R, kp, L, W⟩ := X
  have hN := O.1.1
  refine ⟨O, rg_C_fI hN h (fun k i j q => by unfold Fp_C at q; unfold Sq Sc Sr; omega) C, rg_K_fI hN h (fun k i j q => by unfold Fp_K at q; unfold Sq Sc Sr; omega) K, rg_nob_fI h (fun i j a b c => by unfold Sq Sc Sr; omega) nb, fun n h1 h2 => ?_, rg_R_fI O h (fun k i j q => by unfold Fp_R at q; unfold Sq Sc Sr; omega) R, ?_, la_I_fr h (fun k i j q => by unfold Sq Sc Sr; omega) L, st_I_fr h (fun k i j q => by unfold Sq Sc Sr; omega) W⟩
  · rw [h _ _ _ (by unfold Sq Sc Sr; omega)]; exact sp n h1 h2
  · rw [h _ _ _ (by unfold Sq Sc Sr; omega)]; exact kp
theorem J_mono {i : Nat} {t : sr_t} {s : rg_T} {w : st_T} (X : J i t s w) : J (i + 4) t s w := by
  obtain ⟨O, C, K, nb, sp, R, kp, L, ⟨W0, W1⟩⟩ := X
  exact ⟨O, C, K, nb, sp, R, kp, L, ⟨W0.1, by have := W0.2.1; omega, W0.2.2⟩, W1⟩
theorem sr_ulE {t : sr_t} {k i j : Nat} {v : Int64} : (sr_ul t k i j v).2 k i j = v := if_pos ⟨rfl, rfl, rfl⟩
/-- a call of the law -/
def wrap (fx : sr_Rs) (hc : Nat → Option Int32) : sr_Rs := sr_bc fx hc (sr_dI (fun v1 t1 => (if (0 : Int32) < 0 ∨ 1 ≤ (0 : Int32).toNatClampNeg then none else sr_lt (sr_ul t1 23 0 (0 : Int32).toNatClampNeg v1.toInt64) (fun t2 => (some (.inl (some (sr_i 0)), t2))))))
theorem wrap_ret {hc : Nat → Option Int32} {v : Int32} {t1 : sr_t} : wrap (some (.inl (some (sr_i v)), t1)) hc = some (.inl (some (sr_i 0)), sr_ul t1 23 0 0 v.toInt64) := rfl
theorem wrap_thr {hc : Nat → Option Int32} {z : Nat} {c : Int32} {t1 : sr_t} (h : hc z = some c) : wrap (some (.inr z, t1)) hc = some (.inl (some (sr_i c)), t1) := by
  unfold wrap sr_bc
  simp only [h]
/-- what a pair of calls owes that may change the state -/
theorem ok3_m {i : Nat} (hi : i + 4 ≤ 2048) {F G : sr_t → sr_Rs} {hc : Nat → Option Int32} (h : ∀ t s w, J i t s w → (∃ (v : Int32) (t1 : sr_t), F t = some (.inl (some (sr_i v)), t1) ∧ ∀ T, T.1 = t1.1 → ∃ t2 s' w', G T = some (.inl (some (sr_i v)), t2) ∧ t2.1 11 0 0 = nI 0 ∧ t2.2 = T.2 ∧ J (i + 4) t2 s' w') ∨ (∃ (z : Nat) (c v : Int32) (t1 t2 : sr_t) (s' : rg_T) (w' : st_T), F t = some (.inr z, t1) ∧ hc z = some c ∧ c ≠ 0 ∧ G t1 = some (.inl (some (sr_i v)), t2) ∧ t2.1 11 0 0 = c ∧ J (i + 4) t2 s' w')) : sr_ok3 (sr_Inv i) (sr_Inv (i + 4)) (fun t => wrap (F t) hc) G := by
  rintro t ⟨_, s, w, X⟩
  rcases h t s w X with ⟨v, t1, e1, e2⟩ | ⟨z, c, v, t1, t2, s', w', e1, e2, e3, e4, e5, e6⟩
  · obtain ⟨t2, s', w', g1, g2, g3, g4⟩ := e2 (sr_ul t1 23 0 0 v.toInt64) rfl
    refine ⟨0, sr_ul t1 23 0 0 v.toInt64, v, t2, ?_, g1, g2, fun _ => ?_, hi, s', w', g4⟩
    · show wrap (F t) hc = _
      rw [e1]
      exact wrap_ret
    · rw [g3]; exact sr_ulE
  · refine ⟨c, t1, v, t2, ?_, e4, e5, fun h0 => absurd h0 e3, hi, s', w', e6⟩
    show wrap (F t) hc = _
    rw [e1]
    exact wrap_thr e2
/-- what a pair of calls owes that only asks -/
theorem ok3_q {i : Nat} (hi : i + 4 ≤ 2048) {F G : sr_t → sr_Rs} {hc : Nat → Option Int32} (h : ∀ t s w, J i t s w → (∃ (v : Int32), (∃ t1, F t = some (.inl (some (sr_i v)), t1) ∧ frI Sc t t1) ∧ ∀ t', J i t' s w → ∃ t2, G t' = some (.inl (some (sr_i v)), t2) ∧ t2.1 11 0 0 = nI 0 ∧ fr Sr t' t2) ∨ (∃ (z : Nat) (c v : Int32) (t2 : sr_t), F t = some (.inr z, t) ∧ hc z = some c ∧ c ≠ 0 ∧ G t = some (.inl (some (sr_i v)), t2) ∧ t2.1 11 0 0 = c ∧ fr Sr t t2)) : sr_ok3 (sr_Inv i) (sr_Inv (i + 4)) (fun t => wrap (F t) hc) G := by
  refine ok3_m hi (fun t s w X => ?_)
  rcases h t s w X with ⟨v, ⟨t1, e1, e2⟩, e3⟩ | ⟨z, c, v, t2, e1, e2, e3, e4, e5, e6⟩
  · left
    refine ⟨v, t1, e1, fun T hT => ?_⟩
    have X1 : J i T s w := J_fr (t := t) (fun k i j q => by rw [hT]; exact e2 k i j (fun h => q (Or.inl h))) X
    obtain ⟨t2, g1, g2, g3⟩ := e3 T X1
    exact ⟨t2, s, w, g1, g2, g3.1, J_mono (J_fr (frI_mono (frI_of g3) (fun k i j h => Or.inr h)) X1)⟩
  · right
    exact ⟨z, c, v, t, t2, s, w, e1, e2, e3, e4, e5, J_mono (J_fr (frI_mono (frI_of e6) (fun k i j h => Or.inr h)) X)⟩
theorem ok2_q {i : Nat} (hi : i + 4 ≤ 2048) {F G : sr_t → sr_Rs} (h : ∀ t s w, J i t s w → ∃ (v : Int32), (∃ t1, F t = some (.inl (some (sr_i v)), t1) ∧ frI Sc t t1) ∧ ∀ t', J i t' s w → ∃ t2, G t' = some (.inl (some (sr_i v)), t2) ∧ fr Sr t' t2) : sr_ok2 (sr_Inv i) (sr_Inv (i + 4)) F G := by
  rintro t ⟨_, s, w, X⟩
  obtain ⟨v, ⟨t1, e1, e2⟩, e3⟩ := h t s w X
  have X1 : J i t1 s w := J_fr (t := t) (fun k i j q => e2 k i j (fun h => q (Or.inl h))) X
  obtain ⟨t2, g1, g2⟩ := e3 t1 X1
  exact ⟨v, t1, v, t2, e1, g1, rfl, hi, s, w, J_mono (J_fr (frI_mono (frI_of g2) (fun k i j h => Or.inr h)) X1)⟩
/-! arguments -/
theorem nN_ok {t : sr_t} {s : rg_T} {n : Nat} (C : rg_C t 0 s) (O : rg_ok s) (hn : n < rg_N s) : F10_needNode (nI n) t = some (.inl none, t) := by
  have h1 := C.1.1.1
  have hN := O.1.1
  simp (disch := omega) only [pv_lt, pu_ck, pv_bI, pv_bV, pu_bR, pv_bL, pv_nt, pu_us, pu_un, mL_0, mL_1, mL_2, mL_3, mL_4, mL_5, mL_6, mL_7, mL_8, mL_9, mL_10, mL_11, mL_12, mL_13, mL_14, mL_15, mL_16, mL_23, mL_24, mL_32, mL_48, mL_64, mL_99, mL_100, mL_200, mL_336, mL_576, mL_768, mL_800, mL_999, mL_4095, mL_4096, mL_m1, nI_leI, nI_ltI, nI_eq, nI_clamp, nI_add, pk_mul, nI_nu, bI_eq0, bI_eq1, bo_ft, Bool.true_eq_false, Bool.false_eq_true, pu_of, pu_of24, pu_onward, pu_frq, if_true, if_false, true_or, or_true, false_or, or_false, and_true, true_and, and_false, false_and, not_true_eq_false, not_false_eq_true, if_neg, if_pos, F10_needNode, F3_has, f3_has_17, h1]
theorem nN_no {t : sr_t} {s : rg_T} {a : Int32} (C : rg_C t 0 s) (h : a < 0 ∨ nI (rg_N s) ≤ a) : F10_needNode a t = some (.inr 2, t) := by
  have h1 := C.1.1.1
  unfold F10_needNode F3_has
  rw [h1]
  by_cases h0 : a < 0
  · rw [if_pos h0]; rfl
  · rw [if_neg h0, if_pos (h.resolve_left h0)]; rfl
theorem iIn {t : sr_t} {a l h : Int32} : F11_isIn a l h t = some (.inl (some (sr_i (if a < l then nI 0 else if h < a then nI 0 else nI 1))), t) := by
  unfold F11_isIn
  by_cases h1 : a < l
  · rw [if_pos h1, if_pos h1]; rfl
  · rw [if_neg h1, if_neg h1]
    by_cases h2 : h < a
    · rw [if_pos h2, if_pos h2]; rfl
    · rw [if_neg h2, if_neg h2]; rfl
theorem iN_ok {t : sr_t} {s : rg_T} {n : Nat} (R : rg_RB t s) (O : rg_okB s) (hn : n < rg_N s) : F11_isNode (nI n) t = some (.inl (some (sr_i (nI 1))), t) := by
  have h1 := R.1.1
  have hN := O.1
  have e1 : nI (rg_N s) - nI 1 = nI (rg_N s - 1) := pk_sub (by omega)
  simp (disch := omega) only [pv_lt, pu_ck, pv_bI, pv_bV, pu_bR, pv_bL, pv_nt, pu_us, pu_un, mL_0, mL_1, mL_2, mL_3, mL_4, mL_5, mL_6, mL_7, mL_8, mL_9, mL_10, mL_11, mL_12, mL_13, mL_14, mL_15, mL_16, mL_23, mL_24, mL_32, mL_48, mL_64, mL_99, mL_100, mL_200, mL_336, mL_576, mL_768, mL_800, mL_999, mL_4095, mL_4096, mL_m1, nI_leI, nI_ltI, nI_eq, nI_clamp, nI_add, pk_mul, nI_nu, bI_eq0, bI_eq1, bo_ft, Bool.true_eq_false, Bool.false_eq_true, pu_of, pu_of24, pu_onward, pu_frq, if_true, if_false, true_or, or_true, false_or, or_false, and_true, true_and, and_false, false_and, not_true_eq_false, not_false_eq_true, if_neg, if_pos, F11_isNode, h1, e1, iIn]
theorem iN_no {t : sr_t} {s : rg_T} {a : Int32} (R : rg_RB t s) (O : rg_okB s) (h : a < 0 ∨ nI (rg_N s) ≤ a) : F11_isNode a t = some (.inl (some (sr_i (nI 0))), t) := by
  have h1 := R.1.1
  have hN := O.1
  have e : (if a < 0 then nI 0 else if nI (rg_N s) - 1 < a then nI 0 else nI 1) = nI 0 := by
    by_cases h0 : a < 0
    · rw [if_pos h0]
    · have h2 := h.resolve_left h0
      rw [if_neg h0, if_pos]
      obtain ⟨j, hj, rfl⟩ := nI_of h0
      have hle : rg_N s ≤ j := (nI_leI (by omega) hj).mp h2
      by_cases hz : rg_N s = 0
      · rw [hz]
        have : nI 0 - 1 < 0 := by decide
        exact Int32.lt_of_lt_of_le this (nI_pos' hj)
      · have e1 : nI (rg_N s) - 1 = nI (rg_N s - 1) := pk_sub (b := 1) (by omega)
        rw [e1]
        exact nI_lt (by omega) hj
  unfold F11_isNode
  rw [h1, iIn, pu_bI, e]
  rfl
theorem nP_ok {t : sr_t} {q : Nat} (hq : q < 4096) : F10_needPlace (nI q) t = some (.inl none, t) := by
  simp (disch := omega) only [pv_lt, pu_ck, pv_bI, pv_bV, pu_bR, pv_bL, pv_nt, pu_us, pu_un, mL_0, mL_1, mL_2, mL_3, mL_4, mL_5, mL_6, mL_7, mL_8, mL_9, mL_10, mL_11, mL_12, mL_13, mL_14, mL_15, mL_16, mL_23, mL_24, mL_32, mL_48, mL_64, mL_99, mL_100, mL_200, mL_336, mL_576, mL_768, mL_800, mL_999, mL_4095, mL_4096, mL_m1, nI_leI, nI_ltI, nI_eq, nI_clamp, nI_add, pk_mul, nI_nu, bI_eq0, bI_eq1, bo_ft, Bool.true_eq_false, Bool.false_eq_true, pu_of, pu_of24, pu_onward, pu_frq, if_true, if_false, true_or, or_true, false_or, or_false, and_true, true_and, and_false, false_and, not_true_eq_false, not_false_eq_true, if_neg, if_pos, F10_needPlace]
theorem nP_no {t : sr_t} {a : Int32} (h : a < 0 ∨ nI 4096 ≤ a) : F10_needPlace a t = some (.inr 0, t) := by
  unfold F10_needPlace
  by_cases h0 : a < 0
  · rw [if_pos h0]; rfl
  · have h2 := h.resolve_left h0
    obtain ⟨j, hj, rfl⟩ := nI_of h0
    have hle : 4096 ≤ j := (nI_leI (by omega) hj).mp h2
    rw [if_neg h0, if_neg (show ¬ nI j ≤ 4095 from nI_ge (b := j) (a := 4095) (by omega) hj)]; rfl
theorem iP_ok {t : sr_t} {q : Nat} (hq : q < 4096) : F11_isPlace (nI q) t = some (.inl (some (sr_i (nI 1))), t) := by
  simp (disch := omega) only [pv_lt, pu_ck, pv_bI, pv_bV, pu_bR, pv_bL, pv_nt, pu_us, pu_un, mL_0, mL_1, mL_2, mL_3, mL_4, mL_5, mL_6, mL_7, mL_8, mL_9, mL_10, mL_11, mL_12, mL_13, mL_14, mL_15, mL_16, mL_23, mL_24, mL_32, mL_48, mL_64, mL_99, mL_100, mL_200, mL_336, mL_576, mL_768, mL_800, mL_999, mL_4095, mL_4096, mL_m1, nI_leI, nI_ltI, nI_eq, nI_clamp, nI_add, pk_mul, nI_nu, bI_eq0, bI_eq1, bo_ft, Bool.true_eq_false, Bool.false_eq_true, pu_of, pu_of24, pu_onward, pu_frq, if_true, if_false, true_or, or_true, false_or, or_false, and_true, true_and, and_false, false_and, not_true_eq_false, not_false_eq_true, if_neg, if_pos, F11_isPlace, iIn]
theorem iP_no {t : sr_t} {a : Int32} (h : a < 0 ∨ nI 4096 ≤ a) : F11_isPlace a t = some (.inl (some (sr_i (nI 0))), t) := by
  have e : (if a < 0 then nI 0 else if (4095 : Int32) < a then nI 0 else nI 1) = nI 0 := by
    by_cases h0 : a < 0
    · rw [if_pos h0]
    · have h2 := h.resolve_left h0
      obtain ⟨j, hj, rfl⟩ := nI_of h0
      have hle : 4096 ≤ j := (nI_leI (by omega) hj).mp h2
      rw [if_neg h0, if_pos (show (4095 : Int32) < nI j from nI_lt (a := 4095) (by omega) hj)]
  unfold F11_isPlace
  rw [iIn, pu_bI, e]
  rfl
theorem nU_ok {t : sr_t} {s : rg_T} {n : Nat} (C : rg_C t 0 s) (O : rg_ok s) (hn : n < rg_N s) (hu : rg_u s n = true) : F10_needUp (nI n) t = some (.inl none, t) := by
  have h1 := (C.1.2.2 n hn).2.1
  have hN := O.1.1
  rw [hu] at h1
  have bt : ¬ bI true = nI 0 := by decide
  simp (disch := omega) only [pv_lt, pu_ck, pv_bI, pv_bV, pu_bR, pv_bL, pv_nt, pu_us, pu_un, mL_0, mL_1, mL_2, mL_3, mL_4, mL_5, mL_6, mL_7, mL_8, mL_9, mL_10, mL_11, mL_12, mL_13, mL_14, mL_15, mL_16, mL_23, mL_24, mL_32, mL_48, mL_64, mL_99, mL_100, mL_200, mL_336, mL_576, mL_768, mL_800, mL_999, mL_4095, mL_4096, mL_m1, nI_leI, nI_ltI, nI_eq, nI_clamp, nI_add, pk_mul, nI_nu, bI_eq0, bI_eq1, bo_ft, Bool.true_eq_false, Bool.false_eq_true, pu_of, pu_of24, pu_onward, pu_frq, if_true, if_false, true_or, or_true, false_or, or_false, and_true, true_and, and_false, false_and, not_true_eq_false, not_false_eq_true, if_neg, if_pos, F10_needUp, h1, bt]
theorem nU_no {t : sr_t} {s : rg_T} {n : Nat} (C : rg_C t 0 s) (O : rg_ok s) (hn : n < rg_N s) (hu : rg_u s n = false) : F10_needUp (nI n) t = some (.inr 1, t) := by
  have h1 := (C.1.2.2 n hn).2.1
  have hN := O.1.1
  rw [hu] at h1
  have bf : bI false = nI 0 := rfl
  simp (disch := omega) only [pv_lt, pu_ck, pv_bI, pv_bV, pu_bR, pv_bL, pv_nt, pu_us, pu_un, mL_0, mL_1, mL_2, mL_3, mL_4, mL_5, mL_6, mL_7, mL_8, mL_9, mL_10, mL_11, mL_12, mL_13, mL_14, mL_15, mL_16, mL_23, mL_24, mL_32, mL_48, mL_64, mL_99, mL_100, mL_200, mL_336, mL_576, mL_768, mL_800, mL_999, mL_4095, mL_4096, mL_m1, nI_leI, nI_ltI, nI_eq, nI_clamp, nI_add, pk_mul, nI_nu, bI_eq0, bI_eq1, bo_ft, Bool.true_eq_false, Bool.false_eq_true, pu_of, pu_of24, pu_onward, pu_frq, if_true, if_false, true_or, or_true, false_or, or_false, and_true, true_and, and_false, false_and, not_true_eq_false, not_false_eq_true, if_neg, if_pos, F10_needUp, h1, bf]
/-- an argument that is to be a node -/
theorem a_node (a : Int32) {N : Nat} (hN : N ≤ 24) : (a < 0 ∨ nI N ≤ a) ∨ ∃ n, n < N ∧ a = nI n := by
  rcases pk_ix a (n := N) (by omega) with h | h | h
  · exact Or.inl (Or.inl h)
  · exact Or.inl (Or.inr h)
  · exact Or.inr h
theorem a_place (a : Int32) : (a < 0 ∨ nI 4096 ≤ a) ∨ ∃ n, n < 4096 ∧ a = nI n := by
  rcases pk_ix a (n := 4096) (by omega) with h | h | h
  · exact Or.inl (Or.inl h)
  · exact Or.inl (Or.inr h)
  · exact Or.inr h
theorem bVr {z : Nat} {t : sr_t} {k : sr_t → sr_Rs} : sr_bV (some (.inr z, t)) k = some (.inr z, t) := Eq.trans (Eq.refl _) (Eq.refl _)
theorem bIr {z : Nat} {t : sr_t} {k : Int32 → sr_t → sr_Rs} : sr_bI (some (.inr z, t)) k = some (.inr z, t) := Eq.trans (Eq.refl _) (Eq.refl _)
theorem bRr {kf cnt z : Nat} {t : sr_t} {k : Nat → sr_t → sr_Rs} : sr_bR kf cnt (some (.inr z, t)) k = some (.inr z, t) := Eq.trans (Eq.refl _) (Eq.refl _)
end
