section
/-! the end: all steps, and the first heap -/
def sr_Iw (i : Nat) (t : sr_t) : Prop := ∃ s w, J i t s w
theorem w3 {i : Nat} {F G : sr_t → sr_Rs} (hi : i + 4 ≤ 2048) (h : sr_ok3 (sr_Inv i) (sr_Inv (i + 4)) F G) : sr_ok3 (sr_Iw i) (sr_Iw (i + 4)) F G := fun t p => by
  obtain ⟨k, t1, a, t2, e1, e2, e3, e4, e5⟩ := h t ⟨by omega, p⟩
  exact ⟨k, t1, a, t2, e1, e2, e3, e4, e5.2⟩
theorem w2 {i : Nat} {F G : sr_t → sr_Rs} (hi : i + 4 ≤ 2048) (h : sr_ok2 (sr_Inv i) (sr_Inv (i + 4)) F G) : sr_ok2 (sr_Iw i) (sr_Iw (i + 4)) F G := fun t p => by
  obtain ⟨k, t1, a, t2, e1, e2, e3, e4⟩ := h t ⟨by omega, p⟩
  exact ⟨k, t1, a, t2, e1, e2, e3, e4.2⟩
theorem bI_if (a : Int32) : (if a = 0 then (0 : Int32) else 1) = bI (!decide (a = 0)) := by
  by_cases h : a = 0
  · rw [if_pos h, decide_eq_true h]; rfl
  · rw [if_neg h, decide_eq_false h]; rfl
theorem sr_invS : sr_steps sr_Iw := fun i hi a1 a2 a3 => ⟨w3 hi (s_join hi a1), w3 hi (s_down hi a1), w3 hi (s_up hi a1), w3 hi (s_mend hi a1), w2 hi (s_mendAll hi), w3 hi (s_turn hi a1), w3 hi (s_degree hi a1), w3 hi (s_spot hi a1 a2), (by rw [bI_if]; exact w3 hi (s_lookup hi a1 a2 _)), w3 hi (s_latest hi a1), w3 hi (s_step hi a1 a2), w2 hi (s_why hi a1), w3 hi (s_owner hi a1), w3 hi (s_node hi a1 a2), (by rw [bI_if]; exact w3 hi (s_link hi a1 a2 _)), w3 hi (s_letter hi a1 a2), w3 hi (s_overlap hi a1 a2), w3 hi (s_shifted hi a1 a2 a3), w3 hi (s_start hi a1 a2), w3 hi (s_nearest hi a1), w3 hi (s_far hi a1 a2), w3 hi (s_apart hi a1 a2), (by rw [bI_if]; exact w3 hi (s_sample hi _ a2)), w3 hi (s_cost hi a1 a2), w3 hi (s_choice hi a1), w3 hi (s_takes hi a1 a2), w3 hi (s_worst hi a1), w3 hi (s_traffic hi a1), w3 hi (s_detour hi a1), w3 hi (s_quickest hi a1), w3 hi (s_better hi a1), w3 hi (s_host hi a1), w3 hi (s_ideal hi a1 a2), w3 hi (s_enough hi a1), w3 hi (s_copies hi a1), w3 hi (s_put hi a1 a2 a3), w3 hi (s_get hi a1 a2), w3 hi (s_settle hi a1), w3 hi (s_held hi a1 a2 a3), w3 hi (s_about hi a1 a2), w2 hi (s_count hi a1)⟩
theorem sr_invM : ∀ i t, sr_Iw i t → sr_Iw (i + 4) t := fun i t ⟨s, w, X⟩ => ⟨s, w, J_mono X⟩
theorem lkb_no {k i j : Nat} : ∀ g : List (Nat × Nat × Nat × sr_V), g.all (fun q => !(Nat.beq k q.1)) = true → sr_lkb g k i j = sr_df k j
  | [], _ => rfl
  | q :: r, h => by
    simp only [List.all_cons, Bool.and_eq_true, Bool.not_eq_true'] at h
    show cond (Nat.beq k q.1) _ (sr_lkb r k i j) = _
    rw [h.1]
    exact lkb_no r h.2
theorem t0_no {k i j : Nat} (h8 : Nat.beq k 8 = false) (h : sr_lg.all (fun q => !(Nat.beq k q.1)) = true) : sr_t0.1 k i j = sr_I (sr_df k j) := by
  unfold sr_t0
  simp only [h8, Bool.false_and, cond_false]
  rw [lkb_no sr_lg h]
theorem z20 {i j : Nat} : sr_t0.1 20 i j = nI 0 := (t0_no (k := 20) (by decide) (by decide +kernel)).trans rfl
theorem z21 {i j : Nat} : sr_t0.1 21 i j = nI 0 := (t0_no (k := 21) (by decide) (by decide +kernel)).trans rfl
theorem z39 {i j : Nat} : sr_t0.1 39 i j = nI 0 := (t0_no (k := 39) (by decide) (by decide +kernel)).trans rfl
theorem z40 {i j : Nat} : sr_t0.1 40 i j = nI 0 := (t0_no (k := 40) (by decide) (by decide +kernel)).trans rfl
def s00 : rg_T := ((0, 2, 4), fun _ => 0, fun _ => false, fun _ => 0, fun _ _ => 0)
def w00 : st_T := ((0, 0, 2), fun _ => 0, fun _ => 0, fun _ _ => 0, fun _ _ => 0)
theorem a_ok : rg_ok s00 := ⟨⟨by decide, ⟨by decide, by decide⟩, ⟨by decide, by decide⟩, fun n hn => absurd hn (Nat.not_lt_zero _), fun n m hn => absurd hn (Nat.not_lt_zero _), fun n hn => absurd hn (Nat.not_lt_zero _)⟩, fun n hn => absurd hn (Nat.not_lt_zero _)⟩
theorem a_nob0 : rg_nob sr_t0 0 := ⟨fun n hn => (by decide +kernel : ∀ n : Fin 25, sr_t0.1 2 (25 * 0 + n.val) 0 = nu n.val) ⟨n, by omega⟩, by decide +kernel, by decide +kernel⟩
theorem a_nob1 : rg_nob sr_t0 1 := ⟨fun n hn => (by decide +kernel : ∀ n : Fin 25, sr_t0.1 2 (25 * 1 + n.val) 0 = nu n.val) ⟨n, by omega⟩, by decide +kernel, by decide +kernel⟩
theorem a_C : rg_C sr_t0 0 s00 := ⟨⟨⟨by decide +kernel, by decide +kernel, by decide +kernel, by decide +kernel, by decide +kernel⟩, a_nob0, fun n hn => absurd hn (Nat.not_lt_zero _)⟩, fun n hn => absurd hn (Nat.not_lt_zero _)⟩
theorem a_K : rg_K sr_t0 0 s00 := ⟨by decide +kernel, fun n hn => absurd hn (Nat.not_lt_zero _)⟩
theorem a_sp : ∀ n, rg_N s00 ≤ n → n < 24 → sr_t0.1 2 n 3 = nI 0 := fun n _ hn => (by decide +kernel : ∀ n : Fin 24, sr_t0.1 2 n.val 3 = nI 0) ⟨n, hn⟩
theorem a_R : rg_R sr_t0 s00 := ⟨⟨⟨by decide +kernel, by decide +kernel, by decide +kernel⟩, fun n hn => absurd hn (Nat.not_lt_zero _)⟩, fun n hn => absurd hn (Nat.not_lt_zero _)⟩
theorem a_la : la_I sr_t0 := ⟨⟨by decide +kernel, by decide +kernel, by decide +kernel, by decide +kernel, by decide +kernel, by decide +kernel⟩, ⟨false, by decide +kernel, by decide +kernel⟩, ⟨24, by decide, by decide +kernel, by decide +kernel⟩, ⟨0, by decide, by decide +kernel, by decide +kernel, by decide +kernel, fun j hj => absurd hj (Nat.not_lt_zero _)⟩, ⟨0, by decide, by decide +kernel, by decide +kernel, fun j hj => absurd hj (Nat.not_lt_zero _)⟩⟩
theorem a_st : st_I 0 sr_t0 (rg_N s00) w00 := ⟨⟨by decide, by decide, by decide, by decide⟩, ⟨by decide +kernel, by decide +kernel, by decide +kernel⟩, ⟨by decide +kernel, by decide +kernel, by decide +kernel⟩, fun k hk => absurd hk (Nat.not_lt_zero _), fun k _ n _ => ⟨Nat.le_refl _, Nat.zero_le _, z20, z21, z39, z40, fun _ => rfl⟩, fun n _ => z21, by decide +kernel⟩
theorem sr_inv0 : sr_Iw 0 sr_t0 := ⟨s00, w00, a_ok, a_C, a_K, a_nob1, a_sp, a_R, by decide +kernel, a_la, a_st⟩
end
