/-- what the pure part owes: an invariant that every pair of calls keeps, with equal answers -/
def sr_steps (Inv : Nat → sr_t → Prop) : Prop := ∀ i : Nat, i + 4 ≤ 2048 → ∀ a1 a2 a3 : Int32, (sr_ok3 (Inv i) (Inv (i + 4)) (fun t => FL_join_23 a1 t) (fun t => F11_join a1 t)) ∧ (sr_ok3 (Inv i) (Inv (i + 4)) (fun t => FL_down_23 a1 t) (fun t => F11_down a1 t)) ∧ (sr_ok3 (Inv i) (Inv (i + 4)) (fun t => FL_up_23 a1 t) (fun t => F11_up a1 t)) ∧ (sr_ok3 (Inv i) (Inv (i + 4)) (fun t => FL_mend_23 a1 t) (fun t => F11_mend a1 t)) ∧ (sr_ok2 (Inv i) (Inv (i + 4)) (fun t => F10_mendAll t) (fun t => F11_mendAll t)) ∧ (sr_ok3 (Inv i) (Inv (i + 4)) (fun t => FL_turn_23 a1 t) (fun t => F11_turn a1 t)) ∧ (sr_ok3 (Inv i) (Inv (i + 4)) (fun t => FL_degree_23 a1 t) (fun t => F11_degree a1 t)) ∧ (sr_ok3 (Inv i) (Inv (i + 4)) (fun t => FL_spot_23 a1 a2 t) (fun t => F11_spot a1 a2 t)) ∧ (sr_ok3 (Inv i) (Inv (i + 4)) (fun t => FL_lookup_23 a1 a2 (if a3 = 0 then 0 else 1) t) (fun t => F11_lookup a1 a2 (if a3 = 0 then 0 else 1) t)) ∧ (sr_ok3 (Inv i) (Inv (i + 4)) (fun t => FL_latest_23 a1 t) (fun t => F11_latest a1 t)) ∧ (sr_ok3 (Inv i) (Inv (i + 4)) (fun t => FL_step_23 a1 a2 t) (fun t => F11_step a1 a2 t)) ∧ (sr_ok2 (Inv i) (Inv (i + 4)) (fun t => F10_why a1 t) (fun t => F11_why a1 t)) ∧ (sr_ok3 (Inv i) (Inv (i + 4)) (fun t => FL_owner_23 a1 t) (fun t => F11_owner a1 t)) ∧ (sr_ok3 (Inv i) (Inv (i + 4)) (fun t => FL_node_23 a1 a2 t) (fun t => F11_node a1 a2 t)) ∧ (sr_ok3 (Inv i) (Inv (i + 4)) (fun t => FL_link_23 a1 a2 (if a3 = 0 then 0 else 1) t) (fun t => F11_link a1 a2 (if a3 = 0 then 0 else 1) t)) ∧ (sr_ok3 (Inv i) (Inv (i + 4)) (fun t => FL_letter_23 a1 a2 t) (fun t => F11_letter a1 a2 t)) ∧ (sr_ok3 (Inv i) (Inv (i + 4)) (fun t => FL_overlap_23 a1 a2 t) (fun t => F11_overlap a1 a2 t)) ∧ (sr_ok3 (Inv i) (Inv (i + 4)) (fun t => FL_shifted_23 a1 a2 a3 t) (fun t => F11_shifted a1 a2 a3 t)) ∧ (sr_ok3 (Inv i) (Inv (i + 4)) (fun t => FL_start_23 a1 a2 t) (fun t => F11_start a1 a2 t)) ∧ (sr_ok3 (Inv i) (Inv (i + 4)) (fun t => FL_nearest_23 a1 t) (fun t => F11_nearest a1 t)) ∧ (sr_ok3 (Inv i) (Inv (i + 4)) (fun t => FL_far_23 a1 a2 t) (fun t => F11_far a1 a2 t)) ∧ (sr_ok3 (Inv i) (Inv (i + 4)) (fun t => FL_apart_23 a1 a2 t) (fun t => F11_apart a1 a2 t)) ∧ (sr_ok3 (Inv i) (Inv (i + 4)) (fun t => FL_sample_23 (if a1 = 0 then 0 else 1) a2 t) (fun t => F11_sample (if a1 = 0 then 0 else 1) a2 t)) ∧ (sr_ok3 (Inv i) (Inv (i + 4)) (fun t => FL_cost_23 a1 a2 t) (fun t => F11_cost a1 a2 t)) ∧ (sr_ok3 (Inv i) (Inv (i + 4)) (fun t => FL_choice_23 a1 t) (fun t => F11_choice a1 t)) ∧ (sr_ok3 (Inv i) (Inv (i + 4)) (fun t => FL_takes_23 a1 a2 t) (fun t => F11_takes a1 a2 t)) ∧ (sr_ok3 (Inv i) (Inv (i + 4)) (fun t => FL_worst_23 a1 t) (fun t => F11_worst a1 t)) ∧ (sr_ok3 (Inv i) (Inv (i + 4)) (fun t => FL_traffic_23 a1 t) (fun t => F11_traffic a1 t)) ∧ (sr_ok3 (Inv i) (Inv (i + 4)) (fun t => FL_detour_23 a1 t) (fun t => F11_detour a1 t)) ∧ (sr_ok3 (Inv i) (Inv (i + 4)) (fun t => FL_quickest_23 a1 t) (fun t => F11_quickest a1 t)) ∧ (sr_ok3 (Inv i) (Inv (i + 4)) (fun t => FL_better_23 a1 t) (fun t => F11_better a1 t)) ∧ (sr_ok3 (Inv i) (Inv (i + 4)) (fun t => FL_host_23 a1 t) (fun t => F11_host a1 t)) ∧ (sr_ok3 (Inv i) (Inv (i + 4)) (fun t => FL_ideal_23 a1 a2 t) (fun t => F11_ideal a1 a2 t)) ∧ (sr_ok3 (Inv i) (Inv (i + 4)) (fun t => FL_enough_23 a1 t) (fun t => F11_enough a1 t)) ∧ (sr_ok3 (Inv i) (Inv (i + 4)) (fun t => FL_copies_23 a1 t) (fun t => F11_copies a1 t)) ∧ (sr_ok3 (Inv i) (Inv (i + 4)) (fun t => FL_put_23 a1 a2 a3 t) (fun t => F11_put a1 a2 a3 t)) ∧ (sr_ok3 (Inv i) (Inv (i + 4)) (fun t => FL_get_23 a1 a2 t) (fun t => F11_get a1 a2 t)) ∧ (sr_ok3 (Inv i) (Inv (i + 4)) (fun t => FL_settle_23 a1 t) (fun t => F11_settle a1 t)) ∧ (sr_ok3 (Inv i) (Inv (i + 4)) (fun t => FL_held_23 a1 a2 a3 t) (fun t => F11_held a1 a2 a3 t)) ∧ (sr_ok3 (Inv i) (Inv (i + 4)) (fun t => FL_about_23 a1 a2 t) (fun t => F11_about a1 a2 t)) ∧ (sr_ok2 (Inv i) (Inv (i + 4)) (fun t => F10_count a1 t) (fun t => F11_count a1 t))
theorem sr_cmpL {L i : Nat} (hL : L ≤ 2048) (hi : i ≤ L) (h4 : i % 4 = 0) : (nI L - 4 < nI i) ↔ ¬ (i + 4 ≤ L) := by
  rcases Nat.lt_or_ge L 4 with h | h
  · have hi0 : i = 0 := by omega
    subst hi0
    have hL4 : L = 0 ∨ L = 1 ∨ L = 2 ∨ L = 3 := by omega
    rcases hL4 with rfl | rfl | rfl | rfl <;> decide
  · have e : nI L - 4 = nI (L - 4) := by
      have e1 : nI (L - 4) + 4 = nI L := by
        have e2 := nI_add (L - 4) 4
        rw [show L - 4 + 4 = L by omega] at e2
        exact e2
      rw [← e1]
      simp
    rw [e, nI_ltI (by omega) (by omega)]
    omega
set_option maxHeartbeats 4000000 in
set_option maxRecDepth 100000 in
theorem sr_loop {Inv : Nat → sr_t → Prop} (hmo : ∀ i t, Inv i t → Inv (i + 4) t) (hst : sr_steps Inv) {p : Program} {l : Launch} {e : Env} {s : State} {m : MethodId} {below : List Frame} {meth : Method} {c : Code} {b L : Nat} {xs : Nat → Int32} {D : va_G} {dA : Nat → ClassId} (hL : L ≤ 2048) (C0 : lw_At p s m meth c b L xs) (C : sr_C l (sr_Ml meth c) p s m #[Value.ref b] meth c D dA s.heap.size) :
    ∀ (n i : Nat) (tt : sr_t) (H : Heap) (locs : List Loc) (ls : Array Slot) (cells slots : Nat), i ≤ L → i % 4 = 0 → L < i + 4 * n + 4 → Inv i tt → sr_W D dA s.heap.size (sr_em tt) s H locs → lv_has ls 7 [(0, .ref b), (1, .ref (sr_ad s.heap.size 10 0)), (2, .ref (sr_ad s.heap.size 11 0)), (3, .ref (sr_ad s.heap.size 23 0)), (4, .int (nI i))] → cells + 8 * n ≤ 601024 → slots + 48 * n ≤ 7293033 → W p l e room_1 s m #[Value.ref b] below meth c H locs cells slots (lw_Z below #[Value.ref b] s) (F0 m 23 ls []) := by
  obtain ⟨hx, hb, hr, hml, hown, hts, hX, hbl, hlocks, hgv⟩ := id C0
  have hbA : ¬ sr_A s.heap.size b := Nat.not_le.mpr hbl
  intro n
  induction n with
  | zero =>
    intro i tt H locs ls cells slots hiL h4 hn hI Wd hl hc hs
    have Wd0 := Wd.2.2
    refine lv_iload hx hb (show decode code 23 = .ok (.iload 4, 2) by decide +kernel) (lv_at hl 4 rfl) ?_
    refine lv_aload_n hx hb (show decode code 25 = .ok (.aload_n 0, 1) by decide +kernel) rfl (lv_at hl 0 rfl) ?_
    refine va_slen hx hb hX hbl hbA Wd0 (show decode code 26 = .ok (.arraylength, 1) by decide +kernel) ?_
    refine lv_iconst (n := 4) (v := 4) hx hb (show decode code 27 = .ok (.iconst 4, 1) by decide +kernel) (by decide) ?_
    refine lv_isub hx hb (show decode code 28 = .ok (.isub, 1) by decide +kernel) ?_
    refine lv_icmp_gt (tgt := 2749) hx hb (show decode code 29 = .ok (.if_icmp .gt 2720, 3) by decide +kernel) (by decide) (fun _ => ?_) (fun hq => absurd ((sr_cmpL hL hiL h4).mpr (by omega)) hq)
    refine lv_iconst (n := 1) (v := 1) hx hb (show decode code 2749 = .ok (.iconst 1, 1) by decide +kernel) (by decide) ?_
    refine va_forget (fun q hq => Wd0.2.2 q hq) ?_
    refine W.widen (k := 601024) (n := 7293033) (by omega) (by omega) ?_
    exact lw_ret hx hb hr hlocks (show decode code 2750 = .ok (.ireturn, 1) by decide +kernel)
  | succ n ih =>
    intro i tt H locs ls cells slots hiL h4 hn hI Wd hl hc hs
    have Wd0 := Wd.2.2
    refine lv_iload hx hb (show decode code 23 = .ok (.iload 4, 2) by decide +kernel) (lv_at hl 4 rfl) ?_
    refine lv_aload_n hx hb (show decode code 25 = .ok (.aload_n 0, 1) by decide +kernel) rfl (lv_at hl 0 rfl) ?_
    refine va_slen hx hb hX hbl hbA Wd0 (show decode code 26 = .ok (.arraylength, 1) by decide +kernel) ?_
    refine lv_iconst (n := 4) (v := 4) hx hb (show decode code 27 = .ok (.iconst 4, 1) by decide +kernel) (by decide) ?_
    refine lv_isub hx hb (show decode code 28 = .ok (.isub, 1) by decide +kernel) ?_
    refine lv_icmp_gt (tgt := 2749) hx hb (show decode code 29 = .ok (.if_icmp .gt 2720, 3) by decide +kernel) (by decide) (fun _ => ?_) (fun hq => ?_)
    · refine lv_iconst (n := 1) (v := 1) hx hb (show decode code 2749 = .ok (.iconst 1, 1) by decide +kernel) (by decide) ?_
      refine va_forget (fun q hq => Wd0.2.2 q hq) ?_
      refine W.widen (k := 601024) (n := 7293033) (by omega) (by omega) ?_
      exact lw_ret hx hb hr hlocks (show decode code 2750 = .ok (.ireturn, 1) by decide +kernel)
    · have hi : i + 4 ≤ L := Decidable.byContradiction fun h => hq ((sr_cmpL hL hiL h4).mpr h)
      obtain ⟨s0, s1, s2, s3, s4, s5, s6, s7, s8, s9, s10, s11, s12, s13, s14, s15, s16, s17, s18, s19, s20, s21, s22, s23, s24, s25, s26, s27, s28, s29, s30, s31, s32, s33, s34, s35, s36, s37, s38, s39, s40⟩ := hst i (by omega) (xs (i + 1)) (xs (i + 2)) (xs (i + 3))
      have kk : ∀ (tt' : sr_t) (H' : Heap) (locs' : List Loc) (ls' : Array Slot), Inv (i + 4) tt' → sr_W D dA s.heap.size (sr_em tt') s H' locs' → lv_has ls' 7 [(0, .ref b), (1, .ref (sr_ad s.heap.size 10 0)), (2, .ref (sr_ad s.heap.size 11 0)), (3, .ref (sr_ad s.heap.size 23 0)), (4, .int (nI i))] → W p l e room_1 s m #[Value.ref b] below meth c H' locs' (cells + 8) (slots + 48) (lw_Z below #[Value.ref b] s) (F0 m 2743 ls' []) := by
        intro tt' H' locs' ls' hI' Wd' hl'
        refine lv_iinc (k := 4) (v := nI (i + 4)) (lv' := [(4, .int (nI (i + 4))), (0, .ref b), (1, .ref (sr_ad s.heap.size 10 0)), (2, .ref (sr_ad s.heap.size 11 0)), (3, .ref (sr_ad s.heap.size 23 0))]) hx hb (show decode code 2743 = .ok (.iinc 4 4, 3) by decide +kernel) hl' rfl (nI_add i 4) (by decide) rfl (fun ls hl => ?_)
        refine lv_goto (tgt := 23) hx hb (show decode code 2746 = .ok (.goto (-2723), 3) by decide +kernel) (by decide) ?_
        exact ih (i + 4) tt' H' locs' ls (cells + 8) (slots + 48) hi (by omega) (by omega) hI' Wd' (lv_sub hl [1, 2, 3, 4, 0] rfl) (by omega) (by omega)
      refine lv_aload_n hx hb (show decode code 32 = .ok (.aload_n 0, 1) by decide +kernel) rfl (lv_at hl 0 rfl) ?_
      refine lv_iload hx hb (show decode code 33 = .ok (.iload 4, 2) by decide +kernel) (lv_at hl 4 rfl) ?_
      refine va_sld hx hb hX hbl hbA Wd0 (vp_in_nI (show i < L by omega) (by omega)) (show decode code 35 = .ok (.iaload, 1) by decide +kernel) ?_
      refine lv_bipush (n := 63) (v := 63) hx hb (show decode code 36 = .ok (.bipush 63, 2) by decide +kernel) (by decide) ?_
      refine lv_iand hx hb (show decode code 38 = .ok (.iand, 1) by decide +kernel) ?_
      refine lv_topi (fun u eu => ?_)
      have dsw : decode code 39 = .ok (.tableswitch 2704 0 40 #[177, 233, 289, 345, 401, 414, 470, 526, 594, 690, 746, 814, 839, 895, 963, 1059, 1127, 1195, 1275, 1343, 1399, 1467, 1535, 1619, 1687, 1743, 1811, 1867, 1923, 1979, 2035, 2091, 2147, 2215, 2271, 2327, 2407, 2475, 2531, 2611, 2679], 177) := by decide +kernel
      by_cases hz : u.toInt < 0 ∨ 40 < u.toInt
      · refine lv_tableOut (tgt := 2743) hx hb dsw hz (by decide) ?_
        refine W.widen (k := cells + 8) (n := slots + 48) (by omega) (by omega) ?_
        exact kk tt H locs ls (hmo i tt hI) Wd hl
      have hj : ∃ j : Nat, j < 41 ∧ (u.toInt - 0).toNat = j := ⟨_, by omega, rfl⟩
      obtain ⟨j, hj1, hj2⟩ := hj
      rcases j with _ | _ | _ | _ | _ | _ | _ | _ | _ | _ | _ | _ | _ | _ | _ | _ | _ | _ | _ | _ | _ | _ | _ | _ | _ | _ | _ | _ | _ | _ | _ | _ | _ | _ | _ | _ | _ | _ | _ | _ | _ | j
      · exact lv_tableIn (tgt := 216) hx hb dsw (fun q => hz (Or.inl q)) (fun q => hz (Or.inr q)) (by rw [hj2]; rfl) (by decide) (lc_0 hL C0 C hi s0 hI Wd hl (by omega) (by omega) kk)
      · exact lv_tableIn (tgt := 272) hx hb dsw (fun q => hz (Or.inl q)) (fun q => hz (Or.inr q)) (by rw [hj2]; rfl) (by decide) (lc_1 hL C0 C hi s1 hI Wd hl (by omega) (by omega) kk)
      · exact lv_tableIn (tgt := 328) hx hb dsw (fun q => hz (Or.inl q)) (fun q => hz (Or.inr q)) (by rw [hj2]; rfl) (by decide) (lc_2 hL C0 C hi s2 hI Wd hl (by omega) (by omega) kk)
      · exact lv_tableIn (tgt := 384) hx hb dsw (fun q => hz (Or.inl q)) (fun q => hz (Or.inr q)) (by rw [hj2]; rfl) (by decide) (lc_3 hL C0 C hi s3 hI Wd hl (by omega) (by omega) kk)
      · exact lv_tableIn (tgt := 440) hx hb dsw (fun q => hz (Or.inl q)) (fun q => hz (Or.inr q)) (by rw [hj2]; rfl) (by decide) (lc_4 hL C0 C hi s4 hI Wd hl (by omega) (by omega) kk)
      · exact lv_tableIn (tgt := 453) hx hb dsw (fun q => hz (Or.inl q)) (fun q => hz (Or.inr q)) (by rw [hj2]; rfl) (by decide) (lc_5 hL C0 C hi s5 hI Wd hl (by omega) (by omega) kk)
      · exact lv_tableIn (tgt := 509) hx hb dsw (fun q => hz (Or.inl q)) (fun q => hz (Or.inr q)) (by rw [hj2]; rfl) (by decide) (lc_6 hL C0 C hi s6 hI Wd hl (by omega) (by omega) kk)
      · exact lv_tableIn (tgt := 565) hx hb dsw (fun q => hz (Or.inl q)) (fun q => hz (Or.inr q)) (by rw [hj2]; rfl) (by decide) (lc_7 hL C0 C hi s7 hI Wd hl (by omega) (by omega) kk)
      · exact lv_tableIn (tgt := 633) hx hb dsw (fun q => hz (Or.inl q)) (fun q => hz (Or.inr q)) (by rw [hj2]; rfl) (by decide) (lc_8 hL C0 C hi s8 hI Wd hl (by omega) (by omega) kk)
      · exact lv_tableIn (tgt := 729) hx hb dsw (fun q => hz (Or.inl q)) (fun q => hz (Or.inr q)) (by rw [hj2]; rfl) (by decide) (lc_9 hL C0 C hi s9 hI Wd hl (by omega) (by omega) kk)
      · exact lv_tableIn (tgt := 785) hx hb dsw (fun q => hz (Or.inl q)) (fun q => hz (Or.inr q)) (by rw [hj2]; rfl) (by decide) (lc_10 hL C0 C hi s10 hI Wd hl (by omega) (by omega) kk)
      · exact lv_tableIn (tgt := 853) hx hb dsw (fun q => hz (Or.inl q)) (fun q => hz (Or.inr q)) (by rw [hj2]; rfl) (by decide) (lc_11 hL C0 C hi s11 hI Wd hl (by omega) (by omega) kk)
      · exact lv_tableIn (tgt := 878) hx hb dsw (fun q => hz (Or.inl q)) (fun q => hz (Or.inr q)) (by rw [hj2]; rfl) (by decide) (lc_12 hL C0 C hi s12 hI Wd hl (by omega) (by omega) kk)
      · exact lv_tableIn (tgt := 934) hx hb dsw (fun q => hz (Or.inl q)) (fun q => hz (Or.inr q)) (by rw [hj2]; rfl) (by decide) (lc_13 hL C0 C hi s13 hI Wd hl (by omega) (by omega) kk)
      · exact lv_tableIn (tgt := 1002) hx hb dsw (fun q => hz (Or.inl q)) (fun q => hz (Or.inr q)) (by rw [hj2]; rfl) (by decide) (lc_14 hL C0 C hi s14 hI Wd hl (by omega) (by omega) kk)
      · exact lv_tableIn (tgt := 1098) hx hb dsw (fun q => hz (Or.inl q)) (fun q => hz (Or.inr q)) (by rw [hj2]; rfl) (by decide) (lc_15 hL C0 C hi s15 hI Wd hl (by omega) (by omega) kk)
      · exact lv_tableIn (tgt := 1166) hx hb dsw (fun q => hz (Or.inl q)) (fun q => hz (Or.inr q)) (by rw [hj2]; rfl) (by decide) (lc_16 hL C0 C hi s16 hI Wd hl (by omega) (by omega) kk)
      · exact lv_tableIn (tgt := 1234) hx hb dsw (fun q => hz (Or.inl q)) (fun q => hz (Or.inr q)) (by rw [hj2]; rfl) (by decide) (lc_17 hL C0 C hi s17 hI Wd hl (by omega) (by omega) kk)
      · exact lv_tableIn (tgt := 1314) hx hb dsw (fun q => hz (Or.inl q)) (fun q => hz (Or.inr q)) (by rw [hj2]; rfl) (by decide) (lc_18 hL C0 C hi s18 hI Wd hl (by omega) (by omega) kk)
      · exact lv_tableIn (tgt := 1382) hx hb dsw (fun q => hz (Or.inl q)) (fun q => hz (Or.inr q)) (by rw [hj2]; rfl) (by decide) (lc_19 hL C0 C hi s19 hI Wd hl (by omega) (by omega) kk)
      · exact lv_tableIn (tgt := 1438) hx hb dsw (fun q => hz (Or.inl q)) (fun q => hz (Or.inr q)) (by rw [hj2]; rfl) (by decide) (lc_20 hL C0 C hi s20 hI Wd hl (by omega) (by omega) kk)
      · exact lv_tableIn (tgt := 1506) hx hb dsw (fun q => hz (Or.inl q)) (fun q => hz (Or.inr q)) (by rw [hj2]; rfl) (by decide) (lc_21 hL C0 C hi s21 hI Wd hl (by omega) (by omega) kk)
      · exact lv_tableIn (tgt := 1574) hx hb dsw (fun q => hz (Or.inl q)) (fun q => hz (Or.inr q)) (by rw [hj2]; rfl) (by decide) (lc_22 hL C0 C hi s22 hI Wd hl (by omega) (by omega) kk)
      · exact lv_tableIn (tgt := 1658) hx hb dsw (fun q => hz (Or.inl q)) (fun q => hz (Or.inr q)) (by rw [hj2]; rfl) (by decide) (lc_23 hL C0 C hi s23 hI Wd hl (by omega) (by omega) kk)
      · exact lv_tableIn (tgt := 1726) hx hb dsw (fun q => hz (Or.inl q)) (fun q => hz (Or.inr q)) (by rw [hj2]; rfl) (by decide) (lc_24 hL C0 C hi s24 hI Wd hl (by omega) (by omega) kk)
      · exact lv_tableIn (tgt := 1782) hx hb dsw (fun q => hz (Or.inl q)) (fun q => hz (Or.inr q)) (by rw [hj2]; rfl) (by decide) (lc_25 hL C0 C hi s25 hI Wd hl (by omega) (by omega) kk)
      · exact lv_tableIn (tgt := 1850) hx hb dsw (fun q => hz (Or.inl q)) (fun q => hz (Or.inr q)) (by rw [hj2]; rfl) (by decide) (lc_26 hL C0 C hi s26 hI Wd hl (by omega) (by omega) kk)
      · exact lv_tableIn (tgt := 1906) hx hb dsw (fun q => hz (Or.inl q)) (fun q => hz (Or.inr q)) (by rw [hj2]; rfl) (by decide) (lc_27 hL C0 C hi s27 hI Wd hl (by omega) (by omega) kk)
      · exact lv_tableIn (tgt := 1962) hx hb dsw (fun q => hz (Or.inl q)) (fun q => hz (Or.inr q)) (by rw [hj2]; rfl) (by decide) (lc_28 hL C0 C hi s28 hI Wd hl (by omega) (by omega) kk)
      · exact lv_tableIn (tgt := 2018) hx hb dsw (fun q => hz (Or.inl q)) (fun q => hz (Or.inr q)) (by rw [hj2]; rfl) (by decide) (lc_29 hL C0 C hi s29 hI Wd hl (by omega) (by omega) kk)
      · exact lv_tableIn (tgt := 2074) hx hb dsw (fun q => hz (Or.inl q)) (fun q => hz (Or.inr q)) (by rw [hj2]; rfl) (by decide) (lc_30 hL C0 C hi s30 hI Wd hl (by omega) (by omega) kk)
      · exact lv_tableIn (tgt := 2130) hx hb dsw (fun q => hz (Or.inl q)) (fun q => hz (Or.inr q)) (by rw [hj2]; rfl) (by decide) (lc_31 hL C0 C hi s31 hI Wd hl (by omega) (by omega) kk)
      · exact lv_tableIn (tgt := 2186) hx hb dsw (fun q => hz (Or.inl q)) (fun q => hz (Or.inr q)) (by rw [hj2]; rfl) (by decide) (lc_32 hL C0 C hi s32 hI Wd hl (by omega) (by omega) kk)
      · exact lv_tableIn (tgt := 2254) hx hb dsw (fun q => hz (Or.inl q)) (fun q => hz (Or.inr q)) (by rw [hj2]; rfl) (by decide) (lc_33 hL C0 C hi s33 hI Wd hl (by omega) (by omega) kk)
      · exact lv_tableIn (tgt := 2310) hx hb dsw (fun q => hz (Or.inl q)) (fun q => hz (Or.inr q)) (by rw [hj2]; rfl) (by decide) (lc_34 hL C0 C hi s34 hI Wd hl (by omega) (by omega) kk)
      · exact lv_tableIn (tgt := 2366) hx hb dsw (fun q => hz (Or.inl q)) (fun q => hz (Or.inr q)) (by rw [hj2]; rfl) (by decide) (lc_35 hL C0 C hi s35 hI Wd hl (by omega) (by omega) kk)
      · exact lv_tableIn (tgt := 2446) hx hb dsw (fun q => hz (Or.inl q)) (fun q => hz (Or.inr q)) (by rw [hj2]; rfl) (by decide) (lc_36 hL C0 C hi s36 hI Wd hl (by omega) (by omega) kk)
      · exact lv_tableIn (tgt := 2514) hx hb dsw (fun q => hz (Or.inl q)) (fun q => hz (Or.inr q)) (by rw [hj2]; rfl) (by decide) (lc_37 hL C0 C hi s37 hI Wd hl (by omega) (by omega) kk)
      · exact lv_tableIn (tgt := 2570) hx hb dsw (fun q => hz (Or.inl q)) (fun q => hz (Or.inr q)) (by rw [hj2]; rfl) (by decide) (lc_38 hL C0 C hi s38 hI Wd hl (by omega) (by omega) kk)
      · exact lv_tableIn (tgt := 2650) hx hb dsw (fun q => hz (Or.inl q)) (fun q => hz (Or.inr q)) (by rw [hj2]; rfl) (by decide) (lc_39 hL C0 C hi s39 hI Wd hl (by omega) (by omega) kk)
      · exact lv_tableIn (tgt := 2718) hx hb dsw (fun q => hz (Or.inl q)) (fun q => hz (Or.inr q)) (by rw [hj2]; rfl) (by decide) (lc_40 hL C0 C hi s40 hI Wd hl (by omega) (by omega) kk)
      · omega
