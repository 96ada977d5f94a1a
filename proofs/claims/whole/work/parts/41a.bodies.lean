def sr_mL_join : sr_M := (⟨"ShiftRingLaw", "join", "(LShiftRing;I[J)I"⟩, method_3_code, 4, (some .int), [(0, 9, 12, 13), (0, 9, 15, 15)], 8, 173)
theorem fl_L_7 : Cond.methodLink "ShiftRingLaw" 7 (sr_My sr_m10_join) ∈ sr_TB := (sr_tb (n := 774) (by decide +kernel) rfl)
theorem fm_L_7 : sr_FV "ShiftRingLaw" 7 sr_m10_join 10 1 := ⟨⟨rfl, sr_tb (n := 777) (by decide +kernel) rfl, sr_tb (n := 1) (by decide +kernel) rfl, ⟨by decide, by decide, by decide +kernel⟩, Or.inl fl_L_7⟩, ⟨TX10, 7, rfl, rfl⟩, sr_tb (n := 775) (by decide +kernel) rfl, sr_tb (n := 776) (by decide +kernel) rfl⟩
theorem rm_L_join_10_join : sr_RM sr_mL_join sr_m10_join := ⟨Nat.le_of_ble_eq_true rfl, Nat.le_of_ble_eq_true rfl⟩
def hcL_join_23 (z : Nat) : Option Int32 := match z with
  | 0 => some 1
  | 1 => some 2
  | 2 => none
  | 3 => none
  | _ => none
theorem hfL_join_23 : ∀ z c, hcL_join_23 z = some c → sr_HF sr_mL_join 4 z c := by
  intro z c h
  rcases z with _ | _ | _ | _ | z
  · cases h
    exact ⟨[], ⟨0, 9, 12, 13⟩, [⟨0, 9, 15, 15⟩], "java/lang/IllegalArgumentException", 3, 1, rfl, (fun _ h => nomatch h), by decide, by decide, sr_tb (n := 772) (by decide +kernel) rfl, sr_nb (n := 783) (by decide +kernel) rfl, by decide, by decide, Or.inr ⟨3, rfl, by decide +kernel, by decide +kernel, by decide +kernel⟩⟩
  · cases h
    exact ⟨[⟨0, 9, 12, 13⟩], ⟨0, 9, 15, 15⟩, [], "java/lang/IllegalStateException", 3, 2, rfl, (List.forall_mem_cons.mpr ⟨Or.inr ⟨by decide, "java/lang/IllegalArgumentException", sr_tb (n := 772) (by decide +kernel) rfl, by decide +kernel⟩, fun _ h => nomatch h⟩), by decide, by decide, sr_tb (n := 773) (by decide +kernel) rfl, sr_nb (n := 853) (by decide +kernel) rfl, by decide, by decide, Or.inr ⟨3, rfl, by decide +kernel, by decide +kernel, by decide +kernel⟩⟩
  · cases h
  · cases h
  · cases h
def FL_join_23 (a1 : Int32) (t : sr_t) : sr_Rs := (sr_bc (F10_join a1 t) hcL_join_23 (sr_dI (fun v1 t1 => (if (0 : Int32) < 0 ∨ 1 ≤ (0 : Int32).toNatClampNeg then none else sr_lt (sr_ul t1 23 0 (0 : Int32).toNatClampNeg v1.toInt64) (fun t2 => (some (.inl (some (sr_i 0)), t2)))))))
theorem CL_join_23 (l : Launch) (a1 : Int32)  (t : sr_t) : sr_ct' l sr_mL_join [sr_r 10 0, sr_i a1, sr_r 23 0] t (FL_join_23 a1 t) 2 12 := by
  refine sr_T_ofH (L0 := [some (sr_r 10 0), some (sr_i a1), some (sr_r 23 0), none]) rfl (by decide +kernel) (fun _ => rfl) (fun _ => Nat.le_of_ble_eq_true rfl) ?_
  unfold FL_join_23
  refine sr_aloadn (pc := 0) (n := 2) (by decide +kernel) rfl ?_
  refine sr_iconst (pc := 1) (n := 0) (v := 0) (by decide +kernel) rfl ?_
  refine sr_aloadn (pc := 2) (n := 0) (by decide +kernel) rfl ?_
  refine sr_iloadn (pc := 3) (n := 1) (by decide +kernel) rfl ?_
  refine sr_cVC (pc := 4) (As := [sr_i a1]) (mc1 := 2) (ms1 := 12) (mc2 := 0) (ms2 := 0) (hc := hcL_join_23) fm_L_7 fl_L_7 (by decide +kernel) (sr_in10 _ (by omega)) (rm_L_join_10_join) rfl rfl rfl hfL_join_23 (C10_join l a1 t) ?_
  refine sr_kI (fun v1 t1 => ?_)
  refine sr_i2l (pc := 7) (by decide +kernel) ?_
  refine sr_sL (pc := 8) (n := 1) rfl (by decide +kernel) (sr_in23 _ (by omega)) (fun _ _ => rfl) (fun t2 => ?_)
  refine sr_goto (pc := 9) (off := 9) (tg := 18) (by decide +kernel) (by decide) ?_
  refine sr_iconst (pc := 18) (n := 0) (v := 0) (by decide +kernel) rfl ?_
  exact sr_iret (pc := 19) (by decide +kernel) rfl
def sr_mL_down : sr_M := (⟨"ShiftRingLaw", "down", "(LShiftRing;I[J)I"⟩, method_4_code, 4, (some .int), [(0, 9, 12, 20), (0, 9, 15, 15)], 8, 132)
theorem fl_L_17 : Cond.methodLink "ShiftRingLaw" 17 (sr_My sr_m10_down) ∈ sr_TB := (sr_tb (n := 880) (by decide +kernel) rfl)
theorem fm_L_17 : sr_FV "ShiftRingLaw" 17 sr_m10_down 10 1 := ⟨⟨rfl, sr_tb (n := 883) (by decide +kernel) rfl, sr_tb (n := 1) (by decide +kernel) rfl, ⟨by decide, by decide, by decide +kernel⟩, Or.inl fl_L_17⟩, ⟨TX10, 7, rfl, rfl⟩, sr_tb (n := 881) (by decide +kernel) rfl, sr_tb (n := 882) (by decide +kernel) rfl⟩
theorem rm_L_down_10_down : sr_RM sr_mL_down sr_m10_down := ⟨Nat.le_of_ble_eq_true rfl, Nat.le_of_ble_eq_true rfl⟩
def hcL_down_23 (z : Nat) : Option Int32 := match z with
  | 0 => none
  | 1 => some 2
  | 2 => some 1
  | 3 => none
  | _ => none
theorem hfL_down_23 : ∀ z c, hcL_down_23 z = some c → sr_HF sr_mL_down 4 z c := by
  intro z c h
  rcases z with _ | _ | _ | _ | z
  · cases h
  · cases h
    exact ⟨[⟨0, 9, 12, 20⟩], ⟨0, 9, 15, 15⟩, [], "java/lang/IllegalStateException", 3, 2, rfl, (List.forall_mem_cons.mpr ⟨Or.inr ⟨by decide, "java/lang/IndexOutOfBoundsException", sr_tb (n := 879) (by decide +kernel) rfl, by decide +kernel⟩, fun _ h => nomatch h⟩), by decide, by decide, sr_tb (n := 773) (by decide +kernel) rfl, sr_nb (n := 853) (by decide +kernel) rfl, by decide, by decide, Or.inr ⟨3, rfl, by decide +kernel, by decide +kernel, by decide +kernel⟩⟩
  · cases h
    exact ⟨[], ⟨0, 9, 12, 20⟩, [⟨0, 9, 15, 15⟩], "java/lang/IndexOutOfBoundsException", 3, 1, rfl, (fun _ h => nomatch h), by decide, by decide, sr_tb (n := 879) (by decide +kernel) rfl, sr_nb (n := 894) (by decide +kernel) rfl, by decide, by decide, Or.inr ⟨3, rfl, by decide +kernel, by decide +kernel, by decide +kernel⟩⟩
  · cases h
  · cases h
def FL_down_23 (a1 : Int32) (t : sr_t) : sr_Rs := (sr_bc (F10_down a1 t) hcL_down_23 (sr_dI (fun v1 t1 => (if (0 : Int32) < 0 ∨ 1 ≤ (0 : Int32).toNatClampNeg then none else sr_lt (sr_ul t1 23 0 (0 : Int32).toNatClampNeg v1.toInt64) (fun t2 => (some (.inl (some (sr_i 0)), t2)))))))
theorem CL_down_23 (l : Launch) (a1 : Int32)  (t : sr_t) : sr_ct' l sr_mL_down [sr_r 10 0, sr_i a1, sr_r 23 0] t (FL_down_23 a1 t) 2 12 := by
  refine sr_T_ofH (L0 := [some (sr_r 10 0), some (sr_i a1), some (sr_r 23 0), none]) rfl (by decide +kernel) (fun _ => rfl) (fun _ => Nat.le_of_ble_eq_true rfl) ?_
  unfold FL_down_23
  refine sr_aloadn (pc := 0) (n := 2) (by decide +kernel) rfl ?_
  refine sr_iconst (pc := 1) (n := 0) (v := 0) (by decide +kernel) rfl ?_
  refine sr_aloadn (pc := 2) (n := 0) (by decide +kernel) rfl ?_
  refine sr_iloadn (pc := 3) (n := 1) (by decide +kernel) rfl ?_
  refine sr_cVC (pc := 4) (As := [sr_i a1]) (mc1 := 2) (ms1 := 12) (mc2 := 0) (ms2 := 0) (hc := hcL_down_23) fm_L_17 fl_L_17 (by decide +kernel) (sr_in10 _ (by omega)) (rm_L_down_10_down) rfl rfl rfl hfL_down_23 (C10_down l a1 t) ?_
  refine sr_kI (fun v1 t1 => ?_)
  refine sr_i2l (pc := 7) (by decide +kernel) ?_
  refine sr_sL (pc := 8) (n := 1) rfl (by decide +kernel) (sr_in23 _ (by omega)) (fun _ _ => rfl) (fun t2 => ?_)
  refine sr_goto (pc := 9) (off := 9) (tg := 18) (by decide +kernel) (by decide) ?_
  refine sr_iconst (pc := 18) (n := 0) (v := 0) (by decide +kernel) rfl ?_
  exact sr_iret (pc := 19) (by decide +kernel) rfl
def sr_mL_up : sr_M := (⟨"ShiftRingLaw", "up", "(LShiftRing;I[J)I"⟩, method_5_code, 4, (some .int), [(0, 9, 12, 20), (0, 9, 15, 15)], 8, 151)
theorem fl_L_22 : Cond.methodLink "ShiftRingLaw" 22 (sr_My sr_m10_up) ∈ sr_TB := (sr_tb (n := 917) (by decide +kernel) rfl)
theorem fm_L_22 : sr_FV "ShiftRingLaw" 22 sr_m10_up 10 1 := ⟨⟨rfl, sr_tb (n := 920) (by decide +kernel) rfl, sr_tb (n := 1) (by decide +kernel) rfl, ⟨by decide, by decide, by decide +kernel⟩, Or.inl fl_L_22⟩, ⟨TX10, 7, rfl, rfl⟩, sr_tb (n := 918) (by decide +kernel) rfl, sr_tb (n := 919) (by decide +kernel) rfl⟩
theorem rm_L_up_10_up : sr_RM sr_mL_up sr_m10_up := ⟨Nat.le_of_ble_eq_true rfl, Nat.le_of_ble_eq_true rfl⟩
def hcL_up_23 (z : Nat) : Option Int32 := match z with
  | 0 => none
  | 1 => some 2
  | 2 => some 1
  | 3 => none
  | _ => none
theorem hfL_up_23 : ∀ z c, hcL_up_23 z = some c → sr_HF sr_mL_up 4 z c := by
  intro z c h
  rcases z with _ | _ | _ | _ | z
  · cases h
  · cases h
    exact ⟨[⟨0, 9, 12, 20⟩], ⟨0, 9, 15, 15⟩, [], "java/lang/IllegalStateException", 3, 2, rfl, (List.forall_mem_cons.mpr ⟨Or.inr ⟨by decide, "java/lang/IndexOutOfBoundsException", sr_tb (n := 879) (by decide +kernel) rfl, by decide +kernel⟩, fun _ h => nomatch h⟩), by decide, by decide, sr_tb (n := 773) (by decide +kernel) rfl, sr_nb (n := 853) (by decide +kernel) rfl, by decide, by decide, Or.inr ⟨3, rfl, by decide +kernel, by decide +kernel, by decide +kernel⟩⟩
  · cases h
    exact ⟨[], ⟨0, 9, 12, 20⟩, [⟨0, 9, 15, 15⟩], "java/lang/IndexOutOfBoundsException", 3, 1, rfl, (fun _ h => nomatch h), by decide, by decide, sr_tb (n := 879) (by decide +kernel) rfl, sr_nb (n := 894) (by decide +kernel) rfl, by decide, by decide, Or.inr ⟨3, rfl, by decide +kernel, by decide +kernel, by decide +kernel⟩⟩
  · cases h
  · cases h
def FL_up_23 (a1 : Int32) (t : sr_t) : sr_Rs := (sr_bc (F10_up a1 t) hcL_up_23 (sr_dI (fun v1 t1 => (if (0 : Int32) < 0 ∨ 1 ≤ (0 : Int32).toNatClampNeg then none else sr_lt (sr_ul t1 23 0 (0 : Int32).toNatClampNeg v1.toInt64) (fun t2 => (some (.inl (some (sr_i 0)), t2)))))))
theorem CL_up_23 (l : Launch) (a1 : Int32)  (t : sr_t) : sr_ct' l sr_mL_up [sr_r 10 0, sr_i a1, sr_r 23 0] t (FL_up_23 a1 t) 2 12 := by
  refine sr_T_ofH (L0 := [some (sr_r 10 0), some (sr_i a1), some (sr_r 23 0), none]) rfl (by decide +kernel) (fun _ => rfl) (fun _ => Nat.le_of_ble_eq_true rfl) ?_
  unfold FL_up_23
  refine sr_aloadn (pc := 0) (n := 2) (by decide +kernel) rfl ?_
  refine sr_iconst (pc := 1) (n := 0) (v := 0) (by decide +kernel) rfl ?_
  refine sr_aloadn (pc := 2) (n := 0) (by decide +kernel) rfl ?_
  refine sr_iloadn (pc := 3) (n := 1) (by decide +kernel) rfl ?_
  refine sr_cVC (pc := 4) (As := [sr_i a1]) (mc1 := 2) (ms1 := 12) (mc2 := 0) (ms2 := 0) (hc := hcL_up_23) fm_L_22 fl_L_22 (by decide +kernel) (sr_in10 _ (by omega)) (rm_L_up_10_up) rfl rfl rfl hfL_up_23 (C10_up l a1 t) ?_
  refine sr_kI (fun v1 t1 => ?_)
  refine sr_i2l (pc := 7) (by decide +kernel) ?_
  refine sr_sL (pc := 8) (n := 1) rfl (by decide +kernel) (sr_in23 _ (by omega)) (fun _ _ => rfl) (fun t2 => ?_)
  refine sr_goto (pc := 9) (off := 9) (tg := 18) (by decide +kernel) (by decide) ?_
  refine sr_iconst (pc := 18) (n := 0) (v := 0) (by decide +kernel) rfl ?_
  exact sr_iret (pc := 19) (by decide +kernel) rfl
def sr_mL_mend : sr_M := (⟨"ShiftRingLaw", "mend", "(LShiftRing;I[J)I"⟩, method_6_code, 4, (some .int), [(0, 9, 12, 20), (0, 9, 15, 15)], 8, 133)
theorem fl_L_25 : Cond.methodLink "ShiftRingLaw" 25 (sr_My sr_m10_mend) ∈ sr_TB := (sr_tb (n := 926) (by decide +kernel) rfl)
theorem fm_L_25 : sr_FV "ShiftRingLaw" 25 sr_m10_mend 10 1 := ⟨⟨rfl, sr_tb (n := 929) (by decide +kernel) rfl, sr_tb (n := 1) (by decide +kernel) rfl, ⟨by decide, by decide, by decide +kernel⟩, Or.inl fl_L_25⟩, ⟨TX10, 7, rfl, rfl⟩, sr_tb (n := 927) (by decide +kernel) rfl, sr_tb (n := 928) (by decide +kernel) rfl⟩
theorem rm_L_mend_10_mend : sr_RM sr_mL_mend sr_m10_mend := ⟨Nat.le_of_ble_eq_true rfl, Nat.le_of_ble_eq_true rfl⟩
def hcL_mend_23 (z : Nat) : Option Int32 := match z with
  | 0 => none
  | 1 => some 2
  | 2 => some 1
  | 3 => none
  | _ => none
theorem hfL_mend_23 : ∀ z c, hcL_mend_23 z = some c → sr_HF sr_mL_mend 4 z c := by
  intro z c h
  rcases z with _ | _ | _ | _ | z
  · cases h
  · cases h
    exact ⟨[⟨0, 9, 12, 20⟩], ⟨0, 9, 15, 15⟩, [], "java/lang/IllegalStateException", 3, 2, rfl, (List.forall_mem_cons.mpr ⟨Or.inr ⟨by decide, "java/lang/IndexOutOfBoundsException", sr_tb (n := 879) (by decide +kernel) rfl, by decide +kernel⟩, fun _ h => nomatch h⟩), by decide, by decide, sr_tb (n := 773) (by decide +kernel) rfl, sr_nb (n := 853) (by decide +kernel) rfl, by decide, by decide, Or.inr ⟨3, rfl, by decide +kernel, by decide +kernel, by decide +kernel⟩⟩
  · cases h
    exact ⟨[], ⟨0, 9, 12, 20⟩, [⟨0, 9, 15, 15⟩], "java/lang/IndexOutOfBoundsException", 3, 1, rfl, (fun _ h => nomatch h), by decide, by decide, sr_tb (n := 879) (by decide +kernel) rfl, sr_nb (n := 894) (by decide +kernel) rfl, by decide, by decide, Or.inr ⟨3, rfl, by decide +kernel, by decide +kernel, by decide +kernel⟩⟩
  · cases h
  · cases h
def FL_mend_23 (a1 : Int32) (t : sr_t) : sr_Rs := (sr_bc (F10_mend a1 t) hcL_mend_23 (sr_dI (fun v1 t1 => (if (0 : Int32) < 0 ∨ 1 ≤ (0 : Int32).toNatClampNeg then none else sr_lt (sr_ul t1 23 0 (0 : Int32).toNatClampNeg v1.toInt64) (fun t2 => (some (.inl (some (sr_i 0)), t2)))))))
theorem CL_mend_23 (l : Launch) (a1 : Int32)  (t : sr_t) : sr_ct' l sr_mL_mend [sr_r 10 0, sr_i a1, sr_r 23 0] t (FL_mend_23 a1 t) 2 12 := by
  refine sr_T_ofH (L0 := [some (sr_r 10 0), some (sr_i a1), some (sr_r 23 0), none]) rfl (by decide +kernel) (fun _ => rfl) (fun _ => Nat.le_of_ble_eq_true rfl) ?_
  unfold FL_mend_23
  refine sr_aloadn (pc := 0) (n := 2) (by decide +kernel) rfl ?_
  refine sr_iconst (pc := 1) (n := 0) (v := 0) (by decide +kernel) rfl ?_
  refine sr_aloadn (pc := 2) (n := 0) (by decide +kernel) rfl ?_
  refine sr_iloadn (pc := 3) (n := 1) (by decide +kernel) rfl ?_
  refine sr_cVC (pc := 4) (As := [sr_i a1]) (mc1 := 2) (ms1 := 12) (mc2 := 0) (ms2 := 0) (hc := hcL_mend_23) fm_L_25 fl_L_25 (by decide +kernel) (sr_in10 _ (by omega)) (rm_L_mend_10_mend) rfl rfl rfl hfL_mend_23 (C10_mend l a1 t) ?_
  refine sr_kI (fun v1 t1 => ?_)
  refine sr_i2l (pc := 7) (by decide +kernel) ?_
  refine sr_sL (pc := 8) (n := 1) rfl (by decide +kernel) (sr_in23 _ (by omega)) (fun _ _ => rfl) (fun t2 => ?_)
  refine sr_goto (pc := 9) (off := 9) (tg := 18) (by decide +kernel) (by decide) ?_
  refine sr_iconst (pc := 18) (n := 0) (v := 0) (by decide +kernel) rfl ?_
  exact sr_iret (pc := 19) (by decide +kernel) rfl
def sr_mL_turn : sr_M := (⟨"ShiftRingLaw", "turn", "(LShiftRing;I[J)I"⟩, method_7_code, 4, (some .int), [(0, 9, 12, 13)], 8, 132)
theorem fl_L_28 : Cond.methodLink "ShiftRingLaw" 28 (sr_My sr_m10_turn) ∈ sr_TB := (sr_tb (n := 935) (by decide +kernel) rfl)
theorem fm_L_28 : sr_FV "ShiftRingLaw" 28 sr_m10_turn 10 1 := ⟨⟨rfl, sr_tb (n := 938) (by decide +kernel) rfl, sr_tb (n := 1) (by decide +kernel) rfl, ⟨by decide, by decide, by decide +kernel⟩, Or.inl fl_L_28⟩, ⟨TX10, 7, rfl, rfl⟩, sr_tb (n := 936) (by decide +kernel) rfl, sr_tb (n := 937) (by decide +kernel) rfl⟩
theorem rm_L_turn_10_turn : sr_RM sr_mL_turn sr_m10_turn := ⟨Nat.le_of_ble_eq_true rfl, Nat.le_of_ble_eq_true rfl⟩
def hcL_turn_23 (z : Nat) : Option Int32 := match z with
  | 0 => some 1
  | 1 => none
  | 2 => none
  | 3 => none
  | _ => none
theorem hfL_turn_23 : ∀ z c, hcL_turn_23 z = some c → sr_HF sr_mL_turn 4 z c := by
  intro z c h
  rcases z with _ | _ | _ | _ | z
  · cases h
    exact ⟨[], ⟨0, 9, 12, 13⟩, [], "java/lang/IllegalArgumentException", 3, 1, rfl, (fun _ h => nomatch h), by decide, by decide, sr_tb (n := 772) (by decide +kernel) rfl, sr_nb (n := 783) (by decide +kernel) rfl, by decide, by decide, Or.inr ⟨3, rfl, by decide +kernel, by decide +kernel, by decide +kernel⟩⟩
  · cases h
  · cases h
  · cases h
  · cases h
def FL_turn_23 (a1 : Int32) (t : sr_t) : sr_Rs := (sr_bc (F10_turn a1 t) hcL_turn_23 (sr_dI (fun v1 t1 => (if (0 : Int32) < 0 ∨ 1 ≤ (0 : Int32).toNatClampNeg then none else sr_lt (sr_ul t1 23 0 (0 : Int32).toNatClampNeg v1.toInt64) (fun t2 => (some (.inl (some (sr_i 0)), t2)))))))
theorem CL_turn_23 (l : Launch) (a1 : Int32)  (t : sr_t) : sr_ct' l sr_mL_turn [sr_r 10 0, sr_i a1, sr_r 23 0] t (FL_turn_23 a1 t) 1 6 := by
  refine sr_T_ofH (L0 := [some (sr_r 10 0), some (sr_i a1), some (sr_r 23 0), none]) rfl (by decide +kernel) (fun _ => rfl) (fun _ => Nat.le_of_ble_eq_true rfl) ?_
  unfold FL_turn_23
  refine sr_aloadn (pc := 0) (n := 2) (by decide +kernel) rfl ?_
  refine sr_iconst (pc := 1) (n := 0) (v := 0) (by decide +kernel) rfl ?_
  refine sr_aloadn (pc := 2) (n := 0) (by decide +kernel) rfl ?_
  refine sr_iloadn (pc := 3) (n := 1) (by decide +kernel) rfl ?_
  refine sr_cVC (pc := 4) (As := [sr_i a1]) (mc1 := 1) (ms1 := 6) (mc2 := 0) (ms2 := 0) (hc := hcL_turn_23) fm_L_28 fl_L_28 (by decide +kernel) (sr_in10 _ (by omega)) (rm_L_turn_10_turn) rfl rfl rfl hfL_turn_23 (C10_turn l a1 t) ?_
  refine sr_kI (fun v1 t1 => ?_)
  refine sr_i2l (pc := 7) (by decide +kernel) ?_
  refine sr_sL (pc := 8) (n := 1) rfl (by decide +kernel) (sr_in23 _ (by omega)) (fun _ _ => rfl) (fun t2 => ?_)
  refine sr_goto (pc := 9) (off := 6) (tg := 15) (by decide +kernel) (by decide) ?_
  refine sr_iconst (pc := 15) (n := 0) (v := 0) (by decide +kernel) rfl ?_
  exact sr_iret (pc := 16) (by decide +kernel) rfl
def sr_mL_degree : sr_M := (⟨"ShiftRingLaw", "degree", "(LShiftRing;I[J)I"⟩, method_8_code, 4, (some .int), [(0, 9, 12, 13)], 8, 132)
theorem fl_L_31 : Cond.methodLink "ShiftRingLaw" 31 (sr_My sr_m10_degree) ∈ sr_TB := (sr_tb (n := 948) (by decide +kernel) rfl)
theorem fm_L_31 : sr_FV "ShiftRingLaw" 31 sr_m10_degree 10 1 := ⟨⟨rfl, sr_tb (n := 951) (by decide +kernel) rfl, sr_tb (n := 1) (by decide +kernel) rfl, ⟨by decide, by decide, by decide +kernel⟩, Or.inl fl_L_31⟩, ⟨TX10, 7, rfl, rfl⟩, sr_tb (n := 949) (by decide +kernel) rfl, sr_tb (n := 950) (by decide +kernel) rfl⟩
theorem rm_L_degree_10_degree : sr_RM sr_mL_degree sr_m10_degree := ⟨Nat.le_of_ble_eq_true rfl, Nat.le_of_ble_eq_true rfl⟩
def hcL_degree_23 (z : Nat) : Option Int32 := match z with
  | 0 => some 1
  | 1 => none
  | 2 => none
  | 3 => none
  | _ => none
theorem hfL_degree_23 : ∀ z c, hcL_degree_23 z = some c → sr_HF sr_mL_degree 4 z c := by
  intro z c h
  rcases z with _ | _ | _ | _ | z
  · cases h
    exact ⟨[], ⟨0, 9, 12, 13⟩, [], "java/lang/IllegalArgumentException", 3, 1, rfl, (fun _ h => nomatch h), by decide, by decide, sr_tb (n := 772) (by decide +kernel) rfl, sr_nb (n := 783) (by decide +kernel) rfl, by decide, by decide, Or.inr ⟨3, rfl, by decide +kernel, by decide +kernel, by decide +kernel⟩⟩
  · cases h
  · cases h
  · cases h
  · cases h
def FL_degree_23 (a1 : Int32) (t : sr_t) : sr_Rs := (sr_bc (F10_degree a1 t) hcL_degree_23 (sr_dI (fun v1 t1 => (if (0 : Int32) < 0 ∨ 1 ≤ (0 : Int32).toNatClampNeg then none else sr_lt (sr_ul t1 23 0 (0 : Int32).toNatClampNeg v1.toInt64) (fun t2 => (some (.inl (some (sr_i 0)), t2)))))))
theorem CL_degree_23 (l : Launch) (a1 : Int32)  (t : sr_t) : sr_ct' l sr_mL_degree [sr_r 10 0, sr_i a1, sr_r 23 0] t (FL_degree_23 a1 t) 1 6 := by
  refine sr_T_ofH (L0 := [some (sr_r 10 0), some (sr_i a1), some (sr_r 23 0), none]) rfl (by decide +kernel) (fun _ => rfl) (fun _ => Nat.le_of_ble_eq_true rfl) ?_
  unfold FL_degree_23
  refine sr_aloadn (pc := 0) (n := 2) (by decide +kernel) rfl ?_
  refine sr_iconst (pc := 1) (n := 0) (v := 0) (by decide +kernel) rfl ?_
  refine sr_aloadn (pc := 2) (n := 0) (by decide +kernel) rfl ?_
  refine sr_iloadn (pc := 3) (n := 1) (by decide +kernel) rfl ?_
  refine sr_cVC (pc := 4) (As := [sr_i a1]) (mc1 := 1) (ms1 := 6) (mc2 := 0) (ms2 := 0) (hc := hcL_degree_23) fm_L_31 fl_L_31 (by decide +kernel) (sr_in10 _ (by omega)) (rm_L_degree_10_degree) rfl rfl rfl hfL_degree_23 (C10_degree l a1 t) ?_
  refine sr_kI (fun v1 t1 => ?_)
  refine sr_i2l (pc := 7) (by decide +kernel) ?_
  refine sr_sL (pc := 8) (n := 1) rfl (by decide +kernel) (sr_in23 _ (by omega)) (fun _ _ => rfl) (fun t2 => ?_)
  refine sr_goto (pc := 9) (off := 6) (tg := 15) (by decide +kernel) (by decide) ?_
  refine sr_iconst (pc := 15) (n := 0) (v := 0) (by decide +kernel) rfl ?_
  exact sr_iret (pc := 16) (by decide +kernel) rfl
def sr_mL_spot : sr_M := (⟨"ShiftRingLaw", "spot", "(LShiftRing;II[J)I"⟩, method_9_code, 5, (some .int), [(0, 10, 13, 20), (0, 10, 17, 13)], 8, 135)
theorem fl_L_34 : Cond.methodLink "ShiftRingLaw" 34 (sr_My sr_m10_spot) ∈ sr_TB := (sr_tb (n := 959) (by decide +kernel) rfl)
theorem fm_L_34 : sr_FV "ShiftRingLaw" 34 sr_m10_spot 10 2 := ⟨⟨rfl, sr_tb (n := 962) (by decide +kernel) rfl, sr_tb (n := 1) (by decide +kernel) rfl, ⟨by decide, by decide, by decide +kernel⟩, Or.inl fl_L_34⟩, ⟨TX10, 7, rfl, rfl⟩, sr_tb (n := 960) (by decide +kernel) rfl, sr_tb (n := 961) (by decide +kernel) rfl⟩
theorem rm_L_spot_10_spot : sr_RM sr_mL_spot sr_m10_spot := ⟨Nat.le_of_ble_eq_true rfl, Nat.le_of_ble_eq_true rfl⟩
def hcL_spot_23 (z : Nat) : Option Int32 := match z with
  | 0 => some 2
  | 1 => none
  | 2 => some 1
  | 3 => none
  | _ => none
theorem hfL_spot_23 : ∀ z c, hcL_spot_23 z = some c → sr_HF sr_mL_spot 5 z c := by
  intro z c h
  rcases z with _ | _ | _ | _ | z
  · cases h
    exact ⟨[⟨0, 10, 13, 20⟩], ⟨0, 10, 17, 13⟩, [], "java/lang/IllegalArgumentException", 4, 2, rfl, (List.forall_mem_cons.mpr ⟨Or.inr ⟨by decide, "java/lang/IndexOutOfBoundsException", sr_tb (n := 879) (by decide +kernel) rfl, by decide +kernel⟩, fun _ h => nomatch h⟩), by decide, by decide, sr_tb (n := 772) (by decide +kernel) rfl, sr_nb (n := 783) (by decide +kernel) rfl, by decide, by decide, Or.inl ⟨by decide +kernel, by decide +kernel, by decide +kernel⟩⟩
  · cases h
  · cases h
    exact ⟨[], ⟨0, 10, 13, 20⟩, [⟨0, 10, 17, 13⟩], "java/lang/IndexOutOfBoundsException", 4, 1, rfl, (fun _ h => nomatch h), by decide, by decide, sr_tb (n := 879) (by decide +kernel) rfl, sr_nb (n := 894) (by decide +kernel) rfl, by decide, by decide, Or.inl ⟨by decide +kernel, by decide +kernel, by decide +kernel⟩⟩
  · cases h
  · cases h
def FL_spot_23 (a1 : Int32) (a2 : Int32) (t : sr_t) : sr_Rs := (sr_bc (F10_spot a1 a2 t) hcL_spot_23 (sr_dI (fun v1 t1 => (if (0 : Int32) < 0 ∨ 1 ≤ (0 : Int32).toNatClampNeg then none else sr_lt (sr_ul t1 23 0 (0 : Int32).toNatClampNeg v1.toInt64) (fun t2 => (some (.inl (some (sr_i 0)), t2)))))))
theorem CL_spot_23 (l : Launch) (a1 : Int32) (a2 : Int32)  (t : sr_t) : sr_ct' l sr_mL_spot [sr_r 10 0, sr_i a1, sr_i a2, sr_r 23 0] t (FL_spot_23 a1 a2 t) 2 12 := by
  refine sr_T_ofH (L0 := [some (sr_r 10 0), some (sr_i a1), some (sr_i a2), some (sr_r 23 0), none]) rfl (by decide +kernel) (fun _ => rfl) (fun _ => Nat.le_of_ble_eq_true rfl) ?_
  unfold FL_spot_23
  refine sr_aloadn (pc := 0) (n := 3) (by decide +kernel) rfl ?_
  refine sr_iconst (pc := 1) (n := 0) (v := 0) (by decide +kernel) rfl ?_
  refine sr_aloadn (pc := 2) (n := 0) (by decide +kernel) rfl ?_
  refine sr_iloadn (pc := 3) (n := 1) (by decide +kernel) rfl ?_
  refine sr_iloadn (pc := 4) (n := 2) (by decide +kernel) rfl ?_
  refine sr_cVC (pc := 5) (As := [sr_i a1, sr_i a2]) (mc1 := 2) (ms1 := 12) (mc2 := 0) (ms2 := 0) (hc := hcL_spot_23) fm_L_34 fl_L_34 (by decide +kernel) (sr_in10 _ (by omega)) (rm_L_spot_10_spot) rfl rfl rfl hfL_spot_23 (C10_spot l a1 a2 t) ?_
  refine sr_kI (fun v1 t1 => ?_)
  refine sr_i2l (pc := 8) (by decide +kernel) ?_
  refine sr_sL (pc := 9) (n := 1) rfl (by decide +kernel) (sr_in23 _ (by omega)) (fun _ _ => rfl) (fun t2 => ?_)
  refine sr_goto (pc := 10) (off := 11) (tg := 21) (by decide +kernel) (by decide) ?_
  refine sr_iconst (pc := 21) (n := 0) (v := 0) (by decide +kernel) rfl ?_
  exact sr_iret (pc := 22) (by decide +kernel) rfl
def sr_mL_lookup : sr_M := (⟨"ShiftRingLaw", "lookup", "(LShiftRing;IIZ[J)I"⟩, method_10_code, 6, (some .int), [(0, 12, 15, 20), (0, 12, 19, 13), (0, 12, 23, 15)], 8, 134)
theorem fl_L_38 : Cond.methodLink "ShiftRingLaw" 38 (sr_My sr_m10_lookup) ∈ sr_TB := (sr_tb (n := 967) (by decide +kernel) rfl)
theorem fm_L_38 : sr_FV "ShiftRingLaw" 38 sr_m10_lookup 10 3 := ⟨⟨rfl, sr_tb (n := 970) (by decide +kernel) rfl, sr_tb (n := 1) (by decide +kernel) rfl, ⟨by decide, by decide, by decide +kernel⟩, Or.inl fl_L_38⟩, ⟨TX10, 7, rfl, rfl⟩, sr_tb (n := 968) (by decide +kernel) rfl, sr_tb (n := 969) (by decide +kernel) rfl⟩
theorem rm_L_lookup_10_lookup : sr_RM sr_mL_lookup sr_m10_lookup := ⟨Nat.le_of_ble_eq_true rfl, Nat.le_of_ble_eq_true rfl⟩
def hcL_lookup_23 (z : Nat) : Option Int32 := match z with
  | 0 => some 2
  | 1 => some 3
  | 2 => some 1
  | 3 => none
  | _ => none
theorem hfL_lookup_23 : ∀ z c, hcL_lookup_23 z = some c → sr_HF sr_mL_lookup 7 z c := by
  intro z c h
  rcases z with _ | _ | _ | _ | z
  · cases h
    exact ⟨[⟨0, 12, 15, 20⟩], ⟨0, 12, 19, 13⟩, [⟨0, 12, 23, 15⟩], "java/lang/IllegalArgumentException", 5, 2, rfl, (List.forall_mem_cons.mpr ⟨Or.inr ⟨by decide, "java/lang/IndexOutOfBoundsException", sr_tb (n := 879) (by decide +kernel) rfl, by decide +kernel⟩, fun _ h => nomatch h⟩), by decide, by decide, sr_tb (n := 772) (by decide +kernel) rfl, sr_nb (n := 783) (by decide +kernel) rfl, by decide, by decide, Or.inl ⟨by decide +kernel, by decide +kernel, by decide +kernel⟩⟩
  · cases h
    exact ⟨[⟨0, 12, 15, 20⟩, ⟨0, 12, 19, 13⟩], ⟨0, 12, 23, 15⟩, [], "java/lang/IllegalStateException", 5, 3, rfl, (List.forall_mem_cons.mpr ⟨Or.inr ⟨by decide, "java/lang/IndexOutOfBoundsException", sr_tb (n := 879) (by decide +kernel) rfl, by decide +kernel⟩, List.forall_mem_cons.mpr ⟨Or.inr ⟨by decide, "java/lang/IllegalArgumentException", sr_tb (n := 772) (by decide +kernel) rfl, by decide +kernel⟩, fun _ h => nomatch h⟩⟩), by decide, by decide, sr_tb (n := 773) (by decide +kernel) rfl, sr_nb (n := 853) (by decide +kernel) rfl, by decide, by decide, Or.inl ⟨by decide +kernel, by decide +kernel, by decide +kernel⟩⟩
  · cases h
    exact ⟨[], ⟨0, 12, 15, 20⟩, [⟨0, 12, 19, 13⟩, ⟨0, 12, 23, 15⟩], "java/lang/IndexOutOfBoundsException", 5, 1, rfl, (fun _ h => nomatch h), by decide, by decide, sr_tb (n := 879) (by decide +kernel) rfl, sr_nb (n := 894) (by decide +kernel) rfl, by decide, by decide, Or.inl ⟨by decide +kernel, by decide +kernel, by decide +kernel⟩⟩
  · cases h
  · cases h
def FL_lookup_23 (a1 : Int32) (a2 : Int32) (a3 : Int32) (t : sr_t) : sr_Rs := (sr_bc (F10_lookup a1 a2 a3 t) hcL_lookup_23 (sr_dI (fun v1 t1 => (if (0 : Int32) < 0 ∨ 1 ≤ (0 : Int32).toNatClampNeg then none else sr_lt (sr_ul t1 23 0 (0 : Int32).toNatClampNeg v1.toInt64) (fun t2 => (some (.inl (some (sr_i 0)), t2)))))))
theorem CL_lookup_23 (l : Launch) (a1 : Int32) (a2 : Int32) (a3 : Int32)  (t : sr_t) : sr_ct' l sr_mL_lookup [sr_r 10 0, sr_i a1, sr_i a2, sr_i a3, sr_r 23 0] t (FL_lookup_23 a1 a2 a3 t) 3 18 := by
  refine sr_T_ofH (L0 := [some (sr_r 10 0), some (sr_i a1), some (sr_i a2), some (sr_i a3), some (sr_r 23 0), none]) rfl (by decide +kernel) (fun _ => rfl) (fun _ => Nat.le_of_ble_eq_true rfl) ?_
  unfold FL_lookup_23
  refine sr_aload (pc := 0) (i := 4) (by decide +kernel) rfl ?_
  refine sr_iconst (pc := 2) (n := 0) (v := 0) (by decide +kernel) rfl ?_
  refine sr_aloadn (pc := 3) (n := 0) (by decide +kernel) rfl ?_
  refine sr_iloadn (pc := 4) (n := 1) (by decide +kernel) rfl ?_
  refine sr_iloadn (pc := 5) (n := 2) (by decide +kernel) rfl ?_
  refine sr_iloadn (pc := 6) (n := 3) (by decide +kernel) rfl ?_
  refine sr_cVC (pc := 7) (As := [sr_i a1, sr_i a2, sr_i a3]) (mc1 := 3) (ms1 := 18) (mc2 := 0) (ms2 := 0) (hc := hcL_lookup_23) fm_L_38 fl_L_38 (by decide +kernel) (sr_in10 _ (by omega)) (rm_L_lookup_10_lookup) rfl rfl rfl hfL_lookup_23 (C10_lookup l a1 a2 a3 t) ?_
  refine sr_kI (fun v1 t1 => ?_)
  refine sr_i2l (pc := 10) (by decide +kernel) ?_
  refine sr_sL (pc := 11) (n := 1) rfl (by decide +kernel) (sr_in23 _ (by omega)) (fun _ _ => rfl) (fun t2 => ?_)
  refine sr_goto (pc := 12) (off := 15) (tg := 27) (by decide +kernel) (by decide) ?_
  refine sr_iconst (pc := 27) (n := 0) (v := 0) (by decide +kernel) rfl ?_
  exact sr_iret (pc := 28) (by decide +kernel) rfl
def sr_mL_latest : sr_M := (⟨"ShiftRingLaw", "latest", "(LShiftRing;I[J)I"⟩, method_11_code, 4, (some .int), [(0, 9, 12, 45)], 8, 132)
theorem fl_L_42 : Cond.methodLink "ShiftRingLaw" 42 (sr_My sr_m10_latest) ∈ sr_TB := (sr_tb (n := 976) (by decide +kernel) rfl)
theorem fm_L_42 : sr_FV "ShiftRingLaw" 42 sr_m10_latest 10 1 := ⟨⟨rfl, sr_tb (n := 979) (by decide +kernel) rfl, sr_tb (n := 1) (by decide +kernel) rfl, ⟨by decide, by decide, by decide +kernel⟩, Or.inl fl_L_42⟩, ⟨TX10, 7, rfl, rfl⟩, sr_tb (n := 977) (by decide +kernel) rfl, sr_tb (n := 978) (by decide +kernel) rfl⟩
theorem rm_L_latest_10_latest : sr_RM sr_mL_latest sr_m10_latest := ⟨Nat.le_of_ble_eq_true rfl, Nat.le_of_ble_eq_true rfl⟩
def hcL_latest_23 (z : Nat) : Option Int32 := match z with
  | 0 => none
  | 1 => none
  | 2 => none
  | 3 => some 1
  | _ => none
theorem hfL_latest_23 : ∀ z c, hcL_latest_23 z = some c → sr_HF sr_mL_latest 4 z c := by
  intro z c h
  rcases z with _ | _ | _ | _ | z
  · cases h
  · cases h
  · cases h
  · cases h
    exact ⟨[], ⟨0, 9, 12, 45⟩, [], "java/util/NoSuchElementException", 3, 1, rfl, (fun _ h => nomatch h), by decide, by decide, sr_tb (n := 975) (by decide +kernel) rfl, sr_nb (n := 985) (by decide +kernel) rfl, by decide, by decide, Or.inr ⟨3, rfl, by decide +kernel, by decide +kernel, by decide +kernel⟩⟩
  · cases h
def FL_latest_23 (a1 : Int32) (t : sr_t) : sr_Rs := (sr_bc (F10_latest a1 t) hcL_latest_23 (sr_dI (fun v1 t1 => (if (0 : Int32) < 0 ∨ 1 ≤ (0 : Int32).toNatClampNeg then none else sr_lt (sr_ul t1 23 0 (0 : Int32).toNatClampNeg v1.toInt64) (fun t2 => (some (.inl (some (sr_i 0)), t2)))))))
theorem CL_latest_23 (l : Launch) (a1 : Int32)  (t : sr_t) : sr_ct' l sr_mL_latest [sr_r 10 0, sr_i a1, sr_r 23 0] t (FL_latest_23 a1 t) 1 6 := by
  refine sr_T_ofH (L0 := [some (sr_r 10 0), some (sr_i a1), some (sr_r 23 0), none]) rfl (by decide +kernel) (fun _ => rfl) (fun _ => Nat.le_of_ble_eq_true rfl) ?_
  unfold FL_latest_23
  refine sr_aloadn (pc := 0) (n := 2) (by decide +kernel) rfl ?_
  refine sr_iconst (pc := 1) (n := 0) (v := 0) (by decide +kernel) rfl ?_
  refine sr_aloadn (pc := 2) (n := 0) (by decide +kernel) rfl ?_
  refine sr_iloadn (pc := 3) (n := 1) (by decide +kernel) rfl ?_
  refine sr_cVC (pc := 4) (As := [sr_i a1]) (mc1 := 1) (ms1 := 6) (mc2 := 0) (ms2 := 0) (hc := hcL_latest_23) fm_L_42 fl_L_42 (by decide +kernel) (sr_in10 _ (by omega)) (rm_L_latest_10_latest) rfl rfl rfl hfL_latest_23 (C10_latest l a1 t) ?_
  refine sr_kI (fun v1 t1 => ?_)
  refine sr_i2l (pc := 7) (by decide +kernel) ?_
  refine sr_sL (pc := 8) (n := 1) rfl (by decide +kernel) (sr_in23 _ (by omega)) (fun _ _ => rfl) (fun t2 => ?_)
  refine sr_goto (pc := 9) (off := 6) (tg := 15) (by decide +kernel) (by decide) ?_
  refine sr_iconst (pc := 15) (n := 0) (v := 0) (by decide +kernel) rfl ?_
  exact sr_iret (pc := 16) (by decide +kernel) rfl
def sr_mL_step : sr_M := (⟨"ShiftRingLaw", "step", "(LShiftRing;II[J)I"⟩, method_12_code, 5, (some .int), [(0, 10, 13, 45)], 8, 133)
theorem fl_L_47 : Cond.methodLink "ShiftRingLaw" 47 (sr_My sr_m10_step) ∈ sr_TB := (sr_tb (n := 1002) (by decide +kernel) rfl)
theorem fm_L_47 : sr_FV "ShiftRingLaw" 47 sr_m10_step 10 2 := ⟨⟨rfl, sr_tb (n := 1005) (by decide +kernel) rfl, sr_tb (n := 1) (by decide +kernel) rfl, ⟨by decide, by decide, by decide +kernel⟩, Or.inl fl_L_47⟩, ⟨TX10, 7, rfl, rfl⟩, sr_tb (n := 1003) (by decide +kernel) rfl, sr_tb (n := 1004) (by decide +kernel) rfl⟩
theorem rm_L_step_10_step : sr_RM sr_mL_step sr_m10_step := ⟨Nat.le_of_ble_eq_true rfl, Nat.le_of_ble_eq_true rfl⟩
def hcL_step_23 (z : Nat) : Option Int32 := match z with
  | 0 => none
  | 1 => none
  | 2 => none
  | 3 => some 1
  | _ => none
theorem hfL_step_23 : ∀ z c, hcL_step_23 z = some c → sr_HF sr_mL_step 5 z c := by
  intro z c h
  rcases z with _ | _ | _ | _ | z
  · cases h
  · cases h
  · cases h
  · cases h
    exact ⟨[], ⟨0, 10, 13, 45⟩, [], "java/util/NoSuchElementException", 4, 1, rfl, (fun _ h => nomatch h), by decide, by decide, sr_tb (n := 975) (by decide +kernel) rfl, sr_nb (n := 985) (by decide +kernel) rfl, by decide, by decide, Or.inl ⟨by decide +kernel, by decide +kernel, by decide +kernel⟩⟩
  · cases h
def FL_step_23 (a1 : Int32) (a2 : Int32) (t : sr_t) : sr_Rs := (sr_bc (F10_step a1 a2 t) hcL_step_23 (sr_dI (fun v1 t1 => (if (0 : Int32) < 0 ∨ 1 ≤ (0 : Int32).toNatClampNeg then none else sr_lt (sr_ul t1 23 0 (0 : Int32).toNatClampNeg v1.toInt64) (fun t2 => (some (.inl (some (sr_i 0)), t2)))))))
theorem CL_step_23 (l : Launch) (a1 : Int32) (a2 : Int32)  (t : sr_t) : sr_ct' l sr_mL_step [sr_r 10 0, sr_i a1, sr_i a2, sr_r 23 0] t (FL_step_23 a1 a2 t) 1 6 := by
  refine sr_T_ofH (L0 := [some (sr_r 10 0), some (sr_i a1), some (sr_i a2), some (sr_r 23 0), none]) rfl (by decide +kernel) (fun _ => rfl) (fun _ => Nat.le_of_ble_eq_true rfl) ?_
  unfold FL_step_23
  refine sr_aloadn (pc := 0) (n := 3) (by decide +kernel) rfl ?_
  refine sr_iconst (pc := 1) (n := 0) (v := 0) (by decide +kernel) rfl ?_
  refine sr_aloadn (pc := 2) (n := 0) (by decide +kernel) rfl ?_
  refine sr_iloadn (pc := 3) (n := 1) (by decide +kernel) rfl ?_
  refine sr_iloadn (pc := 4) (n := 2) (by decide +kernel) rfl ?_
  refine sr_cVC (pc := 5) (As := [sr_i a1, sr_i a2]) (mc1 := 1) (ms1 := 6) (mc2 := 0) (ms2 := 0) (hc := hcL_step_23) fm_L_47 fl_L_47 (by decide +kernel) (sr_in10 _ (by omega)) (rm_L_step_10_step) rfl rfl rfl hfL_step_23 (C10_step l a1 a2 t) ?_
  refine sr_kI (fun v1 t1 => ?_)
  refine sr_i2l (pc := 8) (by decide +kernel) ?_
  refine sr_sL (pc := 9) (n := 1) rfl (by decide +kernel) (sr_in23 _ (by omega)) (fun _ _ => rfl) (fun t2 => ?_)
  refine sr_goto (pc := 10) (off := 7) (tg := 17) (by decide +kernel) (by decide) ?_
  refine sr_iconst (pc := 17) (n := 0) (v := 0) (by decide +kernel) rfl ?_
  exact sr_iret (pc := 18) (by decide +kernel) rfl
def sr_mL_owner : sr_M := (⟨"ShiftRingLaw", "owner", "(LShiftRing;I[J)I"⟩, method_13_code, 4, (some .int), [(0, 9, 12, 13)], 8, 131)
theorem fl_L_50 : Cond.methodLink "ShiftRingLaw" 50 (sr_My sr_m10_owner) ∈ sr_TB := (sr_tb (n := 1010) (by decide +kernel) rfl)
theorem fm_L_50 : sr_FV "ShiftRingLaw" 50 sr_m10_owner 10 1 := ⟨⟨rfl, sr_tb (n := 1013) (by decide +kernel) rfl, sr_tb (n := 1) (by decide +kernel) rfl, ⟨by decide, by decide, by decide +kernel⟩, Or.inl fl_L_50⟩, ⟨TX10, 7, rfl, rfl⟩, sr_tb (n := 1011) (by decide +kernel) rfl, sr_tb (n := 1012) (by decide +kernel) rfl⟩
theorem rm_L_owner_10_owner : sr_RM sr_mL_owner sr_m10_owner := ⟨Nat.le_of_ble_eq_true rfl, Nat.le_of_ble_eq_true rfl⟩
def hcL_owner_23 (z : Nat) : Option Int32 := match z with
  | 0 => some 1
  | 1 => none
  | 2 => none
  | 3 => none
  | _ => none
theorem hfL_owner_23 : ∀ z c, hcL_owner_23 z = some c → sr_HF sr_mL_owner 4 z c := by
  intro z c h
  rcases z with _ | _ | _ | _ | z
  · cases h
    exact ⟨[], ⟨0, 9, 12, 13⟩, [], "java/lang/IllegalArgumentException", 3, 1, rfl, (fun _ h => nomatch h), by decide, by decide, sr_tb (n := 772) (by decide +kernel) rfl, sr_nb (n := 783) (by decide +kernel) rfl, by decide, by decide, Or.inr ⟨3, rfl, by decide +kernel, by decide +kernel, by decide +kernel⟩⟩
  · cases h
  · cases h
  · cases h
  · cases h
def FL_owner_23 (a1 : Int32) (t : sr_t) : sr_Rs := (sr_bc (F10_owner a1 t) hcL_owner_23 (sr_dI (fun v1 t1 => (if (0 : Int32) < 0 ∨ 1 ≤ (0 : Int32).toNatClampNeg then none else sr_lt (sr_ul t1 23 0 (0 : Int32).toNatClampNeg v1.toInt64) (fun t2 => (some (.inl (some (sr_i 0)), t2)))))))
theorem CL_owner_23 (l : Launch) (a1 : Int32)  (t : sr_t) : sr_ct' l sr_mL_owner [sr_r 10 0, sr_i a1, sr_r 23 0] t (FL_owner_23 a1 t) 1 6 := by
  refine sr_T_ofH (L0 := [some (sr_r 10 0), some (sr_i a1), some (sr_r 23 0), none]) rfl (by decide +kernel) (fun _ => rfl) (fun _ => Nat.le_of_ble_eq_true rfl) ?_
  unfold FL_owner_23
  refine sr_aloadn (pc := 0) (n := 2) (by decide +kernel) rfl ?_
  refine sr_iconst (pc := 1) (n := 0) (v := 0) (by decide +kernel) rfl ?_
  refine sr_aloadn (pc := 2) (n := 0) (by decide +kernel) rfl ?_
  refine sr_iloadn (pc := 3) (n := 1) (by decide +kernel) rfl ?_
  refine sr_cVC (pc := 4) (As := [sr_i a1]) (mc1 := 1) (ms1 := 6) (mc2 := 0) (ms2 := 0) (hc := hcL_owner_23) fm_L_50 fl_L_50 (by decide +kernel) (sr_in10 _ (by omega)) (rm_L_owner_10_owner) rfl rfl rfl hfL_owner_23 (C10_owner l a1 t) ?_
  refine sr_kI (fun v1 t1 => ?_)
  refine sr_i2l (pc := 7) (by decide +kernel) ?_
  refine sr_sL (pc := 8) (n := 1) rfl (by decide +kernel) (sr_in23 _ (by omega)) (fun _ _ => rfl) (fun t2 => ?_)
  refine sr_goto (pc := 9) (off := 6) (tg := 15) (by decide +kernel) (by decide) ?_
  refine sr_iconst (pc := 15) (n := 0) (v := 0) (by decide +kernel) rfl ?_
  exact sr_iret (pc := 16) (by decide +kernel) rfl
def sr_mL_node : sr_M := (⟨"ShiftRingLaw", "node", "(LShiftRing;II[J)I"⟩, method_14_code, 5, (some .int), [(0, 10, 13, 20), (0, 10, 17, 45)], 8, 189)
theorem fl_L_53 : Cond.methodLink "ShiftRingLaw" 53 (sr_My sr_m10_node) ∈ sr_TB := (sr_tb (n := 1018) (by decide +kernel) rfl)
theorem fm_L_53 : sr_FV "ShiftRingLaw" 53 sr_m10_node 10 2 := ⟨⟨rfl, sr_tb (n := 1021) (by decide +kernel) rfl, sr_tb (n := 1) (by decide +kernel) rfl, ⟨by decide, by decide, by decide +kernel⟩, Or.inl fl_L_53⟩, ⟨TX10, 7, rfl, rfl⟩, sr_tb (n := 1019) (by decide +kernel) rfl, sr_tb (n := 1020) (by decide +kernel) rfl⟩
theorem rm_L_node_10_node : sr_RM sr_mL_node sr_m10_node := ⟨Nat.le_of_ble_eq_true rfl, Nat.le_of_ble_eq_true rfl⟩
def hcL_node_23 (z : Nat) : Option Int32 := match z with
  | 0 => none
  | 1 => none
  | 2 => some 1
  | 3 => some 2
  | _ => none
theorem hfL_node_23 : ∀ z c, hcL_node_23 z = some c → sr_HF sr_mL_node 5 z c := by
  intro z c h
  rcases z with _ | _ | _ | _ | z
  · cases h
  · cases h
  · cases h
    exact ⟨[], ⟨0, 10, 13, 20⟩, [⟨0, 10, 17, 45⟩], "java/lang/IndexOutOfBoundsException", 4, 1, rfl, (fun _ h => nomatch h), by decide, by decide, sr_tb (n := 879) (by decide +kernel) rfl, sr_nb (n := 894) (by decide +kernel) rfl, by decide, by decide, Or.inl ⟨by decide +kernel, by decide +kernel, by decide +kernel⟩⟩
  · cases h
    exact ⟨[⟨0, 10, 13, 20⟩], ⟨0, 10, 17, 45⟩, [], "java/util/NoSuchElementException", 4, 2, rfl, (List.forall_mem_cons.mpr ⟨Or.inr ⟨by decide, "java/lang/IndexOutOfBoundsException", sr_tb (n := 879) (by decide +kernel) rfl, by decide +kernel⟩, fun _ h => nomatch h⟩), by decide, by decide, sr_tb (n := 975) (by decide +kernel) rfl, sr_nb (n := 985) (by decide +kernel) rfl, by decide, by decide, Or.inl ⟨by decide +kernel, by decide +kernel, by decide +kernel⟩⟩
  · cases h
def FL_node_23 (a1 : Int32) (a2 : Int32) (t : sr_t) : sr_Rs := (sr_bc (F10_node a1 a2 t) hcL_node_23 (sr_dI (fun v1 t1 => (if (0 : Int32) < 0 ∨ 1 ≤ (0 : Int32).toNatClampNeg then none else sr_lt (sr_ul t1 23 0 (0 : Int32).toNatClampNeg v1.toInt64) (fun t2 => (some (.inl (some (sr_i 0)), t2)))))))
theorem CL_node_23 (l : Launch) (a1 : Int32) (a2 : Int32)  (t : sr_t) : sr_ct' l sr_mL_node [sr_r 10 0, sr_i a1, sr_i a2, sr_r 23 0] t (FL_node_23 a1 a2 t) 2 12 := by
  refine sr_T_ofH (L0 := [some (sr_r 10 0), some (sr_i a1), some (sr_i a2), some (sr_r 23 0), none]) rfl (by decide +kernel) (fun _ => rfl) (fun _ => Nat.le_of_ble_eq_true rfl) ?_
  unfold FL_node_23
  refine sr_aloadn (pc := 0) (n := 3) (by decide +kernel) rfl ?_
  refine sr_iconst (pc := 1) (n := 0) (v := 0) (by decide +kernel) rfl ?_
  refine sr_aloadn (pc := 2) (n := 0) (by decide +kernel) rfl ?_
  refine sr_iloadn (pc := 3) (n := 1) (by decide +kernel) rfl ?_
  refine sr_iloadn (pc := 4) (n := 2) (by decide +kernel) rfl ?_
  refine sr_cVC (pc := 5) (As := [sr_i a1, sr_i a2]) (mc1 := 2) (ms1 := 12) (mc2 := 0) (ms2 := 0) (hc := hcL_node_23) fm_L_53 fl_L_53 (by decide +kernel) (sr_in10 _ (by omega)) (rm_L_node_10_node) rfl rfl rfl hfL_node_23 (C10_node l a1 a2 t) ?_
  refine sr_kI (fun v1 t1 => ?_)
  refine sr_i2l (pc := 8) (by decide +kernel) ?_
  refine sr_sL (pc := 9) (n := 1) rfl (by decide +kernel) (sr_in23 _ (by omega)) (fun _ _ => rfl) (fun t2 => ?_)
  refine sr_goto (pc := 10) (off := 11) (tg := 21) (by decide +kernel) (by decide) ?_
  refine sr_iconst (pc := 21) (n := 0) (v := 0) (by decide +kernel) rfl ?_
  exact sr_iret (pc := 22) (by decide +kernel) rfl
def sr_mL_link : sr_M := (⟨"ShiftRingLaw", "link", "(LShiftRing;IIZ[J)I"⟩, method_15_code, 6, (some .int), [(0, 12, 15, 20)], 8, 135)
theorem fl_L_56 : Cond.methodLink "ShiftRingLaw" 56 (sr_My sr_m10_link) ∈ sr_TB := (sr_tb (n := 1036) (by decide +kernel) rfl)
theorem fm_L_56 : sr_FV "ShiftRingLaw" 56 sr_m10_link 10 3 := ⟨⟨rfl, sr_tb (n := 1039) (by decide +kernel) rfl, sr_tb (n := 1) (by decide +kernel) rfl, ⟨by decide, by decide, by decide +kernel⟩, Or.inl fl_L_56⟩, ⟨TX10, 7, rfl, rfl⟩, sr_tb (n := 1037) (by decide +kernel) rfl, sr_tb (n := 1038) (by decide +kernel) rfl⟩
theorem rm_L_link_10_link : sr_RM sr_mL_link sr_m10_link := ⟨Nat.le_of_ble_eq_true rfl, Nat.le_of_ble_eq_true rfl⟩
def hcL_link_23 (z : Nat) : Option Int32 := match z with
  | 0 => none
  | 1 => none
  | 2 => some 1
  | 3 => none
  | _ => none
theorem hfL_link_23 : ∀ z c, hcL_link_23 z = some c → sr_HF sr_mL_link 7 z c := by
  intro z c h
  rcases z with _ | _ | _ | _ | z
  · cases h
  · cases h
  · cases h
    exact ⟨[], ⟨0, 12, 15, 20⟩, [], "java/lang/IndexOutOfBoundsException", 5, 1, rfl, (fun _ h => nomatch h), by decide, by decide, sr_tb (n := 879) (by decide +kernel) rfl, sr_nb (n := 894) (by decide +kernel) rfl, by decide, by decide, Or.inl ⟨by decide +kernel, by decide +kernel, by decide +kernel⟩⟩
  · cases h
  · cases h
def FL_link_23 (a1 : Int32) (a2 : Int32) (a3 : Int32) (t : sr_t) : sr_Rs := (sr_bc (F10_link a1 a2 a3 t) hcL_link_23 (sr_dI (fun v1 t1 => (if (0 : Int32) < 0 ∨ 1 ≤ (0 : Int32).toNatClampNeg then none else sr_lt (sr_ul t1 23 0 (0 : Int32).toNatClampNeg v1.toInt64) (fun t2 => (some (.inl (some (sr_i 0)), t2)))))))
theorem CL_link_23 (l : Launch) (a1 : Int32) (a2 : Int32) (a3 : Int32)  (t : sr_t) : sr_ct' l sr_mL_link [sr_r 10 0, sr_i a1, sr_i a2, sr_i a3, sr_r 23 0] t (FL_link_23 a1 a2 a3 t) 1 6 := by
  refine sr_T_ofH (L0 := [some (sr_r 10 0), some (sr_i a1), some (sr_i a2), some (sr_i a3), some (sr_r 23 0), none]) rfl (by decide +kernel) (fun _ => rfl) (fun _ => Nat.le_of_ble_eq_true rfl) ?_
  unfold FL_link_23
  refine sr_aload (pc := 0) (i := 4) (by decide +kernel) rfl ?_
  refine sr_iconst (pc := 2) (n := 0) (v := 0) (by decide +kernel) rfl ?_
  refine sr_aloadn (pc := 3) (n := 0) (by decide +kernel) rfl ?_
  refine sr_iloadn (pc := 4) (n := 1) (by decide +kernel) rfl ?_
  refine sr_iloadn (pc := 5) (n := 2) (by decide +kernel) rfl ?_
  refine sr_iloadn (pc := 6) (n := 3) (by decide +kernel) rfl ?_
  refine sr_cVC (pc := 7) (As := [sr_i a1, sr_i a2, sr_i a3]) (mc1 := 1) (ms1 := 6) (mc2 := 0) (ms2 := 0) (hc := hcL_link_23) fm_L_56 fl_L_56 (by decide +kernel) (sr_in10 _ (by omega)) (rm_L_link_10_link) rfl rfl rfl hfL_link_23 (C10_link l a1 a2 a3 t) ?_
  refine sr_kI (fun v1 t1 => ?_)
  refine sr_i2l (pc := 10) (by decide +kernel) ?_
  refine sr_sL (pc := 11) (n := 1) rfl (by decide +kernel) (sr_in23 _ (by omega)) (fun _ _ => rfl) (fun t2 => ?_)
  refine sr_goto (pc := 12) (off := 7) (tg := 19) (by decide +kernel) (by decide) ?_
  refine sr_iconst (pc := 19) (n := 0) (v := 0) (by decide +kernel) rfl ?_
  exact sr_iret (pc := 20) (by decide +kernel) rfl
def sr_mL_letter : sr_M := (⟨"ShiftRingLaw", "letter", "(LShiftRing;II[J)I"⟩, method_16_code, 5, (some .int), [(0, 10, 13, 13)], 8, 132)
theorem fl_L_59 : Cond.methodLink "ShiftRingLaw" 59 (sr_My sr_m10_letter) ∈ sr_TB := (sr_tb (n := 1043) (by decide +kernel) rfl)
theorem fm_L_59 : sr_FV "ShiftRingLaw" 59 sr_m10_letter 10 2 := ⟨⟨rfl, sr_tb (n := 1046) (by decide +kernel) rfl, sr_tb (n := 1) (by decide +kernel) rfl, ⟨by decide, by decide, by decide +kernel⟩, Or.inl fl_L_59⟩, ⟨TX10, 7, rfl, rfl⟩, sr_tb (n := 1044) (by decide +kernel) rfl, sr_tb (n := 1045) (by decide +kernel) rfl⟩
theorem rm_L_letter_10_letter : sr_RM sr_mL_letter sr_m10_letter := ⟨Nat.le_of_ble_eq_true rfl, Nat.le_of_ble_eq_true rfl⟩
def hcL_letter_23 (z : Nat) : Option Int32 := match z with
  | 0 => some 1
  | 1 => none
  | 2 => none
  | 3 => none
  | _ => none
theorem hfL_letter_23 : ∀ z c, hcL_letter_23 z = some c → sr_HF sr_mL_letter 5 z c := by
  intro z c h
  rcases z with _ | _ | _ | _ | z
  · cases h
    exact ⟨[], ⟨0, 10, 13, 13⟩, [], "java/lang/IllegalArgumentException", 4, 1, rfl, (fun _ h => nomatch h), by decide, by decide, sr_tb (n := 772) (by decide +kernel) rfl, sr_nb (n := 783) (by decide +kernel) rfl, by decide, by decide, Or.inl ⟨by decide +kernel, by decide +kernel, by decide +kernel⟩⟩
  · cases h
  · cases h
  · cases h
  · cases h
def FL_letter_23 (a1 : Int32) (a2 : Int32) (t : sr_t) : sr_Rs := (sr_bc (F10_letter a1 a2 t) hcL_letter_23 (sr_dI (fun v1 t1 => (if (0 : Int32) < 0 ∨ 1 ≤ (0 : Int32).toNatClampNeg then none else sr_lt (sr_ul t1 23 0 (0 : Int32).toNatClampNeg v1.toInt64) (fun t2 => (some (.inl (some (sr_i 0)), t2)))))))
theorem CL_letter_23 (l : Launch) (a1 : Int32) (a2 : Int32)  (t : sr_t) : sr_ct' l sr_mL_letter [sr_r 10 0, sr_i a1, sr_i a2, sr_r 23 0] t (FL_letter_23 a1 a2 t) 1 6 := by
  refine sr_T_ofH (L0 := [some (sr_r 10 0), some (sr_i a1), some (sr_i a2), some (sr_r 23 0), none]) rfl (by decide +kernel) (fun _ => rfl) (fun _ => Nat.le_of_ble_eq_true rfl) ?_
  unfold FL_letter_23
  refine sr_aloadn (pc := 0) (n := 3) (by decide +kernel) rfl ?_
  refine sr_iconst (pc := 1) (n := 0) (v := 0) (by decide +kernel) rfl ?_
  refine sr_aloadn (pc := 2) (n := 0) (by decide +kernel) rfl ?_
  refine sr_iloadn (pc := 3) (n := 1) (by decide +kernel) rfl ?_
  refine sr_iloadn (pc := 4) (n := 2) (by decide +kernel) rfl ?_
  refine sr_cVC (pc := 5) (As := [sr_i a1, sr_i a2]) (mc1 := 1) (ms1 := 6) (mc2 := 0) (ms2 := 0) (hc := hcL_letter_23) fm_L_59 fl_L_59 (by decide +kernel) (sr_in10 _ (by omega)) (rm_L_letter_10_letter) rfl rfl rfl hfL_letter_23 (C10_letter l a1 a2 t) ?_
  refine sr_kI (fun v1 t1 => ?_)
  refine sr_i2l (pc := 8) (by decide +kernel) ?_
  refine sr_sL (pc := 9) (n := 1) rfl (by decide +kernel) (sr_in23 _ (by omega)) (fun _ _ => rfl) (fun t2 => ?_)
  refine sr_goto (pc := 10) (off := 7) (tg := 17) (by decide +kernel) (by decide) ?_
  refine sr_iconst (pc := 17) (n := 0) (v := 0) (by decide +kernel) rfl ?_
  exact sr_iret (pc := 18) (by decide +kernel) rfl
def sr_mL_overlap : sr_M := (⟨"ShiftRingLaw", "overlap", "(LShiftRing;II[J)I"⟩, method_17_code, 5, (some .int), [(0, 10, 13, 13)], 8, 132)
theorem fl_L_62 : Cond.methodLink "ShiftRingLaw" 62 (sr_My sr_m10_overlap) ∈ sr_TB := (sr_tb (n := 1051) (by decide +kernel) rfl)
theorem fm_L_62 : sr_FV "ShiftRingLaw" 62 sr_m10_overlap 10 2 := ⟨⟨rfl, sr_tb (n := 1054) (by decide +kernel) rfl, sr_tb (n := 1) (by decide +kernel) rfl, ⟨by decide, by decide, by decide +kernel⟩, Or.inl fl_L_62⟩, ⟨TX10, 7, rfl, rfl⟩, sr_tb (n := 1052) (by decide +kernel) rfl, sr_tb (n := 1053) (by decide +kernel) rfl⟩
theorem rm_L_overlap_10_overlap : sr_RM sr_mL_overlap sr_m10_overlap := ⟨Nat.le_of_ble_eq_true rfl, Nat.le_of_ble_eq_true rfl⟩
def hcL_overlap_23 (z : Nat) : Option Int32 := match z with
  | 0 => some 1
  | 1 => none
  | 2 => none
  | 3 => none
  | _ => none
theorem hfL_overlap_23 : ∀ z c, hcL_overlap_23 z = some c → sr_HF sr_mL_overlap 5 z c := by
  intro z c h
  rcases z with _ | _ | _ | _ | z
  · cases h
    exact ⟨[], ⟨0, 10, 13, 13⟩, [], "java/lang/IllegalArgumentException", 4, 1, rfl, (fun _ h => nomatch h), by decide, by decide, sr_tb (n := 772) (by decide +kernel) rfl, sr_nb (n := 783) (by decide +kernel) rfl, by decide, by decide, Or.inl ⟨by decide +kernel, by decide +kernel, by decide +kernel⟩⟩
  · cases h
  · cases h
  · cases h
  · cases h
def FL_overlap_23 (a1 : Int32) (a2 : Int32) (t : sr_t) : sr_Rs := (sr_bc (F10_overlap a1 a2 t) hcL_overlap_23 (sr_dI (fun v1 t1 => (if (0 : Int32) < 0 ∨ 1 ≤ (0 : Int32).toNatClampNeg then none else sr_lt (sr_ul t1 23 0 (0 : Int32).toNatClampNeg v1.toInt64) (fun t2 => (some (.inl (some (sr_i 0)), t2)))))))
theorem CL_overlap_23 (l : Launch) (a1 : Int32) (a2 : Int32)  (t : sr_t) : sr_ct' l sr_mL_overlap [sr_r 10 0, sr_i a1, sr_i a2, sr_r 23 0] t (FL_overlap_23 a1 a2 t) 2 12 := by
  refine sr_T_ofH (L0 := [some (sr_r 10 0), some (sr_i a1), some (sr_i a2), some (sr_r 23 0), none]) rfl (by decide +kernel) (fun _ => rfl) (fun _ => Nat.le_of_ble_eq_true rfl) ?_
  unfold FL_overlap_23
  refine sr_aloadn (pc := 0) (n := 3) (by decide +kernel) rfl ?_
  refine sr_iconst (pc := 1) (n := 0) (v := 0) (by decide +kernel) rfl ?_
  refine sr_aloadn (pc := 2) (n := 0) (by decide +kernel) rfl ?_
  refine sr_iloadn (pc := 3) (n := 1) (by decide +kernel) rfl ?_
  refine sr_iloadn (pc := 4) (n := 2) (by decide +kernel) rfl ?_
  refine sr_cVC (pc := 5) (As := [sr_i a1, sr_i a2]) (mc1 := 2) (ms1 := 12) (mc2 := 0) (ms2 := 0) (hc := hcL_overlap_23) fm_L_62 fl_L_62 (by decide +kernel) (sr_in10 _ (by omega)) (rm_L_overlap_10_overlap) rfl rfl rfl hfL_overlap_23 (C10_overlap l a1 a2 t) ?_
  refine sr_kI (fun v1 t1 => ?_)
  refine sr_i2l (pc := 8) (by decide +kernel) ?_
  refine sr_sL (pc := 9) (n := 1) rfl (by decide +kernel) (sr_in23 _ (by omega)) (fun _ _ => rfl) (fun t2 => ?_)
  refine sr_goto (pc := 10) (off := 7) (tg := 17) (by decide +kernel) (by decide) ?_
  refine sr_iconst (pc := 17) (n := 0) (v := 0) (by decide +kernel) rfl ?_
  exact sr_iret (pc := 18) (by decide +kernel) rfl
def sr_mL_shifted : sr_M := (⟨"ShiftRingLaw", "shifted", "(LShiftRing;III[J)I"⟩, method_18_code, 6, (some .int), [(0, 12, 15, 13)], 8, 136)
theorem fl_L_65 : Cond.methodLink "ShiftRingLaw" 65 (sr_My sr_m10_shifted) ∈ sr_TB := (sr_tb (n := 1064) (by decide +kernel) rfl)
theorem fm_L_65 : sr_FV "ShiftRingLaw" 65 sr_m10_shifted 10 3 := ⟨⟨rfl, sr_tb (n := 1067) (by decide +kernel) rfl, sr_tb (n := 1) (by decide +kernel) rfl, ⟨by decide, by decide, by decide +kernel⟩, Or.inl fl_L_65⟩, ⟨TX10, 7, rfl, rfl⟩, sr_tb (n := 1065) (by decide +kernel) rfl, sr_tb (n := 1066) (by decide +kernel) rfl⟩
theorem rm_L_shifted_10_shifted : sr_RM sr_mL_shifted sr_m10_shifted := ⟨Nat.le_of_ble_eq_true rfl, Nat.le_of_ble_eq_true rfl⟩
def hcL_shifted_23 (z : Nat) : Option Int32 := match z with
  | 0 => some 1
  | 1 => none
  | 2 => none
  | 3 => none
  | _ => none
theorem hfL_shifted_23 : ∀ z c, hcL_shifted_23 z = some c → sr_HF sr_mL_shifted 7 z c := by
  intro z c h
  rcases z with _ | _ | _ | _ | z
  · cases h
    exact ⟨[], ⟨0, 12, 15, 13⟩, [], "java/lang/IllegalArgumentException", 5, 1, rfl, (fun _ h => nomatch h), by decide, by decide, sr_tb (n := 772) (by decide +kernel) rfl, sr_nb (n := 783) (by decide +kernel) rfl, by decide, by decide, Or.inl ⟨by decide +kernel, by decide +kernel, by decide +kernel⟩⟩
  · cases h
  · cases h
  · cases h
  · cases h
def FL_shifted_23 (a1 : Int32) (a2 : Int32) (a3 : Int32) (t : sr_t) : sr_Rs := (sr_bc (F10_shifted a1 a2 a3 t) hcL_shifted_23 (sr_dI (fun v1 t1 => (if (0 : Int32) < 0 ∨ 1 ≤ (0 : Int32).toNatClampNeg then none else sr_lt (sr_ul t1 23 0 (0 : Int32).toNatClampNeg v1.toInt64) (fun t2 => (some (.inl (some (sr_i 0)), t2)))))))
theorem CL_shifted_23 (l : Launch) (a1 : Int32) (a2 : Int32) (a3 : Int32)  (t : sr_t) : sr_ct' l sr_mL_shifted [sr_r 10 0, sr_i a1, sr_i a2, sr_i a3, sr_r 23 0] t (FL_shifted_23 a1 a2 a3 t) 2 12 := by
  refine sr_T_ofH (L0 := [some (sr_r 10 0), some (sr_i a1), some (sr_i a2), some (sr_i a3), some (sr_r 23 0), none]) rfl (by decide +kernel) (fun _ => rfl) (fun _ => Nat.le_of_ble_eq_true rfl) ?_
  unfold FL_shifted_23
  refine sr_aload (pc := 0) (i := 4) (by decide +kernel) rfl ?_
  refine sr_iconst (pc := 2) (n := 0) (v := 0) (by decide +kernel) rfl ?_
  refine sr_aloadn (pc := 3) (n := 0) (by decide +kernel) rfl ?_
  refine sr_iloadn (pc := 4) (n := 1) (by decide +kernel) rfl ?_
  refine sr_iloadn (pc := 5) (n := 2) (by decide +kernel) rfl ?_
  refine sr_iloadn (pc := 6) (n := 3) (by decide +kernel) rfl ?_
  refine sr_cVC (pc := 7) (As := [sr_i a1, sr_i a2, sr_i a3]) (mc1 := 2) (ms1 := 12) (mc2 := 0) (ms2 := 0) (hc := hcL_shifted_23) fm_L_65 fl_L_65 (by decide +kernel) (sr_in10 _ (by omega)) (rm_L_shifted_10_shifted) rfl rfl rfl hfL_shifted_23 (C10_shifted l a1 a2 a3 t) ?_
  refine sr_kI (fun v1 t1 => ?_)
  refine sr_i2l (pc := 10) (by decide +kernel) ?_
  refine sr_sL (pc := 11) (n := 1) rfl (by decide +kernel) (sr_in23 _ (by omega)) (fun _ _ => rfl) (fun t2 => ?_)
  refine sr_goto (pc := 12) (off := 7) (tg := 19) (by decide +kernel) (by decide) ?_
  refine sr_iconst (pc := 19) (n := 0) (v := 0) (by decide +kernel) rfl ?_
  exact sr_iret (pc := 20) (by decide +kernel) rfl
def sr_mL_start : sr_M := (⟨"ShiftRingLaw", "start", "(LShiftRing;II[J)I"⟩, method_19_code, 5, (some .int), [(0, 10, 13, 20), (0, 10, 17, 13), (0, 10, 21, 15)], 9, 155)
theorem fl_L_69 : Cond.methodLink "ShiftRingLaw" 69 (sr_My sr_m10_start) ∈ sr_TB := (sr_tb (n := 1072) (by decide +kernel) rfl)
theorem fm_L_69 : sr_FV "ShiftRingLaw" 69 sr_m10_start 10 2 := ⟨⟨rfl, sr_tb (n := 1075) (by decide +kernel) rfl, sr_tb (n := 1) (by decide +kernel) rfl, ⟨by decide, by decide, by decide +kernel⟩, Or.inl fl_L_69⟩, ⟨TX10, 7, rfl, rfl⟩, sr_tb (n := 1073) (by decide +kernel) rfl, sr_tb (n := 1074) (by decide +kernel) rfl⟩
theorem rm_L_start_10_start : sr_RM sr_mL_start sr_m10_start := ⟨Nat.le_of_ble_eq_true rfl, Nat.le_of_ble_eq_true rfl⟩
def hcL_start_23 (z : Nat) : Option Int32 := match z with
  | 0 => some 2
  | 1 => some 3
  | 2 => some 1
  | 3 => none
  | _ => none
theorem hfL_start_23 : ∀ z c, hcL_start_23 z = some c → sr_HF sr_mL_start 5 z c := by
  intro z c h
  rcases z with _ | _ | _ | _ | z
  · cases h
    exact ⟨[⟨0, 10, 13, 20⟩], ⟨0, 10, 17, 13⟩, [⟨0, 10, 21, 15⟩], "java/lang/IllegalArgumentException", 4, 2, rfl, (List.forall_mem_cons.mpr ⟨Or.inr ⟨by decide, "java/lang/IndexOutOfBoundsException", sr_tb (n := 879) (by decide +kernel) rfl, by decide +kernel⟩, fun _ h => nomatch h⟩), by decide, by decide, sr_tb (n := 772) (by decide +kernel) rfl, sr_nb (n := 783) (by decide +kernel) rfl, by decide, by decide, Or.inl ⟨by decide +kernel, by decide +kernel, by decide +kernel⟩⟩
  · cases h
    exact ⟨[⟨0, 10, 13, 20⟩, ⟨0, 10, 17, 13⟩], ⟨0, 10, 21, 15⟩, [], "java/lang/IllegalStateException", 4, 3, rfl, (List.forall_mem_cons.mpr ⟨Or.inr ⟨by decide, "java/lang/IndexOutOfBoundsException", sr_tb (n := 879) (by decide +kernel) rfl, by decide +kernel⟩, List.forall_mem_cons.mpr ⟨Or.inr ⟨by decide, "java/lang/IllegalArgumentException", sr_tb (n := 772) (by decide +kernel) rfl, by decide +kernel⟩, fun _ h => nomatch h⟩⟩), by decide, by decide, sr_tb (n := 773) (by decide +kernel) rfl, sr_nb (n := 853) (by decide +kernel) rfl, by decide, by decide, Or.inl ⟨by decide +kernel, by decide +kernel, by decide +kernel⟩⟩
  · cases h
    exact ⟨[], ⟨0, 10, 13, 20⟩, [⟨0, 10, 17, 13⟩, ⟨0, 10, 21, 15⟩], "java/lang/IndexOutOfBoundsException", 4, 1, rfl, (fun _ h => nomatch h), by decide, by decide, sr_tb (n := 879) (by decide +kernel) rfl, sr_nb (n := 894) (by decide +kernel) rfl, by decide, by decide, Or.inl ⟨by decide +kernel, by decide +kernel, by decide +kernel⟩⟩
  · cases h
  · cases h
def FL_start_23 (a1 : Int32) (a2 : Int32) (t : sr_t) : sr_Rs := (sr_bc (F10_start a1 a2 t) hcL_start_23 (sr_dI (fun v1 t1 => (if (0 : Int32) < 0 ∨ 1 ≤ (0 : Int32).toNatClampNeg then none else sr_lt (sr_ul t1 23 0 (0 : Int32).toNatClampNeg v1.toInt64) (fun t2 => (some (.inl (some (sr_i 0)), t2)))))))
theorem CL_start_23 (l : Launch) (a1 : Int32) (a2 : Int32)  (t : sr_t) : sr_ct' l sr_mL_start [sr_r 10 0, sr_i a1, sr_i a2, sr_r 23 0] t (FL_start_23 a1 a2 t) 3 18 := by
  refine sr_T_ofH (L0 := [some (sr_r 10 0), some (sr_i a1), some (sr_i a2), some (sr_r 23 0), none]) rfl (by decide +kernel) (fun _ => rfl) (fun _ => Nat.le_of_ble_eq_true rfl) ?_
  unfold FL_start_23
  refine sr_aloadn (pc := 0) (n := 3) (by decide +kernel) rfl ?_
  refine sr_iconst (pc := 1) (n := 0) (v := 0) (by decide +kernel) rfl ?_
  refine sr_aloadn (pc := 2) (n := 0) (by decide +kernel) rfl ?_
  refine sr_iloadn (pc := 3) (n := 1) (by decide +kernel) rfl ?_
  refine sr_iloadn (pc := 4) (n := 2) (by decide +kernel) rfl ?_
  refine sr_cVC (pc := 5) (As := [sr_i a1, sr_i a2]) (mc1 := 3) (ms1 := 18) (mc2 := 0) (ms2 := 0) (hc := hcL_start_23) fm_L_69 fl_L_69 (by decide +kernel) (sr_in10 _ (by omega)) (rm_L_start_10_start) rfl rfl rfl hfL_start_23 (C10_start l a1 a2 t) ?_
  refine sr_kI (fun v1 t1 => ?_)
  refine sr_i2l (pc := 8) (by decide +kernel) ?_
  refine sr_sL (pc := 9) (n := 1) rfl (by decide +kernel) (sr_in23 _ (by omega)) (fun _ _ => rfl) (fun t2 => ?_)
  refine sr_goto (pc := 10) (off := 15) (tg := 25) (by decide +kernel) (by decide) ?_
  refine sr_iconst (pc := 25) (n := 0) (v := 0) (by decide +kernel) rfl ?_
  exact sr_iret (pc := 26) (by decide +kernel) rfl
def sr_mL_nearest : sr_M := (⟨"ShiftRingLaw", "nearest", "(LShiftRing;I[J)I"⟩, method_20_code, 4, (some .int), [(0, 9, 12, 13)], 8, 166)
theorem fl_L_72 : Cond.methodLink "ShiftRingLaw" 72 (sr_My sr_m10_nearest) ∈ sr_TB := (sr_tb (n := 1085) (by decide +kernel) rfl)
theorem fm_L_72 : sr_FV "ShiftRingLaw" 72 sr_m10_nearest 10 1 := ⟨⟨rfl, sr_tb (n := 1088) (by decide +kernel) rfl, sr_tb (n := 1) (by decide +kernel) rfl, ⟨by decide, by decide, by decide +kernel⟩, Or.inl fl_L_72⟩, ⟨TX10, 7, rfl, rfl⟩, sr_tb (n := 1086) (by decide +kernel) rfl, sr_tb (n := 1087) (by decide +kernel) rfl⟩
theorem rm_L_nearest_10_nearest : sr_RM sr_mL_nearest sr_m10_nearest := ⟨Nat.le_of_ble_eq_true rfl, Nat.le_of_ble_eq_true rfl⟩
def hcL_nearest_23 (z : Nat) : Option Int32 := match z with
  | 0 => some 1
  | 1 => none
  | 2 => none
  | 3 => none
  | _ => none
theorem hfL_nearest_23 : ∀ z c, hcL_nearest_23 z = some c → sr_HF sr_mL_nearest 4 z c := by
  intro z c h
  rcases z with _ | _ | _ | _ | z
  · cases h
    exact ⟨[], ⟨0, 9, 12, 13⟩, [], "java/lang/IllegalArgumentException", 3, 1, rfl, (fun _ h => nomatch h), by decide, by decide, sr_tb (n := 772) (by decide +kernel) rfl, sr_nb (n := 783) (by decide +kernel) rfl, by decide, by decide, Or.inr ⟨3, rfl, by decide +kernel, by decide +kernel, by decide +kernel⟩⟩
  · cases h
  · cases h
  · cases h
  · cases h
def FL_nearest_23 (a1 : Int32) (t : sr_t) : sr_Rs := (sr_bc (F10_nearest a1 t) hcL_nearest_23 (sr_dI (fun v1 t1 => (if (0 : Int32) < 0 ∨ 1 ≤ (0 : Int32).toNatClampNeg then none else sr_lt (sr_ul t1 23 0 (0 : Int32).toNatClampNeg v1.toInt64) (fun t2 => (some (.inl (some (sr_i 0)), t2)))))))
theorem CL_nearest_23 (l : Launch) (a1 : Int32)  (t : sr_t) : sr_ct' l sr_mL_nearest [sr_r 10 0, sr_i a1, sr_r 23 0] t (FL_nearest_23 a1 t) 1 6 := by
  refine sr_T_ofH (L0 := [some (sr_r 10 0), some (sr_i a1), some (sr_r 23 0), none]) rfl (by decide +kernel) (fun _ => rfl) (fun _ => Nat.le_of_ble_eq_true rfl) ?_
  unfold FL_nearest_23
  refine sr_aloadn (pc := 0) (n := 2) (by decide +kernel) rfl ?_
  refine sr_iconst (pc := 1) (n := 0) (v := 0) (by decide +kernel) rfl ?_
  refine sr_aloadn (pc := 2) (n := 0) (by decide +kernel) rfl ?_
  refine sr_iloadn (pc := 3) (n := 1) (by decide +kernel) rfl ?_
  refine sr_cVC (pc := 4) (As := [sr_i a1]) (mc1 := 1) (ms1 := 6) (mc2 := 0) (ms2 := 0) (hc := hcL_nearest_23) fm_L_72 fl_L_72 (by decide +kernel) (sr_in10 _ (by omega)) (rm_L_nearest_10_nearest) rfl rfl rfl hfL_nearest_23 (C10_nearest l a1 t) ?_
  refine sr_kI (fun v1 t1 => ?_)
  refine sr_i2l (pc := 7) (by decide +kernel) ?_
  refine sr_sL (pc := 8) (n := 1) rfl (by decide +kernel) (sr_in23 _ (by omega)) (fun _ _ => rfl) (fun t2 => ?_)
  refine sr_goto (pc := 9) (off := 6) (tg := 15) (by decide +kernel) (by decide) ?_
  refine sr_iconst (pc := 15) (n := 0) (v := 0) (by decide +kernel) rfl ?_
  exact sr_iret (pc := 16) (by decide +kernel) rfl
def sr_mL_far : sr_M := (⟨"ShiftRingLaw", "far", "(LShiftRing;II[J)I"⟩, method_21_code, 5, (some .int), [(0, 10, 13, 20), (0, 10, 17, 15)], 8, 133)
theorem fl_L_75 : Cond.methodLink "ShiftRingLaw" 75 (sr_My sr_m10_far) ∈ sr_TB := (sr_tb (n := 1100) (by decide +kernel) rfl)
theorem fm_L_75 : sr_FV "ShiftRingLaw" 75 sr_m10_far 10 2 := ⟨⟨rfl, sr_tb (n := 1103) (by decide +kernel) rfl, sr_tb (n := 1) (by decide +kernel) rfl, ⟨by decide, by decide, by decide +kernel⟩, Or.inl fl_L_75⟩, ⟨TX10, 7, rfl, rfl⟩, sr_tb (n := 1101) (by decide +kernel) rfl, sr_tb (n := 1102) (by decide +kernel) rfl⟩
theorem rm_L_far_10_far : sr_RM sr_mL_far sr_m10_far := ⟨Nat.le_of_ble_eq_true rfl, Nat.le_of_ble_eq_true rfl⟩
def hcL_far_23 (z : Nat) : Option Int32 := match z with
  | 0 => none
  | 1 => some 2
  | 2 => some 1
  | 3 => none
  | _ => none
theorem hfL_far_23 : ∀ z c, hcL_far_23 z = some c → sr_HF sr_mL_far 5 z c := by
  intro z c h
  rcases z with _ | _ | _ | _ | z
  · cases h
  · cases h
    exact ⟨[⟨0, 10, 13, 20⟩], ⟨0, 10, 17, 15⟩, [], "java/lang/IllegalStateException", 4, 2, rfl, (List.forall_mem_cons.mpr ⟨Or.inr ⟨by decide, "java/lang/IndexOutOfBoundsException", sr_tb (n := 879) (by decide +kernel) rfl, by decide +kernel⟩, fun _ h => nomatch h⟩), by decide, by decide, sr_tb (n := 773) (by decide +kernel) rfl, sr_nb (n := 853) (by decide +kernel) rfl, by decide, by decide, Or.inl ⟨by decide +kernel, by decide +kernel, by decide +kernel⟩⟩
  · cases h
    exact ⟨[], ⟨0, 10, 13, 20⟩, [⟨0, 10, 17, 15⟩], "java/lang/IndexOutOfBoundsException", 4, 1, rfl, (fun _ h => nomatch h), by decide, by decide, sr_tb (n := 879) (by decide +kernel) rfl, sr_nb (n := 894) (by decide +kernel) rfl, by decide, by decide, Or.inl ⟨by decide +kernel, by decide +kernel, by decide +kernel⟩⟩
  · cases h
  · cases h
def FL_far_23 (a1 : Int32) (a2 : Int32) (t : sr_t) : sr_Rs := (sr_bc (F10_far a1 a2 t) hcL_far_23 (sr_dI (fun v1 t1 => (if (0 : Int32) < 0 ∨ 1 ≤ (0 : Int32).toNatClampNeg then none else sr_lt (sr_ul t1 23 0 (0 : Int32).toNatClampNeg v1.toInt64) (fun t2 => (some (.inl (some (sr_i 0)), t2)))))))
theorem CL_far_23 (l : Launch) (a1 : Int32) (a2 : Int32)  (t : sr_t) : sr_ct' l sr_mL_far [sr_r 10 0, sr_i a1, sr_i a2, sr_r 23 0] t (FL_far_23 a1 a2 t) 4 24 := by
  refine sr_T_ofH (L0 := [some (sr_r 10 0), some (sr_i a1), some (sr_i a2), some (sr_r 23 0), none]) rfl (by decide +kernel) (fun _ => rfl) (fun _ => Nat.le_of_ble_eq_true rfl) ?_
  unfold FL_far_23
  refine sr_aloadn (pc := 0) (n := 3) (by decide +kernel) rfl ?_
  refine sr_iconst (pc := 1) (n := 0) (v := 0) (by decide +kernel) rfl ?_
  refine sr_aloadn (pc := 2) (n := 0) (by decide +kernel) rfl ?_
  refine sr_iloadn (pc := 3) (n := 1) (by decide +kernel) rfl ?_
  refine sr_iloadn (pc := 4) (n := 2) (by decide +kernel) rfl ?_
  refine sr_cVC (pc := 5) (As := [sr_i a1, sr_i a2]) (mc1 := 4) (ms1 := 24) (mc2 := 0) (ms2 := 0) (hc := hcL_far_23) fm_L_75 fl_L_75 (by decide +kernel) (sr_in10 _ (by omega)) (rm_L_far_10_far) rfl rfl rfl hfL_far_23 (C10_far l a1 a2 t) ?_
  refine sr_kI (fun v1 t1 => ?_)
  refine sr_i2l (pc := 8) (by decide +kernel) ?_
  refine sr_sL (pc := 9) (n := 1) rfl (by decide +kernel) (sr_in23 _ (by omega)) (fun _ _ => rfl) (fun t2 => ?_)
  refine sr_goto (pc := 10) (off := 11) (tg := 21) (by decide +kernel) (by decide) ?_
  refine sr_iconst (pc := 21) (n := 0) (v := 0) (by decide +kernel) rfl ?_
  exact sr_iret (pc := 22) (by decide +kernel) rfl
def sr_mL_apart : sr_M := (⟨"ShiftRingLaw", "apart", "(LShiftRing;II[J)I"⟩, method_22_code, 5, (some .int), [(0, 10, 13, 20), (0, 10, 17, 13), (0, 10, 21, 15)], 8, 146)
theorem fl_L_78 : Cond.methodLink "ShiftRingLaw" 78 (sr_My sr_m10_apart) ∈ sr_TB := (sr_tb (n := 1111) (by decide +kernel) rfl)
theorem fm_L_78 : sr_FV "ShiftRingLaw" 78 sr_m10_apart 10 2 := ⟨⟨rfl, sr_tb (n := 1114) (by decide +kernel) rfl, sr_tb (n := 1) (by decide +kernel) rfl, ⟨by decide, by decide, by decide +kernel⟩, Or.inl fl_L_78⟩, ⟨TX10, 7, rfl, rfl⟩, sr_tb (n := 1112) (by decide +kernel) rfl, sr_tb (n := 1113) (by decide +kernel) rfl⟩
theorem rm_L_apart_10_apart : sr_RM sr_mL_apart sr_m10_apart := ⟨Nat.le_of_ble_eq_true rfl, Nat.le_of_ble_eq_true rfl⟩
def hcL_apart_23 (z : Nat) : Option Int32 := match z with
  | 0 => some 2
  | 1 => some 3
  | 2 => some 1
  | 3 => none
  | _ => none
theorem hfL_apart_23 : ∀ z c, hcL_apart_23 z = some c → sr_HF sr_mL_apart 5 z c := by
  intro z c h
  rcases z with _ | _ | _ | _ | z
  · cases h
    exact ⟨[⟨0, 10, 13, 20⟩], ⟨0, 10, 17, 13⟩, [⟨0, 10, 21, 15⟩], "java/lang/IllegalArgumentException", 4, 2, rfl, (List.forall_mem_cons.mpr ⟨Or.inr ⟨by decide, "java/lang/IndexOutOfBoundsException", sr_tb (n := 879) (by decide +kernel) rfl, by decide +kernel⟩, fun _ h => nomatch h⟩), by decide, by decide, sr_tb (n := 772) (by decide +kernel) rfl, sr_nb (n := 783) (by decide +kernel) rfl, by decide, by decide, Or.inl ⟨by decide +kernel, by decide +kernel, by decide +kernel⟩⟩
  · cases h
    exact ⟨[⟨0, 10, 13, 20⟩, ⟨0, 10, 17, 13⟩], ⟨0, 10, 21, 15⟩, [], "java/lang/IllegalStateException", 4, 3, rfl, (List.forall_mem_cons.mpr ⟨Or.inr ⟨by decide, "java/lang/IndexOutOfBoundsException", sr_tb (n := 879) (by decide +kernel) rfl, by decide +kernel⟩, List.forall_mem_cons.mpr ⟨Or.inr ⟨by decide, "java/lang/IllegalArgumentException", sr_tb (n := 772) (by decide +kernel) rfl, by decide +kernel⟩, fun _ h => nomatch h⟩⟩), by decide, by decide, sr_tb (n := 773) (by decide +kernel) rfl, sr_nb (n := 853) (by decide +kernel) rfl, by decide, by decide, Or.inl ⟨by decide +kernel, by decide +kernel, by decide +kernel⟩⟩
  · cases h
    exact ⟨[], ⟨0, 10, 13, 20⟩, [⟨0, 10, 17, 13⟩, ⟨0, 10, 21, 15⟩], "java/lang/IndexOutOfBoundsException", 4, 1, rfl, (fun _ h => nomatch h), by decide, by decide, sr_tb (n := 879) (by decide +kernel) rfl, sr_nb (n := 894) (by decide +kernel) rfl, by decide, by decide, Or.inl ⟨by decide +kernel, by decide +kernel, by decide +kernel⟩⟩
  · cases h
  · cases h
def FL_apart_23 (a1 : Int32) (a2 : Int32) (t : sr_t) : sr_Rs := (sr_bc (F10_apart a1 a2 t) hcL_apart_23 (sr_dI (fun v1 t1 => (if (0 : Int32) < 0 ∨ 1 ≤ (0 : Int32).toNatClampNeg then none else sr_lt (sr_ul t1 23 0 (0 : Int32).toNatClampNeg v1.toInt64) (fun t2 => (some (.inl (some (sr_i 0)), t2)))))))
theorem CL_apart_23 (l : Launch) (a1 : Int32) (a2 : Int32)  (t : sr_t) : sr_ct' l sr_mL_apart [sr_r 10 0, sr_i a1, sr_i a2, sr_r 23 0] t (FL_apart_23 a1 a2 t) 4 24 := by
  refine sr_T_ofH (L0 := [some (sr_r 10 0), some (sr_i a1), some (sr_i a2), some (sr_r 23 0), none]) rfl (by decide +kernel) (fun _ => rfl) (fun _ => Nat.le_of_ble_eq_true rfl) ?_
  unfold FL_apart_23
  refine sr_aloadn (pc := 0) (n := 3) (by decide +kernel) rfl ?_
  refine sr_iconst (pc := 1) (n := 0) (v := 0) (by decide +kernel) rfl ?_
  refine sr_aloadn (pc := 2) (n := 0) (by decide +kernel) rfl ?_
  refine sr_iloadn (pc := 3) (n := 1) (by decide +kernel) rfl ?_
  refine sr_iloadn (pc := 4) (n := 2) (by decide +kernel) rfl ?_
  refine sr_cVC (pc := 5) (As := [sr_i a1, sr_i a2]) (mc1 := 4) (ms1 := 24) (mc2 := 0) (ms2 := 0) (hc := hcL_apart_23) fm_L_78 fl_L_78 (by decide +kernel) (sr_in10 _ (by omega)) (rm_L_apart_10_apart) rfl rfl rfl hfL_apart_23 (C10_apart l a1 a2 t) ?_
  refine sr_kI (fun v1 t1 => ?_)
  refine sr_i2l (pc := 8) (by decide +kernel) ?_
  refine sr_sL (pc := 9) (n := 1) rfl (by decide +kernel) (sr_in23 _ (by omega)) (fun _ _ => rfl) (fun t2 => ?_)
  refine sr_goto (pc := 10) (off := 15) (tg := 25) (by decide +kernel) (by decide) ?_
  refine sr_iconst (pc := 25) (n := 0) (v := 0) (by decide +kernel) rfl ?_
  exact sr_iret (pc := 26) (by decide +kernel) rfl
def sr_mL_sample : sr_M := (⟨"ShiftRingLaw", "sample", "(LShiftRing;ZI[J)I"⟩, method_23_code, 5, (some .int), [(0, 10, 13, 45)], 8, 144)
theorem fl_L_81 : Cond.methodLink "ShiftRingLaw" 81 (sr_My sr_m10_sample) ∈ sr_TB := (sr_tb (n := 1151) (by decide +kernel) rfl)
theorem fm_L_81 : sr_FV "ShiftRingLaw" 81 sr_m10_sample 10 2 := ⟨⟨rfl, sr_tb (n := 1154) (by decide +kernel) rfl, sr_tb (n := 1) (by decide +kernel) rfl, ⟨by decide, by decide, by decide +kernel⟩, Or.inl fl_L_81⟩, ⟨TX10, 7, rfl, rfl⟩, sr_tb (n := 1152) (by decide +kernel) rfl, sr_tb (n := 1153) (by decide +kernel) rfl⟩
theorem rm_L_sample_10_sample : sr_RM sr_mL_sample sr_m10_sample := ⟨Nat.le_of_ble_eq_true rfl, Nat.le_of_ble_eq_true rfl⟩
def hcL_sample_23 (z : Nat) : Option Int32 := match z with
  | 0 => none
  | 1 => none
  | 2 => none
  | 3 => some 1
  | _ => none
theorem hfL_sample_23 : ∀ z c, hcL_sample_23 z = some c → sr_HF sr_mL_sample 5 z c := by
  intro z c h
  rcases z with _ | _ | _ | _ | z
  · cases h
  · cases h
  · cases h
  · cases h
    exact ⟨[], ⟨0, 10, 13, 45⟩, [], "java/util/NoSuchElementException", 4, 1, rfl, (fun _ h => nomatch h), by decide, by decide, sr_tb (n := 975) (by decide +kernel) rfl, sr_nb (n := 985) (by decide +kernel) rfl, by decide, by decide, Or.inl ⟨by decide +kernel, by decide +kernel, by decide +kernel⟩⟩
  · cases h
def FL_sample_23 (a1 : Int32) (a2 : Int32) (t : sr_t) : sr_Rs := (sr_bc (F10_sample a1 a2 t) hcL_sample_23 (sr_dI (fun v1 t1 => (if (0 : Int32) < 0 ∨ 1 ≤ (0 : Int32).toNatClampNeg then none else sr_lt (sr_ul t1 23 0 (0 : Int32).toNatClampNeg v1.toInt64) (fun t2 => (some (.inl (some (sr_i 0)), t2)))))))
theorem CL_sample_23 (l : Launch) (a1 : Int32) (a2 : Int32)  (t : sr_t) : sr_ct' l sr_mL_sample [sr_r 10 0, sr_i a1, sr_i a2, sr_r 23 0] t (FL_sample_23 a1 a2 t) 1 6 := by
  refine sr_T_ofH (L0 := [some (sr_r 10 0), some (sr_i a1), some (sr_i a2), some (sr_r 23 0), none]) rfl (by decide +kernel) (fun _ => rfl) (fun _ => Nat.le_of_ble_eq_true rfl) ?_
  unfold FL_sample_23
  refine sr_aloadn (pc := 0) (n := 3) (by decide +kernel) rfl ?_
  refine sr_iconst (pc := 1) (n := 0) (v := 0) (by decide +kernel) rfl ?_
  refine sr_aloadn (pc := 2) (n := 0) (by decide +kernel) rfl ?_
  refine sr_iloadn (pc := 3) (n := 1) (by decide +kernel) rfl ?_
  refine sr_iloadn (pc := 4) (n := 2) (by decide +kernel) rfl ?_
  refine sr_cVC (pc := 5) (As := [sr_i a1, sr_i a2]) (mc1 := 1) (ms1 := 6) (mc2 := 0) (ms2 := 0) (hc := hcL_sample_23) fm_L_81 fl_L_81 (by decide +kernel) (sr_in10 _ (by omega)) (rm_L_sample_10_sample) rfl rfl rfl hfL_sample_23 (C10_sample l a1 a2 t) ?_
  refine sr_kI (fun v1 t1 => ?_)
  refine sr_i2l (pc := 8) (by decide +kernel) ?_
  refine sr_sL (pc := 9) (n := 1) rfl (by decide +kernel) (sr_in23 _ (by omega)) (fun _ _ => rfl) (fun t2 => ?_)
  refine sr_goto (pc := 10) (off := 7) (tg := 17) (by decide +kernel) (by decide) ?_
  refine sr_iconst (pc := 17) (n := 0) (v := 0) (by decide +kernel) rfl ?_
  exact sr_iret (pc := 18) (by decide +kernel) rfl
def sr_mL_cost : sr_M := (⟨"ShiftRingLaw", "cost", "(LShiftRing;II[J)I"⟩, method_24_code, 5, (some .int), [(0, 10, 13, 13)], 8, 189)
theorem fl_L_85 : Cond.methodLink "ShiftRingLaw" 85 (sr_My sr_m10_cost) ∈ sr_TB := (sr_tb (n := 1158) (by decide +kernel) rfl)
theorem fm_L_85 : sr_FV "ShiftRingLaw" 85 sr_m10_cost 10 2 := ⟨⟨rfl, sr_tb (n := 1161) (by decide +kernel) rfl, sr_tb (n := 1) (by decide +kernel) rfl, ⟨by decide, by decide, by decide +kernel⟩, Or.inl fl_L_85⟩, ⟨TX10, 7, rfl, rfl⟩, sr_tb (n := 1159) (by decide +kernel) rfl, sr_tb (n := 1160) (by decide +kernel) rfl⟩
theorem rm_L_cost_10_cost : sr_RM sr_mL_cost sr_m10_cost := ⟨Nat.le_of_ble_eq_true rfl, Nat.le_of_ble_eq_true rfl⟩
def hcL_cost_23 (z : Nat) : Option Int32 := match z with
  | 0 => some 1
  | 1 => none
  | 2 => none
  | 3 => none
  | _ => none
theorem hfL_cost_23 : ∀ z c, hcL_cost_23 z = some c → sr_HF sr_mL_cost 5 z c := by
  intro z c h
  rcases z with _ | _ | _ | _ | z
  · cases h
    exact ⟨[], ⟨0, 10, 13, 13⟩, [], "java/lang/IllegalArgumentException", 4, 1, rfl, (fun _ h => nomatch h), by decide, by decide, sr_tb (n := 772) (by decide +kernel) rfl, sr_nb (n := 783) (by decide +kernel) rfl, by decide, by decide, Or.inl ⟨by decide +kernel, by decide +kernel, by decide +kernel⟩⟩
  · cases h
  · cases h
  · cases h
  · cases h
def FL_cost_23 (a1 : Int32) (a2 : Int32) (t : sr_t) : sr_Rs := (sr_bc (F10_cost a1 a2 t) hcL_cost_23 (sr_dI (fun v1 t1 => (if (0 : Int32) < 0 ∨ 1 ≤ (0 : Int32).toNatClampNeg then none else sr_lt (sr_ul t1 23 0 (0 : Int32).toNatClampNeg v1.toInt64) (fun t2 => (some (.inl (some (sr_i 0)), t2)))))))
theorem CL_cost_23 (l : Launch) (a1 : Int32) (a2 : Int32)  (t : sr_t) : sr_ct' l sr_mL_cost [sr_r 10 0, sr_i a1, sr_i a2, sr_r 23 0] t (FL_cost_23 a1 a2 t) 2 12 := by
  refine sr_T_ofH (L0 := [some (sr_r 10 0), some (sr_i a1), some (sr_i a2), some (sr_r 23 0), none]) rfl (by decide +kernel) (fun _ => rfl) (fun _ => Nat.le_of_ble_eq_true rfl) ?_
  unfold FL_cost_23
  refine sr_aloadn (pc := 0) (n := 3) (by decide +kernel) rfl ?_
  refine sr_iconst (pc := 1) (n := 0) (v := 0) (by decide +kernel) rfl ?_
  refine sr_aloadn (pc := 2) (n := 0) (by decide +kernel) rfl ?_
  refine sr_iloadn (pc := 3) (n := 1) (by decide +kernel) rfl ?_
  refine sr_iloadn (pc := 4) (n := 2) (by decide +kernel) rfl ?_
  refine sr_cVC (pc := 5) (As := [sr_i a1, sr_i a2]) (mc1 := 2) (ms1 := 12) (mc2 := 0) (ms2 := 0) (hc := hcL_cost_23) fm_L_85 fl_L_85 (by decide +kernel) (sr_in10 _ (by omega)) (rm_L_cost_10_cost) rfl rfl rfl hfL_cost_23 (C10_cost l a1 a2 t) ?_
  refine sr_kI (fun v1 t1 => ?_)
  refine sr_i2l (pc := 8) (by decide +kernel) ?_
  refine sr_sL (pc := 9) (n := 1) rfl (by decide +kernel) (sr_in23 _ (by omega)) (fun _ _ => rfl) (fun t2 => ?_)
  refine sr_goto (pc := 10) (off := 7) (tg := 17) (by decide +kernel) (by decide) ?_
  refine sr_iconst (pc := 17) (n := 0) (v := 0) (by decide +kernel) rfl ?_
  exact sr_iret (pc := 18) (by decide +kernel) rfl
def sr_mL_choice : sr_M := (⟨"ShiftRingLaw", "choice", "(LShiftRing;I[J)I"⟩, method_25_code, 4, (some .int), [(0, 9, 12, 13)], 8, 192)
theorem fl_L_88 : Cond.methodLink "ShiftRingLaw" 88 (sr_My sr_m10_choice) ∈ sr_TB := (sr_tb (n := 1175) (by decide +kernel) rfl)
theorem fm_L_88 : sr_FV "ShiftRingLaw" 88 sr_m10_choice 10 1 := ⟨⟨rfl, sr_tb (n := 1178) (by decide +kernel) rfl, sr_tb (n := 1) (by decide +kernel) rfl, ⟨by decide, by decide, by decide +kernel⟩, Or.inl fl_L_88⟩, ⟨TX10, 7, rfl, rfl⟩, sr_tb (n := 1176) (by decide +kernel) rfl, sr_tb (n := 1177) (by decide +kernel) rfl⟩
theorem rm_L_choice_10_choice : sr_RM sr_mL_choice sr_m10_choice := ⟨Nat.le_of_ble_eq_true rfl, Nat.le_of_ble_eq_true rfl⟩
def hcL_choice_23 (z : Nat) : Option Int32 := match z with
  | 0 => some 1
  | 1 => none
  | 2 => none
  | 3 => none
  | _ => none
theorem hfL_choice_23 : ∀ z c, hcL_choice_23 z = some c → sr_HF sr_mL_choice 4 z c := by
  intro z c h
  rcases z with _ | _ | _ | _ | z
  · cases h
    exact ⟨[], ⟨0, 9, 12, 13⟩, [], "java/lang/IllegalArgumentException", 3, 1, rfl, (fun _ h => nomatch h), by decide, by decide, sr_tb (n := 772) (by decide +kernel) rfl, sr_nb (n := 783) (by decide +kernel) rfl, by decide, by decide, Or.inr ⟨3, rfl, by decide +kernel, by decide +kernel, by decide +kernel⟩⟩
  · cases h
  · cases h
  · cases h
  · cases h
def FL_choice_23 (a1 : Int32) (t : sr_t) : sr_Rs := (sr_bc (F10_choice a1 t) hcL_choice_23 (sr_dI (fun v1 t1 => (if (0 : Int32) < 0 ∨ 1 ≤ (0 : Int32).toNatClampNeg then none else sr_lt (sr_ul t1 23 0 (0 : Int32).toNatClampNeg v1.toInt64) (fun t2 => (some (.inl (some (sr_i 0)), t2)))))))
theorem CL_choice_23 (l : Launch) (a1 : Int32)  (t : sr_t) : sr_ct' l sr_mL_choice [sr_r 10 0, sr_i a1, sr_r 23 0] t (FL_choice_23 a1 t) 1 6 := by
  refine sr_T_ofH (L0 := [some (sr_r 10 0), some (sr_i a1), some (sr_r 23 0), none]) rfl (by decide +kernel) (fun _ => rfl) (fun _ => Nat.le_of_ble_eq_true rfl) ?_
  unfold FL_choice_23
  refine sr_aloadn (pc := 0) (n := 2) (by decide +kernel) rfl ?_
  refine sr_iconst (pc := 1) (n := 0) (v := 0) (by decide +kernel) rfl ?_
  refine sr_aloadn (pc := 2) (n := 0) (by decide +kernel) rfl ?_
  refine sr_iloadn (pc := 3) (n := 1) (by decide +kernel) rfl ?_
  refine sr_cVC (pc := 4) (As := [sr_i a1]) (mc1 := 1) (ms1 := 6) (mc2 := 0) (ms2 := 0) (hc := hcL_choice_23) fm_L_88 fl_L_88 (by decide +kernel) (sr_in10 _ (by omega)) (rm_L_choice_10_choice) rfl rfl rfl hfL_choice_23 (C10_choice l a1 t) ?_
  refine sr_kI (fun v1 t1 => ?_)
  refine sr_i2l (pc := 7) (by decide +kernel) ?_
  refine sr_sL (pc := 8) (n := 1) rfl (by decide +kernel) (sr_in23 _ (by omega)) (fun _ _ => rfl) (fun t2 => ?_)
  refine sr_goto (pc := 9) (off := 6) (tg := 15) (by decide +kernel) (by decide) ?_
  refine sr_iconst (pc := 15) (n := 0) (v := 0) (by decide +kernel) rfl ?_
  exact sr_iret (pc := 16) (by decide +kernel) rfl
def sr_mL_takes : sr_M := (⟨"ShiftRingLaw", "takes", "(LShiftRing;II[J)I"⟩, method_26_code, 5, (some .int), [(0, 10, 13, 20), (0, 10, 17, 13), (0, 10, 21, 15)], 8, 140)
theorem fl_L_91 : Cond.methodLink "ShiftRingLaw" 91 (sr_My sr_m10_takes) ∈ sr_TB := (sr_tb (n := 1189) (by decide +kernel) rfl)
theorem fm_L_91 : sr_FV "ShiftRingLaw" 91 sr_m10_takes 10 2 := ⟨⟨rfl, sr_tb (n := 1192) (by decide +kernel) rfl, sr_tb (n := 1) (by decide +kernel) rfl, ⟨by decide, by decide, by decide +kernel⟩, Or.inl fl_L_91⟩, ⟨TX10, 7, rfl, rfl⟩, sr_tb (n := 1190) (by decide +kernel) rfl, sr_tb (n := 1191) (by decide +kernel) rfl⟩
theorem rm_L_takes_10_takes : sr_RM sr_mL_takes sr_m10_takes := ⟨Nat.le_of_ble_eq_true rfl, Nat.le_of_ble_eq_true rfl⟩
def hcL_takes_23 (z : Nat) : Option Int32 := match z with
  | 0 => some 2
  | 1 => some 3
  | 2 => some 1
  | 3 => none
  | _ => none
theorem hfL_takes_23 : ∀ z c, hcL_takes_23 z = some c → sr_HF sr_mL_takes 5 z c := by
  intro z c h
  rcases z with _ | _ | _ | _ | z
  · cases h
    exact ⟨[⟨0, 10, 13, 20⟩], ⟨0, 10, 17, 13⟩, [⟨0, 10, 21, 15⟩], "java/lang/IllegalArgumentException", 4, 2, rfl, (List.forall_mem_cons.mpr ⟨Or.inr ⟨by decide, "java/lang/IndexOutOfBoundsException", sr_tb (n := 879) (by decide +kernel) rfl, by decide +kernel⟩, fun _ h => nomatch h⟩), by decide, by decide, sr_tb (n := 772) (by decide +kernel) rfl, sr_nb (n := 783) (by decide +kernel) rfl, by decide, by decide, Or.inl ⟨by decide +kernel, by decide +kernel, by decide +kernel⟩⟩
  · cases h
    exact ⟨[⟨0, 10, 13, 20⟩, ⟨0, 10, 17, 13⟩], ⟨0, 10, 21, 15⟩, [], "java/lang/IllegalStateException", 4, 3, rfl, (List.forall_mem_cons.mpr ⟨Or.inr ⟨by decide, "java/lang/IndexOutOfBoundsException", sr_tb (n := 879) (by decide +kernel) rfl, by decide +kernel⟩, List.forall_mem_cons.mpr ⟨Or.inr ⟨by decide, "java/lang/IllegalArgumentException", sr_tb (n := 772) (by decide +kernel) rfl, by decide +kernel⟩, fun _ h => nomatch h⟩⟩), by decide, by decide, sr_tb (n := 773) (by decide +kernel) rfl, sr_nb (n := 853) (by decide +kernel) rfl, by decide, by decide, Or.inl ⟨by decide +kernel, by decide +kernel, by decide +kernel⟩⟩
  · cases h
    exact ⟨[], ⟨0, 10, 13, 20⟩, [⟨0, 10, 17, 13⟩, ⟨0, 10, 21, 15⟩], "java/lang/IndexOutOfBoundsException", 4, 1, rfl, (fun _ h => nomatch h), by decide, by decide, sr_tb (n := 879) (by decide +kernel) rfl, sr_nb (n := 894) (by decide +kernel) rfl, by decide, by decide, Or.inl ⟨by decide +kernel, by decide +kernel, by decide +kernel⟩⟩
  · cases h
  · cases h
def FL_takes_23 (a1 : Int32) (a2 : Int32) (t : sr_t) : sr_Rs := (sr_bc (F10_takes a1 a2 t) hcL_takes_23 (sr_dI (fun v1 t1 => (if (0 : Int32) < 0 ∨ 1 ≤ (0 : Int32).toNatClampNeg then none else sr_lt (sr_ul t1 23 0 (0 : Int32).toNatClampNeg v1.toInt64) (fun t2 => (some (.inl (some (sr_i 0)), t2)))))))
theorem CL_takes_23 (l : Launch) (a1 : Int32) (a2 : Int32)  (t : sr_t) : sr_ct' l sr_mL_takes [sr_r 10 0, sr_i a1, sr_i a2, sr_r 23 0] t (FL_takes_23 a1 a2 t) 3 18 := by
  refine sr_T_ofH (L0 := [some (sr_r 10 0), some (sr_i a1), some (sr_i a2), some (sr_r 23 0), none]) rfl (by decide +kernel) (fun _ => rfl) (fun _ => Nat.le_of_ble_eq_true rfl) ?_
  unfold FL_takes_23
  refine sr_aloadn (pc := 0) (n := 3) (by decide +kernel) rfl ?_
  refine sr_iconst (pc := 1) (n := 0) (v := 0) (by decide +kernel) rfl ?_
  refine sr_aloadn (pc := 2) (n := 0) (by decide +kernel) rfl ?_
  refine sr_iloadn (pc := 3) (n := 1) (by decide +kernel) rfl ?_
  refine sr_iloadn (pc := 4) (n := 2) (by decide +kernel) rfl ?_
  refine sr_cVC (pc := 5) (As := [sr_i a1, sr_i a2]) (mc1 := 3) (ms1 := 18) (mc2 := 0) (ms2 := 0) (hc := hcL_takes_23) fm_L_91 fl_L_91 (by decide +kernel) (sr_in10 _ (by omega)) (rm_L_takes_10_takes) rfl rfl rfl hfL_takes_23 (C10_takes l a1 a2 t) ?_
  refine sr_kI (fun v1 t1 => ?_)
  refine sr_i2l (pc := 8) (by decide +kernel) ?_
  refine sr_sL (pc := 9) (n := 1) rfl (by decide +kernel) (sr_in23 _ (by omega)) (fun _ _ => rfl) (fun t2 => ?_)
  refine sr_goto (pc := 10) (off := 15) (tg := 25) (by decide +kernel) (by decide) ?_
  refine sr_iconst (pc := 25) (n := 0) (v := 0) (by decide +kernel) rfl ?_
  exact sr_iret (pc := 26) (by decide +kernel) rfl
def sr_mL_worst : sr_M := (⟨"ShiftRingLaw", "worst", "(LShiftRing;I[J)I"⟩, method_27_code, 4, (some .int), [(0, 9, 12, 20), (0, 9, 15, 15)], 8, 143)
theorem fl_L_94 : Cond.methodLink "ShiftRingLaw" 94 (sr_My sr_m10_worst) ∈ sr_TB := (sr_tb (n := 1196) (by decide +kernel) rfl)
theorem fm_L_94 : sr_FV "ShiftRingLaw" 94 sr_m10_worst 10 1 := ⟨⟨rfl, sr_tb (n := 1199) (by decide +kernel) rfl, sr_tb (n := 1) (by decide +kernel) rfl, ⟨by decide, by decide, by decide +kernel⟩, Or.inl fl_L_94⟩, ⟨TX10, 7, rfl, rfl⟩, sr_tb (n := 1197) (by decide +kernel) rfl, sr_tb (n := 1198) (by decide +kernel) rfl⟩
theorem rm_L_worst_10_worst : sr_RM sr_mL_worst sr_m10_worst := ⟨Nat.le_of_ble_eq_true rfl, Nat.le_of_ble_eq_true rfl⟩
def hcL_worst_23 (z : Nat) : Option Int32 := match z with
  | 0 => none
  | 1 => some 2
  | 2 => some 1
  | 3 => none
  | _ => none
theorem hfL_worst_23 : ∀ z c, hcL_worst_23 z = some c → sr_HF sr_mL_worst 4 z c := by
  intro z c h
  rcases z with _ | _ | _ | _ | z
  · cases h
  · cases h
    exact ⟨[⟨0, 9, 12, 20⟩], ⟨0, 9, 15, 15⟩, [], "java/lang/IllegalStateException", 3, 2, rfl, (List.forall_mem_cons.mpr ⟨Or.inr ⟨by decide, "java/lang/IndexOutOfBoundsException", sr_tb (n := 879) (by decide +kernel) rfl, by decide +kernel⟩, fun _ h => nomatch h⟩), by decide, by decide, sr_tb (n := 773) (by decide +kernel) rfl, sr_nb (n := 853) (by decide +kernel) rfl, by decide, by decide, Or.inr ⟨3, rfl, by decide +kernel, by decide +kernel, by decide +kernel⟩⟩
  · cases h
    exact ⟨[], ⟨0, 9, 12, 20⟩, [⟨0, 9, 15, 15⟩], "java/lang/IndexOutOfBoundsException", 3, 1, rfl, (fun _ h => nomatch h), by decide, by decide, sr_tb (n := 879) (by decide +kernel) rfl, sr_nb (n := 894) (by decide +kernel) rfl, by decide, by decide, Or.inr ⟨3, rfl, by decide +kernel, by decide +kernel, by decide +kernel⟩⟩
  · cases h
  · cases h
def FL_worst_23 (a1 : Int32) (t : sr_t) : sr_Rs := (sr_bc (F10_worst a1 t) hcL_worst_23 (sr_dI (fun v1 t1 => (if (0 : Int32) < 0 ∨ 1 ≤ (0 : Int32).toNatClampNeg then none else sr_lt (sr_ul t1 23 0 (0 : Int32).toNatClampNeg v1.toInt64) (fun t2 => (some (.inl (some (sr_i 0)), t2)))))))
theorem CL_worst_23 (l : Launch) (a1 : Int32)  (t : sr_t) : sr_ct' l sr_mL_worst [sr_r 10 0, sr_i a1, sr_r 23 0] t (FL_worst_23 a1 t) 2 12 := by
  refine sr_T_ofH (L0 := [some (sr_r 10 0), some (sr_i a1), some (sr_r 23 0), none]) rfl (by decide +kernel) (fun _ => rfl) (fun _ => Nat.le_of_ble_eq_true rfl) ?_
  unfold FL_worst_23
  refine sr_aloadn (pc := 0) (n := 2) (by decide +kernel) rfl ?_
  refine sr_iconst (pc := 1) (n := 0) (v := 0) (by decide +kernel) rfl ?_
  refine sr_aloadn (pc := 2) (n := 0) (by decide +kernel) rfl ?_
  refine sr_iloadn (pc := 3) (n := 1) (by decide +kernel) rfl ?_
  refine sr_cVC (pc := 4) (As := [sr_i a1]) (mc1 := 2) (ms1 := 12) (mc2 := 0) (ms2 := 0) (hc := hcL_worst_23) fm_L_94 fl_L_94 (by decide +kernel) (sr_in10 _ (by omega)) (rm_L_worst_10_worst) rfl rfl rfl hfL_worst_23 (C10_worst l a1 t) ?_
  refine sr_kI (fun v1 t1 => ?_)
  refine sr_i2l (pc := 7) (by decide +kernel) ?_
  refine sr_sL (pc := 8) (n := 1) rfl (by decide +kernel) (sr_in23 _ (by omega)) (fun _ _ => rfl) (fun t2 => ?_)
  refine sr_goto (pc := 9) (off := 9) (tg := 18) (by decide +kernel) (by decide) ?_
  refine sr_iconst (pc := 18) (n := 0) (v := 0) (by decide +kernel) rfl ?_
  exact sr_iret (pc := 19) (by decide +kernel) rfl
def sr_mL_traffic : sr_M := (⟨"ShiftRingLaw", "traffic", "(LShiftRing;I[J)I"⟩, method_28_code, 4, (some .int), [(0, 9, 12, 20), (0, 9, 15, 15)], 8, 143)
theorem fl_L_97 : Cond.methodLink "ShiftRingLaw" 97 (sr_My sr_m10_traffic) ∈ sr_TB := (sr_tb (n := 1203) (by decide +kernel) rfl)
theorem fm_L_97 : sr_FV "ShiftRingLaw" 97 sr_m10_traffic 10 1 := ⟨⟨rfl, sr_tb (n := 1206) (by decide +kernel) rfl, sr_tb (n := 1) (by decide +kernel) rfl, ⟨by decide, by decide, by decide +kernel⟩, Or.inl fl_L_97⟩, ⟨TX10, 7, rfl, rfl⟩, sr_tb (n := 1204) (by decide +kernel) rfl, sr_tb (n := 1205) (by decide +kernel) rfl⟩
theorem rm_L_traffic_10_traffic : sr_RM sr_mL_traffic sr_m10_traffic := ⟨Nat.le_of_ble_eq_true rfl, Nat.le_of_ble_eq_true rfl⟩
def hcL_traffic_23 (z : Nat) : Option Int32 := match z with
  | 0 => none
  | 1 => some 2
  | 2 => some 1
  | 3 => none
  | _ => none
theorem hfL_traffic_23 : ∀ z c, hcL_traffic_23 z = some c → sr_HF sr_mL_traffic 4 z c := by
  intro z c h
  rcases z with _ | _ | _ | _ | z
  · cases h
  · cases h
    exact ⟨[⟨0, 9, 12, 20⟩], ⟨0, 9, 15, 15⟩, [], "java/lang/IllegalStateException", 3, 2, rfl, (List.forall_mem_cons.mpr ⟨Or.inr ⟨by decide, "java/lang/IndexOutOfBoundsException", sr_tb (n := 879) (by decide +kernel) rfl, by decide +kernel⟩, fun _ h => nomatch h⟩), by decide, by decide, sr_tb (n := 773) (by decide +kernel) rfl, sr_nb (n := 853) (by decide +kernel) rfl, by decide, by decide, Or.inr ⟨3, rfl, by decide +kernel, by decide +kernel, by decide +kernel⟩⟩
  · cases h
    exact ⟨[], ⟨0, 9, 12, 20⟩, [⟨0, 9, 15, 15⟩], "java/lang/IndexOutOfBoundsException", 3, 1, rfl, (fun _ h => nomatch h), by decide, by decide, sr_tb (n := 879) (by decide +kernel) rfl, sr_nb (n := 894) (by decide +kernel) rfl, by decide, by decide, Or.inr ⟨3, rfl, by decide +kernel, by decide +kernel, by decide +kernel⟩⟩
  · cases h
  · cases h
def FL_traffic_23 (a1 : Int32) (t : sr_t) : sr_Rs := (sr_bc (F10_traffic a1 t) hcL_traffic_23 (sr_dI (fun v1 t1 => (if (0 : Int32) < 0 ∨ 1 ≤ (0 : Int32).toNatClampNeg then none else sr_lt (sr_ul t1 23 0 (0 : Int32).toNatClampNeg v1.toInt64) (fun t2 => (some (.inl (some (sr_i 0)), t2)))))))
theorem CL_traffic_23 (l : Launch) (a1 : Int32)  (t : sr_t) : sr_ct' l sr_mL_traffic [sr_r 10 0, sr_i a1, sr_r 23 0] t (FL_traffic_23 a1 t) 2 12 := by
  refine sr_T_ofH (L0 := [some (sr_r 10 0), some (sr_i a1), some (sr_r 23 0), none]) rfl (by decide +kernel) (fun _ => rfl) (fun _ => Nat.le_of_ble_eq_true rfl) ?_
  unfold FL_traffic_23
  refine sr_aloadn (pc := 0) (n := 2) (by decide +kernel) rfl ?_
  refine sr_iconst (pc := 1) (n := 0) (v := 0) (by decide +kernel) rfl ?_
  refine sr_aloadn (pc := 2) (n := 0) (by decide +kernel) rfl ?_
  refine sr_iloadn (pc := 3) (n := 1) (by decide +kernel) rfl ?_
  refine sr_cVC (pc := 4) (As := [sr_i a1]) (mc1 := 2) (ms1 := 12) (mc2 := 0) (ms2 := 0) (hc := hcL_traffic_23) fm_L_97 fl_L_97 (by decide +kernel) (sr_in10 _ (by omega)) (rm_L_traffic_10_traffic) rfl rfl rfl hfL_traffic_23 (C10_traffic l a1 t) ?_
  refine sr_kI (fun v1 t1 => ?_)
  refine sr_i2l (pc := 7) (by decide +kernel) ?_
  refine sr_sL (pc := 8) (n := 1) rfl (by decide +kernel) (sr_in23 _ (by omega)) (fun _ _ => rfl) (fun t2 => ?_)
  refine sr_goto (pc := 9) (off := 9) (tg := 18) (by decide +kernel) (by decide) ?_
  refine sr_iconst (pc := 18) (n := 0) (v := 0) (by decide +kernel) rfl ?_
  exact sr_iret (pc := 19) (by decide +kernel) rfl
