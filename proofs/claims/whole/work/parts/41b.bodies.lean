def sr_mL_detour : sr_M := (⟨"ShiftRingLaw", "detour", "(LShiftRing;I[J)I"⟩, method_29_code, 4, (some .int), [(0, 9, 12, 13)], 8, 143)
theorem fl_L_100 : Cond.methodLink "ShiftRingLaw" 100 (sr_My sr_m10_detour) ∈ sr_TB := (sr_tb (n := 1210) (by decide +kernel) rfl)
theorem fm_L_100 : sr_FV "ShiftRingLaw" 100 sr_m10_detour 10 1 := ⟨⟨rfl, sr_tb (n := 1213) (by decide +kernel) rfl, sr_tb (n := 1) (by decide +kernel) rfl, ⟨by decide, by decide, by decide +kernel⟩, Or.inl fl_L_100⟩, ⟨TX10, 7, rfl, rfl⟩, sr_tb (n := 1211) (by decide +kernel) rfl, sr_tb (n := 1212) (by decide +kernel) rfl⟩
theorem rm_L_detour_10_detour : sr_RM sr_mL_detour sr_m10_detour := ⟨Nat.le_of_ble_eq_true rfl, Nat.le_of_ble_eq_true rfl⟩
def hcL_detour_23 (z : Nat) : Option Int32 := match z with
  | 0 => some 1
  | 1 => none
  | 2 => none
  | 3 => none
  | _ => none
theorem hfL_detour_23 : ∀ z c, hcL_detour_23 z = some c → sr_HF sr_mL_detour 4 z c := by
  intro z c h
  rcases z with _ | _ | _ | _ | z
  · cases h
    exact ⟨[], ⟨0, 9, 12, 13⟩, [], "java/lang/IllegalArgumentException", 3, 1, rfl, (fun _ h => nomatch h), by decide, by decide, sr_tb (n := 772) (by decide +kernel) rfl, sr_nb (n := 783) (by decide +kernel) rfl, by decide, by decide, Or.inr ⟨3, rfl, by decide +kernel, by decide +kernel, by decide +kernel⟩⟩
  · cases h
  · cases h
  · cases h
  · cases h
def FL_detour_23 (a1 : Int32) (t : sr_t) : sr_Rs := (sr_bc (F10_detour a1 t) hcL_detour_23 (sr_dI (fun v1 t1 => (if (0 : Int32) < 0 ∨ 1 ≤ (0 : Int32).toNatClampNeg then none else sr_lt (sr_ul t1 23 0 (0 : Int32).toNatClampNeg v1.toInt64) (fun t2 => (some (.inl (some (sr_i 0)), t2)))))))
theorem CL_detour_23 (l : Launch) (a1 : Int32)  (t : sr_t) : sr_ct' l sr_mL_detour [sr_r 10 0, sr_i a1, sr_r 23 0] t (FL_detour_23 a1 t) 1 6 := by
  refine sr_T_ofH (L0 := [some (sr_r 10 0), some (sr_i a1), some (sr_r 23 0), none]) rfl (by decide +kernel) (fun _ => rfl) (fun _ => Nat.le_of_ble_eq_true rfl) ?_
  unfold FL_detour_23
  refine sr_aloadn (pc := 0) (n := 2) (by decide +kernel) rfl ?_
  refine sr_iconst (pc := 1) (n := 0) (v := 0) (by decide +kernel) rfl ?_
  refine sr_aloadn (pc := 2) (n := 0) (by decide +kernel) rfl ?_
  refine sr_iloadn (pc := 3) (n := 1) (by decide +kernel) rfl ?_
  refine sr_cVC (pc := 4) (As := [sr_i a1]) (mc1 := 1) (ms1 := 6) (mc2 := 0) (ms2 := 0) (hc := hcL_detour_23) fm_L_100 fl_L_100 (by decide +kernel) (sr_in10 _ (by omega)) (rm_L_detour_10_detour) rfl rfl rfl hfL_detour_23 (C10_detour l a1 t) ?_
  refine sr_kI (fun v1 t1 => ?_)
  refine sr_i2l (pc := 7) (by decide +kernel) ?_
  refine sr_sL (pc := 8) (n := 1) rfl (by decide +kernel) (sr_in23 _ (by omega)) (fun _ _ => rfl) (fun t2 => ?_)
  refine sr_goto (pc := 9) (off := 6) (tg := 15) (by decide +kernel) (by decide) ?_
  refine sr_iconst (pc := 15) (n := 0) (v := 0) (by decide +kernel) rfl ?_
  exact sr_iret (pc := 16) (by decide +kernel) rfl
def sr_mL_quickest : sr_M := (⟨"ShiftRingLaw", "quickest", "(LShiftRing;I[J)I"⟩, method_30_code, 4, (some .int), [(0, 9, 12, 13)], 8, 166)
theorem fl_L_103 : Cond.methodLink "ShiftRingLaw" 103 (sr_My sr_m10_quickest) ∈ sr_TB := (sr_tb (n := 1222) (by decide +kernel) rfl)
theorem fm_L_103 : sr_FV "ShiftRingLaw" 103 sr_m10_quickest 10 1 := ⟨⟨rfl, sr_tb (n := 1225) (by decide +kernel) rfl, sr_tb (n := 1) (by decide +kernel) rfl, ⟨by decide, by decide, by decide +kernel⟩, Or.inl fl_L_103⟩, ⟨TX10, 7, rfl, rfl⟩, sr_tb (n := 1223) (by decide +kernel) rfl, sr_tb (n := 1224) (by decide +kernel) rfl⟩
theorem rm_L_quickest_10_quickest : sr_RM sr_mL_quickest sr_m10_quickest := ⟨Nat.le_of_ble_eq_true rfl, Nat.le_of_ble_eq_true rfl⟩
def hcL_quickest_23 (z : Nat) : Option Int32 := match z with
  | 0 => some 1
  | 1 => none
  | 2 => none
  | 3 => none
  | _ => none
theorem hfL_quickest_23 : ∀ z c, hcL_quickest_23 z = some c → sr_HF sr_mL_quickest 4 z c := by
  intro z c h
  rcases z with _ | _ | _ | _ | z
  · cases h
    exact ⟨[], ⟨0, 9, 12, 13⟩, [], "java/lang/IllegalArgumentException", 3, 1, rfl, (fun _ h => nomatch h), by decide, by decide, sr_tb (n := 772) (by decide +kernel) rfl, sr_nb (n := 783) (by decide +kernel) rfl, by decide, by decide, Or.inr ⟨3, rfl, by decide +kernel, by decide +kernel, by decide +kernel⟩⟩
  · cases h
  · cases h
  · cases h
  · cases h
def FL_quickest_23 (a1 : Int32) (t : sr_t) : sr_Rs := (sr_bc (F10_quickest a1 t) hcL_quickest_23 (sr_dI (fun v1 t1 => (if (0 : Int32) < 0 ∨ 1 ≤ (0 : Int32).toNatClampNeg then none else sr_lt (sr_ul t1 23 0 (0 : Int32).toNatClampNeg v1.toInt64) (fun t2 => (some (.inl (some (sr_i 0)), t2)))))))
theorem CL_quickest_23 (l : Launch) (a1 : Int32)  (t : sr_t) : sr_ct' l sr_mL_quickest [sr_r 10 0, sr_i a1, sr_r 23 0] t (FL_quickest_23 a1 t) 1 6 := by
  refine sr_T_ofH (L0 := [some (sr_r 10 0), some (sr_i a1), some (sr_r 23 0), none]) rfl (by decide +kernel) (fun _ => rfl) (fun _ => Nat.le_of_ble_eq_true rfl) ?_
  unfold FL_quickest_23
  refine sr_aloadn (pc := 0) (n := 2) (by decide +kernel) rfl ?_
  refine sr_iconst (pc := 1) (n := 0) (v := 0) (by decide +kernel) rfl ?_
  refine sr_aloadn (pc := 2) (n := 0) (by decide +kernel) rfl ?_
  refine sr_iloadn (pc := 3) (n := 1) (by decide +kernel) rfl ?_
  refine sr_cVC (pc := 4) (As := [sr_i a1]) (mc1 := 1) (ms1 := 6) (mc2 := 0) (ms2 := 0) (hc := hcL_quickest_23) fm_L_103 fl_L_103 (by decide +kernel) (sr_in10 _ (by omega)) (rm_L_quickest_10_quickest) rfl rfl rfl hfL_quickest_23 (C10_quickest l a1 t) ?_
  refine sr_kI (fun v1 t1 => ?_)
  refine sr_i2l (pc := 7) (by decide +kernel) ?_
  refine sr_sL (pc := 8) (n := 1) rfl (by decide +kernel) (sr_in23 _ (by omega)) (fun _ _ => rfl) (fun t2 => ?_)
  refine sr_goto (pc := 9) (off := 6) (tg := 15) (by decide +kernel) (by decide) ?_
  refine sr_iconst (pc := 15) (n := 0) (v := 0) (by decide +kernel) rfl ?_
  exact sr_iret (pc := 16) (by decide +kernel) rfl
def sr_mL_better : sr_M := (⟨"ShiftRingLaw", "better", "(LShiftRing;I[J)I"⟩, method_31_code, 4, (some .int), [(0, 9, 12, 20)], 8, 143)
theorem fl_L_106 : Cond.methodLink "ShiftRingLaw" 106 (sr_My sr_m10_better) ∈ sr_TB := (sr_tb (n := 1229) (by decide +kernel) rfl)
theorem fm_L_106 : sr_FV "ShiftRingLaw" 106 sr_m10_better 10 1 := ⟨⟨rfl, sr_tb (n := 1232) (by decide +kernel) rfl, sr_tb (n := 1) (by decide +kernel) rfl, ⟨by decide, by decide, by decide +kernel⟩, Or.inl fl_L_106⟩, ⟨TX10, 7, rfl, rfl⟩, sr_tb (n := 1230) (by decide +kernel) rfl, sr_tb (n := 1231) (by decide +kernel) rfl⟩
theorem rm_L_better_10_better : sr_RM sr_mL_better sr_m10_better := ⟨Nat.le_of_ble_eq_true rfl, Nat.le_of_ble_eq_true rfl⟩
def hcL_better_23 (z : Nat) : Option Int32 := match z with
  | 0 => none
  | 1 => none
  | 2 => some 1
  | 3 => none
  | _ => none
theorem hfL_better_23 : ∀ z c, hcL_better_23 z = some c → sr_HF sr_mL_better 4 z c := by
  intro z c h
  rcases z with _ | _ | _ | _ | z
  · cases h
  · cases h
  · cases h
    exact ⟨[], ⟨0, 9, 12, 20⟩, [], "java/lang/IndexOutOfBoundsException", 3, 1, rfl, (fun _ h => nomatch h), by decide, by decide, sr_tb (n := 879) (by decide +kernel) rfl, sr_nb (n := 894) (by decide +kernel) rfl, by decide, by decide, Or.inr ⟨3, rfl, by decide +kernel, by decide +kernel, by decide +kernel⟩⟩
  · cases h
  · cases h
def FL_better_23 (a1 : Int32) (t : sr_t) : sr_Rs := (sr_bc (F10_better a1 t) hcL_better_23 (sr_dI (fun v1 t1 => (if (0 : Int32) < 0 ∨ 1 ≤ (0 : Int32).toNatClampNeg then none else sr_lt (sr_ul t1 23 0 (0 : Int32).toNatClampNeg v1.toInt64) (fun t2 => (some (.inl (some (sr_i 0)), t2)))))))
theorem CL_better_23 (l : Launch) (a1 : Int32)  (t : sr_t) : sr_ct' l sr_mL_better [sr_r 10 0, sr_i a1, sr_r 23 0] t (FL_better_23 a1 t) 1 6 := by
  refine sr_T_ofH (L0 := [some (sr_r 10 0), some (sr_i a1), some (sr_r 23 0), none]) rfl (by decide +kernel) (fun _ => rfl) (fun _ => Nat.le_of_ble_eq_true rfl) ?_
  unfold FL_better_23
  refine sr_aloadn (pc := 0) (n := 2) (by decide +kernel) rfl ?_
  refine sr_iconst (pc := 1) (n := 0) (v := 0) (by decide +kernel) rfl ?_
  refine sr_aloadn (pc := 2) (n := 0) (by decide +kernel) rfl ?_
  refine sr_iloadn (pc := 3) (n := 1) (by decide +kernel) rfl ?_
  refine sr_cVC (pc := 4) (As := [sr_i a1]) (mc1 := 1) (ms1 := 6) (mc2 := 0) (ms2 := 0) (hc := hcL_better_23) fm_L_106 fl_L_106 (by decide +kernel) (sr_in10 _ (by omega)) (rm_L_better_10_better) rfl rfl rfl hfL_better_23 (C10_better l a1 t) ?_
  refine sr_kI (fun v1 t1 => ?_)
  refine sr_i2l (pc := 7) (by decide +kernel) ?_
  refine sr_sL (pc := 8) (n := 1) rfl (by decide +kernel) (sr_in23 _ (by omega)) (fun _ _ => rfl) (fun t2 => ?_)
  refine sr_goto (pc := 9) (off := 6) (tg := 15) (by decide +kernel) (by decide) ?_
  refine sr_iconst (pc := 15) (n := 0) (v := 0) (by decide +kernel) rfl ?_
  exact sr_iret (pc := 16) (by decide +kernel) rfl
def sr_mL_host : sr_M := (⟨"ShiftRingLaw", "host", "(LShiftRing;I[J)I"⟩, method_32_code, 4, (some .int), [(0, 9, 12, 13)], 8, 131)
theorem fl_L_109 : Cond.methodLink "ShiftRingLaw" 109 (sr_My sr_m10_host) ∈ sr_TB := (sr_tb (n := 1249) (by decide +kernel) rfl)
theorem fm_L_109 : sr_FV "ShiftRingLaw" 109 sr_m10_host 10 1 := ⟨⟨rfl, sr_tb (n := 1252) (by decide +kernel) rfl, sr_tb (n := 1) (by decide +kernel) rfl, ⟨by decide, by decide, by decide +kernel⟩, Or.inl fl_L_109⟩, ⟨TX10, 7, rfl, rfl⟩, sr_tb (n := 1250) (by decide +kernel) rfl, sr_tb (n := 1251) (by decide +kernel) rfl⟩
theorem rm_L_host_10_host : sr_RM sr_mL_host sr_m10_host := ⟨Nat.le_of_ble_eq_true rfl, Nat.le_of_ble_eq_true rfl⟩
def hcL_host_23 (z : Nat) : Option Int32 := match z with
  | 0 => some 1
  | 1 => none
  | 2 => none
  | 3 => none
  | _ => none
theorem hfL_host_23 : ∀ z c, hcL_host_23 z = some c → sr_HF sr_mL_host 4 z c := by
  intro z c h
  rcases z with _ | _ | _ | _ | z
  · cases h
    exact ⟨[], ⟨0, 9, 12, 13⟩, [], "java/lang/IllegalArgumentException", 3, 1, rfl, (fun _ h => nomatch h), by decide, by decide, sr_tb (n := 772) (by decide +kernel) rfl, sr_nb (n := 783) (by decide +kernel) rfl, by decide, by decide, Or.inr ⟨3, rfl, by decide +kernel, by decide +kernel, by decide +kernel⟩⟩
  · cases h
  · cases h
  · cases h
  · cases h
def FL_host_23 (a1 : Int32) (t : sr_t) : sr_Rs := (sr_bc (F10_host a1 t) hcL_host_23 (sr_dI (fun v1 t1 => (if (0 : Int32) < 0 ∨ 1 ≤ (0 : Int32).toNatClampNeg then none else sr_lt (sr_ul t1 23 0 (0 : Int32).toNatClampNeg v1.toInt64) (fun t2 => (some (.inl (some (sr_i 0)), t2)))))))
theorem CL_host_23 (l : Launch) (a1 : Int32)  (t : sr_t) : sr_ct' l sr_mL_host [sr_r 10 0, sr_i a1, sr_r 23 0] t (FL_host_23 a1 t) 1 6 := by
  refine sr_T_ofH (L0 := [some (sr_r 10 0), some (sr_i a1), some (sr_r 23 0), none]) rfl (by decide +kernel) (fun _ => rfl) (fun _ => Nat.le_of_ble_eq_true rfl) ?_
  unfold FL_host_23
  refine sr_aloadn (pc := 0) (n := 2) (by decide +kernel) rfl ?_
  refine sr_iconst (pc := 1) (n := 0) (v := 0) (by decide +kernel) rfl ?_
  refine sr_aloadn (pc := 2) (n := 0) (by decide +kernel) rfl ?_
  refine sr_iloadn (pc := 3) (n := 1) (by decide +kernel) rfl ?_
  refine sr_cVC (pc := 4) (As := [sr_i a1]) (mc1 := 1) (ms1 := 6) (mc2 := 0) (ms2 := 0) (hc := hcL_host_23) fm_L_109 fl_L_109 (by decide +kernel) (sr_in10 _ (by omega)) (rm_L_host_10_host) rfl rfl rfl hfL_host_23 (C10_host l a1 t) ?_
  refine sr_kI (fun v1 t1 => ?_)
  refine sr_i2l (pc := 7) (by decide +kernel) ?_
  refine sr_sL (pc := 8) (n := 1) rfl (by decide +kernel) (sr_in23 _ (by omega)) (fun _ _ => rfl) (fun t2 => ?_)
  refine sr_goto (pc := 9) (off := 6) (tg := 15) (by decide +kernel) (by decide) ?_
  refine sr_iconst (pc := 15) (n := 0) (v := 0) (by decide +kernel) rfl ?_
  exact sr_iret (pc := 16) (by decide +kernel) rfl
def sr_mL_ideal : sr_M := (⟨"ShiftRingLaw", "ideal", "(LShiftRing;II[J)I"⟩, method_33_code, 5, (some .int), [(0, 10, 13, 20), (0, 10, 17, 13), (0, 10, 21, 15)], 9, 155)
theorem fl_L_112 : Cond.methodLink "ShiftRingLaw" 112 (sr_My sr_m10_ideal) ∈ sr_TB := (sr_tb (n := 1257) (by decide +kernel) rfl)
theorem fm_L_112 : sr_FV "ShiftRingLaw" 112 sr_m10_ideal 10 2 := ⟨⟨rfl, sr_tb (n := 1260) (by decide +kernel) rfl, sr_tb (n := 1) (by decide +kernel) rfl, ⟨by decide, by decide, by decide +kernel⟩, Or.inl fl_L_112⟩, ⟨TX10, 7, rfl, rfl⟩, sr_tb (n := 1258) (by decide +kernel) rfl, sr_tb (n := 1259) (by decide +kernel) rfl⟩
theorem rm_L_ideal_10_ideal : sr_RM sr_mL_ideal sr_m10_ideal := ⟨Nat.le_of_ble_eq_true rfl, Nat.le_of_ble_eq_true rfl⟩
def hcL_ideal_23 (z : Nat) : Option Int32 := match z with
  | 0 => some 2
  | 1 => some 3
  | 2 => some 1
  | 3 => none
  | _ => none
theorem hfL_ideal_23 : ∀ z c, hcL_ideal_23 z = some c → sr_HF sr_mL_ideal 5 z c := by
  intro z c h
  rcases z with _ | _ | _ | _ | z
  · cases h
    exact ⟨[⟨0, 10, 13, 20⟩], ⟨0, 10, 17, 13⟩, [⟨0, 10, 21, 15⟩], "java/lang/IllegalArgumentException", 4, 2, rfl, (List.forall_mem_cons.mpr ⟨Or.inr ⟨by decide, "java/lang/IndexOutOfBoundsException", sr_tb (n := 879) (by decide +kernel) rfl, by decide +kernel⟩, fun _ h => nomatch h⟩), by decide, by decide, sr_tb (n := 772) (by decide +kernel) rfl, sr_nb (n := 783) (by decide +kernel) rfl, by decide, by decide, Or.inl ⟨by decide +kernel, by decide +kernel, by decide +kernel⟩⟩
  · cases h
    exact ⟨[⟨0, 10, 13, 20⟩, ⟨0, 10, 17, 13⟩], ⟨0, 10, 21, 15⟩, [], "java/lang/IllegalStateException", 4, 3, rfl, (List.forall_mem_cons.mpr ⟨Or.inr ⟨by decide, "java/lang/IndexOutOfBoundsException", sr_tb (n := 879) (by decide +kernel) rfl, by decide +kernel⟩, List.forall_mem_cons.mpr ⟨Or.inr ⟨by decide, "java/lang/IllegalArgumentException", sr_tb (n := 772) (by decide +kernel) rfl, by decide +kernel⟩, fun _ h => nomatch h⟩⟩), by decide, by decide, sr_tb (n := 773) (by decide +kernel) rfl, sr_nb (n := 853) (by decide +kernel) rfl, by decide, by decide, Or.inl ⟨by decide +kernel, by decide +kernel, by decide +kernel⟩⟩
  · cases h
    exact ⟨[], ⟨0, 10, 13, 20⟩, [⟨0, 10, 17, 13⟩, ⟨0, 10, 21, 15⟩], "java/lang/IndexOutOfBoundsException", 4, 1, rfl, (fun _ h => nomatch h), by decide, by decide, sr_tb (n := 879) (by decide +kernel) rfl, sr_nb (n := 894) (by decide +kernel) rfl, by decide, by decide, Or.inl ⟨by decide +kernel, by decide +kernel, by decide +kernel⟩⟩
  · cases h
  · cases h
def FL_ideal_23 (a1 : Int32) (a2 : Int32) (t : sr_t) : sr_Rs := (sr_bc (F10_ideal a1 a2 t) hcL_ideal_23 (sr_dI (fun v1 t1 => (if (0 : Int32) < 0 ∨ 1 ≤ (0 : Int32).toNatClampNeg then none else sr_lt (sr_ul t1 23 0 (0 : Int32).toNatClampNeg v1.toInt64) (fun t2 => (some (.inl (some (sr_i 0)), t2)))))))
theorem CL_ideal_23 (l : Launch) (a1 : Int32) (a2 : Int32)  (t : sr_t) : sr_ct' l sr_mL_ideal [sr_r 10 0, sr_i a1, sr_i a2, sr_r 23 0] t (FL_ideal_23 a1 a2 t) 3 18 := by
  refine sr_T_ofH (L0 := [some (sr_r 10 0), some (sr_i a1), some (sr_i a2), some (sr_r 23 0), none]) rfl (by decide +kernel) (fun _ => rfl) (fun _ => Nat.le_of_ble_eq_true rfl) ?_
  unfold FL_ideal_23
  refine sr_aloadn (pc := 0) (n := 3) (by decide +kernel) rfl ?_
  refine sr_iconst (pc := 1) (n := 0) (v := 0) (by decide +kernel) rfl ?_
  refine sr_aloadn (pc := 2) (n := 0) (by decide +kernel) rfl ?_
  refine sr_iloadn (pc := 3) (n := 1) (by decide +kernel) rfl ?_
  refine sr_iloadn (pc := 4) (n := 2) (by decide +kernel) rfl ?_
  refine sr_cVC (pc := 5) (As := [sr_i a1, sr_i a2]) (mc1 := 3) (ms1 := 18) (mc2 := 0) (ms2 := 0) (hc := hcL_ideal_23) fm_L_112 fl_L_112 (by decide +kernel) (sr_in10 _ (by omega)) (rm_L_ideal_10_ideal) rfl rfl rfl hfL_ideal_23 (C10_ideal l a1 a2 t) ?_
  refine sr_kI (fun v1 t1 => ?_)
  refine sr_i2l (pc := 8) (by decide +kernel) ?_
  refine sr_sL (pc := 9) (n := 1) rfl (by decide +kernel) (sr_in23 _ (by omega)) (fun _ _ => rfl) (fun t2 => ?_)
  refine sr_goto (pc := 10) (off := 15) (tg := 25) (by decide +kernel) (by decide) ?_
  refine sr_iconst (pc := 25) (n := 0) (v := 0) (by decide +kernel) rfl ?_
  exact sr_iret (pc := 26) (by decide +kernel) rfl
def sr_mL_enough : sr_M := (⟨"ShiftRingLaw", "enough", "(LShiftRing;I[J)I"⟩, method_34_code, 4, (some .int), [(0, 9, 12, 13)], 8, 188)
theorem fl_L_115 : Cond.methodLink "ShiftRingLaw" 115 (sr_My sr_m10_enough) ∈ sr_TB := (sr_tb (n := 1264) (by decide +kernel) rfl)
theorem fm_L_115 : sr_FV "ShiftRingLaw" 115 sr_m10_enough 10 1 := ⟨⟨rfl, sr_tb (n := 1267) (by decide +kernel) rfl, sr_tb (n := 1) (by decide +kernel) rfl, ⟨by decide, by decide, by decide +kernel⟩, Or.inl fl_L_115⟩, ⟨TX10, 7, rfl, rfl⟩, sr_tb (n := 1265) (by decide +kernel) rfl, sr_tb (n := 1266) (by decide +kernel) rfl⟩
theorem rm_L_enough_10_enough : sr_RM sr_mL_enough sr_m10_enough := ⟨Nat.le_of_ble_eq_true rfl, Nat.le_of_ble_eq_true rfl⟩
def hcL_enough_23 (z : Nat) : Option Int32 := match z with
  | 0 => some 1
  | 1 => none
  | 2 => none
  | 3 => none
  | _ => none
theorem hfL_enough_23 : ∀ z c, hcL_enough_23 z = some c → sr_HF sr_mL_enough 4 z c := by
  intro z c h
  rcases z with _ | _ | _ | _ | z
  · cases h
    exact ⟨[], ⟨0, 9, 12, 13⟩, [], "java/lang/IllegalArgumentException", 3, 1, rfl, (fun _ h => nomatch h), by decide, by decide, sr_tb (n := 772) (by decide +kernel) rfl, sr_nb (n := 783) (by decide +kernel) rfl, by decide, by decide, Or.inr ⟨3, rfl, by decide +kernel, by decide +kernel, by decide +kernel⟩⟩
  · cases h
  · cases h
  · cases h
  · cases h
def FL_enough_23 (a1 : Int32) (t : sr_t) : sr_Rs := (sr_bc (F10_enough a1 t) hcL_enough_23 (sr_dI (fun v1 t1 => (if (0 : Int32) < 0 ∨ 1 ≤ (0 : Int32).toNatClampNeg then none else sr_lt (sr_ul t1 23 0 (0 : Int32).toNatClampNeg v1.toInt64) (fun t2 => (some (.inl (some (sr_i 0)), t2)))))))
theorem CL_enough_23 (l : Launch) (a1 : Int32)  (t : sr_t) : sr_ct' l sr_mL_enough [sr_r 10 0, sr_i a1, sr_r 23 0] t (FL_enough_23 a1 t) 1 6 := by
  refine sr_T_ofH (L0 := [some (sr_r 10 0), some (sr_i a1), some (sr_r 23 0), none]) rfl (by decide +kernel) (fun _ => rfl) (fun _ => Nat.le_of_ble_eq_true rfl) ?_
  unfold FL_enough_23
  refine sr_aloadn (pc := 0) (n := 2) (by decide +kernel) rfl ?_
  refine sr_iconst (pc := 1) (n := 0) (v := 0) (by decide +kernel) rfl ?_
  refine sr_aloadn (pc := 2) (n := 0) (by decide +kernel) rfl ?_
  refine sr_iloadn (pc := 3) (n := 1) (by decide +kernel) rfl ?_
  refine sr_cVC (pc := 4) (As := [sr_i a1]) (mc1 := 1) (ms1 := 6) (mc2 := 0) (ms2 := 0) (hc := hcL_enough_23) fm_L_115 fl_L_115 (by decide +kernel) (sr_in10 _ (by omega)) (rm_L_enough_10_enough) rfl rfl rfl hfL_enough_23 (C10_enough l a1 t) ?_
  refine sr_kI (fun v1 t1 => ?_)
  refine sr_i2l (pc := 7) (by decide +kernel) ?_
  refine sr_sL (pc := 8) (n := 1) rfl (by decide +kernel) (sr_in23 _ (by omega)) (fun _ _ => rfl) (fun t2 => ?_)
  refine sr_goto (pc := 9) (off := 6) (tg := 15) (by decide +kernel) (by decide) ?_
  refine sr_iconst (pc := 15) (n := 0) (v := 0) (by decide +kernel) rfl ?_
  exact sr_iret (pc := 16) (by decide +kernel) rfl
def sr_mL_copies : sr_M := (⟨"ShiftRingLaw", "copies", "(LShiftRing;I[J)I"⟩, method_35_code, 4, (some .int), [(0, 9, 12, 13)], 7, 112)
theorem fl_L_118 : Cond.methodLink "ShiftRingLaw" 118 (sr_My sr_m10_copies) ∈ sr_TB := (sr_tb (n := 1276) (by decide +kernel) rfl)
theorem fm_L_118 : sr_FV "ShiftRingLaw" 118 sr_m10_copies 10 1 := ⟨⟨rfl, sr_tb (n := 1279) (by decide +kernel) rfl, sr_tb (n := 1) (by decide +kernel) rfl, ⟨by decide, by decide, by decide +kernel⟩, Or.inl fl_L_118⟩, ⟨TX10, 7, rfl, rfl⟩, sr_tb (n := 1277) (by decide +kernel) rfl, sr_tb (n := 1278) (by decide +kernel) rfl⟩
theorem rm_L_copies_10_copies : sr_RM sr_mL_copies sr_m10_copies := ⟨Nat.le_of_ble_eq_true rfl, Nat.le_of_ble_eq_true rfl⟩
def hcL_copies_23 (z : Nat) : Option Int32 := match z with
  | 0 => some 1
  | 1 => none
  | 2 => none
  | 3 => none
  | _ => none
theorem hfL_copies_23 : ∀ z c, hcL_copies_23 z = some c → sr_HF sr_mL_copies 4 z c := by
  intro z c h
  rcases z with _ | _ | _ | _ | z
  · cases h
    exact ⟨[], ⟨0, 9, 12, 13⟩, [], "java/lang/IllegalArgumentException", 3, 1, rfl, (fun _ h => nomatch h), by decide, by decide, sr_tb (n := 772) (by decide +kernel) rfl, sr_nb (n := 783) (by decide +kernel) rfl, by decide, by decide, Or.inr ⟨3, rfl, by decide +kernel, by decide +kernel, by decide +kernel⟩⟩
  · cases h
  · cases h
  · cases h
  · cases h
def FL_copies_23 (a1 : Int32) (t : sr_t) : sr_Rs := (sr_bc (F10_copies a1 t) hcL_copies_23 (sr_dI (fun v1 t1 => (if (0 : Int32) < 0 ∨ 1 ≤ (0 : Int32).toNatClampNeg then none else sr_lt (sr_ul t1 23 0 (0 : Int32).toNatClampNeg v1.toInt64) (fun t2 => (some (.inl (some (sr_i 0)), t2)))))))
theorem CL_copies_23 (l : Launch) (a1 : Int32)  (t : sr_t) : sr_ct' l sr_mL_copies [sr_r 10 0, sr_i a1, sr_r 23 0] t (FL_copies_23 a1 t) 1 6 := by
  refine sr_T_ofH (L0 := [some (sr_r 10 0), some (sr_i a1), some (sr_r 23 0), none]) rfl (by decide +kernel) (fun _ => rfl) (fun _ => Nat.le_of_ble_eq_true rfl) ?_
  unfold FL_copies_23
  refine sr_aloadn (pc := 0) (n := 2) (by decide +kernel) rfl ?_
  refine sr_iconst (pc := 1) (n := 0) (v := 0) (by decide +kernel) rfl ?_
  refine sr_aloadn (pc := 2) (n := 0) (by decide +kernel) rfl ?_
  refine sr_iloadn (pc := 3) (n := 1) (by decide +kernel) rfl ?_
  refine sr_cVC (pc := 4) (As := [sr_i a1]) (mc1 := 1) (ms1 := 6) (mc2 := 0) (ms2 := 0) (hc := hcL_copies_23) fm_L_118 fl_L_118 (by decide +kernel) (sr_in10 _ (by omega)) (rm_L_copies_10_copies) rfl rfl rfl hfL_copies_23 (C10_copies l a1 t) ?_
  refine sr_kI (fun v1 t1 => ?_)
  refine sr_i2l (pc := 7) (by decide +kernel) ?_
  refine sr_sL (pc := 8) (n := 1) rfl (by decide +kernel) (sr_in23 _ (by omega)) (fun _ _ => rfl) (fun t2 => ?_)
  refine sr_goto (pc := 9) (off := 6) (tg := 15) (by decide +kernel) (by decide) ?_
  refine sr_iconst (pc := 15) (n := 0) (v := 0) (by decide +kernel) rfl ?_
  exact sr_iret (pc := 16) (by decide +kernel) rfl
def sr_mL_put : sr_M := (⟨"ShiftRingLaw", "put", "(LShiftRing;III[J)I"⟩, method_36_code, 6, (some .int), [(0, 12, 15, 20), (0, 12, 19, 13), (0, 12, 23, 15)], 8, 142)
theorem fl_L_121 : Cond.methodLink "ShiftRingLaw" 121 (sr_My sr_m10_put) ∈ sr_TB := (sr_tb (n := 1284) (by decide +kernel) rfl)
theorem fm_L_121 : sr_FV "ShiftRingLaw" 121 sr_m10_put 10 3 := ⟨⟨rfl, sr_tb (n := 1287) (by decide +kernel) rfl, sr_tb (n := 1) (by decide +kernel) rfl, ⟨by decide, by decide, by decide +kernel⟩, Or.inl fl_L_121⟩, ⟨TX10, 7, rfl, rfl⟩, sr_tb (n := 1285) (by decide +kernel) rfl, sr_tb (n := 1286) (by decide +kernel) rfl⟩
theorem rm_L_put_10_put : sr_RM sr_mL_put sr_m10_put := ⟨Nat.le_of_ble_eq_true rfl, Nat.le_of_ble_eq_true rfl⟩
def hcL_put_23 (z : Nat) : Option Int32 := match z with
  | 0 => some 2
  | 1 => some 3
  | 2 => some 1
  | 3 => none
  | _ => none
theorem hfL_put_23 : ∀ z c, hcL_put_23 z = some c → sr_HF sr_mL_put 7 z c := by
  intro z c h
  rcases z with _ | _ | _ | _ | z
  · cases h
    exact ⟨[⟨0, 12, 15, 20⟩], ⟨0, 12, 19, 13⟩, [⟨0, 12, 23, 15⟩], "java/lang/IllegalArgumentException", 5, 2, rfl, (List.forall_mem_cons.mpr ⟨Or.inr ⟨by decide, "java/lang/IndexOutOfBoundsException", sr_tb (n := 879) (by decide +kernel) rfl, by decide +kernel⟩, fun _ h => nomatch h⟩), by decide, by decide, sr_tb (n := 772) (by decide +kernel) rfl, sr_nb (n := 783) (by decide +kernel) rfl, by decide, by decide, Or.inl ⟨by decide +kernel, by decide +kernel, by decide +kernel⟩⟩
  · cases h
    exact ⟨[⟨0, 12, 15, 20⟩, ⟨0, 12, 19, 13⟩], ⟨0, 12, 23, 15⟩, [], "java/lang/IllegalStateException", 5, 3, rfl, (List.forall_mem_cons.mpr ⟨Or.inr ⟨by decide, "java/lang/IndexOutOfBoundsException", sr_tb (n := 879) (by decide +kernel) rfl, by decide +kernel⟩, List.forall_mem_cons.mpr ⟨Or.inr ⟨by decide, "java/lang/IllegalArgumentException", sr_tb (n := 772) (by decide +kernel) rfl, by decide +kernel⟩, fun _ h => nomatch h⟩⟩), by decide, by decide, sr_tb (n := 773) (by decide +kernel) rfl, sr_nb (n := 853) (by decide +kernel) rfl, by decide, by decide, Or.inl ⟨by decide +kernel, by decide +kernel, by decide +kernel⟩⟩
  · cases h
    exact ⟨[], ⟨0, 12, 15, 20⟩, [⟨0, 12, 19, 13⟩, ⟨0, 12, 23, 15⟩], "java/lang/IndexOutOfBoundsException", 5, 1, rfl, (fun _ h => nomatch h), by decide, by decide, sr_tb (n := 879) (by decide +kernel) rfl, sr_nb (n := 894) (by decide +kernel) rfl, by decide, by decide, Or.inl ⟨by decide +kernel, by decide +kernel, by decide +kernel⟩⟩
  · cases h
  · cases h
def FL_put_23 (a1 : Int32) (a2 : Int32) (a3 : Int32) (t : sr_t) : sr_Rs := (sr_bc (F10_put a1 a2 a3 t) hcL_put_23 (sr_dI (fun v1 t1 => (if (0 : Int32) < 0 ∨ 1 ≤ (0 : Int32).toNatClampNeg then none else sr_lt (sr_ul t1 23 0 (0 : Int32).toNatClampNeg v1.toInt64) (fun t2 => (some (.inl (some (sr_i 0)), t2)))))))
theorem CL_put_23 (l : Launch) (a1 : Int32) (a2 : Int32) (a3 : Int32)  (t : sr_t) : sr_ct' l sr_mL_put [sr_r 10 0, sr_i a1, sr_i a2, sr_i a3, sr_r 23 0] t (FL_put_23 a1 a2 a3 t) 4 24 := by
  refine sr_T_ofH (L0 := [some (sr_r 10 0), some (sr_i a1), some (sr_i a2), some (sr_i a3), some (sr_r 23 0), none]) rfl (by decide +kernel) (fun _ => rfl) (fun _ => Nat.le_of_ble_eq_true rfl) ?_
  unfold FL_put_23
  refine sr_aload (pc := 0) (i := 4) (by decide +kernel) rfl ?_
  refine sr_iconst (pc := 2) (n := 0) (v := 0) (by decide +kernel) rfl ?_
  refine sr_aloadn (pc := 3) (n := 0) (by decide +kernel) rfl ?_
  refine sr_iloadn (pc := 4) (n := 1) (by decide +kernel) rfl ?_
  refine sr_iloadn (pc := 5) (n := 2) (by decide +kernel) rfl ?_
  refine sr_iloadn (pc := 6) (n := 3) (by decide +kernel) rfl ?_
  refine sr_cVC (pc := 7) (As := [sr_i a1, sr_i a2, sr_i a3]) (mc1 := 4) (ms1 := 24) (mc2 := 0) (ms2 := 0) (hc := hcL_put_23) fm_L_121 fl_L_121 (by decide +kernel) (sr_in10 _ (by omega)) (rm_L_put_10_put) rfl rfl rfl hfL_put_23 (C10_put l a1 a2 a3 t) ?_
  refine sr_kI (fun v1 t1 => ?_)
  refine sr_i2l (pc := 10) (by decide +kernel) ?_
  refine sr_sL (pc := 11) (n := 1) rfl (by decide +kernel) (sr_in23 _ (by omega)) (fun _ _ => rfl) (fun t2 => ?_)
  refine sr_goto (pc := 12) (off := 15) (tg := 27) (by decide +kernel) (by decide) ?_
  refine sr_iconst (pc := 27) (n := 0) (v := 0) (by decide +kernel) rfl ?_
  exact sr_iret (pc := 28) (by decide +kernel) rfl
def sr_mL_get : sr_M := (⟨"ShiftRingLaw", "get", "(LShiftRing;II[J)I"⟩, method_37_code, 5, (some .int), [(0, 10, 13, 20), (0, 10, 17, 13), (0, 10, 21, 15)], 8, 141)
theorem fl_L_124 : Cond.methodLink "ShiftRingLaw" 124 (sr_My sr_m10_get) ∈ sr_TB := (sr_tb (n := 1320) (by decide +kernel) rfl)
theorem fm_L_124 : sr_FV "ShiftRingLaw" 124 sr_m10_get 10 2 := ⟨⟨rfl, sr_tb (n := 1323) (by decide +kernel) rfl, sr_tb (n := 1) (by decide +kernel) rfl, ⟨by decide, by decide, by decide +kernel⟩, Or.inl fl_L_124⟩, ⟨TX10, 7, rfl, rfl⟩, sr_tb (n := 1321) (by decide +kernel) rfl, sr_tb (n := 1322) (by decide +kernel) rfl⟩
theorem rm_L_get_10_get : sr_RM sr_mL_get sr_m10_get := ⟨Nat.le_of_ble_eq_true rfl, Nat.le_of_ble_eq_true rfl⟩
def hcL_get_23 (z : Nat) : Option Int32 := match z with
  | 0 => some 2
  | 1 => some 3
  | 2 => some 1
  | 3 => none
  | _ => none
theorem hfL_get_23 : ∀ z c, hcL_get_23 z = some c → sr_HF sr_mL_get 5 z c := by
  intro z c h
  rcases z with _ | _ | _ | _ | z
  · cases h
    exact ⟨[⟨0, 10, 13, 20⟩], ⟨0, 10, 17, 13⟩, [⟨0, 10, 21, 15⟩], "java/lang/IllegalArgumentException", 4, 2, rfl, (List.forall_mem_cons.mpr ⟨Or.inr ⟨by decide, "java/lang/IndexOutOfBoundsException", sr_tb (n := 879) (by decide +kernel) rfl, by decide +kernel⟩, fun _ h => nomatch h⟩), by decide, by decide, sr_tb (n := 772) (by decide +kernel) rfl, sr_nb (n := 783) (by decide +kernel) rfl, by decide, by decide, Or.inl ⟨by decide +kernel, by decide +kernel, by decide +kernel⟩⟩
  · cases h
    exact ⟨[⟨0, 10, 13, 20⟩, ⟨0, 10, 17, 13⟩], ⟨0, 10, 21, 15⟩, [], "java/lang/IllegalStateException", 4, 3, rfl, (List.forall_mem_cons.mpr ⟨Or.inr ⟨by decide, "java/lang/IndexOutOfBoundsException", sr_tb (n := 879) (by decide +kernel) rfl, by decide +kernel⟩, List.forall_mem_cons.mpr ⟨Or.inr ⟨by decide, "java/lang/IllegalArgumentException", sr_tb (n := 772) (by decide +kernel) rfl, by decide +kernel⟩, fun _ h => nomatch h⟩⟩), by decide, by decide, sr_tb (n := 773) (by decide +kernel) rfl, sr_nb (n := 853) (by decide +kernel) rfl, by decide, by decide, Or.inl ⟨by decide +kernel, by decide +kernel, by decide +kernel⟩⟩
  · cases h
    exact ⟨[], ⟨0, 10, 13, 20⟩, [⟨0, 10, 17, 13⟩, ⟨0, 10, 21, 15⟩], "java/lang/IndexOutOfBoundsException", 4, 1, rfl, (fun _ h => nomatch h), by decide, by decide, sr_tb (n := 879) (by decide +kernel) rfl, sr_nb (n := 894) (by decide +kernel) rfl, by decide, by decide, Or.inl ⟨by decide +kernel, by decide +kernel, by decide +kernel⟩⟩
  · cases h
  · cases h
def FL_get_23 (a1 : Int32) (a2 : Int32) (t : sr_t) : sr_Rs := (sr_bc (F10_get a1 a2 t) hcL_get_23 (sr_dI (fun v1 t1 => (if (0 : Int32) < 0 ∨ 1 ≤ (0 : Int32).toNatClampNeg then none else sr_lt (sr_ul t1 23 0 (0 : Int32).toNatClampNeg v1.toInt64) (fun t2 => (some (.inl (some (sr_i 0)), t2)))))))
theorem CL_get_23 (l : Launch) (a1 : Int32) (a2 : Int32)  (t : sr_t) : sr_ct' l sr_mL_get [sr_r 10 0, sr_i a1, sr_i a2, sr_r 23 0] t (FL_get_23 a1 a2 t) 4 24 := by
  refine sr_T_ofH (L0 := [some (sr_r 10 0), some (sr_i a1), some (sr_i a2), some (sr_r 23 0), none]) rfl (by decide +kernel) (fun _ => rfl) (fun _ => Nat.le_of_ble_eq_true rfl) ?_
  unfold FL_get_23
  refine sr_aloadn (pc := 0) (n := 3) (by decide +kernel) rfl ?_
  refine sr_iconst (pc := 1) (n := 0) (v := 0) (by decide +kernel) rfl ?_
  refine sr_aloadn (pc := 2) (n := 0) (by decide +kernel) rfl ?_
  refine sr_iloadn (pc := 3) (n := 1) (by decide +kernel) rfl ?_
  refine sr_iloadn (pc := 4) (n := 2) (by decide +kernel) rfl ?_
  refine sr_cVC (pc := 5) (As := [sr_i a1, sr_i a2]) (mc1 := 4) (ms1 := 24) (mc2 := 0) (ms2 := 0) (hc := hcL_get_23) fm_L_124 fl_L_124 (by decide +kernel) (sr_in10 _ (by omega)) (rm_L_get_10_get) rfl rfl rfl hfL_get_23 (C10_get l a1 a2 t) ?_
  refine sr_kI (fun v1 t1 => ?_)
  refine sr_i2l (pc := 8) (by decide +kernel) ?_
  refine sr_sL (pc := 9) (n := 1) rfl (by decide +kernel) (sr_in23 _ (by omega)) (fun _ _ => rfl) (fun t2 => ?_)
  refine sr_goto (pc := 10) (off := 15) (tg := 25) (by decide +kernel) (by decide) ?_
  refine sr_iconst (pc := 25) (n := 0) (v := 0) (by decide +kernel) rfl ?_
  exact sr_iret (pc := 26) (by decide +kernel) rfl
def sr_mL_settle : sr_M := (⟨"ShiftRingLaw", "settle", "(LShiftRing;I[J)I"⟩, method_38_code, 4, (some .int), [(0, 9, 12, 20), (0, 9, 15, 15)], 8, 143)
theorem fl_L_127 : Cond.methodLink "ShiftRingLaw" 127 (sr_My sr_m10_settle) ∈ sr_TB := (sr_tb (n := 1336) (by decide +kernel) rfl)
theorem fm_L_127 : sr_FV "ShiftRingLaw" 127 sr_m10_settle 10 1 := ⟨⟨rfl, sr_tb (n := 1339) (by decide +kernel) rfl, sr_tb (n := 1) (by decide +kernel) rfl, ⟨by decide, by decide, by decide +kernel⟩, Or.inl fl_L_127⟩, ⟨TX10, 7, rfl, rfl⟩, sr_tb (n := 1337) (by decide +kernel) rfl, sr_tb (n := 1338) (by decide +kernel) rfl⟩
theorem rm_L_settle_10_settle : sr_RM sr_mL_settle sr_m10_settle := ⟨Nat.le_of_ble_eq_true rfl, Nat.le_of_ble_eq_true rfl⟩
def hcL_settle_23 (z : Nat) : Option Int32 := match z with
  | 0 => none
  | 1 => some 2
  | 2 => some 1
  | 3 => none
  | _ => none
theorem hfL_settle_23 : ∀ z c, hcL_settle_23 z = some c → sr_HF sr_mL_settle 4 z c := by
  intro z c h
  rcases z with _ | _ | _ | _ | z
  · cases h
  · cases h
    exact ⟨[⟨0, 9, 12, 20⟩], ⟨0, 9, 15, 15⟩, [], "java/lang/IllegalStateException", 3, 2, rfl, (List.forall_mem_cons.mpr ⟨Or.inr ⟨by decide, "java/lang/IndexOutOfBoundsException", sr_tb (n := 879) (by decide +kernel) rfl, by decide +kernel⟩, fun _ h => nomatch h⟩), by decide, by decide, sr_tb (n := 773) (by decide +kernel) rfl, sr_nb (n := 853) (by decide +kernel) rfl, by decide, by decide, Or.inr ⟨3, rfl, by decide +kernel, by decide +kernel, by decide +kernel⟩⟩
  · cases h
    exact ⟨[], ⟨0, 9, 12, 20⟩, [⟨0, 9, 15, 15⟩], "java/lang/IndexOutOfBoundsException", 3, 1, rfl, (fun _ h => nomatch h), by decide, by decide, sr_tb (n := 879) (by decide +kernel) rfl, sr_nb (n := 894) (by decide +kernel) rfl, by decide, by decide, Or.inr ⟨3, rfl, by decide +kernel, by decide +kernel, by decide +kernel⟩⟩
  · cases h
  · cases h
def FL_settle_23 (a1 : Int32) (t : sr_t) : sr_Rs := (sr_bc (F10_settle a1 t) hcL_settle_23 (sr_dI (fun v1 t1 => (if (0 : Int32) < 0 ∨ 1 ≤ (0 : Int32).toNatClampNeg then none else sr_lt (sr_ul t1 23 0 (0 : Int32).toNatClampNeg v1.toInt64) (fun t2 => (some (.inl (some (sr_i 0)), t2)))))))
theorem CL_settle_23 (l : Launch) (a1 : Int32)  (t : sr_t) : sr_ct' l sr_mL_settle [sr_r 10 0, sr_i a1, sr_r 23 0] t (FL_settle_23 a1 t) 2 12 := by
  refine sr_T_ofH (L0 := [some (sr_r 10 0), some (sr_i a1), some (sr_r 23 0), none]) rfl (by decide +kernel) (fun _ => rfl) (fun _ => Nat.le_of_ble_eq_true rfl) ?_
  unfold FL_settle_23
  refine sr_aloadn (pc := 0) (n := 2) (by decide +kernel) rfl ?_
  refine sr_iconst (pc := 1) (n := 0) (v := 0) (by decide +kernel) rfl ?_
  refine sr_aloadn (pc := 2) (n := 0) (by decide +kernel) rfl ?_
  refine sr_iloadn (pc := 3) (n := 1) (by decide +kernel) rfl ?_
  refine sr_cVC (pc := 4) (As := [sr_i a1]) (mc1 := 2) (ms1 := 12) (mc2 := 0) (ms2 := 0) (hc := hcL_settle_23) fm_L_127 fl_L_127 (by decide +kernel) (sr_in10 _ (by omega)) (rm_L_settle_10_settle) rfl rfl rfl hfL_settle_23 (C10_settle l a1 t) ?_
  refine sr_kI (fun v1 t1 => ?_)
  refine sr_i2l (pc := 7) (by decide +kernel) ?_
  refine sr_sL (pc := 8) (n := 1) rfl (by decide +kernel) (sr_in23 _ (by omega)) (fun _ _ => rfl) (fun t2 => ?_)
  refine sr_goto (pc := 9) (off := 9) (tg := 18) (by decide +kernel) (by decide) ?_
  refine sr_iconst (pc := 18) (n := 0) (v := 0) (by decide +kernel) rfl ?_
  exact sr_iret (pc := 19) (by decide +kernel) rfl
def sr_mL_held : sr_M := (⟨"ShiftRingLaw", "held", "(LShiftRing;III[J)I"⟩, method_39_code, 6, (some .int), [(0, 12, 15, 20), (0, 12, 19, 45), (0, 12, 23, 13)], 8, 135)
theorem fl_L_130 : Cond.methodLink "ShiftRingLaw" 130 (sr_My sr_m10_held) ∈ sr_TB := (sr_tb (n := 1362) (by decide +kernel) rfl)
theorem fm_L_130 : sr_FV "ShiftRingLaw" 130 sr_m10_held 10 3 := ⟨⟨rfl, sr_tb (n := 1365) (by decide +kernel) rfl, sr_tb (n := 1) (by decide +kernel) rfl, ⟨by decide, by decide, by decide +kernel⟩, Or.inl fl_L_130⟩, ⟨TX10, 7, rfl, rfl⟩, sr_tb (n := 1363) (by decide +kernel) rfl, sr_tb (n := 1364) (by decide +kernel) rfl⟩
theorem rm_L_held_10_held : sr_RM sr_mL_held sr_m10_held := ⟨Nat.le_of_ble_eq_true rfl, Nat.le_of_ble_eq_true rfl⟩
def hcL_held_23 (z : Nat) : Option Int32 := match z with
  | 0 => some 3
  | 1 => none
  | 2 => some 1
  | 3 => some 2
  | _ => none
theorem hfL_held_23 : ∀ z c, hcL_held_23 z = some c → sr_HF sr_mL_held 7 z c := by
  intro z c h
  rcases z with _ | _ | _ | _ | z
  · cases h
    exact ⟨[⟨0, 12, 15, 20⟩, ⟨0, 12, 19, 45⟩], ⟨0, 12, 23, 13⟩, [], "java/lang/IllegalArgumentException", 5, 3, rfl, (List.forall_mem_cons.mpr ⟨Or.inr ⟨by decide, "java/lang/IndexOutOfBoundsException", sr_tb (n := 879) (by decide +kernel) rfl, by decide +kernel⟩, List.forall_mem_cons.mpr ⟨Or.inr ⟨by decide, "java/util/NoSuchElementException", sr_tb (n := 975) (by decide +kernel) rfl, by decide +kernel⟩, fun _ h => nomatch h⟩⟩), by decide, by decide, sr_tb (n := 772) (by decide +kernel) rfl, sr_nb (n := 783) (by decide +kernel) rfl, by decide, by decide, Or.inl ⟨by decide +kernel, by decide +kernel, by decide +kernel⟩⟩
  · cases h
  · cases h
    exact ⟨[], ⟨0, 12, 15, 20⟩, [⟨0, 12, 19, 45⟩, ⟨0, 12, 23, 13⟩], "java/lang/IndexOutOfBoundsException", 5, 1, rfl, (fun _ h => nomatch h), by decide, by decide, sr_tb (n := 879) (by decide +kernel) rfl, sr_nb (n := 894) (by decide +kernel) rfl, by decide, by decide, Or.inl ⟨by decide +kernel, by decide +kernel, by decide +kernel⟩⟩
  · cases h
    exact ⟨[⟨0, 12, 15, 20⟩], ⟨0, 12, 19, 45⟩, [⟨0, 12, 23, 13⟩], "java/util/NoSuchElementException", 5, 2, rfl, (List.forall_mem_cons.mpr ⟨Or.inr ⟨by decide, "java/lang/IndexOutOfBoundsException", sr_tb (n := 879) (by decide +kernel) rfl, by decide +kernel⟩, fun _ h => nomatch h⟩), by decide, by decide, sr_tb (n := 975) (by decide +kernel) rfl, sr_nb (n := 985) (by decide +kernel) rfl, by decide, by decide, Or.inl ⟨by decide +kernel, by decide +kernel, by decide +kernel⟩⟩
  · cases h
def FL_held_23 (a1 : Int32) (a2 : Int32) (a3 : Int32) (t : sr_t) : sr_Rs := (sr_bc (F10_held a1 a2 a3 t) hcL_held_23 (sr_dI (fun v1 t1 => (if (0 : Int32) < 0 ∨ 1 ≤ (0 : Int32).toNatClampNeg then none else sr_lt (sr_ul t1 23 0 (0 : Int32).toNatClampNeg v1.toInt64) (fun t2 => (some (.inl (some (sr_i 0)), t2)))))))
theorem CL_held_23 (l : Launch) (a1 : Int32) (a2 : Int32) (a3 : Int32)  (t : sr_t) : sr_ct' l sr_mL_held [sr_r 10 0, sr_i a1, sr_i a2, sr_i a3, sr_r 23 0] t (FL_held_23 a1 a2 a3 t) 3 18 := by
  refine sr_T_ofH (L0 := [some (sr_r 10 0), some (sr_i a1), some (sr_i a2), some (sr_i a3), some (sr_r 23 0), none]) rfl (by decide +kernel) (fun _ => rfl) (fun _ => Nat.le_of_ble_eq_true rfl) ?_
  unfold FL_held_23
  refine sr_aload (pc := 0) (i := 4) (by decide +kernel) rfl ?_
  refine sr_iconst (pc := 2) (n := 0) (v := 0) (by decide +kernel) rfl ?_
  refine sr_aloadn (pc := 3) (n := 0) (by decide +kernel) rfl ?_
  refine sr_iloadn (pc := 4) (n := 1) (by decide +kernel) rfl ?_
  refine sr_iloadn (pc := 5) (n := 2) (by decide +kernel) rfl ?_
  refine sr_iloadn (pc := 6) (n := 3) (by decide +kernel) rfl ?_
  refine sr_cVC (pc := 7) (As := [sr_i a1, sr_i a2, sr_i a3]) (mc1 := 3) (ms1 := 18) (mc2 := 0) (ms2 := 0) (hc := hcL_held_23) fm_L_130 fl_L_130 (by decide +kernel) (sr_in10 _ (by omega)) (rm_L_held_10_held) rfl rfl rfl hfL_held_23 (C10_held l a1 a2 a3 t) ?_
  refine sr_kI (fun v1 t1 => ?_)
  refine sr_i2l (pc := 10) (by decide +kernel) ?_
  refine sr_sL (pc := 11) (n := 1) rfl (by decide +kernel) (sr_in23 _ (by omega)) (fun _ _ => rfl) (fun t2 => ?_)
  refine sr_goto (pc := 12) (off := 15) (tg := 27) (by decide +kernel) (by decide) ?_
  refine sr_iconst (pc := 27) (n := 0) (v := 0) (by decide +kernel) rfl ?_
  exact sr_iret (pc := 28) (by decide +kernel) rfl
def sr_mL_about : sr_M := (⟨"ShiftRingLaw", "about", "(LShiftRing;II[J)I"⟩, method_40_code, 5, (some .int), [(0, 10, 13, 45), (0, 10, 17, 13)], 8, 133)
theorem fl_L_133 : Cond.methodLink "ShiftRingLaw" 133 (sr_My sr_m10_about) ∈ sr_TB := (sr_tb (n := 1373) (by decide +kernel) rfl)
theorem fm_L_133 : sr_FV "ShiftRingLaw" 133 sr_m10_about 10 2 := ⟨⟨rfl, sr_tb (n := 1376) (by decide +kernel) rfl, sr_tb (n := 1) (by decide +kernel) rfl, ⟨by decide, by decide, by decide +kernel⟩, Or.inl fl_L_133⟩, ⟨TX10, 7, rfl, rfl⟩, sr_tb (n := 1374) (by decide +kernel) rfl, sr_tb (n := 1375) (by decide +kernel) rfl⟩
theorem rm_L_about_10_about : sr_RM sr_mL_about sr_m10_about := ⟨Nat.le_of_ble_eq_true rfl, Nat.le_of_ble_eq_true rfl⟩
def hcL_about_23 (z : Nat) : Option Int32 := match z with
  | 0 => some 2
  | 1 => none
  | 2 => none
  | 3 => some 1
  | _ => none
theorem hfL_about_23 : ∀ z c, hcL_about_23 z = some c → sr_HF sr_mL_about 5 z c := by
  intro z c h
  rcases z with _ | _ | _ | _ | z
  · cases h
    exact ⟨[⟨0, 10, 13, 45⟩], ⟨0, 10, 17, 13⟩, [], "java/lang/IllegalArgumentException", 4, 2, rfl, (List.forall_mem_cons.mpr ⟨Or.inr ⟨by decide, "java/util/NoSuchElementException", sr_tb (n := 975) (by decide +kernel) rfl, by decide +kernel⟩, fun _ h => nomatch h⟩), by decide, by decide, sr_tb (n := 772) (by decide +kernel) rfl, sr_nb (n := 783) (by decide +kernel) rfl, by decide, by decide, Or.inl ⟨by decide +kernel, by decide +kernel, by decide +kernel⟩⟩
  · cases h
  · cases h
  · cases h
    exact ⟨[], ⟨0, 10, 13, 45⟩, [⟨0, 10, 17, 13⟩], "java/util/NoSuchElementException", 4, 1, rfl, (fun _ h => nomatch h), by decide, by decide, sr_tb (n := 975) (by decide +kernel) rfl, sr_nb (n := 985) (by decide +kernel) rfl, by decide, by decide, Or.inl ⟨by decide +kernel, by decide +kernel, by decide +kernel⟩⟩
  · cases h
def FL_about_23 (a1 : Int32) (a2 : Int32) (t : sr_t) : sr_Rs := (sr_bc (F10_about a1 a2 t) hcL_about_23 (sr_dI (fun v1 t1 => (if (0 : Int32) < 0 ∨ 1 ≤ (0 : Int32).toNatClampNeg then none else sr_lt (sr_ul t1 23 0 (0 : Int32).toNatClampNeg v1.toInt64) (fun t2 => (some (.inl (some (sr_i 0)), t2)))))))
theorem CL_about_23 (l : Launch) (a1 : Int32) (a2 : Int32)  (t : sr_t) : sr_ct' l sr_mL_about [sr_r 10 0, sr_i a1, sr_i a2, sr_r 23 0] t (FL_about_23 a1 a2 t) 2 12 := by
  refine sr_T_ofH (L0 := [some (sr_r 10 0), some (sr_i a1), some (sr_i a2), some (sr_r 23 0), none]) rfl (by decide +kernel) (fun _ => rfl) (fun _ => Nat.le_of_ble_eq_true rfl) ?_
  unfold FL_about_23
  refine sr_aloadn (pc := 0) (n := 3) (by decide +kernel) rfl ?_
  refine sr_iconst (pc := 1) (n := 0) (v := 0) (by decide +kernel) rfl ?_
  refine sr_aloadn (pc := 2) (n := 0) (by decide +kernel) rfl ?_
  refine sr_iloadn (pc := 3) (n := 1) (by decide +kernel) rfl ?_
  refine sr_iloadn (pc := 4) (n := 2) (by decide +kernel) rfl ?_
  refine sr_cVC (pc := 5) (As := [sr_i a1, sr_i a2]) (mc1 := 2) (ms1 := 12) (mc2 := 0) (ms2 := 0) (hc := hcL_about_23) fm_L_133 fl_L_133 (by decide +kernel) (sr_in10 _ (by omega)) (rm_L_about_10_about) rfl rfl rfl hfL_about_23 (C10_about l a1 a2 t) ?_
  refine sr_kI (fun v1 t1 => ?_)
  refine sr_i2l (pc := 8) (by decide +kernel) ?_
  refine sr_sL (pc := 9) (n := 1) rfl (by decide +kernel) (sr_in23 _ (by omega)) (fun _ _ => rfl) (fun t2 => ?_)
  refine sr_goto (pc := 10) (off := 11) (tg := 21) (by decide +kernel) (by decide) ?_
  refine sr_iconst (pc := 21) (n := 0) (v := 0) (by decide +kernel) rfl ?_
  exact sr_iret (pc := 22) (by decide +kernel) rfl
