def sr_m9_fewestLinks : sr_M := (⟨"ShiftRing$Ways", "fewestLinks", "(LShiftRing$Ring;II)I"⟩, prog_11_method_2_code, 4, (some .int), [], 4, 88)
def sr_m10_far : sr_M := (⟨"ShiftRing", "far", "(II)I"⟩, prog_1_method_31_code, 3, (some .int), [], 7, 111)
theorem fl_10_276 : Cond.methodLink "ShiftRing" 276 (sr_My sr_m9_fewestLinks) ∈ sr_TB := (sr_tb (n := 1104) (by decide +kernel) rfl)
theorem fm_10_276 : sr_FV "ShiftRing" 276 sr_m9_fewestLinks 9 3 := ⟨⟨rfl, sr_tb (n := 1107) (by decide +kernel) rfl, sr_tb (n := 11) (by decide +kernel) rfl, ⟨by decide, by decide, by decide +kernel⟩, Or.inl fl_10_276⟩, ⟨TX9, 3, rfl, rfl⟩, sr_tb (n := 1105) (by decide +kernel) rfl, sr_tb (n := 1106) (by decide +kernel) rfl⟩
theorem rm_10_far_10_needNode : sr_RM sr_m10_far sr_m10_needNode := ⟨Nat.le_of_ble_eq_true rfl, Nat.le_of_ble_eq_true rfl⟩
theorem rm_10_far_10_needUp : sr_RM sr_m10_far sr_m10_needUp := ⟨Nat.le_of_ble_eq_true rfl, Nat.le_of_ble_eq_true rfl⟩
theorem rm_10_far_9_fewestLinks : sr_RM sr_m10_far sr_m9_fewestLinks := ⟨Nat.le_of_ble_eq_true rfl, Nat.le_of_ble_eq_true rfl⟩
theorem rm_9_fewestLinks_10_bit : sr_RM sr_m9_fewestLinks sr_m10_bit := ⟨Nat.le_of_ble_eq_true rfl, Nat.le_of_ble_eq_true rfl⟩
theorem rm_9_fewestLinks_9_linksToAll : sr_RM sr_m9_fewestLinks sr_m9_linksToAll := ⟨Nat.le_of_ble_eq_true rfl, Nat.le_of_ble_eq_true rfl⟩
theorem rm_9_fewestLinks_9_readLinks : sr_RM sr_m9_fewestLinks sr_m9_readLinks := ⟨Nat.le_of_ble_eq_true rfl, Nat.le_of_ble_eq_true rfl⟩
def F9_fewestLinks (i1 : Nat) (a1 : Int32) (a2 : Int32) (t : sr_t) : sr_Rs := (sr_bV (F9_readLinks i1 t) (fun t1 => (sr_bI (sr_nt (F10_bit a2 t1)) (fun v2 t2 => (sr_bI (F9_linksToAll a1 v2 t2) (fun v3 t3 => (some (.inl (some (sr_i v3)), t3))))))))
theorem C9_fewestLinks (l : Launch) (i1 : Nat) (a1 : Int32) (a2 : Int32) (hv_i1 : i1 < 2) (t : sr_t) : sr_ct' l sr_m9_fewestLinks [sr_r 9 0, sr_r 3 i1, sr_i a1, sr_i a2] t (F9_fewestLinks i1 a1 a2 t) 0 0 := by
  refine sr_T_of (L0 := [some (sr_r 9 0), some (sr_r 3 i1), some (sr_i a1), some (sr_i a2)]) rfl (by decide +kernel) (fun _ => rfl) (fun _ => Nat.le_of_ble_eq_true rfl) ?_
  unfold F9_fewestLinks
  refine sr_aloadn (pc := 0) (n := 0) (by decide +kernel) rfl ?_
  refine sr_aloadn (pc := 1) (n := 1) (by decide +kernel) rfl ?_
  refine sr_cV (pc := 2) (As := [sr_r 3 i1]) (mc1 := 0) (ms1 := 0) (mc2 := 0) (ms2 := 0) fm_9_22 fl_9_22 (by decide +kernel) (sr_in9 _ (by omega)) (rm_9_fewestLinks_9_readLinks) rfl rfl rfl (C9_readLinks l i1 (by omega) t) ?_
  refine sr_kV (fun t1 => ?_)
  refine sr_aloadn (pc := 5) (n := 0) (by decide +kernel) rfl ?_
  refine sr_iloadn (pc := 6) (n := 2) (by decide +kernel) rfl ?_
  refine sr_iloadn (pc := 7) (n := 3) (by decide +kernel) rfl ?_
  refine sr_cSN (pc := 8) (As := [sr_i a2]) (mc1 := 0) (ms1 := 0) (mc2 := 0) (ms2 := 0) fm_9_26 fl_9_26 (by decide +kernel) (rm_9_fewestLinks_10_bit) rfl rfl rfl (C10_bit l a2 t1) ?_
  refine sr_kI (fun v2 t2 => ?_)
  refine sr_cV (pc := 11) (As := [sr_i a1, sr_i v2]) (mc1 := 0) (ms1 := 0) (mc2 := 0) (ms2 := 0) fm_9_30 fl_9_30 (by decide +kernel) (sr_in9 _ (by omega)) (rm_9_fewestLinks_9_linksToAll) rfl rfl rfl (C9_linksToAll l a1 v2 t2) ?_
  refine sr_kI (fun v3 t3 => ?_)
  exact sr_iret (pc := 14) (by decide +kernel) rfl
def F10_far (a0 : Int32) (a1 : Int32) (t : sr_t) : sr_Rs := (sr_bV (F10_needNode a0 t) (fun t1 => (sr_bV (F10_needNode a1 t1) (fun t2 => (sr_bV (F10_needUp a0 t2) (fun t3 => (sr_bV (F10_needUp a1 t3) (fun t4 => (sr_bI (F9_fewestLinks 0 a0 a1 t4) (fun v5 t5 => (some (.inl (some (sr_i v5)), t5))))))))))))
theorem C10_far (l : Launch) (a0 : Int32) (a1 : Int32)  (t : sr_t) : sr_ct' l sr_m10_far [sr_r 10 0, sr_i a0, sr_i a1] t (F10_far a0 a1 t) 4 24 := by
  refine sr_T_of (L0 := [some (sr_r 10 0), some (sr_i a0), some (sr_i a1)]) rfl (by decide +kernel) (fun _ => rfl) (fun _ => Nat.le_of_ble_eq_true rfl) ?_
  unfold F10_far
  refine sr_aloadn (pc := 0) (n := 0) (by decide +kernel) rfl ?_
  refine sr_iloadn (pc := 1) (n := 1) (by decide +kernel) rfl ?_
  refine sr_cV (pc := 2) (As := [sr_i a0]) (mc1 := 1) (ms1 := 6) (mc2 := 3) (ms2 := 18) fm_10_81 fl_10_81 (by decide +kernel) (sr_in10 _ (by omega)) (rm_10_far_10_needNode) rfl rfl rfl (C10_needNode l a0 t) ?_
  refine sr_kV (fun t1 => ?_)
  refine sr_aloadn (pc := 5) (n := 0) (by decide +kernel) rfl ?_
  refine sr_iloadn (pc := 6) (n := 2) (by decide +kernel) rfl ?_
  refine sr_cV (pc := 7) (As := [sr_i a1]) (mc1 := 1) (ms1 := 6) (mc2 := 2) (ms2 := 12) fm_10_81 fl_10_81 (by decide +kernel) (sr_in10 _ (by omega)) (rm_10_far_10_needNode) rfl rfl rfl (C10_needNode l a1 t1) ?_
  refine sr_kV (fun t2 => ?_)
  refine sr_aloadn (pc := 10) (n := 0) (by decide +kernel) rfl ?_
  refine sr_iloadn (pc := 11) (n := 1) (by decide +kernel) rfl ?_
  refine sr_cV (pc := 12) (As := [sr_i a0]) (mc1 := 1) (ms1 := 6) (mc2 := 1) (ms2 := 6) fm_10_84 fl_10_84 (by decide +kernel) (sr_in10 _ (by omega)) (rm_10_far_10_needUp) rfl rfl rfl (C10_needUp l a0 t2) ?_
  refine sr_kV (fun t3 => ?_)
  refine sr_aloadn (pc := 15) (n := 0) (by decide +kernel) rfl ?_
  refine sr_iloadn (pc := 16) (n := 2) (by decide +kernel) rfl ?_
  refine sr_cV (pc := 17) (As := [sr_i a1]) (mc1 := 1) (ms1 := 6) (mc2 := 0) (ms2 := 0) fm_10_84 fl_10_84 (by decide +kernel) (sr_in10 _ (by omega)) (rm_10_far_10_needUp) rfl rfl rfl (C10_needUp l a1 t3) ?_
  refine sr_kV (fun t4 => ?_)
  refine sr_aloadn (pc := 20) (n := 0) (by decide +kernel) rfl ?_
  refine sr_gC (pc := 21) (i2 := 0) fg_10_54 (by decide +kernel) (sr_in10 _ (by omega)) (fun _ => rfl) ?_
  refine sr_aloadn (pc := 24) (n := 0) (by decide +kernel) rfl ?_
  refine sr_gC (pc := 25) (i2 := 0) fg_10_12 (by decide +kernel) (sr_in10 _ (by omega)) (fun _ => rfl) ?_
  refine sr_iloadn (pc := 28) (n := 1) (by decide +kernel) rfl ?_
  refine sr_iloadn (pc := 29) (n := 2) (by decide +kernel) rfl ?_
  refine sr_cV (pc := 30) (As := [sr_r 3 0, sr_i a0, sr_i a1]) (mc1 := 0) (ms1 := 0) (mc2 := 0) (ms2 := 0) fm_10_276 fl_10_276 (by decide +kernel) (sr_in9 _ (by omega)) (rm_10_far_9_fewestLinks) rfl rfl rfl (C9_fewestLinks l 0 a0 a1 (by omega) t4) ?_
  refine sr_kI (fun v5 t5 => ?_)
  exact sr_iret (pc := 33) (by decide +kernel) rfl
def sr_m9_stationBit : sr_M := (⟨"ShiftRing$Ways", "stationBit", "(I)J"⟩, prog_11_method_9_code, 1, (some .long), [], 0, 0)
def sr_m9_openStations : sr_M := (⟨"ShiftRing$Ways", "openStations", "()V"⟩, prog_11_method_8_code, 2, none, [], 1, 20)
def sr_m9_rememberOrigin : sr_M := (⟨"ShiftRing$Ways", "rememberOrigin", "(JI)V"⟩, prog_11_method_12_code, 5, none, [], 1, 20)
def sr_m9_openFromEdge : sr_M := (⟨"ShiftRing$Ways", "openFromEdge", "(JJ)J"⟩, prog_11_method_11_code, 10, (some .long), [], 2, 44)
def sr_m9_findWay : sr_M := (⟨"ShiftRing$Ways", "findWay", "(II)Z"⟩, prog_11_method_10_code, 8, (some .boolean), [], 3, 73)
def sr_m9_turnLink : sr_M := (⟨"ShiftRing$Ways", "turnLink", "(II)V"⟩, prog_11_method_14_code, 3, none, [], 1, 20)
def sr_m9_turnWay : sr_M := (⟨"ShiftRing$Ways", "turnWay", "(II)V"⟩, prog_11_method_13_code, 6, none, [], 2, 42)
def sr_m9_waysApart : sr_M := (⟨"ShiftRing$Ways", "waysApart", "(LShiftRing$Ring;II)I"⟩, prog_11_method_7_code, 5, (some .int), [], 4, 100)
def sr_m10_apart : sr_M := (⟨"ShiftRing", "apart", "(II)I"⟩, prog_1_method_32_code, 3, (some .int), [], 7, 124)
theorem fg_9_15 : sr_FG "ShiftRing$Ways" 15 9 1 3 := ⟨RX9, TX9, tyX9, rfl, by decide, rfl, uw_9, tyX9_ok, nmX9, Or.inl (sr_tb (n := 395) (by decide +kernel) rfl)⟩
theorem fg_9_19 : sr_FG "ShiftRing$Ways" 19 9 2 3 := ⟨RX9, TX9, tyX9, rfl, by decide, rfl, uw_9, tyX9_ok, nmX9, Or.inl (sr_tb (n := 396) (by decide +kernel) rfl)⟩
theorem fl_10_282 : Cond.methodLink "ShiftRing" 282 (sr_My sr_m9_waysApart) ∈ sr_TB := (sr_tb (n := 1116) (by decide +kernel) rfl)
theorem fm_10_282 : sr_FV "ShiftRing" 282 sr_m9_waysApart 9 3 := ⟨⟨rfl, sr_tb (n := 1119) (by decide +kernel) rfl, sr_tb (n := 11) (by decide +kernel) rfl, ⟨by decide, by decide, by decide +kernel⟩, Or.inl fl_10_282⟩, ⟨TX9, 3, rfl, rfl⟩, sr_tb (n := 1117) (by decide +kernel) rfl, sr_tb (n := 1118) (by decide +kernel) rfl⟩
theorem fl_9_65 : Cond.methodLink "ShiftRing$Ways" 65 (sr_My sr_m9_openStations) ∈ sr_TB := (sr_tb (n := 1120) (by decide +kernel) rfl)
theorem fm_9_65 : sr_FV "ShiftRing$Ways" 65 sr_m9_openStations 9 0 := ⟨⟨rfl, sr_tb (n := 1123) (by decide +kernel) rfl, sr_tb (n := 11) (by decide +kernel) rfl, ⟨by decide, by decide, by decide +kernel⟩, Or.inl fl_9_65⟩, ⟨TX9, 3, rfl, rfl⟩, sr_tb (n := 1122) (by decide +kernel) rfl, sr_ts (n := 28) (by decide +kernel) rfl⟩
theorem fl_9_68 : Cond.methodLink "ShiftRing$Ways" 68 (sr_My sr_m9_findWay) ∈ sr_TB := (sr_tb (n := 1127) (by decide +kernel) rfl)
theorem fm_9_68 : sr_FV "ShiftRing$Ways" 68 sr_m9_findWay 9 2 := ⟨⟨rfl, sr_tb (n := 1130) (by decide +kernel) rfl, sr_tb (n := 11) (by decide +kernel) rfl, ⟨by decide, by decide, by decide +kernel⟩, Or.inl fl_9_68⟩, ⟨TX9, 3, rfl, rfl⟩, sr_tb (n := 1129) (by decide +kernel) rfl, sr_ts (n := 29) (by decide +kernel) rfl⟩
theorem fl_9_71 : Cond.methodLink "ShiftRing$Ways" 71 (sr_My sr_m9_turnWay) ∈ sr_TB := (sr_tb (n := 1140) (by decide +kernel) rfl)
theorem fm_9_71 : sr_FV "ShiftRing$Ways" 71 sr_m9_turnWay 9 2 := ⟨⟨rfl, sr_tb (n := 1143) (by decide +kernel) rfl, sr_tb (n := 11) (by decide +kernel) rfl, ⟨by decide, by decide, by decide +kernel⟩, Or.inl fl_9_71⟩, ⟨TX9, 3, rfl, rfl⟩, sr_tb (n := 1142) (by decide +kernel) rfl, sr_ts (n := 32) (by decide +kernel) rfl⟩
theorem fl_9_75 : Cond.methodLink "ShiftRing$Ways" 75 (sr_My sr_m9_stationBit) ∈ sr_TB := (sr_tb (n := 1124) (by decide +kernel) rfl)
theorem fm_9_75 : sr_FS "ShiftRing$Ways" 75 sr_m9_stationBit 1 := ⟨⟨rfl, sr_tb (n := 1126) (by decide +kernel) rfl, sr_tb (n := 11) (by decide +kernel) rfl, ⟨by decide, by decide, by decide +kernel⟩, Or.inl fl_9_75⟩, sr_tb (n := 1125) (by decide +kernel) rfl⟩
theorem fl_9_79 : Cond.methodLink "ShiftRing$Ways" 79 (sr_My sr_m9_openFromEdge) ∈ sr_TB := (sr_tb (n := 1131) (by decide +kernel) rfl)
theorem fm_9_79 : sr_FV "ShiftRing$Ways" 79 sr_m9_openFromEdge 9 2 := ⟨⟨rfl, sr_tb (n := 1134) (by decide +kernel) rfl, sr_tb (n := 11) (by decide +kernel) rfl, ⟨by decide, by decide, by decide +kernel⟩, Or.inl fl_9_79⟩, ⟨TX9, 3, rfl, rfl⟩, sr_tb (n := 1133) (by decide +kernel) rfl, sr_ts (n := 30) (by decide +kernel) rfl⟩
theorem fl_9_85 : Cond.methodLink "ShiftRing$Ways" 85 (sr_My sr_m9_rememberOrigin) ∈ sr_TB := (sr_tb (n := 1136) (by decide +kernel) rfl)
theorem fm_9_85 : sr_FV "ShiftRing$Ways" 85 sr_m9_rememberOrigin 9 2 := ⟨⟨rfl, sr_tb (n := 1139) (by decide +kernel) rfl, sr_tb (n := 11) (by decide +kernel) rfl, ⟨by decide, by decide, by decide +kernel⟩, Or.inl fl_9_85⟩, ⟨TX9, 3, rfl, rfl⟩, sr_tb (n := 1138) (by decide +kernel) rfl, sr_ts (n := 31) (by decide +kernel) rfl⟩
theorem fl_9_89 : Cond.methodLink "ShiftRing$Ways" 89 (sr_My sr_m9_turnLink) ∈ sr_TB := (sr_tb (n := 1144) (by decide +kernel) rfl)
theorem fm_9_89 : sr_FV "ShiftRing$Ways" 89 sr_m9_turnLink 9 2 := ⟨⟨rfl, sr_tb (n := 1147) (by decide +kernel) rfl, sr_tb (n := 11) (by decide +kernel) rfl, ⟨by decide, by decide, by decide +kernel⟩, Or.inl fl_9_89⟩, ⟨TX9, 3, rfl, rfl⟩, sr_tb (n := 1146) (by decide +kernel) rfl, sr_ts (n := 33) (by decide +kernel) rfl⟩
theorem rm_10_apart_10_needNode : sr_RM sr_m10_apart sr_m10_needNode := ⟨Nat.le_of_ble_eq_true rfl, Nat.le_of_ble_eq_true rfl⟩
theorem rm_10_apart_10_needUp : sr_RM sr_m10_apart sr_m10_needUp := ⟨Nat.le_of_ble_eq_true rfl, Nat.le_of_ble_eq_true rfl⟩
theorem rm_10_apart_9_waysApart : sr_RM sr_m10_apart sr_m9_waysApart := ⟨Nat.le_of_ble_eq_true rfl, Nat.le_of_ble_eq_true rfl⟩
theorem rm_9_findWay_9_openFromEdge : sr_RM sr_m9_findWay sr_m9_openFromEdge := ⟨Nat.le_of_ble_eq_true rfl, Nat.le_of_ble_eq_true rfl⟩
theorem rm_9_findWay_9_stationBit : sr_RM sr_m9_findWay sr_m9_stationBit := ⟨Nat.le_of_ble_eq_true rfl, Nat.le_of_ble_eq_true rfl⟩
theorem rm_9_openFromEdge_9_rememberOrigin : sr_RM sr_m9_openFromEdge sr_m9_rememberOrigin := ⟨Nat.le_of_ble_eq_true rfl, Nat.le_of_ble_eq_true rfl⟩
theorem rm_9_openFromEdge_9_stationBit : sr_RM sr_m9_openFromEdge sr_m9_stationBit := ⟨Nat.le_of_ble_eq_true rfl, Nat.le_of_ble_eq_true rfl⟩
theorem rm_9_openStations_9_stationBit : sr_RM sr_m9_openStations sr_m9_stationBit := ⟨Nat.le_of_ble_eq_true rfl, Nat.le_of_ble_eq_true rfl⟩
theorem rm_9_rememberOrigin_9_stationBit : sr_RM sr_m9_rememberOrigin sr_m9_stationBit := ⟨Nat.le_of_ble_eq_true rfl, Nat.le_of_ble_eq_true rfl⟩
theorem rm_9_turnLink_9_stationBit : sr_RM sr_m9_turnLink sr_m9_stationBit := ⟨Nat.le_of_ble_eq_true rfl, Nat.le_of_ble_eq_true rfl⟩
theorem rm_9_turnWay_9_turnLink : sr_RM sr_m9_turnWay sr_m9_turnLink := ⟨Nat.le_of_ble_eq_true rfl, Nat.le_of_ble_eq_true rfl⟩
theorem rm_9_waysApart_9_findWay : sr_RM sr_m9_waysApart sr_m9_findWay := ⟨Nat.le_of_ble_eq_true rfl, Nat.le_of_ble_eq_true rfl⟩
theorem rm_9_waysApart_9_openStations : sr_RM sr_m9_waysApart sr_m9_openStations := ⟨Nat.le_of_ble_eq_true rfl, Nat.le_of_ble_eq_true rfl⟩
theorem rm_9_waysApart_9_readLinks : sr_RM sr_m9_waysApart sr_m9_readLinks := ⟨Nat.le_of_ble_eq_true rfl, Nat.le_of_ble_eq_true rfl⟩
theorem rm_9_waysApart_9_turnWay : sr_RM sr_m9_waysApart sr_m9_turnWay := ⟨Nat.le_of_ble_eq_true rfl, Nat.le_of_ble_eq_true rfl⟩
def F9_stationBit (a0 : Int32) (t : sr_t) : sr_Rs := (some (.inl (some (sr_l (1 <<< (a0.toInt64 &&& 63)))), t))
theorem C9_stationBit (l : Launch) (a0 : Int32)  (t : sr_t) : sr_ct' l sr_m9_stationBit [sr_i a0] t (F9_stationBit a0 t) 0 0 := by
  refine sr_T_of (L0 := [some (sr_i a0)]) rfl (by decide +kernel) (fun _ => rfl) (fun _ => Nat.le_of_ble_eq_true rfl) ?_
  unfold F9_stationBit
  refine sr_lconst (pc := 0) (n := 1) (v := 1) (by decide +kernel) (by decide) ?_
  refine sr_iloadn (pc := 1) (n := 0) (by decide +kernel) rfl ?_
  refine sr_lshl (pc := 2) (by decide +kernel) ?_
  exact sr_lret (pc := 3) (by decide +kernel) rfl
def f9_openStations_2  (k58 : sr_t → sr_Rs) : Nat → Int32 → sr_t → sr_Rs
  | 0 => fun _ _ => none
  | n + 1 => fun x1 t => (if 24 ≤ x1 then k58 t else (if 48 ≤ (24 + x1) then k58 t else (sr_bL (F9_stationBit (24 + x1) t) (fun v1 t1 => (if x1 < 0 ∨ 48 ≤ x1.toNatClampNeg then none else sr_lt (sr_ul t1 18 0 x1.toNatClampNeg v1) (fun t2 => (if x1 < 0 ∨ 24 ≤ x1.toNatClampNeg then none else (if 24 + x1 < 0 ∨ 48 ≤ (24 + x1).toNatClampNeg then none else sr_lt (sr_ul t2 18 0 (24 + x1).toNatClampNeg ((t2.1 17 0 x1.toNatClampNeg).toInt64)) (fun t3 => (f9_openStations_2 k58 n) (x1 + 1) t3)))))))))
theorem g9_openStations_2 (l : Launch)   (k58 : sr_t → sr_Rs) (hk58 : ∀ (t : sr_t), sr_g l sr_m9_openStations 58 [some (sr_r 9 0), none] [] t (k58 t) 0 0) : ∀ (n : Nat) (x1 : Int32), ∀ (t : sr_t), sr_g l sr_m9_openStations 2 [some (sr_r 9 0), some (sr_i x1)] [] t (f9_openStations_2  k58 n x1 t) 0 0 := by
  intro n
  induction n with
  | zero => intros; exact sr_Gn
  | succ n ih =>
    intro x1  t
    unfold f9_openStations_2
    refine sr_iloadn (pc := 2) (n := 1) (by decide +kernel) rfl ?_
    refine sr_aloadn (pc := 3) (n := 0) (by decide +kernel) rfl ?_
    refine sr_gC (pc := 4) (i2 := 0) fg_9_9 (by decide +kernel) (sr_in9 _ (by omega)) (fun _ => rfl) ?_
    refine sr_al' (pc := 7) (ty := 0) (n := 24) (v := 24) rfl (by decide) (by decide +kernel) (sr_in17 _ (by omega)) (by decide) ?_
    refine sr_icmp_ge (pc := 8) (off := 50) (tg := 58) (by decide +kernel) (by decide) (fun _ => ?_) (fun _ => ?_)
    · exact sr_wk (sr_mono (mc := 0) (ms := 0) (by omega) (by omega) (hk58 t)) ⟨rfl, trivial⟩
    · refine sr_bipush (pc := 11) (n := 24) (v := 24) (by decide +kernel) (by decide) ?_
      refine sr_iloadn (pc := 13) (n := 1) (by decide +kernel) rfl ?_
      refine sr_iadd (pc := 14) (by decide +kernel) ?_
      refine sr_aloadn (pc := 15) (n := 0) (by decide +kernel) rfl ?_
      refine sr_gC (pc := 16) (i2 := 0) fg_9_15 (by decide +kernel) (sr_in9 _ (by omega)) (fun _ => rfl) ?_
      refine sr_al' (pc := 19) (ty := 1) (n := 48) (v := 48) rfl (by decide) (by decide +kernel) (sr_in18 _ (by omega)) (by decide) ?_
      refine sr_icmp_ge (pc := 20) (off := 38) (tg := 58) (by decide +kernel) (by decide) (fun _ => ?_) (fun _ => ?_)
      · exact sr_wk (sr_mono (mc := 0) (ms := 0) (by omega) (by omega) (hk58 t)) ⟨rfl, trivial⟩
      · refine sr_aloadn (pc := 23) (n := 0) (by decide +kernel) rfl ?_
        refine sr_gC (pc := 24) (i2 := 0) fg_9_15 (by decide +kernel) (sr_in9 _ (by omega)) (fun _ => rfl) ?_
        refine sr_iloadn (pc := 27) (n := 1) (by decide +kernel) rfl ?_
        refine sr_bipush (pc := 28) (n := 24) (v := 24) (by decide +kernel) (by decide) ?_
        refine sr_iloadn (pc := 30) (n := 1) (by decide +kernel) rfl ?_
        refine sr_iadd (pc := 31) (by decide +kernel) ?_
        refine sr_cS (pc := 32) (As := [sr_i (24 + x1)]) (mc1 := 0) (ms1 := 0) (mc2 := 0) (ms2 := 0) fm_9_75 fl_9_75 (by decide +kernel) (rm_9_openStations_9_stationBit) rfl rfl rfl (C9_stationBit l (24 + x1) t) ?_
        refine sr_kL (fun v1 t1 => ?_)
        refine sr_sL (pc := 35) (n := 48) rfl (by decide +kernel) (sr_in18 _ (by omega)) (fun _ _ => rfl) (fun t2 => ?_)
        refine sr_aloadn (pc := 36) (n := 0) (by decide +kernel) rfl ?_
        refine sr_gC (pc := 37) (i2 := 0) fg_9_15 (by decide +kernel) (sr_in9 _ (by omega)) (fun _ => rfl) ?_
        refine sr_bipush (pc := 40) (n := 24) (v := 24) (by decide +kernel) (by decide) ?_
        refine sr_iloadn (pc := 42) (n := 1) (by decide +kernel) rfl ?_
        refine sr_iadd (pc := 43) (by decide +kernel) ?_
        refine sr_aloadn (pc := 44) (n := 0) (by decide +kernel) rfl ?_
        refine sr_gC (pc := 45) (i2 := 0) fg_9_9 (by decide +kernel) (sr_in9 _ (by omega)) (fun _ => rfl) ?_
        refine sr_iloadn (pc := 48) (n := 1) (by decide +kernel) rfl ?_
        refine sr_aI (pc := 49) (n := 24) rfl (by decide +kernel) (sr_in17 _ (by omega)) (fun _ _ => rfl) ?_
        refine sr_i2l (pc := 50) (by decide +kernel) ?_
        refine sr_sL (pc := 51) (n := 48) rfl (by decide +kernel) (sr_in18 _ (by omega)) (fun _ _ => rfl) (fun t3 => ?_)
        refine sr_iinc (pc := 52) (i := 1) (n := 1) (w := x1 + 1) (by decide +kernel) rfl rfl (by decide) rfl rfl ?_
        refine sr_goto (pc := 55) (off := (-53)) (tg := 2) (by decide +kernel) (by decide) ?_
        exact sr_wk (sr_mono (mc := 0) (ms := 0) (by omega) (by omega) (ih (x1 + 1) t3)) ⟨rfl, ⟨rfl, trivial⟩⟩
def f9_openStations_58   : sr_t → sr_Rs := fun  t => (some (.inl none, t))
theorem g9_openStations_58 (l : Launch)     : ∀ (t : sr_t), sr_g l sr_m9_openStations 58 [some (sr_r 9 0), none] [] t (f9_openStations_58    t) 0 0 := by
  intro t
  unfold f9_openStations_58
  exact sr_ret (pc := 58) (by decide +kernel) rfl
def F9_openStations  (t : sr_t) : sr_Rs := f9_openStations_2 f9_openStations_58 sr_fu 0 t
theorem C9_openStations (l : Launch)   (t : sr_t) : sr_ct' l sr_m9_openStations [sr_r 9 0] t (F9_openStations  t) 0 0 := by
  refine sr_T_of (L0 := [some (sr_r 9 0), none]) rfl (by decide +kernel) (fun _ => rfl) (fun _ => Nat.le_of_ble_eq_true rfl) ?_
  unfold F9_openStations
  refine sr_iconst (pc := 0) (n := 0) (v := 0) (by decide +kernel) rfl ?_
  refine sr_istoren (pc := 1) (n := 1) (by decide +kernel) (by decide) rfl rfl ?_
  exact sr_wk (sr_mono (mc := 0) (ms := 0) (by omega) (by omega) (g9_openStations_2 l f9_openStations_58 (g9_openStations_58 l) sr_fu 0 t)) ⟨rfl, ⟨rfl, trivial⟩⟩
def f9_rememberOrigin_33 (a0 : Int64) (a1 : Int32) (k3 : Int32 → sr_t → sr_Rs) (k39 : sr_t → sr_Rs) : Int32 → sr_t → sr_Rs := fun x4 t => k3 (x4 + 1) t
theorem g9_rememberOrigin_33 (l : Launch) (a0 : Int64) (a1 : Int32)  (k3 : Int32 → sr_t → sr_Rs) (k39 : sr_t → sr_Rs) (hk3 : ∀ (x4 : Int32), ∀ (t : sr_t), sr_g l sr_m9_rememberOrigin 3 [some (sr_r 9 0), some (sr_l a0), none, some (sr_i a1), some (sr_i x4)] [] t (k3 x4 t) 0 0) (hk39 : ∀ (t : sr_t), sr_g l sr_m9_rememberOrigin 39 [some (sr_r 9 0), some (sr_l a0), none, some (sr_i a1), none] [] t (k39 t) 0 0) : ∀ (x4 : Int32), ∀ (t : sr_t), sr_g l sr_m9_rememberOrigin 33 [some (sr_r 9 0), some (sr_l a0), none, some (sr_i a1), some (sr_i x4)] [] t (f9_rememberOrigin_33 a0 a1 k3 k39 x4 t) 0 0 := by
  intro x4  t
  unfold f9_rememberOrigin_33
  refine sr_iinc (pc := 33) (i := 4) (n := 1) (w := x4 + 1) (by decide +kernel) rfl rfl (by decide) rfl rfl ?_
  refine sr_goto (pc := 36) (off := (-33)) (tg := 3) (by decide +kernel) (by decide) ?_
  exact sr_wk (sr_mono (mc := 0) (ms := 0) (by omega) (by omega) (hk3 (x4 + 1) t)) ⟨rfl, ⟨rfl, ⟨rfl, ⟨rfl, trivial⟩⟩⟩⟩
def f9_rememberOrigin_3 (a0 : Int64) (a1 : Int32) (k39 : sr_t → sr_Rs) : Nat → Int32 → sr_t → sr_Rs
  | 0 => fun _ _ => none
  | n + 1 => fun x4 t => (if 48 ≤ x4 then k39 t else (sr_bL (F9_stationBit x4 t) (fun v1 t1 => (if (lg_cmp (a0 &&& v1) 0) = 0 then f9_rememberOrigin_33 a0 a1 (f9_rememberOrigin_3 a0 a1 k39 n) k39 x4 t1 else (if x4 < 0 ∨ 48 ≤ x4.toNatClampNeg then none else sr_lt (sr_u t1 19 0 x4.toNatClampNeg a1) (fun t2 => f9_rememberOrigin_33 a0 a1 (f9_rememberOrigin_3 a0 a1 k39 n) k39 x4 t2))))))
theorem g9_rememberOrigin_3 (l : Launch) (a0 : Int64) (a1 : Int32)  (k39 : sr_t → sr_Rs) (hk39 : ∀ (t : sr_t), sr_g l sr_m9_rememberOrigin 39 [some (sr_r 9 0), some (sr_l a0), none, some (sr_i a1), none] [] t (k39 t) 0 0) : ∀ (n : Nat) (x4 : Int32), ∀ (t : sr_t), sr_g l sr_m9_rememberOrigin 3 [some (sr_r 9 0), some (sr_l a0), none, some (sr_i a1), some (sr_i x4)] [] t (f9_rememberOrigin_3 a0 a1 k39 n x4 t) 0 0 := by
  intro n
  induction n with
  | zero => intros; exact sr_Gn
  | succ n ih =>
    intro x4  t
    unfold f9_rememberOrigin_3
    refine sr_iload (pc := 3) (i := 4) (by decide +kernel) rfl ?_
    refine sr_aloadn (pc := 5) (n := 0) (by decide +kernel) rfl ?_
    refine sr_gC (pc := 6) (i2 := 0) fg_9_19 (by decide +kernel) (sr_in9 _ (by omega)) (fun _ => rfl) ?_
    refine sr_al' (pc := 9) (ty := 0) (n := 48) (v := 48) rfl (by decide) (by decide +kernel) (sr_in19 _ (by omega)) (by decide) ?_
    refine sr_icmp_ge (pc := 10) (off := 29) (tg := 39) (by decide +kernel) (by decide) (fun _ => ?_) (fun _ => ?_)
    · exact sr_wk (sr_mono (mc := 0) (ms := 0) (by omega) (by omega) (hk39 t)) ⟨rfl, ⟨rfl, ⟨rfl, trivial⟩⟩⟩
    · refine sr_lloadn (pc := 13) (n := 1) (by decide +kernel) rfl ?_
      refine sr_iload (pc := 14) (i := 4) (by decide +kernel) rfl ?_
      refine sr_cS (pc := 16) (As := [sr_i x4]) (mc1 := 0) (ms1 := 0) (mc2 := 0) (ms2 := 0) fm_9_75 fl_9_75 (by decide +kernel) (rm_9_rememberOrigin_9_stationBit) rfl rfl rfl (C9_stationBit l x4 t) ?_
      refine sr_kL (fun v1 t1 => ?_)
      refine sr_land (pc := 19) (by decide +kernel) ?_
      refine sr_lconst (pc := 20) (n := 0) (v := 0) (by decide +kernel) (by decide) ?_
      refine sr_lcmp (pc := 21) (by decide +kernel) ?_
      refine sr_if_eq (pc := 22) (off := 11) (tg := 33) (by decide +kernel) (by decide) (fun _ => ?_) (fun _ => ?_)
      · exact sr_wk (sr_mono (mc := 0) (ms := 0) (by omega) (by omega) (g9_rememberOrigin_33 l a0 a1 (f9_rememberOrigin_3 a0 a1 k39 n) k39 ih hk39 x4 t1)) ⟨rfl, ⟨rfl, ⟨rfl, ⟨rfl, trivial⟩⟩⟩⟩
      · refine sr_aloadn (pc := 25) (n := 0) (by decide +kernel) rfl ?_
        refine sr_gC (pc := 26) (i2 := 0) fg_9_19 (by decide +kernel) (sr_in9 _ (by omega)) (fun _ => rfl) ?_
        refine sr_iload (pc := 29) (i := 4) (by decide +kernel) rfl ?_
        refine sr_iloadn (pc := 31) (n := 3) (by decide +kernel) rfl ?_
        refine sr_sI (pc := 32) (n := 48) rfl (by decide +kernel) (sr_in19 _ (by omega)) (fun _ _ => rfl) (fun t2 => ?_)
        exact sr_wk (sr_mono (mc := 0) (ms := 0) (by omega) (by omega) (g9_rememberOrigin_33 l a0 a1 (f9_rememberOrigin_3 a0 a1 k39 n) k39 ih hk39 x4 t2)) ⟨rfl, ⟨rfl, ⟨rfl, ⟨rfl, trivial⟩⟩⟩⟩
def f9_rememberOrigin_39 (a0 : Int64) (a1 : Int32)  : sr_t → sr_Rs := fun  t => (some (.inl none, t))
theorem g9_rememberOrigin_39 (l : Launch) (a0 : Int64) (a1 : Int32)    : ∀ (t : sr_t), sr_g l sr_m9_rememberOrigin 39 [some (sr_r 9 0), some (sr_l a0), none, some (sr_i a1), none] [] t (f9_rememberOrigin_39 a0 a1   t) 0 0 := by
  intro t
  unfold f9_rememberOrigin_39
  exact sr_ret (pc := 39) (by decide +kernel) rfl
def F9_rememberOrigin (a0 : Int64) (a1 : Int32) (t : sr_t) : sr_Rs := f9_rememberOrigin_3 a0 a1 (f9_rememberOrigin_39 a0 a1) sr_fu 0 t
theorem C9_rememberOrigin (l : Launch) (a0 : Int64) (a1 : Int32)  (t : sr_t) : sr_ct' l sr_m9_rememberOrigin [sr_r 9 0, sr_l a0, sr_i a1] t (F9_rememberOrigin a0 a1 t) 0 0 := by
  refine sr_T_of (L0 := [some (sr_r 9 0), some (sr_l a0), none, some (sr_i a1), none]) rfl (by decide +kernel) (fun _ => rfl) (fun _ => Nat.le_of_ble_eq_true rfl) ?_
  unfold F9_rememberOrigin
  refine sr_iconst (pc := 0) (n := 0) (v := 0) (by decide +kernel) rfl ?_
  refine sr_istore (pc := 1) (i := 4) (by decide +kernel) (by decide) rfl rfl ?_
  exact sr_wk (sr_mono (mc := 0) (ms := 0) (by omega) (by omega) (g9_rememberOrigin_3 l a0 a1 (f9_rememberOrigin_39 a0 a1) (g9_rememberOrigin_39 l a0 a1) sr_fu 0 t)) ⟨rfl, ⟨rfl, ⟨rfl, ⟨rfl, trivial⟩⟩⟩⟩
def f9_openFromEdge_65 (a0 : Int64) (a1 : Int64) (k6 : Int64 → Int32 → sr_t → sr_Rs) (k71 : Int64 → sr_t → sr_Rs) : Int64 → Int32 → sr_t → sr_Rs := fun y5 x7 t => k6 y5 (x7 + 1) t
theorem g9_openFromEdge_65 (l : Launch) (a0 : Int64) (a1 : Int64)  (k6 : Int64 → Int32 → sr_t → sr_Rs) (k71 : Int64 → sr_t → sr_Rs) (hk6 : ∀ (y5 : Int64) (x7 : Int32), ∀ (t : sr_t), sr_g l sr_m9_openFromEdge 6 [some (sr_r 9 0), some (sr_l a0), none, some (sr_l a1), none, some (sr_l y5), none, some (sr_i x7), none, none] [] t (k6 y5 x7 t) 0 0) (hk71 : ∀ (y5 : Int64), ∀ (t : sr_t), sr_g l sr_m9_openFromEdge 71 [some (sr_r 9 0), some (sr_l a0), none, some (sr_l a1), none, some (sr_l y5), none, none, none, none] [] t (k71 y5 t) 0 0) : ∀ (y5 : Int64) (x7 : Int32), ∀ (t : sr_t), sr_g l sr_m9_openFromEdge 65 [some (sr_r 9 0), some (sr_l a0), none, some (sr_l a1), none, some (sr_l y5), none, some (sr_i x7), none, none] [] t (f9_openFromEdge_65 a0 a1 k6 k71 y5 x7 t) 0 0 := by
  intro y5 x7  t
  unfold f9_openFromEdge_65
  refine sr_iinc (pc := 65) (i := 7) (n := 1) (w := x7 + 1) (by decide +kernel) rfl rfl (by decide) rfl rfl ?_
  refine sr_goto (pc := 68) (off := (-62)) (tg := 6) (by decide +kernel) (by decide) ?_
  exact sr_wk (sr_mono (mc := 0) (ms := 0) (by omega) (by omega) (hk6 y5 (x7 + 1) t)) ⟨rfl, ⟨rfl, ⟨rfl, ⟨rfl, ⟨rfl, trivial⟩⟩⟩⟩⟩
def f9_openFromEdge_6 (a0 : Int64) (a1 : Int64) (k71 : Int64 → sr_t → sr_Rs) : Nat → Int64 → Int32 → sr_t → sr_Rs
  | 0 => fun _ _ _ => none
  | n + 1 => fun y5 x7 t => (if 48 ≤ x7 then k71 y5 t else (sr_bL (F9_stationBit x7 t) (fun v1 t1 => (if (lg_cmp (a0 &&& v1) 0) = 0 then f9_openFromEdge_65 a0 a1 (f9_openFromEdge_6 a0 a1 k71 n) k71 y5 x7 t1 else (if x7 < 0 ∨ 48 ≤ x7.toNatClampNeg then none else (sr_bV (F9_rememberOrigin (((t1.2 18 0 x7.toNatClampNeg) &&& (a1 ^^^ ((-1)))) &&& (y5 ^^^ ((-1)))) x7 t1) (fun t2 => f9_openFromEdge_65 a0 a1 (f9_openFromEdge_6 a0 a1 k71 n) k71 (y5 ||| (((t1.2 18 0 x7.toNatClampNeg) &&& (a1 ^^^ ((-1)))) &&& (y5 ^^^ ((-1))))) x7 t2)))))))
theorem g9_openFromEdge_6 (l : Launch) (a0 : Int64) (a1 : Int64)  (k71 : Int64 → sr_t → sr_Rs) (hk71 : ∀ (y5 : Int64), ∀ (t : sr_t), sr_g l sr_m9_openFromEdge 71 [some (sr_r 9 0), some (sr_l a0), none, some (sr_l a1), none, some (sr_l y5), none, none, none, none] [] t (k71 y5 t) 0 0) : ∀ (n : Nat) (y5 : Int64) (x7 : Int32), ∀ (t : sr_t), sr_g l sr_m9_openFromEdge 6 [some (sr_r 9 0), some (sr_l a0), none, some (sr_l a1), none, some (sr_l y5), none, some (sr_i x7), none, none] [] t (f9_openFromEdge_6 a0 a1 k71 n y5 x7 t) 0 0 := by
  intro n
  induction n with
  | zero => intros; exact sr_Gn
  | succ n ih =>
    intro y5 x7  t
    unfold f9_openFromEdge_6
    refine sr_iload (pc := 6) (i := 7) (by decide +kernel) rfl ?_
    refine sr_aloadn (pc := 8) (n := 0) (by decide +kernel) rfl ?_
    refine sr_gC (pc := 9) (i2 := 0) fg_9_15 (by decide +kernel) (sr_in9 _ (by omega)) (fun _ => rfl) ?_
    refine sr_al' (pc := 12) (ty := 1) (n := 48) (v := 48) rfl (by decide) (by decide +kernel) (sr_in18 _ (by omega)) (by decide) ?_
    refine sr_icmp_ge (pc := 13) (off := 58) (tg := 71) (by decide +kernel) (by decide) (fun _ => ?_) (fun _ => ?_)
    · exact sr_wk (sr_mono (mc := 0) (ms := 0) (by omega) (by omega) (hk71 y5 t)) ⟨rfl, ⟨rfl, ⟨rfl, ⟨rfl, trivial⟩⟩⟩⟩
    · refine sr_lloadn (pc := 16) (n := 1) (by decide +kernel) rfl ?_
      refine sr_iload (pc := 17) (i := 7) (by decide +kernel) rfl ?_
      refine sr_cS (pc := 19) (As := [sr_i x7]) (mc1 := 0) (ms1 := 0) (mc2 := 0) (ms2 := 0) fm_9_75 fl_9_75 (by decide +kernel) (rm_9_openFromEdge_9_stationBit) rfl rfl rfl (C9_stationBit l x7 t) ?_
      refine sr_kL (fun v1 t1 => ?_)
      refine sr_land (pc := 22) (by decide +kernel) ?_
      refine sr_lconst (pc := 23) (n := 0) (v := 0) (by decide +kernel) (by decide) ?_
      refine sr_lcmp (pc := 24) (by decide +kernel) ?_
      refine sr_if_eq (pc := 25) (off := 40) (tg := 65) (by decide +kernel) (by decide) (fun _ => ?_) (fun _ => ?_)
      · exact sr_wk (sr_mono (mc := 0) (ms := 0) (by omega) (by omega) (g9_openFromEdge_65 l a0 a1 (f9_openFromEdge_6 a0 a1 k71 n) k71 ih hk71 y5 x7 t1)) ⟨rfl, ⟨rfl, ⟨rfl, ⟨rfl, ⟨rfl, trivial⟩⟩⟩⟩⟩
      · refine sr_aloadn (pc := 28) (n := 0) (by decide +kernel) rfl ?_
        refine sr_gC (pc := 29) (i2 := 0) fg_9_15 (by decide +kernel) (sr_in9 _ (by omega)) (fun _ => rfl) ?_
        refine sr_iload (pc := 32) (i := 7) (by decide +kernel) rfl ?_
        refine sr_aL (pc := 34) (n := 48) rfl (by decide +kernel) (sr_in18 _ (by omega)) (fun _ _ => rfl) ?_
        refine sr_lloadn (pc := 35) (n := 3) (by decide +kernel) rfl ?_
        refine sr_ldc2 (pc := 36) (n := 83) (v := -1) (by decide +kernel) (sr_tb (n := 1135) (by decide +kernel) rfl) ?_
        refine sr_lxor (pc := 39) (by decide +kernel) ?_
        refine sr_land (pc := 40) (by decide +kernel) ?_
        refine sr_lload (pc := 41) (i := 5) (by decide +kernel) rfl ?_
        refine sr_ldc2 (pc := 43) (n := 83) (v := -1) (by decide +kernel) (sr_tb (n := 1135) (by decide +kernel) rfl) ?_
        refine sr_lxor (pc := 46) (by decide +kernel) ?_
        refine sr_land (pc := 47) (by decide +kernel) ?_
        refine sr_lstore (pc := 48) (i := 8) (by decide +kernel) (by decide) rfl rfl ?_
        refine sr_aloadn (pc := 50) (n := 0) (by decide +kernel) rfl ?_
        refine sr_lload (pc := 51) (i := 8) (by decide +kernel) rfl ?_
        refine sr_iload (pc := 53) (i := 7) (by decide +kernel) rfl ?_
        refine sr_cV (pc := 55) (As := [sr_l (((t1.2 18 0 x7.toNatClampNeg) &&& (a1 ^^^ ((-1)))) &&& (y5 ^^^ ((-1)))), sr_i x7]) (mc1 := 0) (ms1 := 0) (mc2 := 0) (ms2 := 0) fm_9_85 fl_9_85 (by decide +kernel) (sr_in9 _ (by omega)) (rm_9_openFromEdge_9_rememberOrigin) rfl rfl rfl (C9_rememberOrigin l (((t1.2 18 0 x7.toNatClampNeg) &&& (a1 ^^^ ((-1)))) &&& (y5 ^^^ ((-1)))) x7 t1) ?_
        refine sr_kV (fun t2 => ?_)
        refine sr_lload (pc := 58) (i := 5) (by decide +kernel) rfl ?_
        refine sr_lload (pc := 60) (i := 8) (by decide +kernel) rfl ?_
        refine sr_lor (pc := 62) (by decide +kernel) ?_
        refine sr_lstore (pc := 63) (i := 5) (by decide +kernel) (by decide) rfl rfl ?_
        exact sr_wk (sr_mono (mc := 0) (ms := 0) (by omega) (by omega) (g9_openFromEdge_65 l a0 a1 (f9_openFromEdge_6 a0 a1 k71 n) k71 ih hk71 (y5 ||| (((t1.2 18 0 x7.toNatClampNeg) &&& (a1 ^^^ ((-1)))) &&& (y5 ^^^ ((-1))))) x7 t2)) ⟨rfl, ⟨rfl, ⟨rfl, ⟨rfl, ⟨rfl, trivial⟩⟩⟩⟩⟩
def f9_openFromEdge_71 (a0 : Int64) (a1 : Int64)  : Int64 → sr_t → sr_Rs := fun y5 t => (some (.inl (some (sr_l y5)), t))
theorem g9_openFromEdge_71 (l : Launch) (a0 : Int64) (a1 : Int64)    : ∀ (y5 : Int64), ∀ (t : sr_t), sr_g l sr_m9_openFromEdge 71 [some (sr_r 9 0), some (sr_l a0), none, some (sr_l a1), none, some (sr_l y5), none, none, none, none] [] t (f9_openFromEdge_71 a0 a1  y5 t) 0 0 := by
  intro y5  t
  unfold f9_openFromEdge_71
  refine sr_lload (pc := 71) (i := 5) (by decide +kernel) rfl ?_
  exact sr_lret (pc := 73) (by decide +kernel) rfl
def F9_openFromEdge (a0 : Int64) (a1 : Int64) (t : sr_t) : sr_Rs := f9_openFromEdge_6 a0 a1 (f9_openFromEdge_71 a0 a1) sr_fu 0 0 t
theorem C9_openFromEdge (l : Launch) (a0 : Int64) (a1 : Int64)  (t : sr_t) : sr_ct' l sr_m9_openFromEdge [sr_r 9 0, sr_l a0, sr_l a1] t (F9_openFromEdge a0 a1 t) 0 0 := by
  refine sr_T_of (L0 := [some (sr_r 9 0), some (sr_l a0), none, some (sr_l a1), none, none, none, none, none, none]) rfl (by decide +kernel) (fun _ => rfl) (fun _ => Nat.le_of_ble_eq_true rfl) ?_
  unfold F9_openFromEdge
  refine sr_lconst (pc := 0) (n := 0) (v := 0) (by decide +kernel) (by decide) ?_
  refine sr_lstore (pc := 1) (i := 5) (by decide +kernel) (by decide) rfl rfl ?_
  refine sr_iconst (pc := 3) (n := 0) (v := 0) (by decide +kernel) rfl ?_
  refine sr_istore (pc := 4) (i := 7) (by decide +kernel) (by decide) rfl rfl ?_
  exact sr_wk (sr_mono (mc := 0) (ms := 0) (by omega) (by omega) (g9_openFromEdge_6 l a0 a1 (f9_openFromEdge_71 a0 a1) (g9_openFromEdge_71 l a0 a1) sr_fu 0 0 t)) ⟨rfl, ⟨rfl, ⟨rfl, ⟨rfl, ⟨rfl, trivial⟩⟩⟩⟩⟩
def f9_findWay_11 (a0 : Int32) (a1 : Int32) (k56 : Int64 → sr_t → sr_Rs) : Nat → Int64 → Int64 → Int32 → sr_t → sr_Rs
  | 0 => fun _ _ _ _ => none
  | n + 1 => fun y3 y5 x7 t => (if 48 ≤ x7 then k56 y3 t else (if (lg_cmp y5 0) = 0 then k56 y3 t else (sr_bL (F9_stationBit a1 t) (fun v1 t1 => (if (lg_cmp (y3 &&& v1) 0) = 0 then (sr_bL (F9_openFromEdge y5 y3 t1) (fun v2 t2 => (f9_findWay_11 a0 a1 k56 n) (y3 ||| v2) v2 (x7 + 1) t2)) else k56 y3 t1)))))
theorem g9_findWay_11 (l : Launch) (a0 : Int32) (a1 : Int32)  (k56 : Int64 → sr_t → sr_Rs) (hk56 : ∀ (y3 : Int64), ∀ (t : sr_t), sr_g l sr_m9_findWay 56 [some (sr_r 9 0), some (sr_i a0), some (sr_i a1), some (sr_l y3), none, none, none, none] [] t (k56 y3 t) 0 0) : ∀ (n : Nat) (y3 : Int64) (y5 : Int64) (x7 : Int32), ∀ (t : sr_t), sr_g l sr_m9_findWay 11 [some (sr_r 9 0), some (sr_i a0), some (sr_i a1), some (sr_l y3), none, some (sr_l y5), none, some (sr_i x7)] [] t (f9_findWay_11 a0 a1 k56 n y3 y5 x7 t) 0 0 := by
  intro n
  induction n with
  | zero => intros; exact sr_Gn
  | succ n ih =>
    intro y3 y5 x7  t
    unfold f9_findWay_11
    refine sr_iload (pc := 11) (i := 7) (by decide +kernel) rfl ?_
    refine sr_bipush (pc := 13) (n := 48) (v := 48) (by decide +kernel) (by decide) ?_
    refine sr_icmp_ge (pc := 15) (off := 41) (tg := 56) (by decide +kernel) (by decide) (fun _ => ?_) (fun _ => ?_)
    · exact sr_wk (sr_mono (mc := 0) (ms := 0) (by omega) (by omega) (hk56 y3 t)) ⟨rfl, ⟨rfl, ⟨rfl, ⟨rfl, trivial⟩⟩⟩⟩
    · refine sr_lload (pc := 18) (i := 5) (by decide +kernel) rfl ?_
      refine sr_lconst (pc := 20) (n := 0) (v := 0) (by decide +kernel) (by decide) ?_
      refine sr_lcmp (pc := 21) (by decide +kernel) ?_
      refine sr_if_eq (pc := 22) (off := 34) (tg := 56) (by decide +kernel) (by decide) (fun _ => ?_) (fun _ => ?_)
      · exact sr_wk (sr_mono (mc := 0) (ms := 0) (by omega) (by omega) (hk56 y3 t)) ⟨rfl, ⟨rfl, ⟨rfl, ⟨rfl, trivial⟩⟩⟩⟩
      · refine sr_lloadn (pc := 25) (n := 3) (by decide +kernel) rfl ?_
        refine sr_iloadn (pc := 26) (n := 2) (by decide +kernel) rfl ?_
        refine sr_cS (pc := 27) (As := [sr_i a1]) (mc1 := 0) (ms1 := 0) (mc2 := 0) (ms2 := 0) fm_9_75 fl_9_75 (by decide +kernel) (rm_9_findWay_9_stationBit) rfl rfl rfl (C9_stationBit l a1 t) ?_
        refine sr_kL (fun v1 t1 => ?_)
        refine sr_land (pc := 30) (by decide +kernel) ?_
        refine sr_lconst (pc := 31) (n := 0) (v := 0) (by decide +kernel) (by decide) ?_
        refine sr_lcmp (pc := 32) (by decide +kernel) ?_
        refine sr_if_ne (pc := 33) (off := 23) (tg := 56) (by decide +kernel) (by decide) (fun _ => ?_) (fun _ => ?_)
        · exact sr_wk (sr_mono (mc := 0) (ms := 0) (by omega) (by omega) (hk56 y3 t1)) ⟨rfl, ⟨rfl, ⟨rfl, ⟨rfl, trivial⟩⟩⟩⟩
        · refine sr_aloadn (pc := 36) (n := 0) (by decide +kernel) rfl ?_
          refine sr_lload (pc := 37) (i := 5) (by decide +kernel) rfl ?_
          refine sr_lloadn (pc := 39) (n := 3) (by decide +kernel) rfl ?_
          refine sr_cV (pc := 40) (As := [sr_l y5, sr_l y3]) (mc1 := 0) (ms1 := 0) (mc2 := 0) (ms2 := 0) fm_9_79 fl_9_79 (by decide +kernel) (sr_in9 _ (by omega)) (rm_9_findWay_9_openFromEdge) rfl rfl rfl (C9_openFromEdge l y5 y3 t1) ?_
          refine sr_kL (fun v2 t2 => ?_)
          refine sr_lstore (pc := 43) (i := 5) (by decide +kernel) (by decide) rfl rfl ?_
          refine sr_lloadn (pc := 45) (n := 3) (by decide +kernel) rfl ?_
          refine sr_lload (pc := 46) (i := 5) (by decide +kernel) rfl ?_
          refine sr_lor (pc := 48) (by decide +kernel) ?_
          refine sr_lstoren (pc := 49) (n := 3) (by decide +kernel) (by decide) rfl rfl ?_
          refine sr_iinc (pc := 50) (i := 7) (n := 1) (w := x7 + 1) (by decide +kernel) rfl rfl (by decide) rfl rfl ?_
          refine sr_goto (pc := 53) (off := (-42)) (tg := 11) (by decide +kernel) (by decide) ?_
          exact sr_wk (sr_mono (mc := 0) (ms := 0) (by omega) (by omega) (ih (y3 ||| v2) v2 (x7 + 1) t2)) ⟨rfl, ⟨rfl, ⟨rfl, ⟨rfl, ⟨rfl, ⟨rfl, trivial⟩⟩⟩⟩⟩⟩
def f9_findWay_72 (a0 : Int32) (a1 : Int32)  : Int32 → sr_t → sr_Rs := fun xs0 t => (if xs0 = 0 ∨ xs0 = 1 then some (.inl (some (sr_i xs0)), t) else none)
theorem g9_findWay_72 (l : Launch) (a0 : Int32) (a1 : Int32)    : ∀ (xs0 : Int32), ∀ (t : sr_t), sr_g l sr_m9_findWay 72 [some (sr_r 9 0), some (sr_i a0), some (sr_i a1), none, none, none, none, none] [sr_i xs0] t (f9_findWay_72 a0 a1  xs0 t) 0 0 := by
  intro xs0  t
  unfold f9_findWay_72
  exact sr_zr (pc := 72) (by decide +kernel) rfl
def f9_findWay_56 (a0 : Int32) (a1 : Int32)  : Int64 → sr_t → sr_Rs := fun y3 t => (sr_bL (F9_stationBit a1 t) (fun v1 t1 => (if (lg_cmp (y3 &&& v1) 0) = 0 then f9_findWay_72 a0 a1 0 t1 else f9_findWay_72 a0 a1 1 t1)))
theorem g9_findWay_56 (l : Launch) (a0 : Int32) (a1 : Int32)    : ∀ (y3 : Int64), ∀ (t : sr_t), sr_g l sr_m9_findWay 56 [some (sr_r 9 0), some (sr_i a0), some (sr_i a1), some (sr_l y3), none, none, none, none] [] t (f9_findWay_56 a0 a1  y3 t) 0 0 := by
  intro y3  t
  unfold f9_findWay_56
  refine sr_lloadn (pc := 56) (n := 3) (by decide +kernel) rfl ?_
  refine sr_iloadn (pc := 57) (n := 2) (by decide +kernel) rfl ?_
  refine sr_cS (pc := 58) (As := [sr_i a1]) (mc1 := 0) (ms1 := 0) (mc2 := 0) (ms2 := 0) fm_9_75 fl_9_75 (by decide +kernel) (rm_9_findWay_9_stationBit) rfl rfl rfl (C9_stationBit l a1 t) ?_
  refine sr_kL (fun v1 t1 => ?_)
  refine sr_land (pc := 61) (by decide +kernel) ?_
  refine sr_lconst (pc := 62) (n := 0) (v := 0) (by decide +kernel) (by decide) ?_
  refine sr_lcmp (pc := 63) (by decide +kernel) ?_
  refine sr_if_eq (pc := 64) (off := 7) (tg := 71) (by decide +kernel) (by decide) (fun _ => ?_) (fun _ => ?_)
  · refine sr_iconst (pc := 71) (n := 0) (v := 0) (by decide +kernel) rfl ?_
    exact sr_wk (sr_mono (mc := 0) (ms := 0) (by omega) (by omega) (g9_findWay_72 l a0 a1 0 t1)) ⟨rfl, ⟨rfl, ⟨rfl, trivial⟩⟩⟩
  · refine sr_iconst (pc := 67) (n := 1) (v := 1) (by decide +kernel) rfl ?_
    refine sr_goto (pc := 68) (off := 4) (tg := 72) (by decide +kernel) (by decide) ?_
    exact sr_wk (sr_mono (mc := 0) (ms := 0) (by omega) (by omega) (g9_findWay_72 l a0 a1 1 t1)) ⟨rfl, ⟨rfl, ⟨rfl, trivial⟩⟩⟩
def F9_findWay (a0 : Int32) (a1 : Int32) (t : sr_t) : sr_Rs := (sr_bL (F9_stationBit a0 t) (fun v1 t1 => f9_findWay_11 a0 a1 (f9_findWay_56 a0 a1) sr_fu v1 v1 0 t1))
theorem C9_findWay (l : Launch) (a0 : Int32) (a1 : Int32)  (t : sr_t) : sr_ct' l sr_m9_findWay [sr_r 9 0, sr_i a0, sr_i a1] t (F9_findWay a0 a1 t) 0 0 := by
  refine sr_T_of (L0 := [some (sr_r 9 0), some (sr_i a0), some (sr_i a1), none, none, none, none, none]) rfl (by decide +kernel) (fun _ => rfl) (fun _ => Nat.le_of_ble_eq_true rfl) ?_
  unfold F9_findWay
  refine sr_iloadn (pc := 0) (n := 1) (by decide +kernel) rfl ?_
  refine sr_cS (pc := 1) (As := [sr_i a0]) (mc1 := 0) (ms1 := 0) (mc2 := 0) (ms2 := 0) fm_9_75 fl_9_75 (by decide +kernel) (rm_9_findWay_9_stationBit) rfl rfl rfl (C9_stationBit l a0 t) ?_
  refine sr_kL (fun v1 t1 => ?_)
  refine sr_lstoren (pc := 4) (n := 3) (by decide +kernel) (by decide) rfl rfl ?_
  refine sr_lloadn (pc := 5) (n := 3) (by decide +kernel) rfl ?_
  refine sr_lstore (pc := 6) (i := 5) (by decide +kernel) (by decide) rfl rfl ?_
  refine sr_iconst (pc := 8) (n := 0) (v := 0) (by decide +kernel) rfl ?_
  refine sr_istore (pc := 9) (i := 7) (by decide +kernel) (by decide) rfl rfl ?_
  exact sr_wk (sr_mono (mc := 0) (ms := 0) (by omega) (by omega) (g9_findWay_11 l a0 a1 (f9_findWay_56 a0 a1) (g9_findWay_56 l a0 a1) sr_fu v1 v1 0 t1)) ⟨rfl, ⟨rfl, ⟨rfl, ⟨rfl, ⟨rfl, ⟨rfl, trivial⟩⟩⟩⟩⟩⟩
def f9_turnLink_56 (a0 : Int32) (a1 : Int32)  : sr_t → sr_Rs := fun  t => (some (.inl none, t))
theorem g9_turnLink_56 (l : Launch) (a0 : Int32) (a1 : Int32)    : ∀ (t : sr_t), sr_g l sr_m9_turnLink 56 [some (sr_r 9 0), some (sr_i a0), some (sr_i a1)] [] t (f9_turnLink_56 a0 a1   t) 0 0 := by
  intro t
  unfold f9_turnLink_56
  exact sr_ret (pc := 56) (by decide +kernel) rfl
def F9_turnLink (a0 : Int32) (a1 : Int32) (t : sr_t) : sr_Rs := (if a0 < 0 then f9_turnLink_56 a0 a1 t else (if 48 ≤ a0 then f9_turnLink_56 a0 a1 t else (if a1 < 0 then f9_turnLink_56 a0 a1 t else (if 48 ≤ a1 then f9_turnLink_56 a0 a1 t else (if a0 < 0 ∨ 48 ≤ a0.toNatClampNeg then none else (sr_bL (F9_stationBit a1 t) (fun v1 t1 => (if a0 < 0 ∨ 48 ≤ a0.toNatClampNeg then none else sr_lt (sr_ul t1 18 0 a0.toNatClampNeg ((t.2 18 0 a0.toNatClampNeg) &&& (v1 ^^^ ((-1))))) (fun t2 => (if a1 < 0 ∨ 48 ≤ a1.toNatClampNeg then none else (sr_bL (F9_stationBit a0 t2) (fun v3 t3 => (if a1 < 0 ∨ 48 ≤ a1.toNatClampNeg then none else sr_lt (sr_ul t3 18 0 a1.toNatClampNeg ((t2.2 18 0 a1.toNatClampNeg) ||| v3)) (fun t4 => f9_turnLink_56 a0 a1 t4))))))))))))))
theorem C9_turnLink (l : Launch) (a0 : Int32) (a1 : Int32)  (t : sr_t) : sr_ct' l sr_m9_turnLink [sr_r 9 0, sr_i a0, sr_i a1] t (F9_turnLink a0 a1 t) 0 0 := by
  refine sr_T_of (L0 := [some (sr_r 9 0), some (sr_i a0), some (sr_i a1)]) rfl (by decide +kernel) (fun _ => rfl) (fun _ => Nat.le_of_ble_eq_true rfl) ?_
  unfold F9_turnLink
  refine sr_iloadn (pc := 0) (n := 1) (by decide +kernel) rfl ?_
  refine sr_if_lt (pc := 1) (off := 55) (tg := 56) (by decide +kernel) (by decide) (fun _ => ?_) (fun _ => ?_)
  · exact sr_wk (sr_mono (mc := 0) (ms := 0) (by omega) (by omega) (g9_turnLink_56 l a0 a1 t)) ⟨rfl, ⟨rfl, ⟨rfl, trivial⟩⟩⟩
  · refine sr_iloadn (pc := 4) (n := 1) (by decide +kernel) rfl ?_
    refine sr_aloadn (pc := 5) (n := 0) (by decide +kernel) rfl ?_
    refine sr_gC (pc := 6) (i2 := 0) fg_9_15 (by decide +kernel) (sr_in9 _ (by omega)) (fun _ => rfl) ?_
    refine sr_al' (pc := 9) (ty := 1) (n := 48) (v := 48) rfl (by decide) (by decide +kernel) (sr_in18 _ (by omega)) (by decide) ?_
    refine sr_icmp_ge (pc := 10) (off := 46) (tg := 56) (by decide +kernel) (by decide) (fun _ => ?_) (fun _ => ?_)
    · exact sr_wk (sr_mono (mc := 0) (ms := 0) (by omega) (by omega) (g9_turnLink_56 l a0 a1 t)) ⟨rfl, ⟨rfl, ⟨rfl, trivial⟩⟩⟩
    · refine sr_iloadn (pc := 13) (n := 2) (by decide +kernel) rfl ?_
      refine sr_if_lt (pc := 14) (off := 42) (tg := 56) (by decide +kernel) (by decide) (fun _ => ?_) (fun _ => ?_)
      · exact sr_wk (sr_mono (mc := 0) (ms := 0) (by omega) (by omega) (g9_turnLink_56 l a0 a1 t)) ⟨rfl, ⟨rfl, ⟨rfl, trivial⟩⟩⟩
      · refine sr_iloadn (pc := 17) (n := 2) (by decide +kernel) rfl ?_
        refine sr_aloadn (pc := 18) (n := 0) (by decide +kernel) rfl ?_
        refine sr_gC (pc := 19) (i2 := 0) fg_9_15 (by decide +kernel) (sr_in9 _ (by omega)) (fun _ => rfl) ?_
        refine sr_al' (pc := 22) (ty := 1) (n := 48) (v := 48) rfl (by decide) (by decide +kernel) (sr_in18 _ (by omega)) (by decide) ?_
        refine sr_icmp_ge (pc := 23) (off := 33) (tg := 56) (by decide +kernel) (by decide) (fun _ => ?_) (fun _ => ?_)
        · exact sr_wk (sr_mono (mc := 0) (ms := 0) (by omega) (by omega) (g9_turnLink_56 l a0 a1 t)) ⟨rfl, ⟨rfl, ⟨rfl, trivial⟩⟩⟩
        · refine sr_aloadn (pc := 26) (n := 0) (by decide +kernel) rfl ?_
          refine sr_gC (pc := 27) (i2 := 0) fg_9_15 (by decide +kernel) (sr_in9 _ (by omega)) (fun _ => rfl) ?_
          refine sr_iloadn (pc := 30) (n := 1) (by decide +kernel) rfl ?_
          refine sr_dup2 (pc := 31) (by decide +kernel) rfl rfl ?_
          refine sr_aL (pc := 32) (n := 48) rfl (by decide +kernel) (sr_in18 _ (by omega)) (fun _ _ => rfl) ?_
          refine sr_iloadn (pc := 33) (n := 2) (by decide +kernel) rfl ?_
          refine sr_cS (pc := 34) (As := [sr_i a1]) (mc1 := 0) (ms1 := 0) (mc2 := 0) (ms2 := 0) fm_9_75 fl_9_75 (by decide +kernel) (rm_9_turnLink_9_stationBit) rfl rfl rfl (C9_stationBit l a1 t) ?_
          refine sr_kL (fun v1 t1 => ?_)
          refine sr_ldc2 (pc := 37) (n := 83) (v := -1) (by decide +kernel) (sr_tb (n := 1135) (by decide +kernel) rfl) ?_
          refine sr_lxor (pc := 40) (by decide +kernel) ?_
          refine sr_land (pc := 41) (by decide +kernel) ?_
          refine sr_sL (pc := 42) (n := 48) rfl (by decide +kernel) (sr_in18 _ (by omega)) (fun _ _ => rfl) (fun t2 => ?_)
          refine sr_aloadn (pc := 43) (n := 0) (by decide +kernel) rfl ?_
          refine sr_gC (pc := 44) (i2 := 0) fg_9_15 (by decide +kernel) (sr_in9 _ (by omega)) (fun _ => rfl) ?_
          refine sr_iloadn (pc := 47) (n := 2) (by decide +kernel) rfl ?_
          refine sr_dup2 (pc := 48) (by decide +kernel) rfl rfl ?_
          refine sr_aL (pc := 49) (n := 48) rfl (by decide +kernel) (sr_in18 _ (by omega)) (fun _ _ => rfl) ?_
          refine sr_iloadn (pc := 50) (n := 1) (by decide +kernel) rfl ?_
          refine sr_cS (pc := 51) (As := [sr_i a0]) (mc1 := 0) (ms1 := 0) (mc2 := 0) (ms2 := 0) fm_9_75 fl_9_75 (by decide +kernel) (rm_9_turnLink_9_stationBit) rfl rfl rfl (C9_stationBit l a0 t2) ?_
          refine sr_kL (fun v3 t3 => ?_)
          refine sr_lor (pc := 54) (by decide +kernel) ?_
          refine sr_sL (pc := 55) (n := 48) rfl (by decide +kernel) (sr_in18 _ (by omega)) (fun _ _ => rfl) (fun t4 => ?_)
          exact sr_wk (sr_mono (mc := 0) (ms := 0) (by omega) (by omega) (g9_turnLink_56 l a0 a1 t4)) ⟨rfl, ⟨rfl, ⟨rfl, trivial⟩⟩⟩
def f9_turnWay_40 (a0 : Int32) (a1 : Int32) (k5 : Int32 → Int32 → sr_t → sr_Rs) (k58 : sr_t → sr_Rs) : Int32 → Int32 → Int32 → sr_t → sr_Rs := fun x3 x4 xs0 t => (sr_bV (F9_turnLink xs0 x3 t) (fun t1 => k5 xs0 (x4 + 1) t1))
theorem g9_turnWay_40 (l : Launch) (a0 : Int32) (a1 : Int32)  (k5 : Int32 → Int32 → sr_t → sr_Rs) (k58 : sr_t → sr_Rs) (hk5 : ∀ (x3 : Int32) (x4 : Int32), ∀ (t : sr_t), sr_g l sr_m9_turnWay 5 [some (sr_r 9 0), some (sr_i a0), some (sr_i a1), some (sr_i x3), some (sr_i x4), none] [] t (k5 x3 x4 t) 0 0) (hk58 : ∀ (t : sr_t), sr_g l sr_m9_turnWay 58 [some (sr_r 9 0), some (sr_i a0), some (sr_i a1), none, none, none] [] t (k58 t) 0 0) : ∀ (x3 : Int32) (x4 : Int32) (xs0 : Int32), ∀ (t : sr_t), sr_g l sr_m9_turnWay 40 [some (sr_r 9 0), some (sr_i a0), some (sr_i a1), some (sr_i x3), some (sr_i x4), none] [sr_i xs0] t (f9_turnWay_40 a0 a1 k5 k58 x3 x4 xs0 t) 0 0 := by
  intro x3 x4 xs0  t
  unfold f9_turnWay_40
  refine sr_istore (pc := 40) (i := 5) (by decide +kernel) (by decide) rfl rfl ?_
  refine sr_aloadn (pc := 42) (n := 0) (by decide +kernel) rfl ?_
  refine sr_iload (pc := 43) (i := 5) (by decide +kernel) rfl ?_
  refine sr_iloadn (pc := 45) (n := 3) (by decide +kernel) rfl ?_
  refine sr_cV (pc := 46) (As := [sr_i xs0, sr_i x3]) (mc1 := 0) (ms1 := 0) (mc2 := 0) (ms2 := 0) fm_9_89 fl_9_89 (by decide +kernel) (sr_in9 _ (by omega)) (rm_9_turnWay_9_turnLink) rfl rfl rfl (C9_turnLink l xs0 x3 t) ?_
  refine sr_kV (fun t1 => ?_)
  refine sr_iload (pc := 49) (i := 5) (by decide +kernel) rfl ?_
  refine sr_istoren (pc := 51) (n := 3) (by decide +kernel) (by decide) rfl rfl ?_
  refine sr_iinc (pc := 52) (i := 4) (n := 1) (w := x4 + 1) (by decide +kernel) rfl rfl (by decide) rfl rfl ?_
  refine sr_goto (pc := 55) (off := (-50)) (tg := 5) (by decide +kernel) (by decide) ?_
  exact sr_wk (sr_mono (mc := 0) (ms := 0) (by omega) (by omega) (hk5 xs0 (x4 + 1) t1)) ⟨rfl, ⟨rfl, ⟨rfl, ⟨rfl, ⟨rfl, trivial⟩⟩⟩⟩⟩
def f9_turnWay_39 (a0 : Int32) (a1 : Int32) (k5 : Int32 → Int32 → sr_t → sr_Rs) (k58 : sr_t → sr_Rs) : Int32 → Int32 → sr_t → sr_Rs := fun x3 x4 t => f9_turnWay_40 a0 a1 k5 k58 x3 x4 a0 t
theorem g9_turnWay_39 (l : Launch) (a0 : Int32) (a1 : Int32)  (k5 : Int32 → Int32 → sr_t → sr_Rs) (k58 : sr_t → sr_Rs) (hk5 : ∀ (x3 : Int32) (x4 : Int32), ∀ (t : sr_t), sr_g l sr_m9_turnWay 5 [some (sr_r 9 0), some (sr_i a0), some (sr_i a1), some (sr_i x3), some (sr_i x4), none] [] t (k5 x3 x4 t) 0 0) (hk58 : ∀ (t : sr_t), sr_g l sr_m9_turnWay 58 [some (sr_r 9 0), some (sr_i a0), some (sr_i a1), none, none, none] [] t (k58 t) 0 0) : ∀ (x3 : Int32) (x4 : Int32), ∀ (t : sr_t), sr_g l sr_m9_turnWay 39 [some (sr_r 9 0), some (sr_i a0), some (sr_i a1), some (sr_i x3), some (sr_i x4), none] [] t (f9_turnWay_39 a0 a1 k5 k58 x3 x4 t) 0 0 := by
  intro x3 x4  t
  unfold f9_turnWay_39
  refine sr_iloadn (pc := 39) (n := 1) (by decide +kernel) rfl ?_
  exact sr_wk (sr_mono (mc := 0) (ms := 0) (by omega) (by omega) (g9_turnWay_40 l a0 a1 k5 k58 hk5 hk58 x3 x4 a0 t)) ⟨rfl, ⟨rfl, ⟨rfl, ⟨rfl, ⟨rfl, trivial⟩⟩⟩⟩⟩
def f9_turnWay_5 (a0 : Int32) (a1 : Int32) (k58 : sr_t → sr_Rs) : Nat → Int32 → Int32 → sr_t → sr_Rs
  | 0 => fun _ _ _ => none
  | n + 1 => fun x3 x4 t => (if 48 ≤ x4 then k58 t else (if x3 = a0 then k58 t else (if x3 < 0 then f9_turnWay_39 a0 a1 (f9_turnWay_5 a0 a1 k58 n) k58 x3 x4 t else (if 48 ≤ x3 then f9_turnWay_39 a0 a1 (f9_turnWay_5 a0 a1 k58 n) k58 x3 x4 t else (if x3 < 0 ∨ 48 ≤ x3.toNatClampNeg then none else f9_turnWay_40 a0 a1 (f9_turnWay_5 a0 a1 k58 n) k58 x3 x4 (t.1 19 0 x3.toNatClampNeg) t)))))
theorem g9_turnWay_5 (l : Launch) (a0 : Int32) (a1 : Int32)  (k58 : sr_t → sr_Rs) (hk58 : ∀ (t : sr_t), sr_g l sr_m9_turnWay 58 [some (sr_r 9 0), some (sr_i a0), some (sr_i a1), none, none, none] [] t (k58 t) 0 0) : ∀ (n : Nat) (x3 : Int32) (x4 : Int32), ∀ (t : sr_t), sr_g l sr_m9_turnWay 5 [some (sr_r 9 0), some (sr_i a0), some (sr_i a1), some (sr_i x3), some (sr_i x4), none] [] t (f9_turnWay_5 a0 a1 k58 n x3 x4 t) 0 0 := by
  intro n
  induction n with
  | zero => intros; exact sr_Gn
  | succ n ih =>
    intro x3 x4  t
    unfold f9_turnWay_5
    refine sr_iload (pc := 5) (i := 4) (by decide +kernel) rfl ?_
    refine sr_bipush (pc := 7) (n := 48) (v := 48) (by decide +kernel) (by decide) ?_
    refine sr_icmp_ge (pc := 9) (off := 49) (tg := 58) (by decide +kernel) (by decide) (fun _ => ?_) (fun _ => ?_)
    · exact sr_wk (sr_mono (mc := 0) (ms := 0) (by omega) (by omega) (hk58 t)) ⟨rfl, ⟨rfl, ⟨rfl, trivial⟩⟩⟩
    · refine sr_iloadn (pc := 12) (n := 3) (by decide +kernel) rfl ?_
      refine sr_iloadn (pc := 13) (n := 1) (by decide +kernel) rfl ?_
      refine sr_icmp_eq (pc := 14) (off := 44) (tg := 58) (by decide +kernel) (by decide) (fun _ => ?_) (fun _ => ?_)
      · exact sr_wk (sr_mono (mc := 0) (ms := 0) (by omega) (by omega) (hk58 t)) ⟨rfl, ⟨rfl, ⟨rfl, trivial⟩⟩⟩
      · refine sr_iloadn (pc := 17) (n := 3) (by decide +kernel) rfl ?_
        refine sr_if_lt (pc := 18) (off := 21) (tg := 39) (by decide +kernel) (by decide) (fun _ => ?_) (fun _ => ?_)
        · exact sr_wk (sr_mono (mc := 0) (ms := 0) (by omega) (by omega) (g9_turnWay_39 l a0 a1 (f9_turnWay_5 a0 a1 k58 n) k58 ih hk58 x3 x4 t)) ⟨rfl, ⟨rfl, ⟨rfl, ⟨rfl, ⟨rfl, trivial⟩⟩⟩⟩⟩
        · refine sr_iloadn (pc := 21) (n := 3) (by decide +kernel) rfl ?_
          refine sr_aloadn (pc := 22) (n := 0) (by decide +kernel) rfl ?_
          refine sr_gC (pc := 23) (i2 := 0) fg_9_19 (by decide +kernel) (sr_in9 _ (by omega)) (fun _ => rfl) ?_
          refine sr_al' (pc := 26) (ty := 0) (n := 48) (v := 48) rfl (by decide) (by decide +kernel) (sr_in19 _ (by omega)) (by decide) ?_
          refine sr_icmp_ge (pc := 27) (off := 12) (tg := 39) (by decide +kernel) (by decide) (fun _ => ?_) (fun _ => ?_)
          · exact sr_wk (sr_mono (mc := 0) (ms := 0) (by omega) (by omega) (g9_turnWay_39 l a0 a1 (f9_turnWay_5 a0 a1 k58 n) k58 ih hk58 x3 x4 t)) ⟨rfl, ⟨rfl, ⟨rfl, ⟨rfl, ⟨rfl, trivial⟩⟩⟩⟩⟩
          · refine sr_aloadn (pc := 30) (n := 0) (by decide +kernel) rfl ?_
            refine sr_gC (pc := 31) (i2 := 0) fg_9_19 (by decide +kernel) (sr_in9 _ (by omega)) (fun _ => rfl) ?_
            refine sr_iloadn (pc := 34) (n := 3) (by decide +kernel) rfl ?_
            refine sr_aI (pc := 35) (n := 48) rfl (by decide +kernel) (sr_in19 _ (by omega)) (fun _ _ => rfl) ?_
            refine sr_goto (pc := 36) (off := 4) (tg := 40) (by decide +kernel) (by decide) ?_
            exact sr_wk (sr_mono (mc := 0) (ms := 0) (by omega) (by omega) (g9_turnWay_40 l a0 a1 (f9_turnWay_5 a0 a1 k58 n) k58 ih hk58 x3 x4 (t.1 19 0 x3.toNatClampNeg) t)) ⟨rfl, ⟨rfl, ⟨rfl, ⟨rfl, ⟨rfl, trivial⟩⟩⟩⟩⟩
def f9_turnWay_58 (a0 : Int32) (a1 : Int32)  : sr_t → sr_Rs := fun  t => (some (.inl none, t))
theorem g9_turnWay_58 (l : Launch) (a0 : Int32) (a1 : Int32)    : ∀ (t : sr_t), sr_g l sr_m9_turnWay 58 [some (sr_r 9 0), some (sr_i a0), some (sr_i a1), none, none, none] [] t (f9_turnWay_58 a0 a1   t) 0 0 := by
  intro t
  unfold f9_turnWay_58
  exact sr_ret (pc := 58) (by decide +kernel) rfl
def F9_turnWay (a0 : Int32) (a1 : Int32) (t : sr_t) : sr_Rs := f9_turnWay_5 a0 a1 (f9_turnWay_58 a0 a1) sr_fu a1 0 t
theorem C9_turnWay (l : Launch) (a0 : Int32) (a1 : Int32)  (t : sr_t) : sr_ct' l sr_m9_turnWay [sr_r 9 0, sr_i a0, sr_i a1] t (F9_turnWay a0 a1 t) 0 0 := by
  refine sr_T_of (L0 := [some (sr_r 9 0), some (sr_i a0), some (sr_i a1), none, none, none]) rfl (by decide +kernel) (fun _ => rfl) (fun _ => Nat.le_of_ble_eq_true rfl) ?_
  unfold F9_turnWay
  refine sr_iloadn (pc := 0) (n := 2) (by decide +kernel) rfl ?_
  refine sr_istoren (pc := 1) (n := 3) (by decide +kernel) (by decide) rfl rfl ?_
  refine sr_iconst (pc := 2) (n := 0) (v := 0) (by decide +kernel) rfl ?_
  refine sr_istore (pc := 3) (i := 4) (by decide +kernel) (by decide) rfl rfl ?_
  exact sr_wk (sr_mono (mc := 0) (ms := 0) (by omega) (by omega) (g9_turnWay_5 l a0 a1 (f9_turnWay_58 a0 a1) (g9_turnWay_58 l a0 a1) sr_fu a1 0 t)) ⟨rfl, ⟨rfl, ⟨rfl, ⟨rfl, ⟨rfl, trivial⟩⟩⟩⟩⟩
def f9_waysApart_12 (i1 : Nat) (a1 : Int32) (a2 : Int32) (k46 : Int32 → sr_t → sr_Rs) : Nat → Int32 → sr_t → sr_Rs
  | 0 => fun _ _ => none
  | n + 1 => fun x4 t => (if 24 ≤ x4 then k46 x4 t else (sr_bI (F9_findWay (24 + a1) a2 t) (fun v1 t1 => (if v1 = 0 then k46 x4 t1 else (sr_bV (F9_turnWay (24 + a1) a2 t1) (fun t2 => (f9_waysApart_12 i1 a1 a2 k46 n) (x4 + 1) t2))))))
theorem g9_waysApart_12 (l : Launch) (i1 : Nat) (a1 : Int32) (a2 : Int32) (hv_i1 : i1 < 2) (k46 : Int32 → sr_t → sr_Rs) (hk46 : ∀ (x4 : Int32), ∀ (t : sr_t), sr_g l sr_m9_waysApart 46 [some (sr_r 9 0), some (sr_r 3 i1), some (sr_i a1), some (sr_i a2), some (sr_i x4)] [] t (k46 x4 t) 0 0) : ∀ (n : Nat) (x4 : Int32), ∀ (t : sr_t), sr_g l sr_m9_waysApart 12 [some (sr_r 9 0), some (sr_r 3 i1), some (sr_i a1), some (sr_i a2), some (sr_i x4)] [] t (f9_waysApart_12 i1 a1 a2 k46 n x4 t) 0 0 := by
  intro n
  induction n with
  | zero => intros; exact sr_Gn
  | succ n ih =>
    intro x4  t
    unfold f9_waysApart_12
    refine sr_iload (pc := 12) (i := 4) (by decide +kernel) rfl ?_
    refine sr_bipush (pc := 14) (n := 24) (v := 24) (by decide +kernel) (by decide) ?_
    refine sr_icmp_ge (pc := 16) (off := 30) (tg := 46) (by decide +kernel) (by decide) (fun _ => ?_) (fun _ => ?_)
    · exact sr_wk (sr_mono (mc := 0) (ms := 0) (by omega) (by omega) (hk46 x4 t)) ⟨rfl, ⟨rfl, ⟨rfl, ⟨rfl, ⟨rfl, trivial⟩⟩⟩⟩⟩
    · refine sr_aloadn (pc := 19) (n := 0) (by decide +kernel) rfl ?_
      refine sr_bipush (pc := 20) (n := 24) (v := 24) (by decide +kernel) (by decide) ?_
      refine sr_iloadn (pc := 22) (n := 2) (by decide +kernel) rfl ?_
      refine sr_iadd (pc := 23) (by decide +kernel) ?_
      refine sr_iloadn (pc := 24) (n := 3) (by decide +kernel) rfl ?_
      refine sr_cV (pc := 25) (As := [sr_i (24 + a1), sr_i a2]) (mc1 := 0) (ms1 := 0) (mc2 := 0) (ms2 := 0) fm_9_68 fl_9_68 (by decide +kernel) (sr_in9 _ (by omega)) (rm_9_waysApart_9_findWay) rfl rfl rfl (C9_findWay l (24 + a1) a2 t) ?_
      refine sr_kI (fun v1 t1 => ?_)
      refine sr_if_eq (pc := 28) (off := 18) (tg := 46) (by decide +kernel) (by decide) (fun _ => ?_) (fun _ => ?_)
      · exact sr_wk (sr_mono (mc := 0) (ms := 0) (by omega) (by omega) (hk46 x4 t1)) ⟨rfl, ⟨rfl, ⟨rfl, ⟨rfl, ⟨rfl, trivial⟩⟩⟩⟩⟩
      · refine sr_aloadn (pc := 31) (n := 0) (by decide +kernel) rfl ?_
        refine sr_bipush (pc := 32) (n := 24) (v := 24) (by decide +kernel) (by decide) ?_
        refine sr_iloadn (pc := 34) (n := 2) (by decide +kernel) rfl ?_
        refine sr_iadd (pc := 35) (by decide +kernel) ?_
        refine sr_iloadn (pc := 36) (n := 3) (by decide +kernel) rfl ?_
        refine sr_cV (pc := 37) (As := [sr_i (24 + a1), sr_i a2]) (mc1 := 0) (ms1 := 0) (mc2 := 0) (ms2 := 0) fm_9_71 fl_9_71 (by decide +kernel) (sr_in9 _ (by omega)) (rm_9_waysApart_9_turnWay) rfl rfl rfl (C9_turnWay l (24 + a1) a2 t1) ?_
        refine sr_kV (fun t2 => ?_)
        refine sr_iinc (pc := 40) (i := 4) (n := 1) (w := x4 + 1) (by decide +kernel) rfl rfl (by decide) rfl rfl ?_
        refine sr_goto (pc := 43) (off := (-31)) (tg := 12) (by decide +kernel) (by decide) ?_
        exact sr_wk (sr_mono (mc := 0) (ms := 0) (by omega) (by omega) (ih (x4 + 1) t2)) ⟨rfl, ⟨rfl, ⟨rfl, ⟨rfl, ⟨rfl, trivial⟩⟩⟩⟩⟩
def f9_waysApart_46 (i1 : Nat) (a1 : Int32) (a2 : Int32)  : Int32 → sr_t → sr_Rs := fun x4 t => (some (.inl (some (sr_i x4)), t))
theorem g9_waysApart_46 (l : Launch) (i1 : Nat) (a1 : Int32) (a2 : Int32) (hv_i1 : i1 < 2)   : ∀ (x4 : Int32), ∀ (t : sr_t), sr_g l sr_m9_waysApart 46 [some (sr_r 9 0), some (sr_r 3 i1), some (sr_i a1), some (sr_i a2), some (sr_i x4)] [] t (f9_waysApart_46 i1 a1 a2  x4 t) 0 0 := by
  intro x4  t
  unfold f9_waysApart_46
  refine sr_iload (pc := 46) (i := 4) (by decide +kernel) rfl ?_
  exact sr_iret (pc := 48) (by decide +kernel) rfl
def F9_waysApart (i1 : Nat) (a1 : Int32) (a2 : Int32) (t : sr_t) : sr_Rs := (sr_bV (F9_readLinks i1 t) (fun t1 => (sr_bV (F9_openStations t1) (fun t2 => f9_waysApart_12 i1 a1 a2 (f9_waysApart_46 i1 a1 a2) sr_fu 0 t2))))
theorem C9_waysApart (l : Launch) (i1 : Nat) (a1 : Int32) (a2 : Int32) (hv_i1 : i1 < 2) (t : sr_t) : sr_ct' l sr_m9_waysApart [sr_r 9 0, sr_r 3 i1, sr_i a1, sr_i a2] t (F9_waysApart i1 a1 a2 t) 0 0 := by
  refine sr_T_of (L0 := [some (sr_r 9 0), some (sr_r 3 i1), some (sr_i a1), some (sr_i a2), none]) rfl (by decide +kernel) (fun _ => rfl) (fun _ => Nat.le_of_ble_eq_true rfl) ?_
  unfold F9_waysApart
  refine sr_aloadn (pc := 0) (n := 0) (by decide +kernel) rfl ?_
  refine sr_aloadn (pc := 1) (n := 1) (by decide +kernel) rfl ?_
  refine sr_cV (pc := 2) (As := [sr_r 3 i1]) (mc1 := 0) (ms1 := 0) (mc2 := 0) (ms2 := 0) fm_9_22 fl_9_22 (by decide +kernel) (sr_in9 _ (by omega)) (rm_9_waysApart_9_readLinks) rfl rfl rfl (C9_readLinks l i1 (by omega) t) ?_
  refine sr_kV (fun t1 => ?_)
  refine sr_aloadn (pc := 5) (n := 0) (by decide +kernel) rfl ?_
  refine sr_cV (pc := 6) (As := []) (mc1 := 0) (ms1 := 0) (mc2 := 0) (ms2 := 0) fm_9_65 fl_9_65 (by decide +kernel) (sr_in9 _ (by omega)) (rm_9_waysApart_9_openStations) rfl rfl rfl (C9_openStations l t1) ?_
  refine sr_kV (fun t2 => ?_)
  refine sr_iconst (pc := 9) (n := 0) (v := 0) (by decide +kernel) rfl ?_
  refine sr_istore (pc := 10) (i := 4) (by decide +kernel) (by decide) rfl rfl ?_
  exact sr_wk (sr_mono (mc := 0) (ms := 0) (by omega) (by omega) (g9_waysApart_12 l i1 a1 a2 hv_i1 (f9_waysApart_46 i1 a1 a2) (g9_waysApart_46 l i1 a1 a2 hv_i1) sr_fu 0 t2)) ⟨rfl, ⟨rfl, ⟨rfl, ⟨rfl, ⟨rfl, trivial⟩⟩⟩⟩⟩
def F10_apart (a0 : Int32) (a1 : Int32) (t : sr_t) : sr_Rs := (sr_bV (F10_needNode a0 t) (fun t1 => (sr_bV (F10_needNode a1 t1) (fun t2 => (if a0 = a1 then (some (.inr 0, t2)) else (sr_bV (F10_needUp a0 t2) (fun t3 => (sr_bV (F10_needUp a1 t3) (fun t4 => (sr_bI (F9_waysApart 0 a0 a1 t4) (fun v5 t5 => (some (.inl (some (sr_i v5)), t5)))))))))))))
theorem C10_apart (l : Launch) (a0 : Int32) (a1 : Int32)  (t : sr_t) : sr_ct' l sr_m10_apart [sr_r 10 0, sr_i a0, sr_i a1] t (F10_apart a0 a1 t) 4 24 := by
  refine sr_T_of (L0 := [some (sr_r 10 0), some (sr_i a0), some (sr_i a1)]) rfl (by decide +kernel) (fun _ => rfl) (fun _ => Nat.le_of_ble_eq_true rfl) ?_
  unfold F10_apart
  refine sr_aloadn (pc := 0) (n := 0) (by decide +kernel) rfl ?_
  refine sr_iloadn (pc := 1) (n := 1) (by decide +kernel) rfl ?_
  refine sr_cV (pc := 2) (As := [sr_i a0]) (mc1 := 1) (ms1 := 6) (mc2 := 3) (ms2 := 18) fm_10_81 fl_10_81 (by decide +kernel) (sr_in10 _ (by omega)) (rm_10_apart_10_needNode) rfl rfl rfl (C10_needNode l a0 t) ?_
  refine sr_kV (fun t1 => ?_)
  refine sr_aloadn (pc := 5) (n := 0) (by decide +kernel) rfl ?_
  refine sr_iloadn (pc := 6) (n := 2) (by decide +kernel) rfl ?_
  refine sr_cV (pc := 7) (As := [sr_i a1]) (mc1 := 1) (ms1 := 6) (mc2 := 2) (ms2 := 12) fm_10_81 fl_10_81 (by decide +kernel) (sr_in10 _ (by omega)) (rm_10_apart_10_needNode) rfl rfl rfl (C10_needNode l a1 t1) ?_
  refine sr_kV (fun t2 => ?_)
  refine sr_iloadn (pc := 10) (n := 1) (by decide +kernel) rfl ?_
  refine sr_iloadn (pc := 11) (n := 2) (by decide +kernel) rfl ?_
  refine sr_icmp_ne (pc := 12) (off := 14) (tg := 26) (by decide +kernel) (by decide) (fun _ => ?_) (fun _ => ?_)
  · refine sr_aloadn (pc := 26) (n := 0) (by decide +kernel) rfl ?_
    refine sr_iloadn (pc := 27) (n := 1) (by decide +kernel) rfl ?_
    refine sr_cV (pc := 28) (As := [sr_i a0]) (mc1 := 1) (ms1 := 6) (mc2 := 1) (ms2 := 6) fm_10_84 fl_10_84 (by decide +kernel) (sr_in10 _ (by omega)) (rm_10_apart_10_needUp) rfl rfl rfl (C10_needUp l a0 t2) ?_
    refine sr_kV (fun t3 => ?_)
    refine sr_aloadn (pc := 31) (n := 0) (by decide +kernel) rfl ?_
    refine sr_iloadn (pc := 32) (n := 2) (by decide +kernel) rfl ?_
    refine sr_cV (pc := 33) (As := [sr_i a1]) (mc1 := 1) (ms1 := 6) (mc2 := 0) (ms2 := 0) fm_10_84 fl_10_84 (by decide +kernel) (sr_in10 _ (by omega)) (rm_10_apart_10_needUp) rfl rfl rfl (C10_needUp l a1 t3) ?_
    refine sr_kV (fun t4 => ?_)
    refine sr_aloadn (pc := 36) (n := 0) (by decide +kernel) rfl ?_
    refine sr_gC (pc := 37) (i2 := 0) fg_10_54 (by decide +kernel) (sr_in10 _ (by omega)) (fun _ => rfl) ?_
    refine sr_aloadn (pc := 40) (n := 0) (by decide +kernel) rfl ?_
    refine sr_gC (pc := 41) (i2 := 0) fg_10_12 (by decide +kernel) (sr_in10 _ (by omega)) (fun _ => rfl) ?_
    refine sr_iloadn (pc := 44) (n := 1) (by decide +kernel) rfl ?_
    refine sr_iloadn (pc := 45) (n := 2) (by decide +kernel) rfl ?_
    refine sr_cV (pc := 46) (As := [sr_r 3 0, sr_i a0, sr_i a1]) (mc1 := 0) (ms1 := 0) (mc2 := 0) (ms2 := 0) fm_10_282 fl_10_282 (by decide +kernel) (sr_in9 _ (by omega)) (rm_10_apart_9_waysApart) rfl rfl rfl (C9_waysApart l 0 a0 a1 (by omega) t4) ?_
    refine sr_kI (fun v5 t5 => ?_)
    exact sr_iret (pc := 49) (by decide +kernel) rfl
  · exact sr_thr (pc := 15) (ik := 138) (is := 280) (ic := 142) (tx := "both are one") (z := 0) (mc := 1) (ms := 6) fx_138_142 (by decide +kernel) (by decide +kernel) (by decide +kernel) (Or.inr ⟨by decide +kernel, by decide +kernel, by decide +kernel⟩) rfl (by decide) (by decide) rfl rfl
def sr_m10_sample : sr_M := (⟨"ShiftRing", "sample", "(ZI)I"⟩, prog_1_method_33_code, 3, (some .int), [], 7, 122)
theorem fg_10_289 : sr_FG "ShiftRing" 289 5 3 11 := ⟨RX5, TX5, tyX5, rfl, by decide, rfl, uw_5, tyX5_ok, nmX5, Or.inr ⟨"ShiftRing", sr_nb (n := 333) (by decide +kernel) rfl⟩⟩
theorem fg_10_290 : sr_FG "ShiftRing" 290 5 4 11 := ⟨RX5, TX5, tyX5, rfl, by decide, rfl, uw_5, tyX5_ok, nmX5, Or.inr ⟨"ShiftRing", sr_nb (n := 335) (by decide +kernel) rfl⟩⟩
theorem fg_10_291 : sr_FG "ShiftRing" 291 5 5 11 := ⟨RX5, TX5, tyX5, rfl, by decide, rfl, uw_5, tyX5_ok, nmX5, Or.inr ⟨"ShiftRing", sr_nb (n := 337) (by decide +kernel) rfl⟩⟩
theorem fg_10_292 : sr_FG "ShiftRing" 292 5 6 11 := ⟨RX5, TX5, tyX5, rfl, by decide, rfl, uw_5, tyX5_ok, nmX5, Or.inr ⟨"ShiftRing", sr_nb (n := 339) (by decide +kernel) rfl⟩⟩
theorem fg_10_293 : sr_FG "ShiftRing" 293 5 7 11 := ⟨RX5, TX5, tyX5, rfl, by decide, rfl, uw_5, tyX5_ok, nmX5, Or.inr ⟨"ShiftRing", sr_nb (n := 342) (by decide +kernel) rfl⟩⟩
theorem fg_10_296 : sr_FG "ShiftRing" 296 5 8 11 := ⟨RX5, TX5, tyX5, rfl, by decide, rfl, uw_5, tyX5_ok, nmX5, Or.inr ⟨"ShiftRing", sr_nb (n := 345) (by decide +kernel) rfl⟩⟩
theorem fg_10_299 : sr_FG "ShiftRing" 299 5 9 11 := ⟨RX5, TX5, tyX5, rfl, by decide, rfl, uw_5, tyX5_ok, nmX5, Or.inr ⟨"ShiftRing", sr_nb (n := 347) (by decide +kernel) rfl⟩⟩
theorem fg_10_300 : sr_FG "ShiftRing" 300 5 10 11 := ⟨RX5, TX5, tyX5, rfl, by decide, rfl, uw_5, tyX5_ok, nmX5, Or.inr ⟨"ShiftRing", sr_nb (n := 349) (by decide +kernel) rfl⟩⟩
theorem rm_10_sample_10_needWhat : sr_RM sr_m10_sample sr_m10_needWhat := ⟨Nat.le_of_ble_eq_true rfl, Nat.le_of_ble_eq_true rfl⟩
theorem rm_10_sample_5_run : sr_RM sr_m10_sample sr_m5_run := ⟨Nat.le_of_ble_eq_true rfl, Nat.le_of_ble_eq_true rfl⟩
def F10_sample (a0 : Int32) (a1 : Int32) (t : sr_t) : sr_Rs := (sr_bV (F10_needWhat a1 7 t) (fun t1 => (sr_bV (F5_run 0 a0 0 t1) (fun t2 => (sr_sw 0 6 a1 ((some (.inl (some (sr_i (t2.1 5 0 10))), t2))) (fun j => match j with | 0 => (some (.inl (some (sr_i (t2.1 5 0 3))), t2)) | 1 => (some (.inl (some (sr_i (t2.1 5 0 4))), t2)) | 2 => (some (.inl (some (sr_i (t2.1 5 0 5))), t2)) | 3 => (some (.inl (some (sr_i (t2.1 5 0 6))), t2)) | 4 => (some (.inl (some (sr_i (t2.1 5 0 7))), t2)) | 5 => (some (.inl (some (sr_i (t2.1 5 0 8))), t2)) | 6 => (some (.inl (some (sr_i (t2.1 5 0 9))), t2)) | _ => none))))))
theorem C10_sample (l : Launch) (a0 : Int32) (a1 : Int32)  (t : sr_t) : sr_ct' l sr_m10_sample [sr_r 10 0, sr_i a0, sr_i a1] t (F10_sample a0 a1 t) 1 6 := by
  refine sr_T_of (L0 := [some (sr_r 10 0), some (sr_i a0), some (sr_i a1)]) rfl (by decide +kernel) (fun _ => rfl) (fun _ => Nat.le_of_ble_eq_true rfl) ?_
  unfold F10_sample
  refine sr_iloadn (pc := 0) (n := 2) (by decide +kernel) rfl ?_
  refine sr_bipush (pc := 1) (n := 7) (v := 7) (by decide +kernel) (by decide) ?_
  refine sr_cS (pc := 3) (As := [sr_i a1, sr_i 7]) (mc1 := 1) (ms1 := 6) (mc2 := 0) (ms2 := 0) fm_10_150 fl_10_150 (by decide +kernel) (rm_10_sample_10_needWhat) rfl rfl rfl (C10_needWhat l a1 7 t) ?_
  refine sr_kV (fun t1 => ?_)
  refine sr_aloadn (pc := 6) (n := 0) (by decide +kernel) rfl ?_
  refine sr_gC (pc := 7) (i2 := 0) fg_10_38 (by decide +kernel) (sr_in10 _ (by omega)) (fun _ => rfl) ?_
  refine sr_aloadn (pc := 10) (n := 0) (by decide +kernel) rfl ?_
  refine sr_gC (pc := 11) (i2 := 0) fg_10_12 (by decide +kernel) (sr_in10 _ (by omega)) (fun _ => rfl) ?_
  refine sr_iloadn (pc := 14) (n := 1) (by decide +kernel) rfl ?_
  refine sr_iconst (pc := 15) (n := 0) (v := 0) (by decide +kernel) rfl ?_
  refine sr_cV (pc := 16) (As := [sr_r 3 0, sr_i a0, sr_i 0]) (mc1 := 0) (ms1 := 0) (mc2 := 0) (ms2 := 0) fm_10_285 fl_10_285 (by decide +kernel) (sr_in5 _ (by omega)) (rm_10_sample_5_run) rfl rfl rfl (C5_run l 0 a0 0 (by omega) t1) ?_
  refine sr_kV (fun t2 => ?_)
  refine sr_iloadn (pc := 19) (n := 2) (by decide +kernel) rfl ?_
  refine sr_tsw2 (pc := 20) (u := a1) (dflt := 100) (lo := 0) (hi := 6) (offs := #[44, 52, 60, 68, 76, 84, 92]) (len := 44) (tg := 120) (by decide +kernel) (by decide) (by decide) (fun _ => ?_) (fun j off ho _ => ?_)
  · refine sr_aloadn (pc := 120) (n := 0) (by decide +kernel) rfl ?_
    refine sr_gC (pc := 121) (i2 := 0) fg_10_38 (by decide +kernel) (sr_in10 _ (by omega)) (fun _ => rfl) ?_
    refine sr_gI (pc := 124) fg_10_300 (by decide +kernel) (sr_in5 _ (by omega)) (fun _ => rfl) ?_
    exact sr_iret (pc := 127) (by decide +kernel) rfl
  · rcases j with _ | _ | _ | _ | _ | _ | _ | j
    · cases ho
      refine ⟨64, by decide, ?_⟩
      refine sr_aloadn (pc := 64) (n := 0) (by decide +kernel) rfl ?_
      refine sr_gC (pc := 65) (i2 := 0) fg_10_38 (by decide +kernel) (sr_in10 _ (by omega)) (fun _ => rfl) ?_
      refine sr_gI (pc := 68) fg_10_289 (by decide +kernel) (sr_in5 _ (by omega)) (fun _ => rfl) ?_
      exact sr_iret (pc := 71) (by decide +kernel) rfl
    · cases ho
      refine ⟨72, by decide, ?_⟩
      refine sr_aloadn (pc := 72) (n := 0) (by decide +kernel) rfl ?_
      refine sr_gC (pc := 73) (i2 := 0) fg_10_38 (by decide +kernel) (sr_in10 _ (by omega)) (fun _ => rfl) ?_
      refine sr_gI (pc := 76) fg_10_290 (by decide +kernel) (sr_in5 _ (by omega)) (fun _ => rfl) ?_
      exact sr_iret (pc := 79) (by decide +kernel) rfl
    · cases ho
      refine ⟨80, by decide, ?_⟩
      refine sr_aloadn (pc := 80) (n := 0) (by decide +kernel) rfl ?_
      refine sr_gC (pc := 81) (i2 := 0) fg_10_38 (by decide +kernel) (sr_in10 _ (by omega)) (fun _ => rfl) ?_
      refine sr_gI (pc := 84) fg_10_291 (by decide +kernel) (sr_in5 _ (by omega)) (fun _ => rfl) ?_
      exact sr_iret (pc := 87) (by decide +kernel) rfl
    · cases ho
      refine ⟨88, by decide, ?_⟩
      refine sr_aloadn (pc := 88) (n := 0) (by decide +kernel) rfl ?_
      refine sr_gC (pc := 89) (i2 := 0) fg_10_38 (by decide +kernel) (sr_in10 _ (by omega)) (fun _ => rfl) ?_
      refine sr_gI (pc := 92) fg_10_292 (by decide +kernel) (sr_in5 _ (by omega)) (fun _ => rfl) ?_
      exact sr_iret (pc := 95) (by decide +kernel) rfl
    · cases ho
      refine ⟨96, by decide, ?_⟩
      refine sr_aloadn (pc := 96) (n := 0) (by decide +kernel) rfl ?_
      refine sr_gC (pc := 97) (i2 := 0) fg_10_38 (by decide +kernel) (sr_in10 _ (by omega)) (fun _ => rfl) ?_
      refine sr_gI (pc := 100) fg_10_293 (by decide +kernel) (sr_in5 _ (by omega)) (fun _ => rfl) ?_
      exact sr_iret (pc := 103) (by decide +kernel) rfl
    · cases ho
      refine ⟨104, by decide, ?_⟩
      refine sr_aloadn (pc := 104) (n := 0) (by decide +kernel) rfl ?_
      refine sr_gC (pc := 105) (i2 := 0) fg_10_38 (by decide +kernel) (sr_in10 _ (by omega)) (fun _ => rfl) ?_
      refine sr_gI (pc := 108) fg_10_296 (by decide +kernel) (sr_in5 _ (by omega)) (fun _ => rfl) ?_
      exact sr_iret (pc := 111) (by decide +kernel) rfl
    · cases ho
      refine ⟨112, by decide, ?_⟩
      refine sr_aloadn (pc := 112) (n := 0) (by decide +kernel) rfl ?_
      refine sr_gC (pc := 113) (i2 := 0) fg_10_38 (by decide +kernel) (sr_in10 _ (by omega)) (fun _ => rfl) ?_
      refine sr_gI (pc := 116) fg_10_299 (by decide +kernel) (sr_in5 _ (by omega)) (fun _ => rfl) ?_
      exact sr_iret (pc := 119) (by decide +kernel) rfl
    · simp at ho
def sr_m1_runLaidBy : sr_M := (⟨"ShiftRing$Forecast", "runLaidBy", "(II)V"⟩, prog_3_method_3_code, 3, none, [], 5, 122)
def sr_m1_costOf : sr_M := (⟨"ShiftRing$Forecast", "costOf", "(LShiftRing$Ring;II)I"⟩, prog_3_method_2_code, 4, (some .int), [], 6, 144)
def sr_m10_cost : sr_M := (⟨"ShiftRing", "cost", "(II)I"⟩, prog_1_method_36_code, 3, (some .int), [], 7, 167)
theorem fg_1_40 : sr_FG "ShiftRing$Forecast" 40 3 8 9 := ⟨RX3, TX3, tyX3, rfl, by decide, rfl, uw_3, tyX3_ok, nmX3, Or.inr ⟨"ShiftRing", sr_nb (n := 173) (by decide +kernel) rfl⟩⟩
theorem fl_10_309 : Cond.methodLink "ShiftRing" 309 (sr_My sr_m1_costOf) ∈ sr_TB := (sr_tb (n := 1162) (by decide +kernel) rfl)
theorem fm_10_309 : sr_FV "ShiftRing" 309 sr_m1_costOf 1 3 := ⟨⟨rfl, sr_tb (n := 1165) (by decide +kernel) rfl, sr_tb (n := 10) (by decide +kernel) rfl, ⟨by decide, by decide, by decide +kernel⟩, Or.inl fl_10_309⟩, ⟨TX1, 2, rfl, rfl⟩, sr_tb (n := 1163) (by decide +kernel) rfl, sr_tb (n := 1164) (by decide +kernel) rfl⟩
theorem fl_1_26 : Cond.methodLink "ShiftRing$Forecast" 26 (sr_My sr_m1_runLaidBy) ∈ sr_TB := (sr_tb (n := 1166) (by decide +kernel) rfl)
theorem fm_1_26 : sr_FV "ShiftRing$Forecast" 26 sr_m1_runLaidBy 1 2 := ⟨⟨rfl, sr_tb (n := 1169) (by decide +kernel) rfl, sr_tb (n := 10) (by decide +kernel) rfl, ⟨by decide, by decide, by decide +kernel⟩, Or.inl fl_1_26⟩, ⟨TX1, 2, rfl, rfl⟩, sr_tb (n := 1168) (by decide +kernel) rfl, sr_ts (n := 34) (by decide +kernel) rfl⟩
theorem fl_1_36 : Cond.methodLink "ShiftRing$Forecast" 36 (sr_My sr_m3_setBase) ∈ sr_TB := (sr_tb (n := 1170) (by decide +kernel) rfl)
theorem fm_1_36 : sr_FV "ShiftRing$Forecast" 36 sr_m3_setBase 3 1 := ⟨⟨rfl, sr_tb (n := 147) (by decide +kernel) rfl, sr_tb (n := 2) (by decide +kernel) rfl, ⟨by decide, by decide, by decide +kernel⟩, Or.inl fl_1_36⟩, ⟨TX3, 9, rfl, rfl⟩, sr_tb (n := 145) (by decide +kernel) rfl, sr_tb (n := 146) (by decide +kernel) rfl⟩
theorem fl_1_43 : Cond.methodLink "ShiftRing$Forecast" 43 (sr_My sr_m3_layAllAgain) ∈ sr_TB := (sr_tb (n := 1171) (by decide +kernel) rfl)
theorem fm_1_43 : sr_FV "ShiftRing$Forecast" 43 sr_m3_layAllAgain 3 0 := ⟨⟨rfl, sr_tb (n := 481) (by decide +kernel) rfl, sr_tb (n := 2) (by decide +kernel) rfl, ⟨by decide, by decide, by decide +kernel⟩, Or.inl fl_1_43⟩, ⟨TX3, 9, rfl, rfl⟩, sr_tb (n := 479) (by decide +kernel) rfl, sr_tb (n := 480) (by decide +kernel) rfl⟩
theorem rm_10_cost_10_needBase : sr_RM sr_m10_cost sr_m10_needBase := ⟨Nat.le_of_ble_eq_true rfl, Nat.le_of_ble_eq_true rfl⟩
theorem rm_10_cost_10_needDegree : sr_RM sr_m10_cost sr_m10_needDegree := ⟨Nat.le_of_ble_eq_true rfl, Nat.le_of_ble_eq_true rfl⟩
theorem rm_10_cost_1_costOf : sr_RM sr_m10_cost sr_m1_costOf := ⟨Nat.le_of_ble_eq_true rfl, Nat.le_of_ble_eq_true rfl⟩
theorem rm_1_costOf_1_runLaidBy : sr_RM sr_m1_costOf sr_m1_runLaidBy := ⟨Nat.le_of_ble_eq_true rfl, Nat.le_of_ble_eq_true rfl⟩
theorem rm_1_costOf_3_copyFrom : sr_RM sr_m1_costOf sr_m3_copyFrom := ⟨Nat.le_of_ble_eq_true rfl, Nat.le_of_ble_eq_true rfl⟩
theorem rm_1_runLaidBy_3_layAllAgain : sr_RM sr_m1_runLaidBy sr_m3_layAllAgain := ⟨Nat.le_of_ble_eq_true rfl, Nat.le_of_ble_eq_true rfl⟩
theorem rm_1_runLaidBy_3_setBase : sr_RM sr_m1_runLaidBy sr_m3_setBase := ⟨Nat.le_of_ble_eq_true rfl, Nat.le_of_ble_eq_true rfl⟩
theorem rm_1_runLaidBy_5_run : sr_RM sr_m1_runLaidBy sr_m5_run := ⟨Nat.le_of_ble_eq_true rfl, Nat.le_of_ble_eq_true rfl⟩
def F1_runLaidBy (a0 : Int32) (a1 : Int32) (t : sr_t) : sr_Rs := (sr_bV (F3_setBase 1 a0 t) (fun t1 => (sr_lt (sr_u t1 3 1 8 a1) (fun t2 => (sr_bV (F3_layAllAgain 1 t2) (fun t3 => (sr_bV (F5_run 1 1 0 t3) (fun t4 => (some (.inl none, t4))))))))))
theorem C1_runLaidBy (l : Launch) (a0 : Int32) (a1 : Int32)  (t : sr_t) : sr_ct' l sr_m1_runLaidBy [sr_r 1 0, sr_i a0, sr_i a1] t (F1_runLaidBy a0 a1 t) 0 0 := by
  refine sr_T_of (L0 := [some (sr_r 1 0), some (sr_i a0), some (sr_i a1)]) rfl (by decide +kernel) (fun _ => rfl) (fun _ => Nat.le_of_ble_eq_true rfl) ?_
  unfold F1_runLaidBy
  refine sr_aloadn (pc := 0) (n := 0) (by decide +kernel) rfl ?_
  refine sr_gC (pc := 1) (i2 := 1) fg_1_12 (by decide +kernel) (sr_in1 _ (by omega)) (fun _ => rfl) ?_
  refine sr_iloadn (pc := 4) (n := 1) (by decide +kernel) rfl ?_
  refine sr_cV (pc := 5) (As := [sr_i a0]) (mc1 := 0) (ms1 := 0) (mc2 := 0) (ms2 := 0) fm_1_36 fl_1_36 (by decide +kernel) (sr_in3 _ (by omega)) (rm_1_runLaidBy_3_setBase) rfl rfl rfl (C3_setBase l 1 a0 (by omega) t) ?_
  refine sr_kV (fun t1 => ?_)
  refine sr_aloadn (pc := 8) (n := 0) (by decide +kernel) rfl ?_
  refine sr_gC (pc := 9) (i2 := 1) fg_1_12 (by decide +kernel) (sr_in1 _ (by omega)) (fun _ => rfl) ?_
  refine sr_iloadn (pc := 12) (n := 2) (by decide +kernel) rfl ?_
  refine sr_pI (pc := 13) fg_1_40 ft_3_8 (by decide +kernel) (sr_in3 _ (by omega)) (fun _ => rfl) (fun t2 => ?_)
  refine sr_aloadn (pc := 16) (n := 0) (by decide +kernel) rfl ?_
  refine sr_gC (pc := 17) (i2 := 1) fg_1_12 (by decide +kernel) (sr_in1 _ (by omega)) (fun _ => rfl) ?_
  refine sr_cV (pc := 20) (As := []) (mc1 := 0) (ms1 := 0) (mc2 := 0) (ms2 := 0) fm_1_43 fl_1_43 (by decide +kernel) (sr_in3 _ (by omega)) (rm_1_runLaidBy_3_layAllAgain) rfl rfl rfl (C3_layAllAgain l 1 (by omega) t2) ?_
  refine sr_kV (fun t3 => ?_)
  refine sr_aloadn (pc := 23) (n := 0) (by decide +kernel) rfl ?_
  refine sr_gC (pc := 24) (i2 := 0) fg_1_18 (by decide +kernel) (sr_in1 _ (by omega)) (fun _ => rfl) ?_
  refine sr_aloadn (pc := 27) (n := 0) (by decide +kernel) rfl ?_
  refine sr_gC (pc := 28) (i2 := 1) fg_1_12 (by decide +kernel) (sr_in1 _ (by omega)) (fun _ => rfl) ?_
  refine sr_iconst (pc := 31) (n := 1) (v := 1) (by decide +kernel) rfl ?_
  refine sr_iconst (pc := 32) (n := 0) (v := 0) (by decide +kernel) rfl ?_
  refine sr_cV (pc := 33) (As := [sr_r 3 1, sr_i 1, sr_i 0]) (mc1 := 0) (ms1 := 0) (mc2 := 0) (ms2 := 0) fm_1_46 fl_1_46 (by decide +kernel) (sr_in5 _ (by omega)) (rm_1_runLaidBy_5_run) rfl rfl rfl (C5_run l 1 1 0 (by omega) t3) ?_
  refine sr_kV (fun t4 => ?_)
  exact sr_ret (pc := 36) (by decide +kernel) rfl
def F1_costOf (i1 : Nat) (a1 : Int32) (a2 : Int32) (t : sr_t) : sr_Rs := (sr_bV (F3_copyFrom 1 i1 t) (fun t1 => (sr_bV (F1_runLaidBy a1 a2 t1) (fun t2 => (some (.inl (some (sr_i (t2.1 5 0 3))), t2))))))
theorem C1_costOf (l : Launch) (i1 : Nat) (a1 : Int32) (a2 : Int32) (hv_i1 : i1 < 2) (t : sr_t) : sr_ct' l sr_m1_costOf [sr_r 1 0, sr_r 3 i1, sr_i a1, sr_i a2] t (F1_costOf i1 a1 a2 t) 0 0 := by
  refine sr_T_of (L0 := [some (sr_r 1 0), some (sr_r 3 i1), some (sr_i a1), some (sr_i a2)]) rfl (by decide +kernel) (fun _ => rfl) (fun _ => Nat.le_of_ble_eq_true rfl) ?_
  unfold F1_costOf
  refine sr_aloadn (pc := 0) (n := 0) (by decide +kernel) rfl ?_
  refine sr_gC (pc := 1) (i2 := 1) fg_1_12 (by decide +kernel) (sr_in1 _ (by omega)) (fun _ => rfl) ?_
  refine sr_aloadn (pc := 4) (n := 1) (by decide +kernel) rfl ?_
  refine sr_cV (pc := 5) (As := [sr_r 3 i1]) (mc1 := 0) (ms1 := 0) (mc2 := 0) (ms2 := 0) fm_1_22 fl_1_22 (by decide +kernel) (sr_in3 _ (by omega)) (rm_1_costOf_3_copyFrom) rfl rfl rfl (C3_copyFrom l 1 i1 (by omega) (by omega) t) ?_
  refine sr_kV (fun t1 => ?_)
  refine sr_aloadn (pc := 8) (n := 0) (by decide +kernel) rfl ?_
  refine sr_iloadn (pc := 9) (n := 2) (by decide +kernel) rfl ?_
  refine sr_iloadn (pc := 10) (n := 3) (by decide +kernel) rfl ?_
  refine sr_cV (pc := 11) (As := [sr_i a1, sr_i a2]) (mc1 := 0) (ms1 := 0) (mc2 := 0) (ms2 := 0) fm_1_26 fl_1_26 (by decide +kernel) (sr_in1 _ (by omega)) (rm_1_costOf_1_runLaidBy) rfl rfl rfl (C1_runLaidBy l a1 a2 t1) ?_
  refine sr_kV (fun t2 => ?_)
  refine sr_aloadn (pc := 14) (n := 0) (by decide +kernel) rfl ?_
  refine sr_gC (pc := 15) (i2 := 0) fg_1_18 (by decide +kernel) (sr_in1 _ (by omega)) (fun _ => rfl) ?_
  refine sr_gI (pc := 18) fg_1_30 (by decide +kernel) (sr_in5 _ (by omega)) (fun _ => rfl) ?_
  exact sr_iret (pc := 21) (by decide +kernel) rfl
def F10_cost (a0 : Int32) (a1 : Int32) (t : sr_t) : sr_Rs := (sr_bV (F10_needBase a0 t) (fun t1 => (sr_bV (F10_needDegree a1 t1) (fun t2 => (sr_bI (F1_costOf 0 a0 a1 t2) (fun v3 t3 => (some (.inl (some (sr_i v3)), t3))))))))
theorem C10_cost (l : Launch) (a0 : Int32) (a1 : Int32)  (t : sr_t) : sr_ct' l sr_m10_cost [sr_r 10 0, sr_i a0, sr_i a1] t (F10_cost a0 a1 t) 2 12 := by
  refine sr_T_of (L0 := [some (sr_r 10 0), some (sr_i a0), some (sr_i a1)]) rfl (by decide +kernel) (fun _ => rfl) (fun _ => Nat.le_of_ble_eq_true rfl) ?_
  unfold F10_cost
  refine sr_iloadn (pc := 0) (n := 1) (by decide +kernel) rfl ?_
  refine sr_cS (pc := 1) (As := [sr_i a0]) (mc1 := 1) (ms1 := 6) (mc2 := 1) (ms2 := 6) fm_10_123 fl_10_123 (by decide +kernel) (rm_10_cost_10_needBase) rfl rfl rfl (C10_needBase l a0 t) ?_
  refine sr_kV (fun t1 => ?_)
  refine sr_iloadn (pc := 4) (n := 2) (by decide +kernel) rfl ?_
  refine sr_cS (pc := 5) (As := [sr_i a1]) (mc1 := 1) (ms1 := 6) (mc2 := 0) (ms2 := 0) fm_10_132 fl_10_132 (by decide +kernel) (rm_10_cost_10_needDegree) rfl rfl rfl (C10_needDegree l a1 t1) ?_
  refine sr_kV (fun t2 => ?_)
  refine sr_aloadn (pc := 8) (n := 0) (by decide +kernel) rfl ?_
  refine sr_gC (pc := 9) (i2 := 0) fg_10_47 (by decide +kernel) (sr_in10 _ (by omega)) (fun _ => rfl) ?_
  refine sr_aloadn (pc := 12) (n := 0) (by decide +kernel) rfl ?_
  refine sr_gC (pc := 13) (i2 := 0) fg_10_12 (by decide +kernel) (sr_in10 _ (by omega)) (fun _ => rfl) ?_
  refine sr_iloadn (pc := 16) (n := 1) (by decide +kernel) rfl ?_
  refine sr_iloadn (pc := 17) (n := 2) (by decide +kernel) rfl ?_
  refine sr_cV (pc := 18) (As := [sr_r 3 0, sr_i a0, sr_i a1]) (mc1 := 0) (ms1 := 0) (mc2 := 0) (ms2 := 0) fm_10_309 fl_10_309 (by decide +kernel) (sr_in1 _ (by omega)) (rm_10_cost_1_costOf) rfl rfl rfl (C1_costOf l 0 a0 a1 (by omega) t2) ?_
  refine sr_kI (fun v3 t3 => ?_)
  exact sr_iret (pc := 21) (by decide +kernel) rfl
def sr_m1_bestChoice : sr_M := (⟨"ShiftRing$Forecast", "bestChoice", "(LShiftRing$Ring;I)I"⟩, prog_3_method_4_code, 8, (some .int), [], 6, 144)
def sr_m10_choice : sr_M := (⟨"ShiftRing", "choice", "(I)I"⟩, prog_1_method_37_code, 2, (some .int), [], 7, 171)
theorem fg_1_50 : sr_FG "ShiftRing$Forecast" 50 3 4 9 := ⟨RX3, TX3, tyX3, rfl, by decide, rfl, uw_3, tyX3_ok, nmX3, Or.inr ⟨"ShiftRing", sr_nb (n := 162) (by decide +kernel) rfl⟩⟩
theorem fl_10_314 : Cond.methodLink "ShiftRing" 314 (sr_My sr_m1_bestChoice) ∈ sr_TB := (sr_tb (n := 1180) (by decide +kernel) rfl)
theorem fm_10_314 : sr_FV "ShiftRing" 314 sr_m1_bestChoice 1 2 := ⟨⟨rfl, sr_tb (n := 1183) (by decide +kernel) rfl, sr_tb (n := 10) (by decide +kernel) rfl, ⟨by decide, by decide, by decide +kernel⟩, Or.inl fl_10_314⟩, ⟨TX1, 2, rfl, rfl⟩, sr_tb (n := 1181) (by decide +kernel) rfl, sr_tb (n := 1182) (by decide +kernel) rfl⟩
theorem rm_10_choice_1_bestChoice : sr_RM sr_m10_choice sr_m1_bestChoice := ⟨Nat.le_of_ble_eq_true rfl, Nat.le_of_ble_eq_true rfl⟩
theorem rm_1_bestChoice_1_runLaidBy : sr_RM sr_m1_bestChoice sr_m1_runLaidBy := ⟨Nat.le_of_ble_eq_true rfl, Nat.le_of_ble_eq_true rfl⟩
theorem rm_1_bestChoice_3_copyFrom : sr_RM sr_m1_bestChoice sr_m3_copyFrom := ⟨Nat.le_of_ble_eq_true rfl, Nat.le_of_ble_eq_true rfl⟩
def f1_bestChoice_89 (i1 : Nat) (a1 : Int32) (k40 : Int32 → Int32 → Int32 → Int32 → Int32 → sr_t → sr_Rs) (k98 : Int32 → Int32 → Int32 → Int32 → sr_t → sr_Rs) : Int32 → Int32 → Int32 → Int32 → Int32 → sr_t → sr_Rs := fun x3 x4 x5 x6 x7 t => k40 x3 x4 x5 x6 (x7 * 2) t
theorem g1_bestChoice_89 (l : Launch) (i1 : Nat) (a1 : Int32) (hv_i1 : i1 < 2) (k40 : Int32 → Int32 → Int32 → Int32 → Int32 → sr_t → sr_Rs) (k98 : Int32 → Int32 → Int32 → Int32 → sr_t → sr_Rs) (hk40 : ∀ (x3 : Int32) (x4 : Int32) (x5 : Int32) (x6 : Int32) (x7 : Int32), ∀ (t : sr_t), sr_g l sr_m1_bestChoice 40 [some (sr_r 1 0), some (sr_r 3 i1), some (sr_i a1), some (sr_i x3), some (sr_i x4), some (sr_i x5), some (sr_i x6), some (sr_i x7)] [] t (k40 x3 x4 x5 x6 x7 t) 0 0) (hk98 : ∀ (x3 : Int32) (x4 : Int32) (x5 : Int32) (x6 : Int32), ∀ (t : sr_t), sr_g l sr_m1_bestChoice 98 [some (sr_r 1 0), some (sr_r 3 i1), some (sr_i a1), some (sr_i x3), some (sr_i x4), some (sr_i x5), some (sr_i x6), none] [] t (k98 x3 x4 x5 x6 t) 0 0) : ∀ (x3 : Int32) (x4 : Int32) (x5 : Int32) (x6 : Int32) (x7 : Int32), ∀ (t : sr_t), sr_g l sr_m1_bestChoice 89 [some (sr_r 1 0), some (sr_r 3 i1), some (sr_i a1), some (sr_i x3), some (sr_i x4), some (sr_i x5), some (sr_i x6), some (sr_i x7)] [] t (f1_bestChoice_89 i1 a1 k40 k98 x3 x4 x5 x6 x7 t) 0 0 := by
  intro x3 x4 x5 x6 x7  t
  unfold f1_bestChoice_89
  refine sr_iload (pc := 89) (i := 7) (by decide +kernel) rfl ?_
  refine sr_iconst (pc := 91) (n := 2) (v := 2) (by decide +kernel) rfl ?_
  refine sr_imul (pc := 92) (by decide +kernel) ?_
  refine sr_istore (pc := 93) (i := 7) (by decide +kernel) (by decide) rfl rfl ?_
  refine sr_goto (pc := 95) (off := (-55)) (tg := 40) (by decide +kernel) (by decide) ?_
  exact sr_wk (sr_mono (mc := 0) (ms := 0) (by omega) (by omega) (hk40 x3 x4 x5 x6 (x7 * 2) t)) ⟨rfl, ⟨rfl, ⟨rfl, ⟨rfl, ⟨rfl, ⟨rfl, ⟨rfl, ⟨rfl, trivial⟩⟩⟩⟩⟩⟩⟩⟩
def f1_bestChoice_71 (i1 : Nat) (a1 : Int32) (k40 : Int32 → Int32 → Int32 → Int32 → Int32 → sr_t → sr_Rs) (k98 : Int32 → Int32 → Int32 → Int32 → sr_t → sr_Rs) : Int32 → Int32 → Int32 → sr_t → sr_Rs := fun x5 x6 x7 t => f1_bestChoice_89 i1 a1 k40 k98 ((100 * x7) + x6) (t.1 5 0 3) x5 x6 x7 t
theorem g1_bestChoice_71 (l : Launch) (i1 : Nat) (a1 : Int32) (hv_i1 : i1 < 2) (k40 : Int32 → Int32 → Int32 → Int32 → Int32 → sr_t → sr_Rs) (k98 : Int32 → Int32 → Int32 → Int32 → sr_t → sr_Rs) (hk40 : ∀ (x3 : Int32) (x4 : Int32) (x5 : Int32) (x6 : Int32) (x7 : Int32), ∀ (t : sr_t), sr_g l sr_m1_bestChoice 40 [some (sr_r 1 0), some (sr_r 3 i1), some (sr_i a1), some (sr_i x3), some (sr_i x4), some (sr_i x5), some (sr_i x6), some (sr_i x7)] [] t (k40 x3 x4 x5 x6 x7 t) 0 0) (hk98 : ∀ (x3 : Int32) (x4 : Int32) (x5 : Int32) (x6 : Int32), ∀ (t : sr_t), sr_g l sr_m1_bestChoice 98 [some (sr_r 1 0), some (sr_r 3 i1), some (sr_i a1), some (sr_i x3), some (sr_i x4), some (sr_i x5), some (sr_i x6), none] [] t (k98 x3 x4 x5 x6 t) 0 0) : ∀ (x5 : Int32) (x6 : Int32) (x7 : Int32), ∀ (t : sr_t), sr_g l sr_m1_bestChoice 71 [some (sr_r 1 0), some (sr_r 3 i1), some (sr_i a1), none, none, some (sr_i x5), some (sr_i x6), some (sr_i x7)] [] t (f1_bestChoice_71 i1 a1 k40 k98 x5 x6 x7 t) 0 0 := by
  intro x5 x6 x7  t
  unfold f1_bestChoice_71
  refine sr_aloadn (pc := 71) (n := 0) (by decide +kernel) rfl ?_
  refine sr_gC (pc := 72) (i2 := 0) fg_1_18 (by decide +kernel) (sr_in1 _ (by omega)) (fun _ => rfl) ?_
  refine sr_gI (pc := 75) fg_1_30 (by decide +kernel) (sr_in5 _ (by omega)) (fun _ => rfl) ?_
  refine sr_istore (pc := 78) (i := 4) (by decide +kernel) (by decide) rfl rfl ?_
  refine sr_bipush (pc := 80) (n := 100) (v := 100) (by decide +kernel) (by decide) ?_
  refine sr_iload (pc := 82) (i := 7) (by decide +kernel) rfl ?_
  refine sr_imul (pc := 84) (by decide +kernel) ?_
  refine sr_iload (pc := 85) (i := 6) (by decide +kernel) rfl ?_
  refine sr_iadd (pc := 87) (by decide +kernel) ?_
  refine sr_istoren (pc := 88) (n := 3) (by decide +kernel) (by decide) rfl rfl ?_
  exact sr_wk (sr_mono (mc := 0) (ms := 0) (by omega) (by omega) (g1_bestChoice_89 l i1 a1 hv_i1 k40 k98 hk40 hk98 ((100 * x7) + x6) (t.1 5 0 3) x5 x6 x7 t)) ⟨rfl, ⟨rfl, ⟨rfl, ⟨rfl, ⟨rfl, ⟨rfl, ⟨rfl, ⟨rfl, trivial⟩⟩⟩⟩⟩⟩⟩⟩
def f1_bestChoice_40 (i1 : Nat) (a1 : Int32) (k98 : Int32 → Int32 → Int32 → Int32 → sr_t → sr_Rs) : Nat → Int32 → Int32 → Int32 → Int32 → Int32 → sr_t → sr_Rs
  | 0 => fun _ _ _ _ _ _ => none
  | n + 1 => fun x3 x4 x5 x6 x7 t => (if 16 < x7 then k98 x3 x4 x5 x6 t else (sr_bV (F1_runLaidBy x7 x6 t) (fun t1 => (if x3 = 0 then f1_bestChoice_71 i1 a1 (f1_bestChoice_40 i1 a1 k98 n) k98 x5 x6 x7 t1 else (if x4 ≤ (t1.1 5 0 3) then f1_bestChoice_89 i1 a1 (f1_bestChoice_40 i1 a1 k98 n) k98 x3 x4 x5 x6 x7 t1 else f1_bestChoice_71 i1 a1 (f1_bestChoice_40 i1 a1 k98 n) k98 x5 x6 x7 t1)))))
theorem g1_bestChoice_40 (l : Launch) (i1 : Nat) (a1 : Int32) (hv_i1 : i1 < 2) (k98 : Int32 → Int32 → Int32 → Int32 → sr_t → sr_Rs) (hk98 : ∀ (x3 : Int32) (x4 : Int32) (x5 : Int32) (x6 : Int32), ∀ (t : sr_t), sr_g l sr_m1_bestChoice 98 [some (sr_r 1 0), some (sr_r 3 i1), some (sr_i a1), some (sr_i x3), some (sr_i x4), some (sr_i x5), some (sr_i x6), none] [] t (k98 x3 x4 x5 x6 t) 0 0) : ∀ (n : Nat) (x3 : Int32) (x4 : Int32) (x5 : Int32) (x6 : Int32) (x7 : Int32), ∀ (t : sr_t), sr_g l sr_m1_bestChoice 40 [some (sr_r 1 0), some (sr_r 3 i1), some (sr_i a1), some (sr_i x3), some (sr_i x4), some (sr_i x5), some (sr_i x6), some (sr_i x7)] [] t (f1_bestChoice_40 i1 a1 k98 n x3 x4 x5 x6 x7 t) 0 0 := by
  intro n
  induction n with
  | zero => intros; exact sr_Gn
  | succ n ih =>
    intro x3 x4 x5 x6 x7  t
    unfold f1_bestChoice_40
    refine sr_iload (pc := 40) (i := 7) (by decide +kernel) rfl ?_
    refine sr_bipush (pc := 42) (n := 16) (v := 16) (by decide +kernel) (by decide) ?_
    refine sr_icmp_gt (pc := 44) (off := 54) (tg := 98) (by decide +kernel) (by decide) (fun _ => ?_) (fun _ => ?_)
    · exact sr_wk (sr_mono (mc := 0) (ms := 0) (by omega) (by omega) (hk98 x3 x4 x5 x6 t)) ⟨rfl, ⟨rfl, ⟨rfl, ⟨rfl, ⟨rfl, ⟨rfl, ⟨rfl, trivial⟩⟩⟩⟩⟩⟩⟩
    · refine sr_aloadn (pc := 47) (n := 0) (by decide +kernel) rfl ?_
      refine sr_iload (pc := 48) (i := 7) (by decide +kernel) rfl ?_
      refine sr_iload (pc := 50) (i := 6) (by decide +kernel) rfl ?_
      refine sr_cV (pc := 52) (As := [sr_i x7, sr_i x6]) (mc1 := 0) (ms1 := 0) (mc2 := 0) (ms2 := 0) fm_1_26 fl_1_26 (by decide +kernel) (sr_in1 _ (by omega)) (rm_1_bestChoice_1_runLaidBy) rfl rfl rfl (C1_runLaidBy l x7 x6 t) ?_
      refine sr_kV (fun t1 => ?_)
      refine sr_iloadn (pc := 55) (n := 3) (by decide +kernel) rfl ?_
      refine sr_if_eq (pc := 56) (off := 15) (tg := 71) (by decide +kernel) (by decide) (fun _ => ?_) (fun _ => ?_)
      · exact sr_wk (sr_mono (mc := 0) (ms := 0) (by omega) (by omega) (g1_bestChoice_71 l i1 a1 hv_i1 (f1_bestChoice_40 i1 a1 k98 n) k98 ih hk98 x5 x6 x7 t1)) ⟨rfl, ⟨rfl, ⟨rfl, ⟨rfl, ⟨rfl, ⟨rfl, trivial⟩⟩⟩⟩⟩⟩
      · refine sr_aloadn (pc := 59) (n := 0) (by decide +kernel) rfl ?_
        refine sr_gC (pc := 60) (i2 := 0) fg_1_18 (by decide +kernel) (sr_in1 _ (by omega)) (fun _ => rfl) ?_
        refine sr_gI (pc := 63) fg_1_30 (by decide +kernel) (sr_in5 _ (by omega)) (fun _ => rfl) ?_
        refine sr_iload (pc := 66) (i := 4) (by decide +kernel) rfl ?_
        refine sr_icmp_ge (pc := 68) (off := 21) (tg := 89) (by decide +kernel) (by decide) (fun _ => ?_) (fun _ => ?_)
        · exact sr_wk (sr_mono (mc := 0) (ms := 0) (by omega) (by omega) (g1_bestChoice_89 l i1 a1 hv_i1 (f1_bestChoice_40 i1 a1 k98 n) k98 ih hk98 x3 x4 x5 x6 x7 t1)) ⟨rfl, ⟨rfl, ⟨rfl, ⟨rfl, ⟨rfl, ⟨rfl, ⟨rfl, ⟨rfl, trivial⟩⟩⟩⟩⟩⟩⟩⟩
        · exact sr_wk (sr_mono (mc := 0) (ms := 0) (by omega) (by omega) (g1_bestChoice_71 l i1 a1 hv_i1 (f1_bestChoice_40 i1 a1 k98 n) k98 ih hk98 x5 x6 x7 t1)) ⟨rfl, ⟨rfl, ⟨rfl, ⟨rfl, ⟨rfl, ⟨rfl, trivial⟩⟩⟩⟩⟩⟩
def f1_bestChoice_98 (i1 : Nat) (a1 : Int32) (k30 : Int32 → Int32 → Int32 → Int32 → sr_t → sr_Rs) (k104 : Int32 → sr_t → sr_Rs) : Int32 → Int32 → Int32 → Int32 → sr_t → sr_Rs := fun x3 x4 x5 x6 t => k30 x3 x4 x5 (x6 + 1) t
theorem g1_bestChoice_98 (l : Launch) (i1 : Nat) (a1 : Int32) (hv_i1 : i1 < 2) (k30 : Int32 → Int32 → Int32 → Int32 → sr_t → sr_Rs) (k104 : Int32 → sr_t → sr_Rs) (hk30 : ∀ (x3 : Int32) (x4 : Int32) (x5 : Int32) (x6 : Int32), ∀ (t : sr_t), sr_g l sr_m1_bestChoice 30 [some (sr_r 1 0), some (sr_r 3 i1), some (sr_i a1), some (sr_i x3), some (sr_i x4), some (sr_i x5), some (sr_i x6), none] [] t (k30 x3 x4 x5 x6 t) 0 0) (hk104 : ∀ (x3 : Int32), ∀ (t : sr_t), sr_g l sr_m1_bestChoice 104 [some (sr_r 1 0), some (sr_r 3 i1), some (sr_i a1), some (sr_i x3), none, none, none, none] [] t (k104 x3 t) 0 0) : ∀ (x3 : Int32) (x4 : Int32) (x5 : Int32) (x6 : Int32), ∀ (t : sr_t), sr_g l sr_m1_bestChoice 98 [some (sr_r 1 0), some (sr_r 3 i1), some (sr_i a1), some (sr_i x3), some (sr_i x4), some (sr_i x5), some (sr_i x6), none] [] t (f1_bestChoice_98 i1 a1 k30 k104 x3 x4 x5 x6 t) 0 0 := by
  intro x3 x4 x5 x6  t
  unfold f1_bestChoice_98
  refine sr_iinc (pc := 98) (i := 6) (n := 1) (w := x6 + 1) (by decide +kernel) rfl rfl (by decide) rfl rfl ?_
  refine sr_goto (pc := 101) (off := (-71)) (tg := 30) (by decide +kernel) (by decide) ?_
  exact sr_wk (sr_mono (mc := 0) (ms := 0) (by omega) (by omega) (hk30 x3 x4 x5 (x6 + 1) t)) ⟨rfl, ⟨rfl, ⟨rfl, ⟨rfl, ⟨rfl, ⟨rfl, ⟨rfl, trivial⟩⟩⟩⟩⟩⟩⟩
def f1_bestChoice_30 (i1 : Nat) (a1 : Int32) (k104 : Int32 → sr_t → sr_Rs) : Nat → Int32 → Int32 → Int32 → Int32 → sr_t → sr_Rs
  | 0 => fun _ _ _ _ _ => none
  | n + 1 => fun x3 x4 x5 x6 t => (if x5 < x6 then k104 x3 t else f1_bestChoice_40 i1 a1 (f1_bestChoice_98 i1 a1 (f1_bestChoice_30 i1 a1 k104 n) k104) sr_fu x3 x4 x5 x6 2 t)
theorem g1_bestChoice_30 (l : Launch) (i1 : Nat) (a1 : Int32) (hv_i1 : i1 < 2) (k104 : Int32 → sr_t → sr_Rs) (hk104 : ∀ (x3 : Int32), ∀ (t : sr_t), sr_g l sr_m1_bestChoice 104 [some (sr_r 1 0), some (sr_r 3 i1), some (sr_i a1), some (sr_i x3), none, none, none, none] [] t (k104 x3 t) 0 0) : ∀ (n : Nat) (x3 : Int32) (x4 : Int32) (x5 : Int32) (x6 : Int32), ∀ (t : sr_t), sr_g l sr_m1_bestChoice 30 [some (sr_r 1 0), some (sr_r 3 i1), some (sr_i a1), some (sr_i x3), some (sr_i x4), some (sr_i x5), some (sr_i x6), none] [] t (f1_bestChoice_30 i1 a1 k104 n x3 x4 x5 x6 t) 0 0 := by
  intro n
  induction n with
  | zero => intros; exact sr_Gn
  | succ n ih =>
    intro x3 x4 x5 x6  t
    unfold f1_bestChoice_30
    refine sr_iload (pc := 30) (i := 6) (by decide +kernel) rfl ?_
    refine sr_iload (pc := 32) (i := 5) (by decide +kernel) rfl ?_
    refine sr_icmp_gt (pc := 34) (off := 70) (tg := 104) (by decide +kernel) (by decide) (fun _ => ?_) (fun _ => ?_)
    · exact sr_wk (sr_mono (mc := 0) (ms := 0) (by omega) (by omega) (hk104 x3 t)) ⟨rfl, ⟨rfl, ⟨rfl, ⟨rfl, trivial⟩⟩⟩⟩
    · refine sr_iconst (pc := 37) (n := 2) (v := 2) (by decide +kernel) rfl ?_
      refine sr_istore (pc := 38) (i := 7) (by decide +kernel) (by decide) rfl rfl ?_
      exact sr_wk (sr_mono (mc := 0) (ms := 0) (by omega) (by omega) (g1_bestChoice_40 l i1 a1 hv_i1 (f1_bestChoice_98 i1 a1 (f1_bestChoice_30 i1 a1 k104 n) k104) (g1_bestChoice_98 l i1 a1 hv_i1 (f1_bestChoice_30 i1 a1 k104 n) k104 ih hk104) sr_fu x3 x4 x5 x6 2 t)) ⟨rfl, ⟨rfl, ⟨rfl, ⟨rfl, ⟨rfl, ⟨rfl, ⟨rfl, ⟨rfl, trivial⟩⟩⟩⟩⟩⟩⟩⟩
def f1_bestChoice_104 (i1 : Nat) (a1 : Int32)  : Int32 → sr_t → sr_Rs := fun x3 t => (some (.inl (some (sr_i x3)), t))
theorem g1_bestChoice_104 (l : Launch) (i1 : Nat) (a1 : Int32) (hv_i1 : i1 < 2)   : ∀ (x3 : Int32), ∀ (t : sr_t), sr_g l sr_m1_bestChoice 104 [some (sr_r 1 0), some (sr_r 3 i1), some (sr_i a1), some (sr_i x3), none, none, none, none] [] t (f1_bestChoice_104 i1 a1  x3 t) 0 0 := by
  intro x3  t
  unfold f1_bestChoice_104
  refine sr_iloadn (pc := 104) (n := 3) (by decide +kernel) rfl ?_
  exact sr_iret (pc := 105) (by decide +kernel) rfl
def F1_bestChoice (i1 : Nat) (a1 : Int32) (t : sr_t) : sr_Rs := (sr_bV (F3_copyFrom 1 i1 t) (fun t1 => f1_bestChoice_30 i1 a1 (f1_bestChoice_104 i1 a1) sr_fu 0 0 (if 1 < (if (t1.1 3 i1 4) < a1 then (t1.1 3 i1 4) else a1) then (if (t1.1 3 i1 4) < a1 then (t1.1 3 i1 4) else a1) else 1) 1 t1))
theorem C1_bestChoice (l : Launch) (i1 : Nat) (a1 : Int32) (hv_i1 : i1 < 2) (t : sr_t) : sr_ct' l sr_m1_bestChoice [sr_r 1 0, sr_r 3 i1, sr_i a1] t (F1_bestChoice i1 a1 t) 0 0 := by
  refine sr_T_of (L0 := [some (sr_r 1 0), some (sr_r 3 i1), some (sr_i a1), none, none, none, none, none]) rfl (by decide +kernel) (fun _ => rfl) (fun _ => Nat.le_of_ble_eq_true rfl) ?_
  unfold F1_bestChoice
  refine sr_aloadn (pc := 0) (n := 0) (by decide +kernel) rfl ?_
  refine sr_gC (pc := 1) (i2 := 1) fg_1_12 (by decide +kernel) (sr_in1 _ (by omega)) (fun _ => rfl) ?_
  refine sr_aloadn (pc := 4) (n := 1) (by decide +kernel) rfl ?_
  refine sr_cV (pc := 5) (As := [sr_r 3 i1]) (mc1 := 0) (ms1 := 0) (mc2 := 0) (ms2 := 0) fm_1_22 fl_1_22 (by decide +kernel) (sr_in3 _ (by omega)) (rm_1_bestChoice_3_copyFrom) rfl rfl rfl (C3_copyFrom l 1 i1 (by omega) (by omega) t) ?_
  refine sr_kV (fun t1 => ?_)
  refine sr_iconst (pc := 8) (n := 0) (v := 0) (by decide +kernel) rfl ?_
  refine sr_istoren (pc := 9) (n := 3) (by decide +kernel) (by decide) rfl rfl ?_
  refine sr_iconst (pc := 10) (n := 0) (v := 0) (by decide +kernel) rfl ?_
  refine sr_istore (pc := 11) (i := 4) (by decide +kernel) (by decide) rfl rfl ?_
  refine sr_iconst (pc := 13) (n := 1) (v := 1) (by decide +kernel) rfl ?_
  refine sr_iloadn (pc := 14) (n := 2) (by decide +kernel) rfl ?_
  refine sr_aloadn (pc := 15) (n := 1) (by decide +kernel) rfl ?_
  refine sr_gI (pc := 16) fg_1_50 (by decide +kernel) (sr_in3 _ (by omega)) (fun _ => rfl) ?_
  refine sr_mmmin (pc := 19) (idx := 53) (sr_tb (n := 1184) (by decide +kernel) rfl) (by decide +kernel) (by decide) (by decide) rfl mw_min1 mw_0 mw_min2 ?_
  refine sr_mmmax (pc := 22) (idx := 59) (sr_tb (n := 1185) (by decide +kernel) rfl) (by decide +kernel) (by decide) (by decide) rfl mw_max1 mw_0 mw_max2 ?_
  refine sr_istore (pc := 25) (i := 5) (by decide +kernel) (by decide) rfl rfl ?_
  refine sr_iconst (pc := 27) (n := 1) (v := 1) (by decide +kernel) rfl ?_
  refine sr_istore (pc := 28) (i := 6) (by decide +kernel) (by decide) rfl rfl ?_
  exact sr_wk (sr_mono (mc := 0) (ms := 0) (by omega) (by omega) (g1_bestChoice_30 l i1 a1 hv_i1 (f1_bestChoice_104 i1 a1) (g1_bestChoice_104 l i1 a1 hv_i1) sr_fu 0 0 (if 1 < (if (t1.1 3 i1 4) < a1 then (t1.1 3 i1 4) else a1) then (if (t1.1 3 i1 4) < a1 then (t1.1 3 i1 4) else a1) else 1) 1 t1)) ⟨rfl, ⟨rfl, ⟨rfl, ⟨rfl, ⟨rfl, ⟨rfl, ⟨rfl, trivial⟩⟩⟩⟩⟩⟩⟩
def f10_choice_11 (a0 : Int32)  : sr_t → sr_Rs := fun  t => (some (.inr 0, t))
theorem g10_choice_11 (l : Launch) (a0 : Int32)    : ∀ (t : sr_t), sr_g l sr_m10_choice 11 [some (sr_r 10 0), some (sr_i a0)] [] t (f10_choice_11 a0   t) 1 6 := by
  intro t
  unfold f10_choice_11
  exact sr_thr (pc := 11) (ik := 138) (is := 312) (ic := 142) (tx := "so many links cannot be") (z := 0) (mc := 0) (ms := 0) fx_138_142 (by decide +kernel) (by decide +kernel) (by decide +kernel) (Or.inr ⟨by decide +kernel, by decide +kernel, by decide +kernel⟩) rfl (by decide) (by decide) rfl rfl
def F10_choice (a0 : Int32) (t : sr_t) : sr_Rs := (if a0 < 4 then f10_choice_11 a0 t else (if a0 ≤ 11 then (sr_bI (F1_bestChoice 0 (a0 - 3) t) (fun v1 t1 => (some (.inl (some (sr_i v1)), t1)))) else f10_choice_11 a0 t))
theorem C10_choice (l : Launch) (a0 : Int32)  (t : sr_t) : sr_ct' l sr_m10_choice [sr_r 10 0, sr_i a0] t (F10_choice a0 t) 1 6 := by
  refine sr_T_of (L0 := [some (sr_r 10 0), some (sr_i a0)]) rfl (by decide +kernel) (fun _ => rfl) (fun _ => Nat.le_of_ble_eq_true rfl) ?_
  unfold F10_choice
  refine sr_iloadn (pc := 0) (n := 1) (by decide +kernel) rfl ?_
  refine sr_iconst (pc := 1) (n := 4) (v := 4) (by decide +kernel) rfl ?_
  refine sr_icmp_lt (pc := 2) (off := 9) (tg := 11) (by decide +kernel) (by decide) (fun _ => ?_) (fun _ => ?_)
  · exact sr_wk (sr_mono (mc := 1) (ms := 6) (by omega) (by omega) (g10_choice_11 l a0 t)) ⟨rfl, ⟨rfl, trivial⟩⟩
  · refine sr_iloadn (pc := 5) (n := 1) (by decide +kernel) rfl ?_
    refine sr_bipush (pc := 6) (n := 11) (v := 11) (by decide +kernel) (by decide) ?_
    refine sr_icmp_le (pc := 8) (off := 14) (tg := 22) (by decide +kernel) (by decide) (fun _ => ?_) (fun _ => ?_)
    · refine sr_aloadn (pc := 22) (n := 0) (by decide +kernel) rfl ?_
      refine sr_gC (pc := 23) (i2 := 0) fg_10_47 (by decide +kernel) (sr_in10 _ (by omega)) (fun _ => rfl) ?_
      refine sr_aloadn (pc := 26) (n := 0) (by decide +kernel) rfl ?_
      refine sr_gC (pc := 27) (i2 := 0) fg_10_12 (by decide +kernel) (sr_in10 _ (by omega)) (fun _ => rfl) ?_
      refine sr_iloadn (pc := 30) (n := 1) (by decide +kernel) rfl ?_
      refine sr_iconst (pc := 31) (n := 3) (v := 3) (by decide +kernel) rfl ?_
      refine sr_isub (pc := 32) (by decide +kernel) ?_
      refine sr_cV (pc := 33) (As := [sr_r 3 0, sr_i (a0 - 3)]) (mc1 := 0) (ms1 := 0) (mc2 := 1) (ms2 := 6) fm_10_314 fl_10_314 (by decide +kernel) (sr_in1 _ (by omega)) (rm_10_choice_1_bestChoice) rfl rfl rfl (C1_bestChoice l 0 (a0 - 3) (by omega) t) ?_
      refine sr_kI (fun v1 t1 => ?_)
      exact sr_iret (pc := 36) (by decide +kernel) rfl
    · exact sr_wk (sr_mono (mc := 1) (ms := 6) (by omega) (by omega) (g10_choice_11 l a0 t)) ⟨rfl, ⟨rfl, trivial⟩⟩
def sr_m10_takes : sr_M := (⟨"ShiftRing", "takes", "(II)I"⟩, prog_1_method_24_code, 3, (some .int), [], 7, 118)
theorem rm_10_takes_10_hopsIfRight : sr_RM sr_m10_takes sr_m10_hopsIfRight := ⟨Nat.le_of_ble_eq_true rfl, Nat.le_of_ble_eq_true rfl⟩
theorem rm_10_takes_10_needNode : sr_RM sr_m10_takes sr_m10_needNode := ⟨Nat.le_of_ble_eq_true rfl, Nat.le_of_ble_eq_true rfl⟩
theorem rm_10_takes_10_needPlace : sr_RM sr_m10_takes sr_m10_needPlace := ⟨Nat.le_of_ble_eq_true rfl, Nat.le_of_ble_eq_true rfl⟩
theorem rm_10_takes_10_needUp : sr_RM sr_m10_takes sr_m10_needUp := ⟨Nat.le_of_ble_eq_true rfl, Nat.le_of_ble_eq_true rfl⟩
theorem rm_10_takes_3_of : sr_RM sr_m10_takes sr_m3_of := ⟨Nat.le_of_ble_eq_true rfl, Nat.le_of_ble_eq_true rfl⟩
def F10_takes (a0 : Int32) (a1 : Int32) (t : sr_t) : sr_Rs := (sr_bV (F10_needNode a0 t) (fun t1 => (sr_bV (F10_needPlace a1 t1) (fun t2 => (sr_bV (F10_needUp a0 t2) (fun t3 => (sr_bR 2 50 (F3_of 0 a0 t3) (fun n4 t4 => (sr_bI (F10_hopsIfRight n4 a1 t4) (fun v5 t5 => (some (.inl (some (sr_i v5)), t5))))))))))))
theorem C10_takes (l : Launch) (a0 : Int32) (a1 : Int32)  (t : sr_t) : sr_ct' l sr_m10_takes [sr_r 10 0, sr_i a0, sr_i a1] t (F10_takes a0 a1 t) 3 18 := by
  refine sr_T_of (L0 := [some (sr_r 10 0), some (sr_i a0), some (sr_i a1)]) rfl (by decide +kernel) (fun _ => rfl) (fun _ => Nat.le_of_ble_eq_true rfl) ?_
  unfold F10_takes
  refine sr_aloadn (pc := 0) (n := 0) (by decide +kernel) rfl ?_
  refine sr_iloadn (pc := 1) (n := 1) (by decide +kernel) rfl ?_
  refine sr_cV (pc := 2) (As := [sr_i a0]) (mc1 := 1) (ms1 := 6) (mc2 := 2) (ms2 := 12) fm_10_81 fl_10_81 (by decide +kernel) (sr_in10 _ (by omega)) (rm_10_takes_10_needNode) rfl rfl rfl (C10_needNode l a0 t) ?_
  refine sr_kV (fun t1 => ?_)
  refine sr_iloadn (pc := 5) (n := 2) (by decide +kernel) rfl ?_
  refine sr_cS (pc := 6) (As := [sr_i a1]) (mc1 := 1) (ms1 := 6) (mc2 := 1) (ms2 := 6) fm_10_58 fl_10_58 (by decide +kernel) (rm_10_takes_10_needPlace) rfl rfl rfl (C10_needPlace l a1 t1) ?_
  refine sr_kV (fun t2 => ?_)
  refine sr_aloadn (pc := 9) (n := 0) (by decide +kernel) rfl ?_
  refine sr_iloadn (pc := 10) (n := 1) (by decide +kernel) rfl ?_
  refine sr_cV (pc := 11) (As := [sr_i a0]) (mc1 := 1) (ms1 := 6) (mc2 := 0) (ms2 := 0) fm_10_84 fl_10_84 (by decide +kernel) (sr_in10 _ (by omega)) (rm_10_takes_10_needUp) rfl rfl rfl (C10_needUp l a0 t2) ?_
  refine sr_kV (fun t3 => ?_)
  refine sr_aloadn (pc := 14) (n := 0) (by decide +kernel) rfl ?_
  refine sr_aloadn (pc := 15) (n := 0) (by decide +kernel) rfl ?_
  refine sr_gC (pc := 16) (i2 := 0) fg_10_12 (by decide +kernel) (sr_in10 _ (by omega)) (fun _ => rfl) ?_
  refine sr_iloadn (pc := 19) (n := 1) (by decide +kernel) rfl ?_
  refine sr_cV (pc := 20) (As := [sr_i a0]) (mc1 := 0) (ms1 := 0) (mc2 := 0) (ms2 := 0) fm_10_87 fl_10_87 (by decide +kernel) (sr_in3 _ (by omega)) (rm_10_takes_3_of) rfl rfl rfl (C3_of l 0 a0 (by omega) t3) ?_
  refine sr_kR (fun n4 t4 hv_n4 => ?_)
  refine sr_iloadn (pc := 23) (n := 2) (by decide +kernel) rfl ?_
  refine sr_cV (pc := 24) (As := [sr_r 2 n4, sr_i a1]) (mc1 := 0) (ms1 := 0) (mc2 := 0) (ms2 := 0) fm_10_269 fl_10_269 (by decide +kernel) (sr_in10 _ (by omega)) (rm_10_takes_10_hopsIfRight) rfl rfl rfl (C10_hopsIfRight l n4 a1 (by omega) t4) ?_
  refine sr_kI (fun v5 t5 => ?_)
  exact sr_iret (pc := 27) (by decide +kernel) rfl
def sr_m10_worst : sr_M := (⟨"ShiftRing", "worst", "(I)I"⟩, prog_1_method_25_code, 6, (some .int), [], 7, 118)
theorem rm_10_worst_10_hopsIfRight : sr_RM sr_m10_worst sr_m10_hopsIfRight := ⟨Nat.le_of_ble_eq_true rfl, Nat.le_of_ble_eq_true rfl⟩
theorem rm_10_worst_10_needNode : sr_RM sr_m10_worst sr_m10_needNode := ⟨Nat.le_of_ble_eq_true rfl, Nat.le_of_ble_eq_true rfl⟩
theorem rm_10_worst_10_needUp : sr_RM sr_m10_worst sr_m10_needUp := ⟨Nat.le_of_ble_eq_true rfl, Nat.le_of_ble_eq_true rfl⟩
theorem rm_10_worst_3_of : sr_RM sr_m10_worst sr_m3_of := ⟨Nat.le_of_ble_eq_true rfl, Nat.le_of_ble_eq_true rfl⟩
