def F10_mendAll  (t : sr_t) : sr_Rs := (sr_bI (F3_staleOfAll 0 t) (fun v1 t1 => (sr_bV (F3_layAllAgain 0 t1) (fun t2 => (some (.inl (some (sr_i v1)), t2))))))
theorem C10_mendAll (l : Launch)   (t : sr_t) : sr_ct' l sr_m10_mendAll [sr_r 10 0] t (F10_mendAll  t) 0 0 := by
  refine sr_T_of (L0 := [some (sr_r 10 0), none]) rfl (by decide +kernel) (fun _ => rfl) (fun _ => Nat.le_of_ble_eq_true rfl) ?_
  unfold F10_mendAll
  refine sr_aloadn (pc := 0) (n := 0) (by decide +kernel) rfl ?_
  refine sr_gC (pc := 1) (i2 := 0) fg_10_12 (by decide +kernel) (sr_in10 _ (by omega)) (fun _ => rfl) ?_
  refine sr_cV (pc := 4) (As := []) (mc1 := 0) (ms1 := 0) (mc2 := 0) (ms2 := 0) fm_10_116 fl_10_116 (by decide +kernel) (sr_in3 _ (by omega)) (rm_10_mendAll_3_staleOfAll) rfl rfl rfl (C3_staleOfAll l 0 (by omega) t) ?_
  refine sr_kI (fun v1 t1 => ?_)
  refine sr_istoren (pc := 7) (n := 1) (by decide +kernel) (by decide) rfl rfl ?_
  refine sr_aloadn (pc := 8) (n := 0) (by decide +kernel) rfl ?_
  refine sr_gC (pc := 9) (i2 := 0) fg_10_12 (by decide +kernel) (sr_in10 _ (by omega)) (fun _ => rfl) ?_
  refine sr_cV (pc := 12) (As := []) (mc1 := 0) (ms1 := 0) (mc2 := 0) (ms2 := 0) fm_10_120 fl_10_120 (by decide +kernel) (sr_in3 _ (by omega)) (rm_10_mendAll_3_layAllAgain) rfl rfl rfl (C3_layAllAgain l 0 (by omega) t1) ?_
  refine sr_kV (fun t2 => ?_)
  refine sr_iloadn (pc := 15) (n := 1) (by decide +kernel) rfl ?_
  exact sr_iret (pc := 16) (by decide +kernel) rfl
def sr_m10_why : sr_M := (⟨"ShiftRing", "why", "(I)I"⟩, prog_1_method_13_code, 2, (some .int), [], 1, 21)
theorem fg_10_28 : sr_FG "ShiftRing" 28 10 2 7 := ⟨RX10, TX10, tyX10, rfl, by decide, rfl, uw_10, tyX10_ok, nmX10, Or.inl (sr_tb (n := 407) (by decide +kernel) rfl)⟩
theorem fg_10_189 : sr_FG "ShiftRing" 189 8 16 17 := ⟨RX8, TX8, tyX8, rfl, by decide, rfl, uw_8, tyX8_ok, nmX8, Or.inr ⟨"ShiftRing", sr_nb (n := 284) (by decide +kernel) rfl⟩⟩
theorem fl_10_193 : Cond.methodLink "ShiftRing" 193 (sr_My sr_m4_at) ∈ sr_TB := (sr_tb (n := 503) (by decide +kernel) rfl)
theorem fm_10_193 : sr_FV "ShiftRing" 193 sr_m4_at 4 1 := ⟨⟨rfl, sr_tb (n := 477) (by decide +kernel) rfl, sr_tb (n := 5) (by decide +kernel) rfl, ⟨by decide, by decide, by decide +kernel⟩, Or.inl fl_10_193⟩, ⟨TX4, 2, rfl, rfl⟩, sr_tb (n := 475) (by decide +kernel) rfl, sr_tb (n := 476) (by decide +kernel) rfl⟩
theorem rm_10_why_4_at : sr_RM sr_m10_why sr_m4_at := ⟨Nat.le_of_ble_eq_true rfl, Nat.le_of_ble_eq_true rfl⟩
def F10_why (a0 : Int32) (t : sr_t) : sr_Rs := (sr_bI (F4_at 104 a0 t) (fun v1 t1 => (some (.inl (some (sr_i v1)), t1))))
theorem C10_why (l : Launch) (a0 : Int32)  (t : sr_t) : sr_ct' l sr_m10_why [sr_r 10 0, sr_i a0] t (F10_why a0 t) 0 0 := by
  refine sr_T_of (L0 := [some (sr_r 10 0), some (sr_i a0)]) rfl (by decide +kernel) (fun _ => rfl) (fun _ => Nat.le_of_ble_eq_true rfl) ?_
  unfold F10_why
  refine sr_aloadn (pc := 0) (n := 0) (by decide +kernel) rfl ?_
  refine sr_gC (pc := 1) (i2 := 0) fg_10_28 (by decide +kernel) (sr_in10 _ (by omega)) (fun _ => rfl) ?_
  refine sr_gC (pc := 4) (i2 := 104) fg_10_189 (by decide +kernel) (sr_in8 _ (by omega)) (fun _ => rfl) ?_
  refine sr_iloadn (pc := 7) (n := 1) (by decide +kernel) rfl ?_
  refine sr_cV (pc := 8) (As := [sr_i a0]) (mc1 := 0) (ms1 := 0) (mc2 := 0) (ms2 := 0) fm_10_193 fl_10_193 (by decide +kernel) (sr_in4 _ (by omega)) (rm_10_why_4_at) rfl rfl rfl (C4_at l 104 a0 (by omega) t) ?_
  refine sr_kI (fun v1 t1 => ?_)
  exact sr_iret (pc := 11) (by decide +kernel) rfl
def sr_m10_bit : sr_M := (⟨"ShiftRing", "bit", "(I)I"⟩, prog_1_method_58_code, 1, (some .int), [], 0, 0)
def sr_m3_upBits : sr_M := (⟨"ShiftRing$Ring", "upBits", "()I"⟩, prog_5_method_21_code, 3, (some .int), [], 1, 21)
def sr_m10_hasBit : sr_M := (⟨"ShiftRing", "hasBit", "(II)Z"⟩, prog_1_method_59_code, 2, (some .boolean), [], 1, 20)
def sr_m4_bits : sr_M := (⟨"ShiftRing$Row", "bits", "()I"⟩, prog_6_method_7_code, 3, (some .int), [], 1, 21)
def sr_m2_linkBits : sr_M := (⟨"ShiftRing$Node", "linkBits", "()I"⟩, prog_4_method_3_code, 1, (some .int), [], 2, 43)
def sr_m9_readLinks : sr_M := (⟨"ShiftRing$Ways", "readLinks", "(LShiftRing$Ring;)V"⟩, prog_11_method_4_code, 4, none, [], 3, 63)
def sr_m9_linkedFrom : sr_M := (⟨"ShiftRing$Ways", "linkedFrom", "(I)I"⟩, prog_11_method_6_code, 4, (some .int), [], 2, 41)
def sr_m9_linksToAll : sr_M := (⟨"ShiftRing$Ways", "linksToAll", "(II)I"⟩, prog_11_method_5_code, 5, (some .int), [], 3, 64)
def sr_m9_widthOf : sr_M := (⟨"ShiftRing$Ways", "widthOf", "(LShiftRing$Ring;)I"⟩, prog_11_method_3_code, 6, (some .int), [], 4, 88)
def sr_m3_mostLoaded : sr_M := (⟨"ShiftRing$Ring", "mostLoaded", "()LShiftRing$Node;"⟩, prog_5_method_24_code, 3, (some (.object "ShiftRing$Node")), [], 1, 21)
def sr_m3_setBase : sr_M := (⟨"ShiftRing$Ring", "setBase", "(I)V"⟩, prog_5_method_2_code, 2, none, [], 1, 20)
def sr_m4_copyFrom : sr_M := (⟨"ShiftRing$Row", "copyFrom", "(LShiftRing$Row;)V"⟩, prog_6_method_5_code, 3, none, [], 1, 21)
def sr_m7_copyFrom : sr_M := (⟨"ShiftRing$Table", "copyFrom", "(LShiftRing$Table;)V"⟩, prog_9_method_2_code, 2, none, [], 2, 43)
def sr_m2_copyFrom : sr_M := (⟨"ShiftRing$Node", "copyFrom", "(LShiftRing$Node;)V"⟩, prog_4_method_2_code, 2, none, [], 3, 64)
def sr_m3_copyFrom : sr_M := (⟨"ShiftRing$Ring", "copyFrom", "(LShiftRing$Ring;)V"⟩, prog_5_method_32_code, 3, none, [], 4, 88)
def sr_m3_takeDown : sr_M := (⟨"ShiftRing$Ring", "takeDown", "(LShiftRing$Node;)V"⟩, prog_5_method_8_code, 2, none, [], 4, 88)
def sr_ma_fill : sr_M := (⟨"java/util/Arrays", "fill", "([II)V"⟩, prog_24_method_103_code, 4, none, [], 0, 0)
def sr_m5_reset : sr_M := (⟨"ShiftRing$Sample", "reset", "()V"⟩, prog_7_method_3_code, 1, none, [], 1, 23)
def sr_m3_withoutLast : sr_M := (⟨"ShiftRing$Ring", "withoutLast", "(II)I"⟩, prog_5_method_31_code, 3, (some .int), [], 0, 0)
def sr_m3_withoutFirst : sr_M := (⟨"ShiftRing$Ring", "withoutFirst", "(II)I"⟩, prog_5_method_30_code, 3, (some .int), [], 0, 0)
def sr_m8_startHere : sr_M := (⟨"ShiftRing$Trip", "startHere", "()V"⟩, prog_10_method_4_code, 5, none, [], 1, 22)
def sr_m8_setOut : sr_M := (⟨"ShiftRing$Trip", "setOut", "(LShiftRing$Ring;LShiftRing$Node;IZ)V"⟩, prog_10_method_3_code, 5, none, [], 2, 46)
def sr_m8_endHere : sr_M := (⟨"ShiftRing$Trip", "endHere", "()I"⟩, prog_10_method_5_code, 2, (some .int), [], 1, 21)
def sr_m2_isInArc : sr_M := (⟨"ShiftRing$Node", "isInArc", "(I)Z"⟩, prog_4_method_4_code, 2, (some .boolean), [], 1, 21)
def sr_m8_remember : sr_M := (⟨"ShiftRing$Trip", "remember", "(I)V"⟩, prog_10_method_9_code, 3, none, [], 0, 0)
def sr_m8_pass : sr_M := (⟨"ShiftRing$Trip", "pass", "(ILShiftRing$Node;)V"⟩, prog_10_method_8_code, 3, none, [], 1, 22)
def sr_m3_letterOf : sr_M := (⟨"ShiftRing$Ring", "letterOf", "(II)I"⟩, prog_5_method_27_code, 3, (some .int), [], 0, 0)
def sr_m3_shiftIn : sr_M := (⟨"ShiftRing$Ring", "shiftIn", "(II)I"⟩, prog_5_method_28_code, 3, (some .int), [], 0, 0)
def sr_m8_shiftedOnce : sr_M := (⟨"ShiftRing$Trip", "shiftedOnce", "()I"⟩, prog_10_method_7_code, 1, (some .int), [], 1, 22)
def sr_m3_pointerFor : sr_M := (⟨"ShiftRing$Ring", "pointerFor", "(LShiftRing$Node;I)LShiftRing$Node;"⟩, prog_5_method_17_code, 8, (some (.object "ShiftRing$Node")), [], 1, 21)
def sr_m8_takeStep : sr_M := (⟨"ShiftRing$Trip", "takeStep", "()V"⟩, prog_10_method_6_code, 4, none, [], 2, 48)
def sr_m8_rememberWhy : sr_M := (⟨"ShiftRing$Trip", "rememberWhy", "()V"⟩, prog_10_method_12_code, 3, none, [], 1, 21)
def sr_m2_owns : sr_M := (⟨"ShiftRing$Node", "owns", "(I)Z"⟩, prog_4_method_5_code, 2, (some .boolean), [], 1, 21)
def sr_m8_travel : sr_M := (⟨"ShiftRing$Trip", "travel", "(LShiftRing$Ring;LShiftRing$Node;IZ)I"⟩, prog_10_method_2_code, 6, (some .int), [], 3, 71)
def sr_m5_addTrip : sr_M := (⟨"ShiftRing$Sample", "addTrip", "()V"⟩, prog_7_method_4_code, 1, none, [], 1, 21)
def sr_m8_partOfStep : sr_M := (⟨"ShiftRing$Trip", "partOfStep", "(II)I"⟩, prog_10_method_10_code, 4, (some .int), [], 0, 0)
def sr_m8_nodeBehindStep : sr_M := (⟨"ShiftRing$Trip", "nodeBehindStep", "(I)I"⟩, prog_10_method_11_code, 2, (some .int), [], 1, 23)
def sr_m5_crossingOf : sr_M := (⟨"ShiftRing$Sample", "crossingOf", "(II)I"⟩, prog_7_method_7_code, 2, (some .int), [], 0, 0)
def sr_m5_addHop : sr_M := (⟨"ShiftRing$Sample", "addHop", "(IIZ)V"⟩, prog_7_method_6_code, 5, none, [], 1, 21)
def sr_m5_traceTrip : sr_M := (⟨"ShiftRing$Sample", "traceTrip", "()V"⟩, prog_7_method_5_code, 5, none, [], 2, 45)
def sr_m5_run : sr_M := (⟨"ShiftRing$Sample", "run", "(LShiftRing$Ring;ZZ)V"⟩, prog_7_method_2_code, 7, none, [], 4, 96)
def sr_m1_harmOf : sr_M := (⟨"ShiftRing$Forecast", "harmOf", "(LShiftRing$Ring;I)I"⟩, prog_3_method_6_code, 3, (some .int), [], 5, 122)
def sr_m1_mostHarmful : sr_M := (⟨"ShiftRing$Forecast", "mostHarmful", "(LShiftRing$Ring;)I"⟩, prog_3_method_7_code, 6, (some .int), [], 6, 144)
def sr_mn_bitCount : sr_M := (⟨"java/lang/Integer", "bitCount", "(I)I"⟩, prog_19_method_49_code, 1, (some .int), [], 0, 0)
def sr_m3_mostLinks : sr_M := (⟨"ShiftRing$Ring", "mostLinks", "()I"⟩, prog_5_method_23_code, 3, (some .int), [], 3, 63)
def sr_m3_layAgain : sr_M := (⟨"ShiftRing$Ring", "layAgain", "(LShiftRing$Node;)V"⟩, prog_5_method_9_code, 2, none, [], 4, 88)
def sr_m1_hopsIfMended : sr_M := (⟨"ShiftRing$Forecast", "hopsIfMended", "(LShiftRing$Ring;I)I"⟩, prog_3_method_9_code, 3, (some .int), [], 5, 122)
def sr_m1_firstToMend : sr_M := (⟨"ShiftRing$Forecast", "firstToMend", "(LShiftRing$Ring;)I"⟩, prog_3_method_8_code, 6, (some .int), [], 6, 144)
def sr_m6_entryAt : sr_M := (⟨"ShiftRing$Store", "entryAt", "(I)LShiftRing$Entry;"⟩, prog_8_method_2_code, 2, (some (.object "ShiftRing$Entry")), [], 0, 0)
def sr_m0_versionAt : sr_M := (⟨"ShiftRing$Entry", "versionAt", "(I)I"⟩, prog_2_method_2_code, 2, (some .int), [], 0, 0)
def sr_m0_isHeldBy : sr_M := (⟨"ShiftRing$Entry", "isHeldBy", "(I)Z"⟩, prog_2_method_4_code, 2, (some .boolean), [], 1, 21)
def sr_m0_bitsOfHolders : sr_M := (⟨"ShiftRing$Entry", "bitsOfHolders", "(Z)I"⟩, prog_2_method_7_code, 4, (some .int), [], 2, 42)
def sr_m6_countOfMissing : sr_M := (⟨"ShiftRing$Store", "countOfMissing", "(LShiftRing$Ring;)I"⟩, prog_8_method_10_code, 4, (some .int), [], 3, 65)
def sr_m3_gapOfLoads : sr_M := (⟨"ShiftRing$Ring", "gapOfLoads", "()I"⟩, prog_5_method_25_code, 4, (some .int), [], 2, 43)
def sr_m3_isTaken : sr_M := (⟨"ShiftRing$Ring", "isTaken", "(I)Z"⟩, prog_5_method_5_code, 3, (some .boolean), [], 1, 21)
def sr_m3_placeToSplit : sr_M := (⟨"ShiftRing$Ring", "placeToSplit", "()I"⟩, prog_5_method_26_code, 3, (some .int), [], 2, 43)
def sr_m5_visitsOf : sr_M := (⟨"ShiftRing$Sample", "visitsOf", "(I)I"⟩, prog_7_method_8_code, 2, (some .int), [], 0, 0)
def sr_m10_busiest : sr_M := (⟨"ShiftRing", "busiest", "()I"⟩, prog_1_method_47_code, 4, (some .int), [], 5, 122)
def sr_m10_count : sr_M := (⟨"ShiftRing", "count", "(I)I"⟩, prog_1_method_46_code, 2, (some .int), [], 7, 169)
theorem fg_10_19 : sr_FG "ShiftRing" 19 10 1 7 := ⟨RX10, TX10, tyX10, rfl, by decide, rfl, uw_10, tyX10_ok, nmX10, Or.inl (sr_tb (n := 406) (by decide +kernel) rfl)⟩
theorem fg_10_38 : sr_FG "ShiftRing" 38 10 4 7 := ⟨RX10, TX10, tyX10, rfl, by decide, rfl, uw_10, tyX10_ok, nmX10, Or.inl (sr_tb (n := 409) (by decide +kernel) rfl)⟩
theorem fg_10_47 : sr_FG "ShiftRing" 47 10 5 7 := ⟨RX10, TX10, tyX10, rfl, by decide, rfl, uw_10, tyX10_ok, nmX10, Or.inl (sr_tb (n := 410) (by decide +kernel) rfl)⟩
theorem fg_10_54 : sr_FG "ShiftRing" 54 10 6 7 := ⟨RX10, TX10, tyX10, rfl, by decide, rfl, uw_10, tyX10_ok, nmX10, Or.inl (sr_tb (n := 411) (by decide +kernel) rfl)⟩
theorem fg_10_62 : sr_FG "ShiftRing" 62 3 3 9 := ⟨RX3, TX3, tyX3, rfl, by decide, rfl, uw_3, tyX3_ok, nmX3, Or.inr ⟨"ShiftRing", sr_nb (n := 155) (by decide +kernel) rfl⟩⟩
theorem fg_10_95 : sr_FG "ShiftRing" 95 3 4 9 := ⟨RX3, TX3, tyX3, rfl, by decide, rfl, uw_3, tyX3_ok, nmX3, Or.inr ⟨"ShiftRing", sr_nb (n := 161) (by decide +kernel) rfl⟩⟩
theorem fg_10_98 : sr_FG "ShiftRing" 98 2 2 8 := ⟨RX2, TX2, tyX2, rfl, by decide, rfl, uw_2, tyX2_ok, nmX2, Or.inr ⟨"ShiftRing", sr_nb (n := 100) (by decide +kernel) rfl⟩⟩
theorem fg_10_126 : sr_FG "ShiftRing" 126 3 5 9 := ⟨RX3, TX3, tyX3, rfl, by decide, rfl, uw_3, tyX3_ok, nmX3, Or.inr ⟨"ShiftRing", sr_nb (n := 167) (by decide +kernel) rfl⟩⟩
theorem fg_10_135 : sr_FG "ShiftRing" 135 3 8 9 := ⟨RX3, TX3, tyX3, rfl, by decide, rfl, uw_3, tyX3_ok, nmX3, Or.inr ⟨"ShiftRing", sr_nb (n := 174) (by decide +kernel) rfl⟩⟩
theorem fg_10_179 : sr_FG "ShiftRing" 179 2 0 8 := ⟨RX2, TX2, tyX2, rfl, by decide, rfl, uw_2, tyX2_ok, nmX2, Or.inr ⟨"ShiftRing", sr_nb (n := 93) (by decide +kernel) rfl⟩⟩
theorem fg_10_243 : sr_FG "ShiftRing" 243 3 7 9 := ⟨RX3, TX3, tyX3, rfl, by decide, rfl, uw_3, tyX3_ok, nmX3, Or.inr ⟨"ShiftRing", sr_nb (n := 171) (by decide +kernel) rfl⟩⟩
theorem fg_10_392 : sr_FG "ShiftRing" 392 6 2 5 := ⟨RX6, TX6, tyX6, rfl, by decide, rfl, uw_6, tyX6_ok, nmX6, Or.inr ⟨"ShiftRing", sr_nb (n := 226) (by decide +kernel) rfl⟩⟩
theorem fg_10_398 : sr_FG "ShiftRing" 398 6 3 5 := ⟨RX6, TX6, tyX6, rfl, by decide, rfl, uw_6, tyX6_ok, nmX6, Or.inr ⟨"ShiftRing", sr_nb (n := 228) (by decide +kernel) rfl⟩⟩
theorem fg_0_19 : sr_FG "ShiftRing$Entry" 19 0 3 4 := ⟨RX0, TX0, tyX0, rfl, by decide, rfl, uw_0, tyX0_ok, nmX0, Or.inl (sr_tb (n := 213) (by decide +kernel) rfl)⟩
theorem fg_0_34 : sr_FG "ShiftRing$Entry" 34 0 1 4 := ⟨RX0, TX0, tyX0, rfl, by decide, rfl, uw_0, tyX0_ok, nmX0, Or.inl (sr_tb (n := 210) (by decide +kernel) rfl)⟩
theorem fg_1_12 : sr_FG "ShiftRing$Forecast" 12 1 0 2 := ⟨RX1, TX1, tyX1, rfl, by decide, rfl, uw_1, tyX1_ok, nmX1, Or.inl (sr_tb (n := 381) (by decide +kernel) rfl)⟩
theorem fg_1_18 : sr_FG "ShiftRing$Forecast" 18 1 1 2 := ⟨RX1, TX1, tyX1, rfl, by decide, rfl, uw_1, tyX1_ok, nmX1, Or.inl (sr_tb (n := 382) (by decide +kernel) rfl)⟩
theorem fg_1_30 : sr_FG "ShiftRing$Forecast" 30 5 3 11 := ⟨RX5, TX5, tyX5, rfl, by decide, rfl, uw_5, tyX5_ok, nmX5, Or.inr ⟨"ShiftRing", sr_nb (n := 331) (by decide +kernel) rfl⟩⟩
theorem fg_1_76 : sr_FG "ShiftRing$Forecast" 76 5 7 11 := ⟨RX5, TX5, tyX5, rfl, by decide, rfl, uw_5, tyX5_ok, nmX5, Or.inr ⟨"ShiftRing", sr_nb (n := 341) (by decide +kernel) rfl⟩⟩
theorem fg_1_79 : sr_FG "ShiftRing$Forecast" 79 3 3 9 := ⟨RX3, TX3, tyX3, rfl, by decide, rfl, uw_3, tyX3_ok, nmX3, Or.inr ⟨"ShiftRing", sr_nb (n := 159) (by decide +kernel) rfl⟩⟩
theorem fg_1_82 : sr_FG "ShiftRing$Forecast" 82 2 2 8 := ⟨RX2, TX2, tyX2, rfl, by decide, rfl, uw_2, tyX2_ok, nmX2, Or.inr ⟨"ShiftRing", sr_nb (n := 104) (by decide +kernel) rfl⟩⟩
theorem fg_2_12 : sr_FG "ShiftRing$Node" 12 2 4 8 := ⟨RX2, TX2, tyX2, rfl, by decide, rfl, uw_2, tyX2_ok, nmX2, Or.inl (sr_tb (n := 109) (by decide +kernel) rfl)⟩
theorem fg_2_22 : sr_FG "ShiftRing$Node" 22 2 0 8 := ⟨RX2, TX2, tyX2, rfl, by decide, rfl, uw_2, tyX2_ok, nmX2, Or.inl (sr_tb (n := 89) (by decide +kernel) rfl)⟩
theorem fg_2_25 : sr_FG "ShiftRing$Node" 25 2 1 8 := ⟨RX2, TX2, tyX2, rfl, by decide, rfl, uw_2, tyX2_ok, nmX2, Or.inl (sr_tb (n := 94) (by decide +kernel) rfl)⟩
theorem fg_2_28 : sr_FG "ShiftRing$Node" 28 2 2 8 := ⟨RX2, TX2, tyX2, rfl, by decide, rfl, uw_2, tyX2_ok, nmX2, Or.inl (sr_tb (n := 98) (by decide +kernel) rfl)⟩
theorem fg_2_32 : sr_FG "ShiftRing$Node" 32 2 3 8 := ⟨RX2, TX2, tyX2, rfl, by decide, rfl, uw_2, tyX2_ok, nmX2, Or.inl (sr_tb (n := 105) (by decide +kernel) rfl)⟩
theorem fg_2_39 : sr_FG "ShiftRing$Node" 39 7 1 3 := ⟨RX7, TX7, tyX7, rfl, by decide, rfl, uw_7, tyX7_ok, nmX7, Or.inr ⟨"ShiftRing", sr_nb (n := 73) (by decide +kernel) rfl⟩⟩
theorem fg_2_49 : sr_FG "ShiftRing$Node" 49 7 2 3 := ⟨RX7, TX7, tyX7, rfl, by decide, rfl, uw_7, tyX7_ok, nmX7, Or.inr ⟨"ShiftRing", sr_nb (n := 79) (by decide +kernel) rfl⟩⟩
theorem fg_2_60 : sr_FG "ShiftRing$Node" 60 2 6 8 := ⟨RX2, TX2, tyX2, rfl, by decide, rfl, uw_2, tyX2_ok, nmX2, Or.inl (sr_tb (n := 118) (by decide +kernel) rfl)⟩
theorem fg_2_63 : sr_FG "ShiftRing$Node" 63 2 7 8 := ⟨RX2, TX2, tyX2, rfl, by decide, rfl, uw_2, tyX2_ok, nmX2, Or.inl (sr_tb (n := 122) (by decide +kernel) rfl)⟩
theorem fg_3_45 : sr_FG "ShiftRing$Ring" 45 3 6 9 := ⟨RX3, TX3, tyX3, rfl, by decide, rfl, uw_3, tyX3_ok, nmX3, Or.inl (sr_tb (n := 168) (by decide +kernel) rfl)⟩
theorem fg_3_48 : sr_FG "ShiftRing$Ring" 48 3 7 9 := ⟨RX3, TX3, tyX3, rfl, by decide, rfl, uw_3, tyX3_ok, nmX3, Or.inl (sr_tb (n := 169) (by decide +kernel) rfl)⟩
theorem fg_5_9 : sr_FG "ShiftRing$Sample" 9 5 1 11 := ⟨RX5, TX5, tyX5, rfl, by decide, rfl, uw_5, tyX5_ok, nmX5, Or.inl (sr_tb (n := 329) (by decide +kernel) rfl)⟩
theorem fg_5_15 : sr_FG "ShiftRing$Sample" 15 5 2 11 := ⟨RX5, TX5, tyX5, rfl, by decide, rfl, uw_5, tyX5_ok, nmX5, Or.inl (sr_tb (n := 330) (by decide +kernel) rfl)⟩
theorem fg_5_23 : sr_FG "ShiftRing$Sample" 23 5 0 11 := ⟨RX5, TX5, tyX5, rfl, by decide, rfl, uw_5, tyX5_ok, nmX5, Or.inl (sr_tb (n := 328) (by decide +kernel) rfl)⟩
theorem fg_5_30 : sr_FG "ShiftRing$Sample" 30 3 3 9 := ⟨RX3, TX3, tyX3, rfl, by decide, rfl, uw_3, tyX3_ok, nmX3, Or.inr ⟨"ShiftRing", sr_nb (n := 156) (by decide +kernel) rfl⟩⟩
theorem fg_5_40 : sr_FG "ShiftRing$Sample" 40 2 2 8 := ⟨RX2, TX2, tyX2, rfl, by decide, rfl, uw_2, tyX2_ok, nmX2, Or.inr ⟨"ShiftRing", sr_nb (n := 99) (by decide +kernel) rfl⟩⟩
theorem fg_5_56 : sr_FG "ShiftRing$Sample" 56 5 3 11 := ⟨RX5, TX5, tyX5, rfl, by decide, rfl, uw_5, tyX5_ok, nmX5, Or.inl (sr_tb (n := 332) (by decide +kernel) rfl)⟩
theorem fg_5_59 : sr_FG "ShiftRing$Sample" 59 5 4 11 := ⟨RX5, TX5, tyX5, rfl, by decide, rfl, uw_5, tyX5_ok, nmX5, Or.inl (sr_tb (n := 334) (by decide +kernel) rfl)⟩
theorem fg_5_62 : sr_FG "ShiftRing$Sample" 62 5 5 11 := ⟨RX5, TX5, tyX5, rfl, by decide, rfl, uw_5, tyX5_ok, nmX5, Or.inl (sr_tb (n := 336) (by decide +kernel) rfl)⟩
theorem fg_5_65 : sr_FG "ShiftRing$Sample" 65 5 6 11 := ⟨RX5, TX5, tyX5, rfl, by decide, rfl, uw_5, tyX5_ok, nmX5, Or.inl (sr_tb (n := 338) (by decide +kernel) rfl)⟩
theorem fg_5_68 : sr_FG "ShiftRing$Sample" 68 5 7 11 := ⟨RX5, TX5, tyX5, rfl, by decide, rfl, uw_5, tyX5_ok, nmX5, Or.inl (sr_tb (n := 340) (by decide +kernel) rfl)⟩
theorem fg_5_71 : sr_FG "ShiftRing$Sample" 71 5 8 11 := ⟨RX5, TX5, tyX5, rfl, by decide, rfl, uw_5, tyX5_ok, nmX5, Or.inl (sr_tb (n := 343) (by decide +kernel) rfl)⟩
theorem fg_5_74 : sr_FG "ShiftRing$Sample" 74 5 9 11 := ⟨RX5, TX5, tyX5, rfl, by decide, rfl, uw_5, tyX5_ok, nmX5, Or.inl (sr_tb (n := 346) (by decide +kernel) rfl)⟩
theorem fg_5_77 : sr_FG "ShiftRing$Sample" 77 5 10 11 := ⟨RX5, TX5, tyX5, rfl, by decide, rfl, uw_5, tyX5_ok, nmX5, Or.inl (sr_tb (n := 348) (by decide +kernel) rfl)⟩
theorem fg_5_86 : sr_FG "ShiftRing$Sample" 86 8 9 17 := ⟨RX8, TX8, tyX8, rfl, by decide, rfl, uw_8, tyX8_ok, nmX8, Or.inr ⟨"ShiftRing", sr_nb (n := 266) (by decide +kernel) rfl⟩⟩
theorem fg_5_87 : sr_FG "ShiftRing$Sample" 87 8 10 17 := ⟨RX8, TX8, tyX8, rfl, by decide, rfl, uw_8, tyX8_ok, nmX8, Or.inr ⟨"ShiftRing", sr_nb (n := 269) (by decide +kernel) rfl⟩⟩
theorem fg_5_88 : sr_FG "ShiftRing$Sample" 88 8 11 17 := ⟨RX8, TX8, tyX8, rfl, by decide, rfl, uw_8, tyX8_ok, nmX8, Or.inr ⟨"ShiftRing", sr_nb (n := 272) (by decide +kernel) rfl⟩⟩
theorem fg_5_89 : sr_FG "ShiftRing$Sample" 89 8 12 17 := ⟨RX8, TX8, tyX8, rfl, by decide, rfl, uw_8, tyX8_ok, nmX8, Or.inr ⟨"ShiftRing", sr_nb (n := 275) (by decide +kernel) rfl⟩⟩
theorem fg_5_90 : sr_FG "ShiftRing$Sample" 90 8 7 17 := ⟨RX8, TX8, tyX8, rfl, by decide, rfl, uw_8, tyX8_ok, nmX8, Or.inr ⟨"ShiftRing", sr_nb (n := 260) (by decide +kernel) rfl⟩⟩
theorem fg_5_99 : sr_FG "ShiftRing$Sample" 99 8 13 17 := ⟨RX8, TX8, tyX8, rfl, by decide, rfl, uw_8, tyX8_ok, nmX8, Or.inr ⟨"ShiftRing", sr_nb (n := 278) (by decide +kernel) rfl⟩⟩
theorem fg_5_100 : sr_FG "ShiftRing$Sample" 100 8 8 17 := ⟨RX8, TX8, tyX8, rfl, by decide, rfl, uw_8, tyX8_ok, nmX8, Or.inr ⟨"ShiftRing", sr_nb (n := 263) (by decide +kernel) rfl⟩⟩
theorem fg_6_11 : sr_FG "ShiftRing$Store" 11 6 0 5 := ⟨RX6, TX6, tyX6, rfl, by decide, rfl, uw_6, tyX6_ok, nmX6, Or.inl (sr_tb (n := 223) (by decide +kernel) rfl)⟩
theorem fg_6_18 : sr_FG "ShiftRing$Store" 18 6 1 5 := ⟨RX6, TX6, tyX6, rfl, by decide, rfl, uw_6, tyX6_ok, nmX6, Or.inl (sr_tb (n := 224) (by decide +kernel) rfl)⟩
theorem fg_6_26 : sr_FG "ShiftRing$Store" 26 6 2 5 := ⟨RX6, TX6, tyX6, rfl, by decide, rfl, uw_6, tyX6_ok, nmX6, Or.inl (sr_tb (n := 225) (by decide +kernel) rfl)⟩
theorem fg_8_9 : sr_FG "ShiftRing$Trip" 9 8 6 17 := ⟨RX8, TX8, tyX8, rfl, by decide, rfl, uw_8, tyX8_ok, nmX8, Or.inl (sr_tb (n := 258) (by decide +kernel) rfl)⟩
theorem fg_8_15 : sr_FG "ShiftRing$Trip" 15 8 15 17 := ⟨RX8, TX8, tyX8, rfl, by decide, rfl, uw_8, tyX8_ok, nmX8, Or.inl (sr_tb (n := 282) (by decide +kernel) rfl)⟩
theorem fg_8_22 : sr_FG "ShiftRing$Trip" 22 8 16 17 := ⟨RX8, TX8, tyX8, rfl, by decide, rfl, uw_8, tyX8_ok, nmX8, Or.inl (sr_tb (n := 283) (by decide +kernel) rfl)⟩
theorem fg_8_26 : sr_FG "ShiftRing$Trip" 26 8 0 17 := ⟨RX8, TX8, tyX8, rfl, by decide, rfl, uw_8, tyX8_ok, nmX8, Or.inl (sr_tb (n := 250) (by decide +kernel) rfl)⟩
theorem fg_8_30 : sr_FG "ShiftRing$Trip" 30 3 1 9 := ⟨RX3, TX3, tyX3, rfl, by decide, rfl, uw_3, tyX3_ok, nmX3, Or.inr ⟨"ShiftRing", sr_nb (n := 153) (by decide +kernel) rfl⟩⟩
theorem fg_8_36 : sr_FG "ShiftRing$Trip" 36 8 3 17 := ⟨RX8, TX8, tyX8, rfl, by decide, rfl, uw_8, tyX8_ok, nmX8, Or.inl (sr_tb (n := 253) (by decide +kernel) rfl)⟩
theorem fg_8_57 : sr_FG "ShiftRing$Trip" 57 8 1 17 := ⟨RX8, TX8, tyX8, rfl, by decide, rfl, uw_8, tyX8_ok, nmX8, Or.inl (sr_tb (n := 251) (by decide +kernel) rfl)⟩
theorem fg_8_66 : sr_FG "ShiftRing$Trip" 66 8 7 17 := ⟨RX8, TX8, tyX8, rfl, by decide, rfl, uw_8, tyX8_ok, nmX8, Or.inl (sr_tb (n := 259) (by decide +kernel) rfl)⟩
theorem fg_8_70 : sr_FG "ShiftRing$Trip" 70 8 2 17 := ⟨RX8, TX8, tyX8, rfl, by decide, rfl, uw_8, tyX8_ok, nmX8, Or.inl (sr_tb (n := 252) (by decide +kernel) rfl)⟩
theorem fg_8_73 : sr_FG "ShiftRing$Trip" 73 8 8 17 := ⟨RX8, TX8, tyX8, rfl, by decide, rfl, uw_8, tyX8_ok, nmX8, Or.inl (sr_tb (n := 262) (by decide +kernel) rfl)⟩
theorem fg_8_76 : sr_FG "ShiftRing$Trip" 76 8 9 17 := ⟨RX8, TX8, tyX8, rfl, by decide, rfl, uw_8, tyX8_ok, nmX8, Or.inl (sr_tb (n := 265) (by decide +kernel) rfl)⟩
theorem fg_8_79 : sr_FG "ShiftRing$Trip" 79 8 10 17 := ⟨RX8, TX8, tyX8, rfl, by decide, rfl, uw_8, tyX8_ok, nmX8, Or.inl (sr_tb (n := 268) (by decide +kernel) rfl)⟩
theorem fg_8_82 : sr_FG "ShiftRing$Trip" 82 8 11 17 := ⟨RX8, TX8, tyX8, rfl, by decide, rfl, uw_8, tyX8_ok, nmX8, Or.inl (sr_tb (n := 271) (by decide +kernel) rfl)⟩
theorem fg_8_85 : sr_FG "ShiftRing$Trip" 85 8 12 17 := ⟨RX8, TX8, tyX8, rfl, by decide, rfl, uw_8, tyX8_ok, nmX8, Or.inl (sr_tb (n := 274) (by decide +kernel) rfl)⟩
theorem fg_8_88 : sr_FG "ShiftRing$Trip" 88 8 13 17 := ⟨RX8, TX8, tyX8, rfl, by decide, rfl, uw_8, tyX8_ok, nmX8, Or.inl (sr_tb (n := 277) (by decide +kernel) rfl)⟩
theorem fg_8_97 : sr_FG "ShiftRing$Trip" 97 3 7 9 := ⟨RX3, TX3, tyX3, rfl, by decide, rfl, uw_3, tyX3_ok, nmX3, Or.inr ⟨"ShiftRing", sr_nb (n := 170) (by decide +kernel) rfl⟩⟩
theorem fg_8_100 : sr_FG "ShiftRing$Trip" 100 8 5 17 := ⟨RX8, TX8, tyX8, rfl, by decide, rfl, uw_8, tyX8_ok, nmX8, Or.inl (sr_tb (n := 257) (by decide +kernel) rfl)⟩
theorem fg_8_103 : sr_FG "ShiftRing$Trip" 103 8 14 17 := ⟨RX8, TX8, tyX8, rfl, by decide, rfl, uw_8, tyX8_ok, nmX8, Or.inl (sr_tb (n := 280) (by decide +kernel) rfl)⟩
theorem fg_8_106 : sr_FG "ShiftRing$Trip" 106 2 1 8 := ⟨RX2, TX2, tyX2, rfl, by decide, rfl, uw_2, tyX2_ok, nmX2, Or.inr ⟨"ShiftRing", sr_nb (n := 95) (by decide +kernel) rfl⟩⟩
theorem fg_8_109 : sr_FG "ShiftRing$Trip" 109 8 4 17 := ⟨RX8, TX8, tyX8, rfl, by decide, rfl, uw_8, tyX8_ok, nmX8, Or.inl (sr_tb (n := 255) (by decide +kernel) rfl)⟩
theorem fg_8_112 : sr_FG "ShiftRing$Trip" 112 2 5 8 := ⟨RX2, TX2, tyX2, rfl, by decide, rfl, uw_2, tyX2_ok, nmX2, Or.inr ⟨"ShiftRing", sr_nb (n := 115) (by decide +kernel) rfl⟩⟩
theorem fg_8_122 : sr_FG "ShiftRing$Trip" 122 2 6 8 := ⟨RX2, TX2, tyX2, rfl, by decide, rfl, uw_2, tyX2_ok, nmX2, Or.inr ⟨"ShiftRing", sr_nb (n := 119) (by decide +kernel) rfl⟩⟩
theorem fg_8_128 : sr_FG "ShiftRing$Trip" 128 2 0 8 := ⟨RX2, TX2, tyX2, rfl, by decide, rfl, uw_2, tyX2_ok, nmX2, Or.inr ⟨"ShiftRing", sr_nb (n := 90) (by decide +kernel) rfl⟩⟩
theorem fg_8_131 : sr_FG "ShiftRing$Trip" 131 2 4 8 := ⟨RX2, TX2, tyX2, rfl, by decide, rfl, uw_2, tyX2_ok, nmX2, Or.inr ⟨"ShiftRing", sr_nb (n := 110) (by decide +kernel) rfl⟩⟩
theorem fg_8_135 : sr_FG "ShiftRing$Trip" 135 7 0 3 := ⟨RX7, TX7, tyX7, rfl, by decide, rfl, uw_7, tyX7_ok, nmX7, Or.inr ⟨"ShiftRing", sr_nb (n := 69) (by decide +kernel) rfl⟩⟩
theorem fg_8_140 : sr_FG "ShiftRing$Trip" 140 3 5 9 := ⟨RX3, TX3, tyX3, rfl, by decide, rfl, uw_3, tyX3_ok, nmX3, Or.inr ⟨"ShiftRing", sr_nb (n := 166) (by decide +kernel) rfl⟩⟩
theorem fg_8_155 : sr_FG "ShiftRing$Trip" 155 2 2 8 := ⟨RX2, TX2, tyX2, rfl, by decide, rfl, uw_2, tyX2_ok, nmX2, Or.inr ⟨"ShiftRing", sr_nb (n := 102) (by decide +kernel) rfl⟩⟩
theorem fg_8_168 : sr_FG "ShiftRing$Trip" 168 2 3 8 := ⟨RX2, TX2, tyX2, rfl, by decide, rfl, uw_2, tyX2_ok, nmX2, Or.inr ⟨"ShiftRing", sr_nb (n := 106) (by decide +kernel) rfl⟩⟩
theorem fg_8_183 : sr_FG "ShiftRing$Trip" 183 7 1 3 := ⟨RX7, TX7, tyX7, rfl, by decide, rfl, uw_7, tyX7_ok, nmX7, Or.inr ⟨"ShiftRing", sr_nb (n := 76) (by decide +kernel) rfl⟩⟩
theorem fg_8_186 : sr_FG "ShiftRing$Trip" 186 4 1 2 := ⟨RX4, TX4, tyX4, rfl, by decide, rfl, uw_4, tyX4_ok, nmX4, Or.inr ⟨"ShiftRing", sr_nb (n := 59) (by decide +kernel) rfl⟩⟩
theorem fg_9_9 : sr_FG "ShiftRing$Ways" 9 9 0 3 := ⟨RX9, TX9, tyX9, rfl, by decide, rfl, uw_9, tyX9_ok, nmX9, Or.inl (sr_tb (n := 394) (by decide +kernel) rfl)⟩
theorem fg_9_40 : sr_FG "ShiftRing$Ways" 40 3 3 9 := ⟨RX3, TX3, tyX3, rfl, by decide, rfl, uw_3, tyX3_ok, nmX3, Or.inr ⟨"ShiftRing", sr_nb (n := 158) (by decide +kernel) rfl⟩⟩
theorem ft_2_1 : sr_FT 2 1 8 0 false := ⟨RX2, TX2, rfl, rfl, (fun h => nomatch h), (show parseFieldDescriptor (TX2 1).2.2.1 = some .int from by decide +kernel)⟩
theorem ft_2_2 : sr_FT 2 2 8 1 false := ⟨RX2, TX2, rfl, rfl, (fun h => nomatch h), (show parseFieldDescriptor (TX2 2).2.2.1 = some .boolean from by decide +kernel)⟩
theorem ft_2_3 : sr_FT 2 3 8 0 false := ⟨RX2, TX2, rfl, rfl, (fun h => nomatch h), (show parseFieldDescriptor (TX2 3).2.2.1 = some .int from by decide +kernel)⟩
theorem ft_3_3 : sr_FT 3 3 9 0 false := ⟨RX3, TX3, rfl, rfl, (fun h => nomatch h), (show parseFieldDescriptor (TX3 3).2.2.1 = some .int from by decide +kernel)⟩
theorem ft_3_5 : sr_FT 3 5 9 0 false := ⟨RX3, TX3, rfl, rfl, (fun h => nomatch h), (show parseFieldDescriptor (TX3 5).2.2.1 = some .int from by decide +kernel)⟩
theorem ft_3_6 : sr_FT 3 6 9 0 false := ⟨RX3, TX3, rfl, rfl, (fun h => nomatch h), (show parseFieldDescriptor (TX3 6).2.2.1 = some .int from by decide +kernel)⟩
theorem ft_3_7 : sr_FT 3 7 9 0 false := ⟨RX3, TX3, rfl, rfl, (fun h => nomatch h), (show parseFieldDescriptor (TX3 7).2.2.1 = some .int from by decide +kernel)⟩
theorem ft_3_8 : sr_FT 3 8 9 0 false := ⟨RX3, TX3, rfl, rfl, (fun h => nomatch h), (show parseFieldDescriptor (TX3 8).2.2.1 = some .int from by decide +kernel)⟩
theorem ft_5_3 : sr_FT 5 3 11 0 false := ⟨RX5, TX5, rfl, rfl, (fun h => nomatch h), (show parseFieldDescriptor (TX5 3).2.2.1 = some .int from by decide +kernel)⟩
theorem ft_5_4 : sr_FT 5 4 11 0 false := ⟨RX5, TX5, rfl, rfl, (fun h => nomatch h), (show parseFieldDescriptor (TX5 4).2.2.1 = some .int from by decide +kernel)⟩
theorem ft_5_5 : sr_FT 5 5 11 0 false := ⟨RX5, TX5, rfl, rfl, (fun h => nomatch h), (show parseFieldDescriptor (TX5 5).2.2.1 = some .int from by decide +kernel)⟩
theorem ft_5_6 : sr_FT 5 6 11 0 false := ⟨RX5, TX5, rfl, rfl, (fun h => nomatch h), (show parseFieldDescriptor (TX5 6).2.2.1 = some .int from by decide +kernel)⟩
theorem ft_5_7 : sr_FT 5 7 11 0 false := ⟨RX5, TX5, rfl, rfl, (fun h => nomatch h), (show parseFieldDescriptor (TX5 7).2.2.1 = some .int from by decide +kernel)⟩
theorem ft_5_8 : sr_FT 5 8 11 0 false := ⟨RX5, TX5, rfl, rfl, (fun h => nomatch h), (show parseFieldDescriptor (TX5 8).2.2.1 = some .int from by decide +kernel)⟩
theorem ft_5_9 : sr_FT 5 9 11 0 false := ⟨RX5, TX5, rfl, rfl, (fun h => nomatch h), (show parseFieldDescriptor (TX5 9).2.2.1 = some .int from by decide +kernel)⟩
theorem ft_5_10 : sr_FT 5 10 11 0 false := ⟨RX5, TX5, rfl, rfl, (fun h => nomatch h), (show parseFieldDescriptor (TX5 10).2.2.1 = some .int from by decide +kernel)⟩
theorem ft_8_0 : sr_FT 8 0 17 2 false := ⟨RX8, TX8, rfl, rfl, (fun h => nomatch h), Or.inl ⟨"ShiftRing$Ring", by decide +kernel⟩⟩
theorem ft_8_1 : sr_FT 8 1 17 0 false := ⟨RX8, TX8, rfl, rfl, (fun h => nomatch h), (show parseFieldDescriptor (TX8 1).2.2.1 = some .int from by decide +kernel)⟩
theorem ft_8_2 : sr_FT 8 2 17 1 false := ⟨RX8, TX8, rfl, rfl, (fun h => nomatch h), (show parseFieldDescriptor (TX8 2).2.2.1 = some .boolean from by decide +kernel)⟩
theorem ft_8_3 : sr_FT 8 3 17 2 false := ⟨RX8, TX8, rfl, rfl, (fun h => nomatch h), Or.inl ⟨"ShiftRing$Node", by decide +kernel⟩⟩
theorem ft_8_4 : sr_FT 8 4 17 0 false := ⟨RX8, TX8, rfl, rfl, (fun h => nomatch h), (show parseFieldDescriptor (TX8 4).2.2.1 = some .int from by decide +kernel)⟩
theorem ft_8_5 : sr_FT 8 5 17 0 false := ⟨RX8, TX8, rfl, rfl, (fun h => nomatch h), (show parseFieldDescriptor (TX8 5).2.2.1 = some .int from by decide +kernel)⟩
theorem ft_8_6 : sr_FT 8 6 17 0 false := ⟨RX8, TX8, rfl, rfl, (fun h => nomatch h), (show parseFieldDescriptor (TX8 6).2.2.1 = some .int from by decide +kernel)⟩
theorem ft_8_7 : sr_FT 8 7 17 1 false := ⟨RX8, TX8, rfl, rfl, (fun h => nomatch h), (show parseFieldDescriptor (TX8 7).2.2.1 = some .boolean from by decide +kernel)⟩
theorem ft_8_8 : sr_FT 8 8 17 0 false := ⟨RX8, TX8, rfl, rfl, (fun h => nomatch h), (show parseFieldDescriptor (TX8 8).2.2.1 = some .int from by decide +kernel)⟩
theorem ft_8_9 : sr_FT 8 9 17 0 false := ⟨RX8, TX8, rfl, rfl, (fun h => nomatch h), (show parseFieldDescriptor (TX8 9).2.2.1 = some .int from by decide +kernel)⟩
theorem ft_8_10 : sr_FT 8 10 17 0 false := ⟨RX8, TX8, rfl, rfl, (fun h => nomatch h), (show parseFieldDescriptor (TX8 10).2.2.1 = some .int from by decide +kernel)⟩
theorem ft_8_11 : sr_FT 8 11 17 0 false := ⟨RX8, TX8, rfl, rfl, (fun h => nomatch h), (show parseFieldDescriptor (TX8 11).2.2.1 = some .int from by decide +kernel)⟩
theorem ft_8_12 : sr_FT 8 12 17 0 false := ⟨RX8, TX8, rfl, rfl, (fun h => nomatch h), (show parseFieldDescriptor (TX8 12).2.2.1 = some .int from by decide +kernel)⟩
theorem ft_8_13 : sr_FT 8 13 17 0 false := ⟨RX8, TX8, rfl, rfl, (fun h => nomatch h), (show parseFieldDescriptor (TX8 13).2.2.1 = some .int from by decide +kernel)⟩
theorem ft_8_14 : sr_FT 8 14 17 0 false := ⟨RX8, TX8, rfl, rfl, (fun h => nomatch h), (show parseFieldDescriptor (TX8 14).2.2.1 = some .int from by decide +kernel)⟩
theorem fl_10_87 : Cond.methodLink "ShiftRing" 87 (sr_My sr_m3_of) ∈ sr_TB := (sr_tb (n := 764) (by decide +kernel) rfl)
theorem fm_10_87 : sr_FV "ShiftRing" 87 sr_m3_of 3 1 := ⟨⟨rfl, sr_tb (n := 438) (by decide +kernel) rfl, sr_tb (n := 2) (by decide +kernel) rfl, ⟨by decide, by decide, by decide +kernel⟩, Or.inl fl_10_87⟩, ⟨TX3, 9, rfl, rfl⟩, sr_tb (n := 436) (by decide +kernel) rfl, sr_tb (n := 437) (by decide +kernel) rfl⟩
theorem fl_10_285 : Cond.methodLink "ShiftRing" 285 (sr_My sr_m5_run) ∈ sr_TB := (sr_tb (n := 763) (by decide +kernel) rfl)
theorem fm_10_285 : sr_FV "ShiftRing" 285 sr_m5_run 5 3 := ⟨⟨rfl, sr_tb (n := 588) (by decide +kernel) rfl, sr_tb (n := 9) (by decide +kernel) rfl, ⟨by decide, by decide, by decide +kernel⟩, Or.inl fl_10_285⟩, ⟨TX5, 11, rfl, rfl⟩, sr_tb (n := 586) (by decide +kernel) rfl, sr_tb (n := 587) (by decide +kernel) rfl⟩
theorem fl_10_303 : Cond.methodLink "ShiftRing" 303 (sr_My sr_m5_visitsOf) ∈ sr_TB := (sr_tb (n := 765) (by decide +kernel) rfl)
theorem fm_10_303 : sr_FV "ShiftRing" 303 sr_m5_visitsOf 5 1 := ⟨⟨rfl, sr_tb (n := 768) (by decide +kernel) rfl, sr_tb (n := 9) (by decide +kernel) rfl, ⟨by decide, by decide, by decide +kernel⟩, Or.inl fl_10_303⟩, ⟨TX5, 11, rfl, rfl⟩, sr_tb (n := 766) (by decide +kernel) rfl, sr_tb (n := 767) (by decide +kernel) rfl⟩
theorem fl_10_375 : Cond.methodLink "ShiftRing" 375 (sr_My sr_m9_widthOf) ∈ sr_TB := (sr_tb (n := 508) (by decide +kernel) rfl)
theorem fm_10_375 : sr_FV "ShiftRing" 375 sr_m9_widthOf 9 1 := ⟨⟨rfl, sr_tb (n := 511) (by decide +kernel) rfl, sr_tb (n := 11) (by decide +kernel) rfl, ⟨by decide, by decide, by decide +kernel⟩, Or.inl fl_10_375⟩, ⟨TX9, 3, rfl, rfl⟩, sr_tb (n := 509) (by decide +kernel) rfl, sr_tb (n := 510) (by decide +kernel) rfl⟩
theorem fl_10_379 : Cond.methodLink "ShiftRing" 379 (sr_My sr_m3_mostLoaded) ∈ sr_TB := (sr_tb (n := 550) (by decide +kernel) rfl)
theorem fm_10_379 : sr_FV "ShiftRing" 379 sr_m3_mostLoaded 3 0 := ⟨⟨rfl, sr_tb (n := 553) (by decide +kernel) rfl, sr_tb (n := 2) (by decide +kernel) rfl, ⟨by decide, by decide, by decide +kernel⟩, Or.inl fl_10_379⟩, ⟨TX3, 9, rfl, rfl⟩, sr_tb (n := 551) (by decide +kernel) rfl, sr_tb (n := 552) (by decide +kernel) rfl⟩
theorem fl_10_383 : Cond.methodLink "ShiftRing" 383 (sr_My sr_m1_mostHarmful) ∈ sr_TB := (sr_tb (n := 554) (by decide +kernel) rfl)
theorem fm_10_383 : sr_FV "ShiftRing" 383 sr_m1_mostHarmful 1 1 := ⟨⟨rfl, sr_tb (n := 557) (by decide +kernel) rfl, sr_tb (n := 10) (by decide +kernel) rfl, ⟨by decide, by decide, by decide +kernel⟩, Or.inl fl_10_383⟩, ⟨TX1, 2, rfl, rfl⟩, sr_tb (n := 555) (by decide +kernel) rfl, sr_tb (n := 556) (by decide +kernel) rfl⟩
theorem fl_10_386 : Cond.methodLink "ShiftRing" 386 (sr_My sr_m3_mostLinks) ∈ sr_TB := (sr_tb (n := 697) (by decide +kernel) rfl)
theorem fm_10_386 : sr_FV "ShiftRing" 386 sr_m3_mostLinks 3 0 := ⟨⟨rfl, sr_tb (n := 700) (by decide +kernel) rfl, sr_tb (n := 2) (by decide +kernel) rfl, ⟨by decide, by decide, by decide +kernel⟩, Or.inl fl_10_386⟩, ⟨TX3, 9, rfl, rfl⟩, sr_tb (n := 698) (by decide +kernel) rfl, sr_tb (n := 699) (by decide +kernel) rfl⟩
theorem fl_10_389 : Cond.methodLink "ShiftRing" 389 (sr_My sr_m1_firstToMend) ∈ sr_TB := (sr_tb (n := 709) (by decide +kernel) rfl)
theorem fm_10_389 : sr_FV "ShiftRing" 389 sr_m1_firstToMend 1 1 := ⟨⟨rfl, sr_tb (n := 712) (by decide +kernel) rfl, sr_tb (n := 10) (by decide +kernel) rfl, ⟨by decide, by decide, by decide +kernel⟩, Or.inl fl_10_389⟩, ⟨TX1, 2, rfl, rfl⟩, sr_tb (n := 710) (by decide +kernel) rfl, sr_tb (n := 711) (by decide +kernel) rfl⟩
theorem fl_10_395 : Cond.methodLink "ShiftRing" 395 (sr_My sr_m6_countOfMissing) ∈ sr_TB := (sr_tb (n := 721) (by decide +kernel) rfl)
theorem fm_10_395 : sr_FV "ShiftRing" 395 sr_m6_countOfMissing 6 1 := ⟨⟨rfl, sr_tb (n := 724) (by decide +kernel) rfl, sr_tb (n := 6) (by decide +kernel) rfl, ⟨by decide, by decide, by decide +kernel⟩, Or.inl fl_10_395⟩, ⟨TX6, 5, rfl, rfl⟩, sr_tb (n := 722) (by decide +kernel) rfl, sr_tb (n := 723) (by decide +kernel) rfl⟩
theorem fl_10_401 : Cond.methodLink "ShiftRing" 401 (sr_My sr_m3_gapOfLoads) ∈ sr_TB := (sr_tb (n := 743) (by decide +kernel) rfl)
theorem fm_10_401 : sr_FV "ShiftRing" 401 sr_m3_gapOfLoads 3 0 := ⟨⟨rfl, sr_tb (n := 746) (by decide +kernel) rfl, sr_tb (n := 2) (by decide +kernel) rfl, ⟨by decide, by decide, by decide +kernel⟩, Or.inl fl_10_401⟩, ⟨TX3, 9, rfl, rfl⟩, sr_tb (n := 744) (by decide +kernel) rfl, sr_tb (n := 745) (by decide +kernel) rfl⟩
theorem fl_10_404 : Cond.methodLink "ShiftRing" 404 (sr_My sr_m3_placeToSplit) ∈ sr_TB := (sr_tb (n := 751) (by decide +kernel) rfl)
theorem fm_10_404 : sr_FV "ShiftRing" 404 sr_m3_placeToSplit 3 0 := ⟨⟨rfl, sr_tb (n := 754) (by decide +kernel) rfl, sr_tb (n := 2) (by decide +kernel) rfl, ⟨by decide, by decide, by decide +kernel⟩, Or.inl fl_10_404⟩, ⟨TX3, 9, rfl, rfl⟩, sr_tb (n := 752) (by decide +kernel) rfl, sr_tb (n := 753) (by decide +kernel) rfl⟩
theorem fl_10_407 : Cond.methodLink "ShiftRing" 407 (sr_My sr_m10_busiest) ∈ sr_TB := (sr_tb (n := 759) (by decide +kernel) rfl)
theorem fm_10_407 : sr_FV "ShiftRing" 407 sr_m10_busiest 10 0 := ⟨⟨rfl, sr_tb (n := 762) (by decide +kernel) rfl, sr_tb (n := 1) (by decide +kernel) rfl, ⟨by decide, by decide, by decide +kernel⟩, Or.inl fl_10_407⟩, ⟨TX10, 7, rfl, rfl⟩, sr_tb (n := 761) (by decide +kernel) rfl, sr_ts (n := 20) (by decide +kernel) rfl⟩
theorem fl_10_439 : Cond.methodLink "ShiftRing" 439 (sr_My sr_m10_bit) ∈ sr_TB := (sr_tb (n := 526) (by decide +kernel) rfl)
theorem fm_10_439 : sr_FS "ShiftRing" 439 sr_m10_bit 1 := ⟨⟨rfl, sr_tb (n := 522) (by decide +kernel) rfl, sr_tb (n := 1) (by decide +kernel) rfl, ⟨by decide, by decide, by decide +kernel⟩, Or.inl fl_10_439⟩, sr_tb (n := 521) (by decide +kernel) rfl⟩
theorem fl_0_22 : Cond.methodLink "ShiftRing$Entry" 22 (sr_My sr_m0_versionAt) ∈ sr_TB := (sr_tb (n := 737) (by decide +kernel) rfl)
theorem fm_0_22 : sr_FV "ShiftRing$Entry" 22 sr_m0_versionAt 0 1 := ⟨⟨rfl, sr_tb (n := 740) (by decide +kernel) rfl, sr_tb (n := 7) (by decide +kernel) rfl, ⟨by decide, by decide, by decide +kernel⟩, Or.inl fl_0_22⟩, ⟨TX0, 4, rfl, rfl⟩, sr_tb (n := 738) (by decide +kernel) rfl, sr_tb (n := 739) (by decide +kernel) rfl⟩
theorem fl_0_30 : Cond.methodLink "ShiftRing$Entry" 30 (sr_My sr_m0_isHeldBy) ∈ sr_TB := (sr_tb (n := 733) (by decide +kernel) rfl)
theorem fm_0_30 : sr_FV "ShiftRing$Entry" 30 sr_m0_isHeldBy 0 1 := ⟨⟨rfl, sr_tb (n := 736) (by decide +kernel) rfl, sr_tb (n := 7) (by decide +kernel) rfl, ⟨by decide, by decide, by decide +kernel⟩, Or.inl fl_0_30⟩, ⟨TX0, 4, rfl, rfl⟩, sr_tb (n := 734) (by decide +kernel) rfl, sr_tb (n := 735) (by decide +kernel) rfl⟩
theorem fl_0_37 : Cond.methodLinkNest "ShiftRing$Entry" 37 (sr_My sr_m10_bit) "ShiftRing" ∈ sr_NB := (sr_nb (n := 741) (by decide +kernel) rfl)
theorem fm_0_37 : sr_FS "ShiftRing$Entry" 37 sr_m10_bit 1 := ⟨⟨rfl, sr_tb (n := 522) (by decide +kernel) rfl, sr_tb (n := 1) (by decide +kernel) rfl, ⟨by decide, by decide, by decide +kernel⟩, Or.inr ⟨_, fl_0_37⟩⟩, sr_tb (n := 521) (by decide +kernel) rfl⟩
theorem fl_1_22 : Cond.methodLink "ShiftRing$Forecast" 22 (sr_My sr_m3_copyFrom) ∈ sr_TB := (sr_tb (n := 563) (by decide +kernel) rfl)
theorem fm_1_22 : sr_FV "ShiftRing$Forecast" 22 sr_m3_copyFrom 3 1 := ⟨⟨rfl, sr_tb (n := 566) (by decide +kernel) rfl, sr_tb (n := 2) (by decide +kernel) rfl, ⟨by decide, by decide, by decide +kernel⟩, Or.inl fl_1_22⟩, ⟨TX3, 9, rfl, rfl⟩, sr_tb (n := 564) (by decide +kernel) rfl, sr_tb (n := 565) (by decide +kernel) rfl⟩
theorem fl_1_46 : Cond.methodLink "ShiftRing$Forecast" 46 (sr_My sr_m5_run) ∈ sr_TB := (sr_tb (n := 585) (by decide +kernel) rfl)
theorem fm_1_46 : sr_FV "ShiftRing$Forecast" 46 sr_m5_run 5 3 := ⟨⟨rfl, sr_tb (n := 588) (by decide +kernel) rfl, sr_tb (n := 9) (by decide +kernel) rfl, ⟨by decide, by decide, by decide +kernel⟩, Or.inl fl_1_46⟩, ⟨TX5, 11, rfl, rfl⟩, sr_tb (n := 586) (by decide +kernel) rfl, sr_tb (n := 587) (by decide +kernel) rfl⟩
theorem fl_1_68 : Cond.methodLink "ShiftRing$Forecast" 68 (sr_My sr_m3_of) ∈ sr_TB := (sr_tb (n := 558) (by decide +kernel) rfl)
theorem fm_1_68 : sr_FV "ShiftRing$Forecast" 68 sr_m3_of 3 1 := ⟨⟨rfl, sr_tb (n := 438) (by decide +kernel) rfl, sr_tb (n := 2) (by decide +kernel) rfl, ⟨by decide, by decide, by decide +kernel⟩, Or.inl fl_1_68⟩, ⟨TX3, 9, rfl, rfl⟩, sr_tb (n := 436) (by decide +kernel) rfl, sr_tb (n := 437) (by decide +kernel) rfl⟩
theorem fl_1_72 : Cond.methodLink "ShiftRing$Forecast" 72 (sr_My sr_m3_takeDown) ∈ sr_TB := (sr_tb (n := 581) (by decide +kernel) rfl)
theorem fm_1_72 : sr_FV "ShiftRing$Forecast" 72 sr_m3_takeDown 3 1 := ⟨⟨rfl, sr_tb (n := 584) (by decide +kernel) rfl, sr_tb (n := 2) (by decide +kernel) rfl, ⟨by decide, by decide, by decide +kernel⟩, Or.inl fl_1_72⟩, ⟨TX3, 9, rfl, rfl⟩, sr_tb (n := 582) (by decide +kernel) rfl, sr_tb (n := 583) (by decide +kernel) rfl⟩
theorem fl_1_88 : Cond.methodLink "ShiftRing$Forecast" 88 (sr_My sr_m1_harmOf) ∈ sr_TB := (sr_tb (n := 559) (by decide +kernel) rfl)
theorem fm_1_88 : sr_FV "ShiftRing$Forecast" 88 sr_m1_harmOf 1 2 := ⟨⟨rfl, sr_tb (n := 562) (by decide +kernel) rfl, sr_tb (n := 10) (by decide +kernel) rfl, ⟨by decide, by decide, by decide +kernel⟩, Or.inl fl_1_88⟩, ⟨TX1, 2, rfl, rfl⟩, sr_tb (n := 560) (by decide +kernel) rfl, sr_tb (n := 561) (by decide +kernel) rfl⟩
theorem fl_1_92 : Cond.methodLink "ShiftRing$Forecast" 92 (sr_My sr_m1_hopsIfMended) ∈ sr_TB := (sr_tb (n := 713) (by decide +kernel) rfl)
theorem fm_1_92 : sr_FV "ShiftRing$Forecast" 92 sr_m1_hopsIfMended 1 2 := ⟨⟨rfl, sr_tb (n := 716) (by decide +kernel) rfl, sr_tb (n := 10) (by decide +kernel) rfl, ⟨by decide, by decide, by decide +kernel⟩, Or.inl fl_1_92⟩, ⟨TX1, 2, rfl, rfl⟩, sr_tb (n := 715) (by decide +kernel) rfl, sr_ts (n := 18) (by decide +kernel) rfl⟩
theorem fl_1_95 : Cond.methodLink "ShiftRing$Forecast" 95 (sr_My sr_m3_layAgain) ∈ sr_TB := (sr_tb (n := 717) (by decide +kernel) rfl)
theorem fm_1_95 : sr_FV "ShiftRing$Forecast" 95 sr_m3_layAgain 3 1 := ⟨⟨rfl, sr_tb (n := 720) (by decide +kernel) rfl, sr_tb (n := 2) (by decide +kernel) rfl, ⟨by decide, by decide, by decide +kernel⟩, Or.inl fl_1_95⟩, ⟨TX3, 9, rfl, rfl⟩, sr_tb (n := 718) (by decide +kernel) rfl, sr_tb (n := 719) (by decide +kernel) rfl⟩
theorem fl_2_35 : Cond.methodLink "ShiftRing$Node" 35 (sr_My sr_m7_copyFrom) ∈ sr_TB := (sr_tb (n := 571) (by decide +kernel) rfl)
theorem fm_2_35 : sr_FV "ShiftRing$Node" 35 sr_m7_copyFrom 7 1 := ⟨⟨rfl, sr_tb (n := 574) (by decide +kernel) rfl, sr_tb (n := 4) (by decide +kernel) rfl, ⟨by decide, by decide, by decide +kernel⟩, Or.inl fl_2_35⟩, ⟨TX7, 3, rfl, rfl⟩, sr_tb (n := 572) (by decide +kernel) rfl, sr_tb (n := 573) (by decide +kernel) rfl⟩
theorem fl_2_43 : Cond.methodLink "ShiftRing$Node" 43 (sr_My sr_m4_bits) ∈ sr_TB := (sr_tb (n := 532) (by decide +kernel) rfl)
theorem fm_2_43 : sr_FV "ShiftRing$Node" 43 sr_m4_bits 4 0 := ⟨⟨rfl, sr_tb (n := 535) (by decide +kernel) rfl, sr_tb (n := 5) (by decide +kernel) rfl, ⟨by decide, by decide, by decide +kernel⟩, Or.inl fl_2_43⟩, ⟨TX4, 2, rfl, rfl⟩, sr_tb (n := 533) (by decide +kernel) rfl, sr_tb (n := 534) (by decide +kernel) rfl⟩
theorem fl_2_52 : Cond.methodLinkNest "ShiftRing$Node" 52 (sr_My sr_m10_bit) "ShiftRing" ∈ sr_NB := (sr_nb (n := 537) (by decide +kernel) rfl)
theorem fm_2_52 : sr_FS "ShiftRing$Node" 52 sr_m10_bit 1 := ⟨⟨rfl, sr_tb (n := 522) (by decide +kernel) rfl, sr_tb (n := 1) (by decide +kernel) rfl, ⟨by decide, by decide, by decide +kernel⟩, Or.inr ⟨_, fl_2_52⟩⟩, sr_tb (n := 521) (by decide +kernel) rfl⟩
theorem fl_2_56 : Cond.methodLinkNest "ShiftRing$Node" 56 (sr_My sr_m10_onward) "ShiftRing" ∈ sr_NB := (sr_nb (n := 631) (by decide +kernel) rfl)
theorem fm_2_56 : sr_FS "ShiftRing$Node" 56 sr_m10_onward 2 := ⟨⟨rfl, sr_tb (n := 457) (by decide +kernel) rfl, sr_tb (n := 1) (by decide +kernel) rfl, ⟨by decide, by decide, by decide +kernel⟩, Or.inr ⟨_, fl_2_56⟩⟩, sr_tb (n := 456) (by decide +kernel) rfl⟩
theorem fl_3_35 : Cond.methodLink "ShiftRing$Ring" 35 (sr_My sr_m3_setBase) ∈ sr_TB := (sr_tb (n := 144) (by decide +kernel) rfl)
theorem fm_3_35 : sr_FV "ShiftRing$Ring" 35 sr_m3_setBase 3 1 := ⟨⟨rfl, sr_tb (n := 147) (by decide +kernel) rfl, sr_tb (n := 2) (by decide +kernel) rfl, ⟨by decide, by decide, by decide +kernel⟩, Or.inl fl_3_35⟩, ⟨TX3, 9, rfl, rfl⟩, sr_tb (n := 145) (by decide +kernel) rfl, sr_tb (n := 146) (by decide +kernel) rfl⟩
theorem fl_3_41 : Cond.methodLinkNest "ShiftRing$Ring" 41 (sr_My sr_m10_bitsOf) "ShiftRing" ∈ sr_NB := (sr_nb (n := 148) (by decide +kernel) rfl)
theorem fm_3_41 : sr_FS "ShiftRing$Ring" 41 sr_m10_bitsOf 1 := ⟨⟨rfl, sr_tb (n := 150) (by decide +kernel) rfl, sr_tb (n := 1) (by decide +kernel) rfl, ⟨by decide, by decide, by decide +kernel⟩, Or.inr ⟨_, fl_3_41⟩⟩, sr_tb (n := 149) (by decide +kernel) rfl⟩
theorem fl_3_144 : Cond.methodLink "ShiftRing$Ring" 144 (sr_My sr_m2_linkBits) ∈ sr_TB := (sr_tb (n := 701) (by decide +kernel) rfl)
theorem fm_3_144 : sr_FV "ShiftRing$Ring" 144 sr_m2_linkBits 2 0 := ⟨⟨rfl, sr_tb (n := 531) (by decide +kernel) rfl, sr_tb (n := 3) (by decide +kernel) rfl, ⟨by decide, by decide, by decide +kernel⟩, Or.inl fl_3_144⟩, ⟨TX2, 8, rfl, rfl⟩, sr_tb (n := 529) (by decide +kernel) rfl, sr_tb (n := 530) (by decide +kernel) rfl⟩
theorem fl_3_152 : Cond.methodLinkNest "ShiftRing$Ring" 152 (sr_My sr_m10_bit) "ShiftRing" ∈ sr_NB := (sr_nb (n := 520) (by decide +kernel) rfl)
theorem fm_3_152 : sr_FS "ShiftRing$Ring" 152 sr_m10_bit 1 := ⟨⟨rfl, sr_tb (n := 522) (by decide +kernel) rfl, sr_tb (n := 1) (by decide +kernel) rfl, ⟨by decide, by decide, by decide +kernel⟩, Or.inr ⟨_, fl_3_152⟩⟩, sr_tb (n := 521) (by decide +kernel) rfl⟩
theorem fl_3_155 : Cond.methodLink "ShiftRing$Ring" 155 (sr_My sr_mn_bitCount) ∈ sr_TB := (sr_tb (n := 702) (by decide +kernel) rfl)
theorem fm_3_155 : sr_FS "ShiftRing$Ring" 155 sr_mn_bitCount 1 := ⟨⟨rfl, sr_tb (n := 704) (by decide +kernel) rfl, sr_tb (n := 22) (by decide +kernel) rfl, ⟨by decide, by decide, by decide +kernel⟩, Or.inl fl_3_155⟩, sr_tb (n := 703) (by decide +kernel) rfl⟩
theorem fl_3_165 : Cond.methodLink "ShiftRing$Ring" 165 (sr_My sr_m3_mostLoaded) ∈ sr_TB := (sr_tb (n := 747) (by decide +kernel) rfl)
theorem fm_3_165 : sr_FV "ShiftRing$Ring" 165 sr_m3_mostLoaded 3 0 := ⟨⟨rfl, sr_tb (n := 553) (by decide +kernel) rfl, sr_tb (n := 2) (by decide +kernel) rfl, ⟨by decide, by decide, by decide +kernel⟩, Or.inl fl_3_165⟩, ⟨TX3, 9, rfl, rfl⟩, sr_tb (n := 551) (by decide +kernel) rfl, sr_tb (n := 552) (by decide +kernel) rfl⟩
theorem fl_3_172 : Cond.methodLink "ShiftRing$Ring" 172 (sr_My sr_m3_isTaken) ∈ sr_TB := (sr_tb (n := 755) (by decide +kernel) rfl)
theorem fm_3_172 : sr_FV "ShiftRing$Ring" 172 sr_m3_isTaken 3 1 := ⟨⟨rfl, sr_tb (n := 758) (by decide +kernel) rfl, sr_tb (n := 2) (by decide +kernel) rfl, ⟨by decide, by decide, by decide +kernel⟩, Or.inl fl_3_172⟩, ⟨TX3, 9, rfl, rfl⟩, sr_tb (n := 756) (by decide +kernel) rfl, sr_tb (n := 757) (by decide +kernel) rfl⟩
theorem fl_3_182 : Cond.methodLink "ShiftRing$Ring" 182 (sr_My sr_m2_copyFrom) ∈ sr_TB := (sr_tb (n := 567) (by decide +kernel) rfl)
theorem fm_3_182 : sr_FV "ShiftRing$Ring" 182 sr_m2_copyFrom 2 1 := ⟨⟨rfl, sr_tb (n := 570) (by decide +kernel) rfl, sr_tb (n := 3) (by decide +kernel) rfl, ⟨by decide, by decide, by decide +kernel⟩, Or.inl fl_3_182⟩, ⟨TX2, 8, rfl, rfl⟩, sr_tb (n := 568) (by decide +kernel) rfl, sr_tb (n := 569) (by decide +kernel) rfl⟩
theorem fl_4_19 : Cond.methodLink "ShiftRing$Row" 19 (sr_My sr_m4_empty) ∈ sr_TB := (sr_tb (n := 579) (by decide +kernel) rfl)
theorem fm_4_19 : sr_FV "ShiftRing$Row" 19 sr_m4_empty 4 0 := ⟨⟨rfl, sr_tb (n := 450) (by decide +kernel) rfl, sr_tb (n := 5) (by decide +kernel) rfl, ⟨by decide, by decide, by decide +kernel⟩, Or.inl fl_4_19⟩, ⟨TX4, 2, rfl, rfl⟩, sr_tb (n := 448) (by decide +kernel) rfl, sr_tb (n := 449) (by decide +kernel) rfl⟩
theorem fl_4_26 : Cond.methodLink "ShiftRing$Row" 26 (sr_My sr_m4_add) ∈ sr_TB := (sr_tb (n := 580) (by decide +kernel) rfl)
theorem fm_4_26 : sr_FV "ShiftRing$Row" 26 sr_m4_add 4 1 := ⟨⟨rfl, sr_tb (n := 461) (by decide +kernel) rfl, sr_tb (n := 5) (by decide +kernel) rfl, ⟨by decide, by decide, by decide +kernel⟩, Or.inl fl_4_26⟩, ⟨TX4, 2, rfl, rfl⟩, sr_tb (n := 459) (by decide +kernel) rfl, sr_tb (n := 460) (by decide +kernel) rfl⟩
theorem fl_4_30 : Cond.methodLinkNest "ShiftRing$Row" 30 (sr_My sr_m10_bit) "ShiftRing" ∈ sr_NB := (sr_nb (n := 536) (by decide +kernel) rfl)
theorem fm_4_30 : sr_FS "ShiftRing$Row" 30 sr_m10_bit 1 := ⟨⟨rfl, sr_tb (n := 522) (by decide +kernel) rfl, sr_tb (n := 1) (by decide +kernel) rfl, ⟨by decide, by decide, by decide +kernel⟩, Or.inr ⟨_, fl_4_30⟩⟩, sr_tb (n := 521) (by decide +kernel) rfl⟩
theorem fl_5_27 : Cond.methodLink "ShiftRing$Sample" 27 (sr_My sr_m5_reset) ∈ sr_TB := (sr_tb (n := 589) (by decide +kernel) rfl)
theorem fm_5_27 : sr_FV "ShiftRing$Sample" 27 sr_m5_reset 5 0 := ⟨⟨rfl, sr_tb (n := 592) (by decide +kernel) rfl, sr_tb (n := 9) (by decide +kernel) rfl, ⟨by decide, by decide, by decide +kernel⟩, Or.inl fl_5_27⟩, ⟨TX5, 11, rfl, rfl⟩, sr_tb (n := 591) (by decide +kernel) rfl, sr_ts (n := 7) (by decide +kernel) rfl⟩
theorem fl_5_36 : Cond.methodLink "ShiftRing$Sample" 36 (sr_My sr_m3_of) ∈ sr_TB := (sr_tb (n := 596) (by decide +kernel) rfl)
theorem fm_5_36 : sr_FV "ShiftRing$Sample" 36 sr_m3_of 3 1 := ⟨⟨rfl, sr_tb (n := 438) (by decide +kernel) rfl, sr_tb (n := 2) (by decide +kernel) rfl, ⟨by decide, by decide, by decide +kernel⟩, Or.inl fl_5_36⟩, ⟨TX3, 9, rfl, rfl⟩, sr_tb (n := 436) (by decide +kernel) rfl, sr_tb (n := 437) (by decide +kernel) rfl⟩
theorem fl_5_46 : Cond.methodLink "ShiftRing$Sample" 46 (sr_My sr_m8_travel) ∈ sr_TB := (sr_tb (n := 597) (by decide +kernel) rfl)
theorem fm_5_46 : sr_FV "ShiftRing$Sample" 46 sr_m8_travel 8 4 := ⟨⟨rfl, sr_tb (n := 600) (by decide +kernel) rfl, sr_tb (n := 8) (by decide +kernel) rfl, ⟨by decide, by decide, by decide +kernel⟩, Or.inl fl_5_46⟩, ⟨TX8, 17, rfl, rfl⟩, sr_tb (n := 598) (by decide +kernel) rfl, sr_tb (n := 599) (by decide +kernel) rfl⟩
theorem fl_5_50 : Cond.methodLink "ShiftRing$Sample" 50 (sr_My sr_m5_addTrip) ∈ sr_TB := (sr_tb (n := 670) (by decide +kernel) rfl)
theorem fm_5_50 : sr_FV "ShiftRing$Sample" 50 sr_m5_addTrip 5 0 := ⟨⟨rfl, sr_tb (n := 673) (by decide +kernel) rfl, sr_tb (n := 9) (by decide +kernel) rfl, ⟨by decide, by decide, by decide +kernel⟩, Or.inl fl_5_50⟩, ⟨TX5, 11, rfl, rfl⟩, sr_tb (n := 672) (by decide +kernel) rfl, sr_ts (n := 15) (by decide +kernel) rfl⟩
theorem fl_5_53 : Cond.methodLink "ShiftRing$Sample" 53 (sr_My sr_m5_traceTrip) ∈ sr_TB := (sr_tb (n := 675) (by decide +kernel) rfl)
theorem fm_5_53 : sr_FV "ShiftRing$Sample" 53 sr_m5_traceTrip 5 0 := ⟨⟨rfl, sr_tb (n := 678) (by decide +kernel) rfl, sr_tb (n := 9) (by decide +kernel) rfl, ⟨by decide, by decide, by decide +kernel⟩, Or.inl fl_5_53⟩, ⟨TX5, 11, rfl, rfl⟩, sr_tb (n := 677) (by decide +kernel) rfl, sr_ts (n := 16) (by decide +kernel) rfl⟩
theorem fl_5_80 : Cond.methodLink "ShiftRing$Sample" 80 (sr_My sr_ma_fill) ∈ sr_TB := (sr_tb (n := 593) (by decide +kernel) rfl)
theorem fm_5_80 : sr_FS "ShiftRing$Sample" 80 sr_ma_fill 2 := ⟨⟨rfl, sr_tb (n := 595) (by decide +kernel) rfl, sr_tb (n := 21) (by decide +kernel) rfl, ⟨by decide, by decide, by decide +kernel⟩, Or.inl fl_5_80⟩, sr_tb (n := 594) (by decide +kernel) rfl⟩
theorem fl_5_103 : Cond.methodLink "ShiftRing$Sample" 103 (sr_My sr_m8_partOfStep) ∈ sr_TB := (sr_tb (n := 679) (by decide +kernel) rfl)
theorem fm_5_103 : sr_FV "ShiftRing$Sample" 103 sr_m8_partOfStep 8 2 := ⟨⟨rfl, sr_tb (n := 682) (by decide +kernel) rfl, sr_tb (n := 8) (by decide +kernel) rfl, ⟨by decide, by decide, by decide +kernel⟩, Or.inl fl_5_103⟩, ⟨TX8, 17, rfl, rfl⟩, sr_tb (n := 680) (by decide +kernel) rfl, sr_tb (n := 681) (by decide +kernel) rfl⟩
theorem fl_5_106 : Cond.methodLink "ShiftRing$Sample" 106 (sr_My sr_m8_nodeBehindStep) ∈ sr_TB := (sr_tb (n := 683) (by decide +kernel) rfl)
theorem fm_5_106 : sr_FV "ShiftRing$Sample" 106 sr_m8_nodeBehindStep 8 1 := ⟨⟨rfl, sr_tb (n := 686) (by decide +kernel) rfl, sr_tb (n := 8) (by decide +kernel) rfl, ⟨by decide, by decide, by decide +kernel⟩, Or.inl fl_5_106⟩, ⟨TX8, 17, rfl, rfl⟩, sr_tb (n := 684) (by decide +kernel) rfl, sr_tb (n := 685) (by decide +kernel) rfl⟩
theorem fl_5_110 : Cond.methodLinkNest "ShiftRing$Sample" 110 (sr_My sr_m10_hasBit) "ShiftRing" ∈ sr_NB := (sr_nb (n := 688) (by decide +kernel) rfl)
theorem fm_5_110 : sr_FS "ShiftRing$Sample" 110 sr_m10_hasBit 2 := ⟨⟨rfl, sr_tb (n := 525) (by decide +kernel) rfl, sr_tb (n := 1) (by decide +kernel) rfl, ⟨by decide, by decide, by decide +kernel⟩, Or.inr ⟨_, fl_5_110⟩⟩, sr_tb (n := 524) (by decide +kernel) rfl⟩
theorem fl_5_114 : Cond.methodLink "ShiftRing$Sample" 114 (sr_My sr_m5_addHop) ∈ sr_TB := (sr_tb (n := 689) (by decide +kernel) rfl)
theorem fm_5_114 : sr_FV "ShiftRing$Sample" 114 sr_m5_addHop 5 3 := ⟨⟨rfl, sr_tb (n := 692) (by decide +kernel) rfl, sr_tb (n := 9) (by decide +kernel) rfl, ⟨by decide, by decide, by decide +kernel⟩, Or.inl fl_5_114⟩, ⟨TX5, 11, rfl, rfl⟩, sr_tb (n := 691) (by decide +kernel) rfl, sr_ts (n := 17) (by decide +kernel) rfl⟩
theorem fl_5_118 : Cond.methodLinkNest "ShiftRing$Sample" 118 (sr_My sr_m10_bit) "ShiftRing" ∈ sr_NB := (sr_nb (n := 696) (by decide +kernel) rfl)
theorem fm_5_118 : sr_FS "ShiftRing$Sample" 118 sr_m10_bit 1 := ⟨⟨rfl, sr_tb (n := 522) (by decide +kernel) rfl, sr_tb (n := 1) (by decide +kernel) rfl, ⟨by decide, by decide, by decide +kernel⟩, Or.inr ⟨_, fl_5_118⟩⟩, sr_tb (n := 521) (by decide +kernel) rfl⟩
theorem fl_5_121 : Cond.methodLink "ShiftRing$Sample" 121 (sr_My sr_m5_crossingOf) ∈ sr_TB := (sr_tb (n := 693) (by decide +kernel) rfl)
theorem fm_5_121 : sr_FS "ShiftRing$Sample" 121 sr_m5_crossingOf 2 := ⟨⟨rfl, sr_tb (n := 695) (by decide +kernel) rfl, sr_tb (n := 9) (by decide +kernel) rfl, ⟨by decide, by decide, by decide +kernel⟩, Or.inl fl_5_121⟩, sr_tb (n := 694) (by decide +kernel) rfl⟩
theorem fl_6_29 : Cond.methodLink "ShiftRing$Store" 29 (sr_My sr_m6_entryAt) ∈ sr_TB := (sr_tb (n := 725) (by decide +kernel) rfl)
theorem fm_6_29 : sr_FV "ShiftRing$Store" 29 sr_m6_entryAt 6 1 := ⟨⟨rfl, sr_tb (n := 728) (by decide +kernel) rfl, sr_tb (n := 6) (by decide +kernel) rfl, ⟨by decide, by decide, by decide +kernel⟩, Or.inl fl_6_29⟩, ⟨TX6, 5, rfl, rfl⟩, sr_tb (n := 727) (by decide +kernel) rfl, sr_ts (n := 19) (by decide +kernel) rfl⟩
theorem fl_6_113 : Cond.methodLink "ShiftRing$Store" 113 (sr_My sr_m0_bitsOfHolders) ∈ sr_TB := (sr_tb (n := 729) (by decide +kernel) rfl)
theorem fm_6_113 : sr_FV "ShiftRing$Store" 113 sr_m0_bitsOfHolders 0 1 := ⟨⟨rfl, sr_tb (n := 732) (by decide +kernel) rfl, sr_tb (n := 7) (by decide +kernel) rfl, ⟨by decide, by decide, by decide +kernel⟩, Or.inl fl_6_113⟩, ⟨TX0, 4, rfl, rfl⟩, sr_tb (n := 730) (by decide +kernel) rfl, sr_tb (n := 731) (by decide +kernel) rfl⟩
theorem fl_6_117 : Cond.methodLink "ShiftRing$Store" 117 (sr_My sr_m3_upBits) ∈ sr_TB := (sr_tb (n := 742) (by decide +kernel) rfl)
theorem fm_6_117 : sr_FV "ShiftRing$Store" 117 sr_m3_upBits 3 0 := ⟨⟨rfl, sr_tb (n := 519) (by decide +kernel) rfl, sr_tb (n := 2) (by decide +kernel) rfl, ⟨by decide, by decide, by decide +kernel⟩, Or.inl fl_6_117⟩, ⟨TX3, 9, rfl, rfl⟩, sr_tb (n := 517) (by decide +kernel) rfl, sr_tb (n := 518) (by decide +kernel) rfl⟩
theorem fl_7_23 : Cond.methodLink "ShiftRing$Table" 23 (sr_My sr_m4_copyFrom) ∈ sr_TB := (sr_tb (n := 575) (by decide +kernel) rfl)
theorem fm_7_23 : sr_FV "ShiftRing$Table" 23 sr_m4_copyFrom 4 1 := ⟨⟨rfl, sr_tb (n := 578) (by decide +kernel) rfl, sr_tb (n := 5) (by decide +kernel) rfl, ⟨by decide, by decide, by decide +kernel⟩, Or.inl fl_7_23⟩, ⟨TX4, 2, rfl, rfl⟩, sr_tb (n := 576) (by decide +kernel) rfl, sr_tb (n := 577) (by decide +kernel) rfl⟩
theorem fl_8_39 : Cond.methodLink "ShiftRing$Trip" 39 (sr_My sr_m8_setOut) ∈ sr_TB := (sr_tb (n := 601) (by decide +kernel) rfl)
theorem fm_8_39 : sr_FV "ShiftRing$Trip" 39 sr_m8_setOut 8 4 := ⟨⟨rfl, sr_tb (n := 604) (by decide +kernel) rfl, sr_tb (n := 8) (by decide +kernel) rfl, ⟨by decide, by decide, by decide +kernel⟩, Or.inl fl_8_39⟩, ⟨TX8, 17, rfl, rfl⟩, sr_tb (n := 602) (by decide +kernel) rfl, sr_tb (n := 603) (by decide +kernel) rfl⟩
theorem fl_8_43 : Cond.methodLink "ShiftRing$Trip" 43 (sr_My sr_m8_endHere) ∈ sr_TB := (sr_tb (n := 618) (by decide +kernel) rfl)
theorem fm_8_43 : sr_FV "ShiftRing$Trip" 43 sr_m8_endHere 8 0 := ⟨⟨rfl, sr_tb (n := 621) (by decide +kernel) rfl, sr_tb (n := 8) (by decide +kernel) rfl, ⟨by decide, by decide, by decide +kernel⟩, Or.inl fl_8_43⟩, ⟨TX8, 17, rfl, rfl⟩, sr_tb (n := 620) (by decide +kernel) rfl, sr_ts (n := 9) (by decide +kernel) rfl⟩
theorem fl_8_47 : Cond.methodLink "ShiftRing$Trip" 47 (sr_My sr_m8_takeStep) ∈ sr_TB := (sr_tb (n := 623) (by decide +kernel) rfl)
theorem fm_8_47 : sr_FV "ShiftRing$Trip" 47 sr_m8_takeStep 8 0 := ⟨⟨rfl, sr_tb (n := 626) (by decide +kernel) rfl, sr_tb (n := 8) (by decide +kernel) rfl, ⟨by decide, by decide, by decide +kernel⟩, Or.inl fl_8_47⟩, ⟨TX8, 17, rfl, rfl⟩, sr_tb (n := 625) (by decide +kernel) rfl, sr_ts (n := 10) (by decide +kernel) rfl⟩
theorem fl_8_50 : Cond.methodLink "ShiftRing$Trip" 50 (sr_My sr_m8_rememberWhy) ∈ sr_TB := (sr_tb (n := 660) (by decide +kernel) rfl)
theorem fm_8_50 : sr_FV "ShiftRing$Trip" 50 sr_m8_rememberWhy 8 0 := ⟨⟨rfl, sr_tb (n := 663) (by decide +kernel) rfl, sr_tb (n := 8) (by decide +kernel) rfl, ⟨by decide, by decide, by decide +kernel⟩, Or.inl fl_8_50⟩, ⟨TX8, 17, rfl, rfl⟩, sr_tb (n := 662) (by decide +kernel) rfl, sr_ts (n := 14) (by decide +kernel) rfl⟩
theorem fl_8_53 : Cond.methodLink "ShiftRing$Trip" 53 (sr_My sr_m3_of) ∈ sr_TB := (sr_tb (n := 632) (by decide +kernel) rfl)
theorem fm_8_53 : sr_FV "ShiftRing$Trip" 53 sr_m3_of 3 1 := ⟨⟨rfl, sr_tb (n := 438) (by decide +kernel) rfl, sr_tb (n := 2) (by decide +kernel) rfl, ⟨by decide, by decide, by decide +kernel⟩, Or.inl fl_8_53⟩, ⟨TX3, 9, rfl, rfl⟩, sr_tb (n := 436) (by decide +kernel) rfl, sr_tb (n := 437) (by decide +kernel) rfl⟩
theorem fl_8_60 : Cond.methodLink "ShiftRing$Trip" 60 (sr_My sr_m2_owns) ∈ sr_TB := (sr_tb (n := 666) (by decide +kernel) rfl)
theorem fm_8_60 : sr_FV "ShiftRing$Trip" 60 sr_m2_owns 2 1 := ⟨⟨rfl, sr_tb (n := 669) (by decide +kernel) rfl, sr_tb (n := 3) (by decide +kernel) rfl, ⟨by decide, by decide, by decide +kernel⟩, Or.inl fl_8_60⟩, ⟨TX2, 8, rfl, rfl⟩, sr_tb (n := 667) (by decide +kernel) rfl, sr_tb (n := 668) (by decide +kernel) rfl⟩
theorem fl_8_91 : Cond.methodLink "ShiftRing$Trip" 91 (sr_My sr_m4_empty) ∈ sr_TB := (sr_tb (n := 605) (by decide +kernel) rfl)
theorem fm_8_91 : sr_FV "ShiftRing$Trip" 91 sr_m4_empty 4 0 := ⟨⟨rfl, sr_tb (n := 450) (by decide +kernel) rfl, sr_tb (n := 5) (by decide +kernel) rfl, ⟨by decide, by decide, by decide +kernel⟩, Or.inl fl_8_91⟩, ⟨TX4, 2, rfl, rfl⟩, sr_tb (n := 448) (by decide +kernel) rfl, sr_tb (n := 449) (by decide +kernel) rfl⟩
theorem fl_8_94 : Cond.methodLink "ShiftRing$Trip" 94 (sr_My sr_m8_startHere) ∈ sr_TB := (sr_tb (n := 606) (by decide +kernel) rfl)
theorem fm_8_94 : sr_FV "ShiftRing$Trip" 94 sr_m8_startHere 8 0 := ⟨⟨rfl, sr_tb (n := 609) (by decide +kernel) rfl, sr_tb (n := 8) (by decide +kernel) rfl, ⟨by decide, by decide, by decide +kernel⟩, Or.inl fl_8_94⟩, ⟨TX8, 17, rfl, rfl⟩, sr_tb (n := 608) (by decide +kernel) rfl, sr_ts (n := 8) (by decide +kernel) rfl⟩
theorem fl_8_115 : Cond.methodLink "ShiftRing$Trip" 115 (sr_My sr_m3_withoutLast) ∈ sr_TB := (sr_tb (n := 610) (by decide +kernel) rfl)
theorem fm_8_115 : sr_FV "ShiftRing$Trip" 115 sr_m3_withoutLast 3 2 := ⟨⟨rfl, sr_tb (n := 613) (by decide +kernel) rfl, sr_tb (n := 2) (by decide +kernel) rfl, ⟨by decide, by decide, by decide +kernel⟩, Or.inl fl_8_115⟩, ⟨TX3, 9, rfl, rfl⟩, sr_tb (n := 611) (by decide +kernel) rfl, sr_tb (n := 612) (by decide +kernel) rfl⟩
theorem fl_8_119 : Cond.methodLink "ShiftRing$Trip" 119 (sr_My sr_m3_withoutFirst) ∈ sr_TB := (sr_tb (n := 614) (by decide +kernel) rfl)
theorem fm_8_119 : sr_FV "ShiftRing$Trip" 119 sr_m3_withoutFirst 3 2 := ⟨⟨rfl, sr_tb (n := 617) (by decide +kernel) rfl, sr_tb (n := 2) (by decide +kernel) rfl, ⟨by decide, by decide, by decide +kernel⟩, Or.inl fl_8_119⟩, ⟨TX3, 9, rfl, rfl⟩, sr_tb (n := 615) (by decide +kernel) rfl, sr_tb (n := 616) (by decide +kernel) rfl⟩
theorem fl_8_125 : Cond.methodLinkNest "ShiftRing$Trip" 125 (sr_My sr_m10_onward) "ShiftRing" ∈ sr_NB := (sr_nb (n := 622) (by decide +kernel) rfl)
theorem fm_8_125 : sr_FS "ShiftRing$Trip" 125 sr_m10_onward 2 := ⟨⟨rfl, sr_tb (n := 457) (by decide +kernel) rfl, sr_tb (n := 1) (by decide +kernel) rfl, ⟨by decide, by decide, by decide +kernel⟩, Or.inr ⟨_, fl_8_125⟩⟩, sr_tb (n := 456) (by decide +kernel) rfl⟩
theorem fl_8_141 : Cond.methodLink "ShiftRing$Trip" 141 (sr_My sr_m2_isInArc) ∈ sr_TB := (sr_tb (n := 627) (by decide +kernel) rfl)
theorem fm_8_141 : sr_FV "ShiftRing$Trip" 141 sr_m2_isInArc 2 1 := ⟨⟨rfl, sr_tb (n := 630) (by decide +kernel) rfl, sr_tb (n := 3) (by decide +kernel) rfl, ⟨by decide, by decide, by decide +kernel⟩, Or.inl fl_8_141⟩, ⟨TX2, 8, rfl, rfl⟩, sr_tb (n := 628) (by decide +kernel) rfl, sr_tb (n := 629) (by decide +kernel) rfl⟩
theorem fl_8_144 : Cond.methodLink "ShiftRing$Trip" 144 (sr_My sr_m8_pass) ∈ sr_TB := (sr_tb (n := 633) (by decide +kernel) rfl)
theorem fm_8_144 : sr_FV "ShiftRing$Trip" 144 sr_m8_pass 8 2 := ⟨⟨rfl, sr_tb (n := 636) (by decide +kernel) rfl, sr_tb (n := 8) (by decide +kernel) rfl, ⟨by decide, by decide, by decide +kernel⟩, Or.inl fl_8_144⟩, ⟨TX8, 17, rfl, rfl⟩, sr_tb (n := 635) (by decide +kernel) rfl, sr_ts (n := 11) (by decide +kernel) rfl⟩
theorem fl_8_148 : Cond.methodLink "ShiftRing$Trip" 148 (sr_My sr_m8_shiftedOnce) ∈ sr_TB := (sr_tb (n := 644) (by decide +kernel) rfl)
theorem fm_8_148 : sr_FV "ShiftRing$Trip" 148 sr_m8_shiftedOnce 8 0 := ⟨⟨rfl, sr_tb (n := 647) (by decide +kernel) rfl, sr_tb (n := 8) (by decide +kernel) rfl, ⟨by decide, by decide, by decide +kernel⟩, Or.inl fl_8_148⟩, ⟨TX8, 17, rfl, rfl⟩, sr_tb (n := 646) (by decide +kernel) rfl, sr_ts (n := 13) (by decide +kernel) rfl⟩
theorem fl_8_151 : Cond.methodLink "ShiftRing$Trip" 151 (sr_My sr_m3_pointerFor) ∈ sr_TB := (sr_tb (n := 656) (by decide +kernel) rfl)
theorem fm_8_151 : sr_FV "ShiftRing$Trip" 151 sr_m3_pointerFor 3 2 := ⟨⟨rfl, sr_tb (n := 659) (by decide +kernel) rfl, sr_tb (n := 2) (by decide +kernel) rfl, ⟨by decide, by decide, by decide +kernel⟩, Or.inl fl_8_151⟩, ⟨TX3, 9, rfl, rfl⟩, sr_tb (n := 657) (by decide +kernel) rfl, sr_tb (n := 658) (by decide +kernel) rfl⟩
theorem fl_8_158 : Cond.methodLink "ShiftRing$Trip" 158 (sr_My sr_m3_letterOf) ∈ sr_TB := (sr_tb (n := 648) (by decide +kernel) rfl)
theorem fm_8_158 : sr_FV "ShiftRing$Trip" 158 sr_m3_letterOf 3 2 := ⟨⟨rfl, sr_tb (n := 651) (by decide +kernel) rfl, sr_tb (n := 2) (by decide +kernel) rfl, ⟨by decide, by decide, by decide +kernel⟩, Or.inl fl_8_158⟩, ⟨TX3, 9, rfl, rfl⟩, sr_tb (n := 649) (by decide +kernel) rfl, sr_tb (n := 650) (by decide +kernel) rfl⟩
theorem fl_8_161 : Cond.methodLink "ShiftRing$Trip" 161 (sr_My sr_m3_shiftIn) ∈ sr_TB := (sr_tb (n := 652) (by decide +kernel) rfl)
theorem fm_8_161 : sr_FV "ShiftRing$Trip" 161 sr_m3_shiftIn 3 2 := ⟨⟨rfl, sr_tb (n := 655) (by decide +kernel) rfl, sr_tb (n := 2) (by decide +kernel) rfl, ⟨by decide, by decide, by decide +kernel⟩, Or.inl fl_8_161⟩, ⟨TX3, 9, rfl, rfl⟩, sr_tb (n := 653) (by decide +kernel) rfl, sr_tb (n := 654) (by decide +kernel) rfl⟩
theorem fl_8_164 : Cond.methodLink "ShiftRing$Trip" 164 (sr_My sr_m8_remember) ∈ sr_TB := (sr_tb (n := 637) (by decide +kernel) rfl)
theorem fm_8_164 : sr_FV "ShiftRing$Trip" 164 sr_m8_remember 8 1 := ⟨⟨rfl, sr_tb (n := 640) (by decide +kernel) rfl, sr_tb (n := 8) (by decide +kernel) rfl, ⟨by decide, by decide, by decide +kernel⟩, Or.inl fl_8_164⟩, ⟨TX8, 17, rfl, rfl⟩, sr_tb (n := 639) (by decide +kernel) rfl, sr_ts (n := 12) (by decide +kernel) rfl⟩
theorem fl_8_177 : Cond.methodLink "ShiftRing$Trip" 177 (sr_My sr_m8_partOfStep) ∈ sr_TB := (sr_tb (n := 687) (by decide +kernel) rfl)
theorem fm_8_177 : sr_FV "ShiftRing$Trip" 177 sr_m8_partOfStep 8 2 := ⟨⟨rfl, sr_tb (n := 682) (by decide +kernel) rfl, sr_tb (n := 8) (by decide +kernel) rfl, ⟨by decide, by decide, by decide +kernel⟩, Or.inl fl_8_177⟩, ⟨TX8, 17, rfl, rfl⟩, sr_tb (n := 680) (by decide +kernel) rfl, sr_tb (n := 681) (by decide +kernel) rfl⟩
theorem fl_8_180 : Cond.methodLink "ShiftRing$Trip" 180 (sr_My sr_m4_add) ∈ sr_TB := (sr_tb (n := 664) (by decide +kernel) rfl)
theorem fm_8_180 : sr_FV "ShiftRing$Trip" 180 sr_m4_add 4 1 := ⟨⟨rfl, sr_tb (n := 461) (by decide +kernel) rfl, sr_tb (n := 5) (by decide +kernel) rfl, ⟨by decide, by decide, by decide +kernel⟩, Or.inl fl_8_180⟩, ⟨TX4, 2, rfl, rfl⟩, sr_tb (n := 459) (by decide +kernel) rfl, sr_tb (n := 460) (by decide +kernel) rfl⟩
theorem fl_8_189 : Cond.methodLink "ShiftRing$Trip" 189 (sr_My sr_m4_at) ∈ sr_TB := (sr_tb (n := 665) (by decide +kernel) rfl)
theorem fm_8_189 : sr_FV "ShiftRing$Trip" 189 sr_m4_at 4 1 := ⟨⟨rfl, sr_tb (n := 477) (by decide +kernel) rfl, sr_tb (n := 5) (by decide +kernel) rfl, ⟨by decide, by decide, by decide +kernel⟩, Or.inl fl_8_189⟩, ⟨TX4, 2, rfl, rfl⟩, sr_tb (n := 475) (by decide +kernel) rfl, sr_tb (n := 476) (by decide +kernel) rfl⟩
theorem fl_9_22 : Cond.methodLink "ShiftRing$Ways" 22 (sr_My sr_m9_readLinks) ∈ sr_TB := (sr_tb (n := 512) (by decide +kernel) rfl)
theorem fm_9_22 : sr_FV "ShiftRing$Ways" 22 sr_m9_readLinks 9 1 := ⟨⟨rfl, sr_tb (n := 515) (by decide +kernel) rfl, sr_tb (n := 11) (by decide +kernel) rfl, ⟨by decide, by decide, by decide +kernel⟩, Or.inl fl_9_22⟩, ⟨TX9, 3, rfl, rfl⟩, sr_tb (n := 514) (by decide +kernel) rfl, sr_ts (n := 4) (by decide +kernel) rfl⟩
theorem fl_9_26 : Cond.methodLinkNest "ShiftRing$Ways" 26 (sr_My sr_m10_bit) "ShiftRing" ∈ sr_NB := (sr_nb (n := 542) (by decide +kernel) rfl)
theorem fm_9_26 : sr_FS "ShiftRing$Ways" 26 sr_m10_bit 1 := ⟨⟨rfl, sr_tb (n := 522) (by decide +kernel) rfl, sr_tb (n := 1) (by decide +kernel) rfl, ⟨by decide, by decide, by decide +kernel⟩, Or.inr ⟨_, fl_9_26⟩⟩, sr_tb (n := 521) (by decide +kernel) rfl⟩
theorem fl_9_30 : Cond.methodLink "ShiftRing$Ways" 30 (sr_My sr_m9_linksToAll) ∈ sr_TB := (sr_tb (n := 538) (by decide +kernel) rfl)
theorem fm_9_30 : sr_FV "ShiftRing$Ways" 30 sr_m9_linksToAll 9 2 := ⟨⟨rfl, sr_tb (n := 541) (by decide +kernel) rfl, sr_tb (n := 11) (by decide +kernel) rfl, ⟨by decide, by decide, by decide +kernel⟩, Or.inl fl_9_30⟩, ⟨TX9, 3, rfl, rfl⟩, sr_tb (n := 540) (by decide +kernel) rfl, sr_ts (n := 5) (by decide +kernel) rfl⟩
theorem fl_9_34 : Cond.methodLink "ShiftRing$Ways" 34 (sr_My sr_m3_upBits) ∈ sr_TB := (sr_tb (n := 516) (by decide +kernel) rfl)
theorem fm_9_34 : sr_FV "ShiftRing$Ways" 34 sr_m3_upBits 3 0 := ⟨⟨rfl, sr_tb (n := 519) (by decide +kernel) rfl, sr_tb (n := 2) (by decide +kernel) rfl, ⟨by decide, by decide, by decide +kernel⟩, Or.inl fl_9_34⟩, ⟨TX3, 9, rfl, rfl⟩, sr_tb (n := 517) (by decide +kernel) rfl, sr_tb (n := 518) (by decide +kernel) rfl⟩
theorem fl_9_44 : Cond.methodLinkNest "ShiftRing$Ways" 44 (sr_My sr_m10_hasBit) "ShiftRing" ∈ sr_NB := (sr_nb (n := 523) (by decide +kernel) rfl)
theorem fm_9_44 : sr_FS "ShiftRing$Ways" 44 sr_m10_hasBit 2 := ⟨⟨rfl, sr_tb (n := 525) (by decide +kernel) rfl, sr_tb (n := 1) (by decide +kernel) rfl, ⟨by decide, by decide, by decide +kernel⟩, Or.inr ⟨_, fl_9_44⟩⟩, sr_tb (n := 524) (by decide +kernel) rfl⟩
theorem fl_9_53 : Cond.methodLink "ShiftRing$Ways" 53 (sr_My sr_m3_of) ∈ sr_TB := (sr_tb (n := 527) (by decide +kernel) rfl)
theorem fm_9_53 : sr_FV "ShiftRing$Ways" 53 sr_m3_of 3 1 := ⟨⟨rfl, sr_tb (n := 438) (by decide +kernel) rfl, sr_tb (n := 2) (by decide +kernel) rfl, ⟨by decide, by decide, by decide +kernel⟩, Or.inl fl_9_53⟩, ⟨TX3, 9, rfl, rfl⟩, sr_tb (n := 436) (by decide +kernel) rfl, sr_tb (n := 437) (by decide +kernel) rfl⟩
theorem fl_9_57 : Cond.methodLink "ShiftRing$Ways" 57 (sr_My sr_m2_linkBits) ∈ sr_TB := (sr_tb (n := 528) (by decide +kernel) rfl)
theorem fm_9_57 : sr_FV "ShiftRing$Ways" 57 sr_m2_linkBits 2 0 := ⟨⟨rfl, sr_tb (n := 531) (by decide +kernel) rfl, sr_tb (n := 3) (by decide +kernel) rfl, ⟨by decide, by decide, by decide +kernel⟩, Or.inl fl_9_57⟩, ⟨TX2, 8, rfl, rfl⟩, sr_tb (n := 529) (by decide +kernel) rfl, sr_tb (n := 530) (by decide +kernel) rfl⟩
theorem fl_9_62 : Cond.methodLink "ShiftRing$Ways" 62 (sr_My sr_m9_linkedFrom) ∈ sr_TB := (sr_tb (n := 543) (by decide +kernel) rfl)
theorem fm_9_62 : sr_FV "ShiftRing$Ways" 62 sr_m9_linkedFrom 9 1 := ⟨⟨rfl, sr_tb (n := 546) (by decide +kernel) rfl, sr_tb (n := 11) (by decide +kernel) rfl, ⟨by decide, by decide, by decide +kernel⟩, Or.inl fl_9_62⟩, ⟨TX9, 3, rfl, rfl⟩, sr_tb (n := 545) (by decide +kernel) rfl, sr_ts (n := 6) (by decide +kernel) rfl⟩
theorem rm_0_bitsOfHolders_0_isHeldBy : sr_RM sr_m0_bitsOfHolders sr_m0_isHeldBy := ⟨Nat.le_of_ble_eq_true rfl, Nat.le_of_ble_eq_true rfl⟩
theorem rm_0_bitsOfHolders_0_versionAt : sr_RM sr_m0_bitsOfHolders sr_m0_versionAt := ⟨Nat.le_of_ble_eq_true rfl, Nat.le_of_ble_eq_true rfl⟩
theorem rm_0_bitsOfHolders_10_bit : sr_RM sr_m0_bitsOfHolders sr_m10_bit := ⟨Nat.le_of_ble_eq_true rfl, Nat.le_of_ble_eq_true rfl⟩
theorem rm_0_isHeldBy_0_versionAt : sr_RM sr_m0_isHeldBy sr_m0_versionAt := ⟨Nat.le_of_ble_eq_true rfl, Nat.le_of_ble_eq_true rfl⟩
theorem rm_10_busiest_3_of : sr_RM sr_m10_busiest sr_m3_of := ⟨Nat.le_of_ble_eq_true rfl, Nat.le_of_ble_eq_true rfl⟩
theorem rm_10_busiest_5_run : sr_RM sr_m10_busiest sr_m5_run := ⟨Nat.le_of_ble_eq_true rfl, Nat.le_of_ble_eq_true rfl⟩
theorem rm_10_busiest_5_visitsOf : sr_RM sr_m10_busiest sr_m5_visitsOf := ⟨Nat.le_of_ble_eq_true rfl, Nat.le_of_ble_eq_true rfl⟩
theorem rm_10_count_10_busiest : sr_RM sr_m10_count sr_m10_busiest := ⟨Nat.le_of_ble_eq_true rfl, Nat.le_of_ble_eq_true rfl⟩
theorem rm_10_count_1_firstToMend : sr_RM sr_m10_count sr_m1_firstToMend := ⟨Nat.le_of_ble_eq_true rfl, Nat.le_of_ble_eq_true rfl⟩
theorem rm_10_count_1_mostHarmful : sr_RM sr_m10_count sr_m1_mostHarmful := ⟨Nat.le_of_ble_eq_true rfl, Nat.le_of_ble_eq_true rfl⟩
theorem rm_10_count_3_gapOfLoads : sr_RM sr_m10_count sr_m3_gapOfLoads := ⟨Nat.le_of_ble_eq_true rfl, Nat.le_of_ble_eq_true rfl⟩
theorem rm_10_count_3_mostLinks : sr_RM sr_m10_count sr_m3_mostLinks := ⟨Nat.le_of_ble_eq_true rfl, Nat.le_of_ble_eq_true rfl⟩
theorem rm_10_count_3_mostLoaded : sr_RM sr_m10_count sr_m3_mostLoaded := ⟨Nat.le_of_ble_eq_true rfl, Nat.le_of_ble_eq_true rfl⟩
theorem rm_10_count_3_placeToSplit : sr_RM sr_m10_count sr_m3_placeToSplit := ⟨Nat.le_of_ble_eq_true rfl, Nat.le_of_ble_eq_true rfl⟩
theorem rm_10_count_3_staleOfAll : sr_RM sr_m10_count sr_m3_staleOfAll := ⟨Nat.le_of_ble_eq_true rfl, Nat.le_of_ble_eq_true rfl⟩
theorem rm_10_count_6_countOfMissing : sr_RM sr_m10_count sr_m6_countOfMissing := ⟨Nat.le_of_ble_eq_true rfl, Nat.le_of_ble_eq_true rfl⟩
theorem rm_10_count_9_widthOf : sr_RM sr_m10_count sr_m9_widthOf := ⟨Nat.le_of_ble_eq_true rfl, Nat.le_of_ble_eq_true rfl⟩
theorem rm_10_hasBit_10_bit : sr_RM sr_m10_hasBit sr_m10_bit := ⟨Nat.le_of_ble_eq_true rfl, Nat.le_of_ble_eq_true rfl⟩
theorem rm_1_firstToMend_1_hopsIfMended : sr_RM sr_m1_firstToMend sr_m1_hopsIfMended := ⟨Nat.le_of_ble_eq_true rfl, Nat.le_of_ble_eq_true rfl⟩
theorem rm_1_firstToMend_3_of : sr_RM sr_m1_firstToMend sr_m3_of := ⟨Nat.le_of_ble_eq_true rfl, Nat.le_of_ble_eq_true rfl⟩
theorem rm_1_harmOf_3_copyFrom : sr_RM sr_m1_harmOf sr_m3_copyFrom := ⟨Nat.le_of_ble_eq_true rfl, Nat.le_of_ble_eq_true rfl⟩
theorem rm_1_harmOf_3_of : sr_RM sr_m1_harmOf sr_m3_of := ⟨Nat.le_of_ble_eq_true rfl, Nat.le_of_ble_eq_true rfl⟩
theorem rm_1_harmOf_3_takeDown : sr_RM sr_m1_harmOf sr_m3_takeDown := ⟨Nat.le_of_ble_eq_true rfl, Nat.le_of_ble_eq_true rfl⟩
theorem rm_1_harmOf_5_run : sr_RM sr_m1_harmOf sr_m5_run := ⟨Nat.le_of_ble_eq_true rfl, Nat.le_of_ble_eq_true rfl⟩
theorem rm_1_hopsIfMended_3_copyFrom : sr_RM sr_m1_hopsIfMended sr_m3_copyFrom := ⟨Nat.le_of_ble_eq_true rfl, Nat.le_of_ble_eq_true rfl⟩
theorem rm_1_hopsIfMended_3_layAgain : sr_RM sr_m1_hopsIfMended sr_m3_layAgain := ⟨Nat.le_of_ble_eq_true rfl, Nat.le_of_ble_eq_true rfl⟩
theorem rm_1_hopsIfMended_3_of : sr_RM sr_m1_hopsIfMended sr_m3_of := ⟨Nat.le_of_ble_eq_true rfl, Nat.le_of_ble_eq_true rfl⟩
theorem rm_1_hopsIfMended_5_run : sr_RM sr_m1_hopsIfMended sr_m5_run := ⟨Nat.le_of_ble_eq_true rfl, Nat.le_of_ble_eq_true rfl⟩
theorem rm_1_mostHarmful_1_harmOf : sr_RM sr_m1_mostHarmful sr_m1_harmOf := ⟨Nat.le_of_ble_eq_true rfl, Nat.le_of_ble_eq_true rfl⟩
theorem rm_1_mostHarmful_3_of : sr_RM sr_m1_mostHarmful sr_m3_of := ⟨Nat.le_of_ble_eq_true rfl, Nat.le_of_ble_eq_true rfl⟩
theorem rm_2_copyFrom_7_copyFrom : sr_RM sr_m2_copyFrom sr_m7_copyFrom := ⟨Nat.le_of_ble_eq_true rfl, Nat.le_of_ble_eq_true rfl⟩
theorem rm_2_isInArc_10_onward : sr_RM sr_m2_isInArc sr_m10_onward := ⟨Nat.le_of_ble_eq_true rfl, Nat.le_of_ble_eq_true rfl⟩
theorem rm_2_linkBits_10_bit : sr_RM sr_m2_linkBits sr_m10_bit := ⟨Nat.le_of_ble_eq_true rfl, Nat.le_of_ble_eq_true rfl⟩
theorem rm_2_linkBits_4_bits : sr_RM sr_m2_linkBits sr_m4_bits := ⟨Nat.le_of_ble_eq_true rfl, Nat.le_of_ble_eq_true rfl⟩
theorem rm_2_owns_10_onward : sr_RM sr_m2_owns sr_m10_onward := ⟨Nat.le_of_ble_eq_true rfl, Nat.le_of_ble_eq_true rfl⟩
theorem rm_3_copyFrom_2_copyFrom : sr_RM sr_m3_copyFrom sr_m2_copyFrom := ⟨Nat.le_of_ble_eq_true rfl, Nat.le_of_ble_eq_true rfl⟩
theorem rm_3_copyFrom_3_of : sr_RM sr_m3_copyFrom sr_m3_of := ⟨Nat.le_of_ble_eq_true rfl, Nat.le_of_ble_eq_true rfl⟩
theorem rm_3_copyFrom_3_refresh : sr_RM sr_m3_copyFrom sr_m3_refresh := ⟨Nat.le_of_ble_eq_true rfl, Nat.le_of_ble_eq_true rfl⟩
theorem rm_3_copyFrom_3_setBase : sr_RM sr_m3_copyFrom sr_m3_setBase := ⟨Nat.le_of_ble_eq_true rfl, Nat.le_of_ble_eq_true rfl⟩
theorem rm_3_gapOfLoads_3_mostLoaded : sr_RM sr_m3_gapOfLoads sr_m3_mostLoaded := ⟨Nat.le_of_ble_eq_true rfl, Nat.le_of_ble_eq_true rfl⟩
theorem rm_3_gapOfLoads_3_of : sr_RM sr_m3_gapOfLoads sr_m3_of := ⟨Nat.le_of_ble_eq_true rfl, Nat.le_of_ble_eq_true rfl⟩
theorem rm_3_isTaken_3_of : sr_RM sr_m3_isTaken sr_m3_of := ⟨Nat.le_of_ble_eq_true rfl, Nat.le_of_ble_eq_true rfl⟩
theorem rm_3_layAgain_3_layInto : sr_RM sr_m3_layAgain sr_m3_layInto := ⟨Nat.le_of_ble_eq_true rfl, Nat.le_of_ble_eq_true rfl⟩
theorem rm_3_layAgain_3_refresh : sr_RM sr_m3_layAgain sr_m3_refresh := ⟨Nat.le_of_ble_eq_true rfl, Nat.le_of_ble_eq_true rfl⟩
theorem rm_3_mostLinks_2_linkBits : sr_RM sr_m3_mostLinks sr_m2_linkBits := ⟨Nat.le_of_ble_eq_true rfl, Nat.le_of_ble_eq_true rfl⟩
theorem rm_3_mostLinks_3_of : sr_RM sr_m3_mostLinks sr_m3_of := ⟨Nat.le_of_ble_eq_true rfl, Nat.le_of_ble_eq_true rfl⟩
theorem rm_3_mostLinks_n_bitCount : sr_RM sr_m3_mostLinks sr_mn_bitCount := ⟨Nat.le_of_ble_eq_true rfl, Nat.le_of_ble_eq_true rfl⟩
theorem rm_3_mostLoaded_3_of : sr_RM sr_m3_mostLoaded sr_m3_of := ⟨Nat.le_of_ble_eq_true rfl, Nat.le_of_ble_eq_true rfl⟩
theorem rm_3_placeToSplit_3_isTaken : sr_RM sr_m3_placeToSplit sr_m3_isTaken := ⟨Nat.le_of_ble_eq_true rfl, Nat.le_of_ble_eq_true rfl⟩
theorem rm_3_placeToSplit_3_mostLoaded : sr_RM sr_m3_placeToSplit sr_m3_mostLoaded := ⟨Nat.le_of_ble_eq_true rfl, Nat.le_of_ble_eq_true rfl⟩
theorem rm_3_pointerFor_10_onward : sr_RM sr_m3_pointerFor sr_m10_onward := ⟨Nat.le_of_ble_eq_true rfl, Nat.le_of_ble_eq_true rfl⟩
theorem rm_3_pointerFor_3_of : sr_RM sr_m3_pointerFor sr_m3_of := ⟨Nat.le_of_ble_eq_true rfl, Nat.le_of_ble_eq_true rfl⟩
theorem rm_3_pointerFor_4_at : sr_RM sr_m3_pointerFor sr_m4_at := ⟨Nat.le_of_ble_eq_true rfl, Nat.le_of_ble_eq_true rfl⟩
theorem rm_3_setBase_10_bitsOf : sr_RM sr_m3_setBase sr_m10_bitsOf := ⟨Nat.le_of_ble_eq_true rfl, Nat.le_of_ble_eq_true rfl⟩
theorem rm_3_takeDown_3_refresh : sr_RM sr_m3_takeDown sr_m3_refresh := ⟨Nat.le_of_ble_eq_true rfl, Nat.le_of_ble_eq_true rfl⟩
theorem rm_3_upBits_10_bit : sr_RM sr_m3_upBits sr_m10_bit := ⟨Nat.le_of_ble_eq_true rfl, Nat.le_of_ble_eq_true rfl⟩
theorem rm_3_upBits_3_of : sr_RM sr_m3_upBits sr_m3_of := ⟨Nat.le_of_ble_eq_true rfl, Nat.le_of_ble_eq_true rfl⟩
theorem rm_4_bits_10_bit : sr_RM sr_m4_bits sr_m10_bit := ⟨Nat.le_of_ble_eq_true rfl, Nat.le_of_ble_eq_true rfl⟩
theorem rm_4_bits_4_at : sr_RM sr_m4_bits sr_m4_at := ⟨Nat.le_of_ble_eq_true rfl, Nat.le_of_ble_eq_true rfl⟩
theorem rm_4_copyFrom_4_add : sr_RM sr_m4_copyFrom sr_m4_add := ⟨Nat.le_of_ble_eq_true rfl, Nat.le_of_ble_eq_true rfl⟩
theorem rm_4_copyFrom_4_at : sr_RM sr_m4_copyFrom sr_m4_at := ⟨Nat.le_of_ble_eq_true rfl, Nat.le_of_ble_eq_true rfl⟩
theorem rm_4_copyFrom_4_empty : sr_RM sr_m4_copyFrom sr_m4_empty := ⟨Nat.le_of_ble_eq_true rfl, Nat.le_of_ble_eq_true rfl⟩
theorem rm_5_addHop_5_crossingOf : sr_RM sr_m5_addHop sr_m5_crossingOf := ⟨Nat.le_of_ble_eq_true rfl, Nat.le_of_ble_eq_true rfl⟩
theorem rm_5_reset_a_fill : sr_RM sr_m5_reset sr_ma_fill := ⟨Nat.le_of_ble_eq_true rfl, Nat.le_of_ble_eq_true rfl⟩
theorem rm_5_run_3_of : sr_RM sr_m5_run sr_m3_of := ⟨Nat.le_of_ble_eq_true rfl, Nat.le_of_ble_eq_true rfl⟩
theorem rm_5_run_5_addTrip : sr_RM sr_m5_run sr_m5_addTrip := ⟨Nat.le_of_ble_eq_true rfl, Nat.le_of_ble_eq_true rfl⟩
theorem rm_5_run_5_reset : sr_RM sr_m5_run sr_m5_reset := ⟨Nat.le_of_ble_eq_true rfl, Nat.le_of_ble_eq_true rfl⟩
theorem rm_5_run_5_traceTrip : sr_RM sr_m5_run sr_m5_traceTrip := ⟨Nat.le_of_ble_eq_true rfl, Nat.le_of_ble_eq_true rfl⟩
theorem rm_5_run_8_travel : sr_RM sr_m5_run sr_m8_travel := ⟨Nat.le_of_ble_eq_true rfl, Nat.le_of_ble_eq_true rfl⟩
theorem rm_5_traceTrip_10_bit : sr_RM sr_m5_traceTrip sr_m10_bit := ⟨Nat.le_of_ble_eq_true rfl, Nat.le_of_ble_eq_true rfl⟩
theorem rm_5_traceTrip_10_hasBit : sr_RM sr_m5_traceTrip sr_m10_hasBit := ⟨Nat.le_of_ble_eq_true rfl, Nat.le_of_ble_eq_true rfl⟩
theorem rm_5_traceTrip_5_addHop : sr_RM sr_m5_traceTrip sr_m5_addHop := ⟨Nat.le_of_ble_eq_true rfl, Nat.le_of_ble_eq_true rfl⟩
theorem rm_5_traceTrip_8_nodeBehindStep : sr_RM sr_m5_traceTrip sr_m8_nodeBehindStep := ⟨Nat.le_of_ble_eq_true rfl, Nat.le_of_ble_eq_true rfl⟩
theorem rm_5_traceTrip_8_partOfStep : sr_RM sr_m5_traceTrip sr_m8_partOfStep := ⟨Nat.le_of_ble_eq_true rfl, Nat.le_of_ble_eq_true rfl⟩
theorem rm_6_countOfMissing_0_bitsOfHolders : sr_RM sr_m6_countOfMissing sr_m0_bitsOfHolders := ⟨Nat.le_of_ble_eq_true rfl, Nat.le_of_ble_eq_true rfl⟩
theorem rm_6_countOfMissing_3_upBits : sr_RM sr_m6_countOfMissing sr_m3_upBits := ⟨Nat.le_of_ble_eq_true rfl, Nat.le_of_ble_eq_true rfl⟩
theorem rm_6_countOfMissing_6_entryAt : sr_RM sr_m6_countOfMissing sr_m6_entryAt := ⟨Nat.le_of_ble_eq_true rfl, Nat.le_of_ble_eq_true rfl⟩
theorem rm_7_copyFrom_4_copyFrom : sr_RM sr_m7_copyFrom sr_m4_copyFrom := ⟨Nat.le_of_ble_eq_true rfl, Nat.le_of_ble_eq_true rfl⟩
theorem rm_8_endHere_10_onward : sr_RM sr_m8_endHere sr_m10_onward := ⟨Nat.le_of_ble_eq_true rfl, Nat.le_of_ble_eq_true rfl⟩
theorem rm_8_nodeBehindStep_8_partOfStep : sr_RM sr_m8_nodeBehindStep sr_m8_partOfStep := ⟨Nat.le_of_ble_eq_true rfl, Nat.le_of_ble_eq_true rfl⟩
theorem rm_8_pass_8_remember : sr_RM sr_m8_pass sr_m8_remember := ⟨Nat.le_of_ble_eq_true rfl, Nat.le_of_ble_eq_true rfl⟩
theorem rm_8_rememberWhy_4_add : sr_RM sr_m8_rememberWhy sr_m4_add := ⟨Nat.le_of_ble_eq_true rfl, Nat.le_of_ble_eq_true rfl⟩
theorem rm_8_rememberWhy_4_at : sr_RM sr_m8_rememberWhy sr_m4_at := ⟨Nat.le_of_ble_eq_true rfl, Nat.le_of_ble_eq_true rfl⟩
theorem rm_8_setOut_4_empty : sr_RM sr_m8_setOut sr_m4_empty := ⟨Nat.le_of_ble_eq_true rfl, Nat.le_of_ble_eq_true rfl⟩
theorem rm_8_setOut_8_startHere : sr_RM sr_m8_setOut sr_m8_startHere := ⟨Nat.le_of_ble_eq_true rfl, Nat.le_of_ble_eq_true rfl⟩
theorem rm_8_shiftedOnce_3_letterOf : sr_RM sr_m8_shiftedOnce sr_m3_letterOf := ⟨Nat.le_of_ble_eq_true rfl, Nat.le_of_ble_eq_true rfl⟩
theorem rm_8_shiftedOnce_3_shiftIn : sr_RM sr_m8_shiftedOnce sr_m3_shiftIn := ⟨Nat.le_of_ble_eq_true rfl, Nat.le_of_ble_eq_true rfl⟩
theorem rm_8_startHere_3_withoutFirst : sr_RM sr_m8_startHere sr_m3_withoutFirst := ⟨Nat.le_of_ble_eq_true rfl, Nat.le_of_ble_eq_true rfl⟩
theorem rm_8_startHere_3_withoutLast : sr_RM sr_m8_startHere sr_m3_withoutLast := ⟨Nat.le_of_ble_eq_true rfl, Nat.le_of_ble_eq_true rfl⟩
theorem rm_8_takeStep_2_isInArc : sr_RM sr_m8_takeStep sr_m2_isInArc := ⟨Nat.le_of_ble_eq_true rfl, Nat.le_of_ble_eq_true rfl⟩
theorem rm_8_takeStep_3_of : sr_RM sr_m8_takeStep sr_m3_of := ⟨Nat.le_of_ble_eq_true rfl, Nat.le_of_ble_eq_true rfl⟩
theorem rm_8_takeStep_3_pointerFor : sr_RM sr_m8_takeStep sr_m3_pointerFor := ⟨Nat.le_of_ble_eq_true rfl, Nat.le_of_ble_eq_true rfl⟩
theorem rm_8_takeStep_8_pass : sr_RM sr_m8_takeStep sr_m8_pass := ⟨Nat.le_of_ble_eq_true rfl, Nat.le_of_ble_eq_true rfl⟩
theorem rm_8_takeStep_8_shiftedOnce : sr_RM sr_m8_takeStep sr_m8_shiftedOnce := ⟨Nat.le_of_ble_eq_true rfl, Nat.le_of_ble_eq_true rfl⟩
theorem rm_8_takeStep_8_startHere : sr_RM sr_m8_takeStep sr_m8_startHere := ⟨Nat.le_of_ble_eq_true rfl, Nat.le_of_ble_eq_true rfl⟩
theorem rm_8_travel_2_owns : sr_RM sr_m8_travel sr_m2_owns := ⟨Nat.le_of_ble_eq_true rfl, Nat.le_of_ble_eq_true rfl⟩
theorem rm_8_travel_3_of : sr_RM sr_m8_travel sr_m3_of := ⟨Nat.le_of_ble_eq_true rfl, Nat.le_of_ble_eq_true rfl⟩
theorem rm_8_travel_8_endHere : sr_RM sr_m8_travel sr_m8_endHere := ⟨Nat.le_of_ble_eq_true rfl, Nat.le_of_ble_eq_true rfl⟩
theorem rm_8_travel_8_rememberWhy : sr_RM sr_m8_travel sr_m8_rememberWhy := ⟨Nat.le_of_ble_eq_true rfl, Nat.le_of_ble_eq_true rfl⟩
theorem rm_8_travel_8_setOut : sr_RM sr_m8_travel sr_m8_setOut := ⟨Nat.le_of_ble_eq_true rfl, Nat.le_of_ble_eq_true rfl⟩
theorem rm_8_travel_8_takeStep : sr_RM sr_m8_travel sr_m8_takeStep := ⟨Nat.le_of_ble_eq_true rfl, Nat.le_of_ble_eq_true rfl⟩
theorem rm_9_linkedFrom_10_hasBit : sr_RM sr_m9_linkedFrom sr_m10_hasBit := ⟨Nat.le_of_ble_eq_true rfl, Nat.le_of_ble_eq_true rfl⟩
theorem rm_9_linksToAll_10_bit : sr_RM sr_m9_linksToAll sr_m10_bit := ⟨Nat.le_of_ble_eq_true rfl, Nat.le_of_ble_eq_true rfl⟩
theorem rm_9_linksToAll_9_linkedFrom : sr_RM sr_m9_linksToAll sr_m9_linkedFrom := ⟨Nat.le_of_ble_eq_true rfl, Nat.le_of_ble_eq_true rfl⟩
theorem rm_9_readLinks_10_hasBit : sr_RM sr_m9_readLinks sr_m10_hasBit := ⟨Nat.le_of_ble_eq_true rfl, Nat.le_of_ble_eq_true rfl⟩
theorem rm_9_readLinks_2_linkBits : sr_RM sr_m9_readLinks sr_m2_linkBits := ⟨Nat.le_of_ble_eq_true rfl, Nat.le_of_ble_eq_true rfl⟩
theorem rm_9_readLinks_3_of : sr_RM sr_m9_readLinks sr_m3_of := ⟨Nat.le_of_ble_eq_true rfl, Nat.le_of_ble_eq_true rfl⟩
theorem rm_9_readLinks_3_upBits : sr_RM sr_m9_readLinks sr_m3_upBits := ⟨Nat.le_of_ble_eq_true rfl, Nat.le_of_ble_eq_true rfl⟩
theorem rm_9_widthOf_10_hasBit : sr_RM sr_m9_widthOf sr_m10_hasBit := ⟨Nat.le_of_ble_eq_true rfl, Nat.le_of_ble_eq_true rfl⟩
theorem rm_9_widthOf_3_upBits : sr_RM sr_m9_widthOf sr_m3_upBits := ⟨Nat.le_of_ble_eq_true rfl, Nat.le_of_ble_eq_true rfl⟩
theorem rm_9_widthOf_9_linksToAll : sr_RM sr_m9_widthOf sr_m9_linksToAll := ⟨Nat.le_of_ble_eq_true rfl, Nat.le_of_ble_eq_true rfl⟩
theorem rm_9_widthOf_9_readLinks : sr_RM sr_m9_widthOf sr_m9_readLinks := ⟨Nat.le_of_ble_eq_true rfl, Nat.le_of_ble_eq_true rfl⟩
def F10_bit (a0 : Int32) (t : sr_t) : sr_Rs := (some (.inl (some (sr_i (1 <<< (a0 &&& 31)))), t))
theorem C10_bit (l : Launch) (a0 : Int32)  (t : sr_t) : sr_ct' l sr_m10_bit [sr_i a0] t (F10_bit a0 t) 0 0 := by
  refine sr_T_of (L0 := [some (sr_i a0)]) rfl (by decide +kernel) (fun _ => rfl) (fun _ => Nat.le_of_ble_eq_true rfl) ?_
  unfold F10_bit
  refine sr_iconst (pc := 0) (n := 1) (v := 1) (by decide +kernel) rfl ?_
  refine sr_iloadn (pc := 1) (n := 0) (by decide +kernel) rfl ?_
  refine sr_ishl (pc := 2) (by decide +kernel) ?_
  exact sr_iret (pc := 3) (by decide +kernel) rfl
def f3_upBits_30 (i0 : Nat) (k4 : Int32 → Int32 → sr_t → sr_Rs) (k36 : Int32 → sr_t → sr_Rs) : Int32 → Int32 → sr_t → sr_Rs := fun x1 x2 t => k4 x1 (x2 + 1) t
theorem g3_upBits_30 (l : Launch) (i0 : Nat) (hv_i0 : i0 < 2) (k4 : Int32 → Int32 → sr_t → sr_Rs) (k36 : Int32 → sr_t → sr_Rs) (hk4 : ∀ (x1 : Int32) (x2 : Int32), ∀ (t : sr_t), sr_g l sr_m3_upBits 4 [some (sr_r 3 i0), some (sr_i x1), some (sr_i x2)] [] t (k4 x1 x2 t) 0 0) (hk36 : ∀ (x1 : Int32), ∀ (t : sr_t), sr_g l sr_m3_upBits 36 [some (sr_r 3 i0), some (sr_i x1), none] [] t (k36 x1 t) 0 0) : ∀ (x1 : Int32) (x2 : Int32), ∀ (t : sr_t), sr_g l sr_m3_upBits 30 [some (sr_r 3 i0), some (sr_i x1), some (sr_i x2)] [] t (f3_upBits_30 i0 k4 k36 x1 x2 t) 0 0 := by
  intro x1 x2  t
  unfold f3_upBits_30
  refine sr_iinc (pc := 30) (i := 2) (n := 1) (w := x2 + 1) (by decide +kernel) rfl rfl (by decide) rfl rfl ?_
  refine sr_goto (pc := 33) (off := (-29)) (tg := 4) (by decide +kernel) (by decide) ?_
  exact sr_wk (sr_mono (mc := 0) (ms := 0) (by omega) (by omega) (hk4 x1 (x2 + 1) t)) ⟨rfl, ⟨rfl, ⟨rfl, trivial⟩⟩⟩
def f3_upBits_4 (i0 : Nat) (k36 : Int32 → sr_t → sr_Rs) : Nat → Int32 → Int32 → sr_t → sr_Rs
  | 0 => fun _ _ _ => none
  | n + 1 => fun x1 x2 t => (if (t.1 3 i0 3) ≤ x2 then k36 x1 t else (sr_bR 2 50 (F3_of i0 x2 t) (fun n1 t1 => (if (t1.1 2 n1 2) = 0 then f3_upBits_30 i0 (f3_upBits_4 i0 k36 n) k36 x1 x2 t1 else (sr_bI (sr_nt (F10_bit x2 t1)) (fun v2 t2 => f3_upBits_30 i0 (f3_upBits_4 i0 k36 n) k36 (x1 ||| v2) x2 t2))))))
theorem g3_upBits_4 (l : Launch) (i0 : Nat) (hv_i0 : i0 < 2) (k36 : Int32 → sr_t → sr_Rs) (hk36 : ∀ (x1 : Int32), ∀ (t : sr_t), sr_g l sr_m3_upBits 36 [some (sr_r 3 i0), some (sr_i x1), none] [] t (k36 x1 t) 0 0) : ∀ (n : Nat) (x1 : Int32) (x2 : Int32), ∀ (t : sr_t), sr_g l sr_m3_upBits 4 [some (sr_r 3 i0), some (sr_i x1), some (sr_i x2)] [] t (f3_upBits_4 i0 k36 n x1 x2 t) 0 0 := by
  intro n
  induction n with
  | zero => intros; exact sr_Gn
  | succ n ih =>
    intro x1 x2  t
    unfold f3_upBits_4
    refine sr_iloadn (pc := 4) (n := 2) (by decide +kernel) rfl ?_
    refine sr_aloadn (pc := 5) (n := 0) (by decide +kernel) rfl ?_
    refine sr_gI (pc := 6) fg_3_51 (by decide +kernel) (sr_in3 _ (by omega)) (fun _ => rfl) ?_
    refine sr_icmp_ge (pc := 9) (off := 27) (tg := 36) (by decide +kernel) (by decide) (fun _ => ?_) (fun _ => ?_)
    · exact sr_wk (sr_mono (mc := 0) (ms := 0) (by omega) (by omega) (hk36 x1 t)) ⟨rfl, ⟨rfl, trivial⟩⟩
    · refine sr_aloadn (pc := 12) (n := 0) (by decide +kernel) rfl ?_
      refine sr_iloadn (pc := 13) (n := 2) (by decide +kernel) rfl ?_
      refine sr_cV (pc := 14) (As := [sr_i x2]) (mc1 := 0) (ms1 := 0) (mc2 := 0) (ms2 := 0) fm_3_54 fl_3_54 (by decide +kernel) (sr_in3 _ (by omega)) (rm_3_upBits_3_of) rfl rfl rfl (C3_of l i0 x2 (by omega) t) ?_
      refine sr_kR (fun n1 t1 hv_n1 => ?_)
      refine sr_gI (pc := 17) fg_3_68 (by decide +kernel) (sr_in2 _ (by omega)) (fun _ => rfl) ?_
      refine sr_if_eq (pc := 20) (off := 10) (tg := 30) (by decide +kernel) (by decide) (fun _ => ?_) (fun _ => ?_)
      · exact sr_wk (sr_mono (mc := 0) (ms := 0) (by omega) (by omega) (g3_upBits_30 l i0 hv_i0 (f3_upBits_4 i0 k36 n) k36 ih hk36 x1 x2 t1)) ⟨rfl, ⟨rfl, ⟨rfl, trivial⟩⟩⟩
      · refine sr_iloadn (pc := 23) (n := 1) (by decide +kernel) rfl ?_
        refine sr_iloadn (pc := 24) (n := 2) (by decide +kernel) rfl ?_
        refine sr_cSN (pc := 25) (As := [sr_i x2]) (mc1 := 0) (ms1 := 0) (mc2 := 0) (ms2 := 0) fm_3_152 fl_3_152 (by decide +kernel) (rm_3_upBits_10_bit) rfl rfl rfl (C10_bit l x2 t1) ?_
        refine sr_kI (fun v2 t2 => ?_)
        refine sr_ior (pc := 28) (by decide +kernel) ?_
        refine sr_istoren (pc := 29) (n := 1) (by decide +kernel) (by decide) rfl rfl ?_
        exact sr_wk (sr_mono (mc := 0) (ms := 0) (by omega) (by omega) (g3_upBits_30 l i0 hv_i0 (f3_upBits_4 i0 k36 n) k36 ih hk36 (x1 ||| v2) x2 t2)) ⟨rfl, ⟨rfl, ⟨rfl, trivial⟩⟩⟩
def f3_upBits_36 (i0 : Nat)  : Int32 → sr_t → sr_Rs := fun x1 t => (some (.inl (some (sr_i x1)), t))
theorem g3_upBits_36 (l : Launch) (i0 : Nat) (hv_i0 : i0 < 2)   : ∀ (x1 : Int32), ∀ (t : sr_t), sr_g l sr_m3_upBits 36 [some (sr_r 3 i0), some (sr_i x1), none] [] t (f3_upBits_36 i0  x1 t) 0 0 := by
  intro x1  t
  unfold f3_upBits_36
  refine sr_iloadn (pc := 36) (n := 1) (by decide +kernel) rfl ?_
  exact sr_iret (pc := 37) (by decide +kernel) rfl
def F3_upBits (i0 : Nat) (t : sr_t) : sr_Rs := f3_upBits_4 i0 (f3_upBits_36 i0) sr_fu 0 0 t
theorem C3_upBits (l : Launch) (i0 : Nat) (hv_i0 : i0 < 2) (t : sr_t) : sr_ct' l sr_m3_upBits [sr_r 3 i0] t (F3_upBits i0 t) 0 0 := by
  refine sr_T_of (L0 := [some (sr_r 3 i0), none, none]) rfl (by decide +kernel) (fun _ => rfl) (fun _ => Nat.le_of_ble_eq_true rfl) ?_
  unfold F3_upBits
  refine sr_iconst (pc := 0) (n := 0) (v := 0) (by decide +kernel) rfl ?_
  refine sr_istoren (pc := 1) (n := 1) (by decide +kernel) (by decide) rfl rfl ?_
  refine sr_iconst (pc := 2) (n := 0) (v := 0) (by decide +kernel) rfl ?_
  refine sr_istoren (pc := 3) (n := 2) (by decide +kernel) (by decide) rfl rfl ?_
  exact sr_wk (sr_mono (mc := 0) (ms := 0) (by omega) (by omega) (g3_upBits_4 l i0 hv_i0 (f3_upBits_36 i0) (g3_upBits_36 l i0 hv_i0) sr_fu 0 0 t)) ⟨rfl, ⟨rfl, ⟨rfl, trivial⟩⟩⟩
def f10_hasBit_14 (a0 : Int32) (a1 : Int32)  : Int32 → sr_t → sr_Rs := fun xs0 t => (if xs0 = 0 ∨ xs0 = 1 then some (.inl (some (sr_i xs0)), t) else none)
theorem g10_hasBit_14 (l : Launch) (a0 : Int32) (a1 : Int32)    : ∀ (xs0 : Int32), ∀ (t : sr_t), sr_g l sr_m10_hasBit 14 [some (sr_i a0), some (sr_i a1)] [sr_i xs0] t (f10_hasBit_14 a0 a1  xs0 t) 0 0 := by
  intro xs0  t
  unfold f10_hasBit_14
  exact sr_zr (pc := 14) (by decide +kernel) rfl
def F10_hasBit (a0 : Int32) (a1 : Int32) (t : sr_t) : sr_Rs := (sr_bI (F10_bit a1 t) (fun v1 t1 => (if (a0 &&& v1) = 0 then f10_hasBit_14 a0 a1 0 t1 else f10_hasBit_14 a0 a1 1 t1)))
theorem C10_hasBit (l : Launch) (a0 : Int32) (a1 : Int32)  (t : sr_t) : sr_ct' l sr_m10_hasBit [sr_i a0, sr_i a1] t (F10_hasBit a0 a1 t) 0 0 := by
  refine sr_T_of (L0 := [some (sr_i a0), some (sr_i a1)]) rfl (by decide +kernel) (fun _ => rfl) (fun _ => Nat.le_of_ble_eq_true rfl) ?_
  unfold F10_hasBit
  refine sr_iloadn (pc := 0) (n := 0) (by decide +kernel) rfl ?_
  refine sr_iloadn (pc := 1) (n := 1) (by decide +kernel) rfl ?_
  refine sr_cS (pc := 2) (As := [sr_i a1]) (mc1 := 0) (ms1 := 0) (mc2 := 0) (ms2 := 0) fm_10_439 fl_10_439 (by decide +kernel) (rm_10_hasBit_10_bit) rfl rfl rfl (C10_bit l a1 t) ?_
  refine sr_kI (fun v1 t1 => ?_)
  refine sr_iand (pc := 5) (by decide +kernel) ?_
  refine sr_if_eq (pc := 6) (off := 7) (tg := 13) (by decide +kernel) (by decide) (fun _ => ?_) (fun _ => ?_)
  · refine sr_iconst (pc := 13) (n := 0) (v := 0) (by decide +kernel) rfl ?_
    exact sr_wk (sr_mono (mc := 0) (ms := 0) (by omega) (by omega) (g10_hasBit_14 l a0 a1 0 t1)) ⟨rfl, ⟨rfl, trivial⟩⟩
  · refine sr_iconst (pc := 9) (n := 1) (v := 1) (by decide +kernel) rfl ?_
    refine sr_goto (pc := 10) (off := 4) (tg := 14) (by decide +kernel) (by decide) ?_
    exact sr_wk (sr_mono (mc := 0) (ms := 0) (by omega) (by omega) (g10_hasBit_14 l a0 a1 1 t1)) ⟨rfl, ⟨rfl, trivial⟩⟩
def f4_bits_4 (i0 : Nat) (k29 : Int32 → sr_t → sr_Rs) : Nat → Int32 → Int32 → sr_t → sr_Rs
  | 0 => fun _ _ _ => none
  | n + 1 => fun x1 x2 t => (if (t.1 4 i0 1) ≤ x2 then k29 x1 t else (sr_bI (F4_at i0 x2 t) (fun v1 t1 => (sr_bI (sr_nt (F10_bit v1 t1)) (fun v2 t2 => (f4_bits_4 i0 k29 n) (x1 ||| v2) (x2 + 1) t2)))))
theorem g4_bits_4 (l : Launch) (i0 : Nat) (hv_i0 : i0 < 107) (k29 : Int32 → sr_t → sr_Rs) (hk29 : ∀ (x1 : Int32), ∀ (t : sr_t), sr_g l sr_m4_bits 29 [some (sr_r 4 i0), some (sr_i x1), none] [] t (k29 x1 t) 0 0) : ∀ (n : Nat) (x1 : Int32) (x2 : Int32), ∀ (t : sr_t), sr_g l sr_m4_bits 4 [some (sr_r 4 i0), some (sr_i x1), some (sr_i x2)] [] t (f4_bits_4 i0 k29 n x1 x2 t) 0 0 := by
  intro n
  induction n with
  | zero => intros; exact sr_Gn
  | succ n ih =>
    intro x1 x2  t
    unfold f4_bits_4
    refine sr_iloadn (pc := 4) (n := 2) (by decide +kernel) rfl ?_
    refine sr_aloadn (pc := 5) (n := 0) (by decide +kernel) rfl ?_
    refine sr_gI (pc := 6) fg_4_15 (by decide +kernel) (sr_in4 _ (by omega)) (fun _ => rfl) ?_
    refine sr_icmp_ge (pc := 9) (off := 20) (tg := 29) (by decide +kernel) (by decide) (fun _ => ?_) (fun _ => ?_)
    · exact sr_wk (sr_mono (mc := 0) (ms := 0) (by omega) (by omega) (hk29 x1 t)) ⟨rfl, ⟨rfl, trivial⟩⟩
    · refine sr_iloadn (pc := 12) (n := 1) (by decide +kernel) rfl ?_
      refine sr_aloadn (pc := 13) (n := 0) (by decide +kernel) rfl ?_
      refine sr_iloadn (pc := 14) (n := 2) (by decide +kernel) rfl ?_
      refine sr_cV (pc := 15) (As := [sr_i x2]) (mc1 := 0) (ms1 := 0) (mc2 := 0) (ms2 := 0) fm_4_22 fl_4_22 (by decide +kernel) (sr_in4 _ (by omega)) (rm_4_bits_4_at) rfl rfl rfl (C4_at l i0 x2 (by omega) t) ?_
      refine sr_kI (fun v1 t1 => ?_)
      refine sr_cSN (pc := 18) (As := [sr_i v1]) (mc1 := 0) (ms1 := 0) (mc2 := 0) (ms2 := 0) fm_4_30 fl_4_30 (by decide +kernel) (rm_4_bits_10_bit) rfl rfl rfl (C10_bit l v1 t1) ?_
      refine sr_kI (fun v2 t2 => ?_)
      refine sr_ior (pc := 21) (by decide +kernel) ?_
      refine sr_istoren (pc := 22) (n := 1) (by decide +kernel) (by decide) rfl rfl ?_
      refine sr_iinc (pc := 23) (i := 2) (n := 1) (w := x2 + 1) (by decide +kernel) rfl rfl (by decide) rfl rfl ?_
      refine sr_goto (pc := 26) (off := (-22)) (tg := 4) (by decide +kernel) (by decide) ?_
      exact sr_wk (sr_mono (mc := 0) (ms := 0) (by omega) (by omega) (ih (x1 ||| v2) (x2 + 1) t2)) ⟨rfl, ⟨rfl, ⟨rfl, trivial⟩⟩⟩
def f4_bits_29 (i0 : Nat)  : Int32 → sr_t → sr_Rs := fun x1 t => (some (.inl (some (sr_i x1)), t))
theorem g4_bits_29 (l : Launch) (i0 : Nat) (hv_i0 : i0 < 107)   : ∀ (x1 : Int32), ∀ (t : sr_t), sr_g l sr_m4_bits 29 [some (sr_r 4 i0), some (sr_i x1), none] [] t (f4_bits_29 i0  x1 t) 0 0 := by
  intro x1  t
  unfold f4_bits_29
  refine sr_iloadn (pc := 29) (n := 1) (by decide +kernel) rfl ?_
  exact sr_iret (pc := 30) (by decide +kernel) rfl
def F4_bits (i0 : Nat) (t : sr_t) : sr_Rs := f4_bits_4 i0 (f4_bits_29 i0) sr_fu 0 0 t
theorem C4_bits (l : Launch) (i0 : Nat) (hv_i0 : i0 < 107) (t : sr_t) : sr_ct' l sr_m4_bits [sr_r 4 i0] t (F4_bits i0 t) 0 0 := by
  refine sr_T_of (L0 := [some (sr_r 4 i0), none, none]) rfl (by decide +kernel) (fun _ => rfl) (fun _ => Nat.le_of_ble_eq_true rfl) ?_
  unfold F4_bits
  refine sr_iconst (pc := 0) (n := 0) (v := 0) (by decide +kernel) rfl ?_
  refine sr_istoren (pc := 1) (n := 1) (by decide +kernel) (by decide) rfl rfl ?_
  refine sr_iconst (pc := 2) (n := 0) (v := 0) (by decide +kernel) rfl ?_
  refine sr_istoren (pc := 3) (n := 2) (by decide +kernel) (by decide) rfl rfl ?_
  exact sr_wk (sr_mono (mc := 0) (ms := 0) (by omega) (by omega) (g4_bits_4 l i0 hv_i0 (f4_bits_29 i0) (g4_bits_29 l i0 hv_i0) sr_fu 0 0 t)) ⟨rfl, ⟨rfl, ⟨rfl, trivial⟩⟩⟩
def F2_linkBits (i0 : Nat) (t : sr_t) : sr_Rs := (sr_bI (F4_bits (2 * i0) t) (fun v1 t1 => (sr_bI (F4_bits (2 * i0 + 1) t1) (fun v2 t2 => (sr_bI (sr_nt (F10_bit (t2.1 2 i0 0) t2)) (fun v3 t3 => (some (.inl (some (sr_i ((v1 ||| v2) &&& (v3 ^^^ ((-1)))))), t3))))))))
theorem C2_linkBits (l : Launch) (i0 : Nat) (hv_i0 : i0 < 50) (t : sr_t) : sr_ct' l sr_m2_linkBits [sr_r 2 i0] t (F2_linkBits i0 t) 0 0 := by
  refine sr_T_of (L0 := [some (sr_r 2 i0)]) rfl (by decide +kernel) (fun _ => rfl) (fun _ => Nat.le_of_ble_eq_true rfl) ?_
  unfold F2_linkBits
  refine sr_aloadn (pc := 0) (n := 0) (by decide +kernel) rfl ?_
  refine sr_gC (pc := 1) (i2 := i0) fg_2_12 (by decide +kernel) (sr_in2 _ (by omega)) (fun _ => rfl) ?_
  refine sr_gC (pc := 4) (i2 := 2 * i0) fg_2_39 (by decide +kernel) (sr_in7 _ (by omega)) (fun _ => rfl) ?_
  refine sr_cV (pc := 7) (As := []) (mc1 := 0) (ms1 := 0) (mc2 := 0) (ms2 := 0) fm_2_43 fl_2_43 (by decide +kernel) (sr_in4 _ (by omega)) (rm_2_linkBits_4_bits) rfl rfl rfl (C4_bits l (2 * i0) (by omega) t) ?_
  refine sr_kI (fun v1 t1 => ?_)
  refine sr_aloadn (pc := 10) (n := 0) (by decide +kernel) rfl ?_
  refine sr_gC (pc := 11) (i2 := i0) fg_2_12 (by decide +kernel) (sr_in2 _ (by omega)) (fun _ => rfl) ?_
  refine sr_gC (pc := 14) (i2 := 2 * i0 + 1) fg_2_49 (by decide +kernel) (sr_in7 _ (by omega)) (fun _ => rfl) ?_
  refine sr_cV (pc := 17) (As := []) (mc1 := 0) (ms1 := 0) (mc2 := 0) (ms2 := 0) fm_2_43 fl_2_43 (by decide +kernel) (sr_in4 _ (by omega)) (rm_2_linkBits_4_bits) rfl rfl rfl (C4_bits l (2 * i0 + 1) (by omega) t1) ?_
  refine sr_kI (fun v2 t2 => ?_)
  refine sr_ior (pc := 20) (by decide +kernel) ?_
  refine sr_aloadn (pc := 21) (n := 0) (by decide +kernel) rfl ?_
  refine sr_gI (pc := 22) fg_2_22 (by decide +kernel) (sr_in2 _ (by omega)) (fun _ => rfl) ?_
  refine sr_cSN (pc := 25) (As := [sr_i (t2.1 2 i0 0)]) (mc1 := 0) (ms1 := 0) (mc2 := 0) (ms2 := 0) fm_2_52 fl_2_52 (by decide +kernel) (rm_2_linkBits_10_bit) rfl rfl rfl (C10_bit l (t2.1 2 i0 0) t2) ?_
  refine sr_kI (fun v3 t3 => ?_)
  refine sr_iconst (pc := 28) (n := (-1)) (v := (-1)) (by decide +kernel) rfl ?_
  refine sr_ixor (pc := 29) (by decide +kernel) ?_
  refine sr_iand (pc := 30) (by decide +kernel) ?_
  exact sr_iret (pc := 31) (by decide +kernel) rfl
def f9_readLinks_43 (i1 : Nat) (k7 : Int32 → Int32 → sr_t → sr_Rs) (k50 : sr_t → sr_Rs) : Int32 → Int32 → Int32 → Int32 → sr_t → sr_Rs := fun x2 x3 xs0 xs1 t => (if xs1 < 0 ∨ 24 ≤ xs1.toNatClampNeg then none else sr_lt (sr_u t 17 0 xs1.toNatClampNeg xs0) (fun t1 => k7 x2 (x3 + 1) t1))
theorem g9_readLinks_43 (l : Launch) (i1 : Nat) (hv_i1 : i1 < 2) (k7 : Int32 → Int32 → sr_t → sr_Rs) (k50 : sr_t → sr_Rs) (hk7 : ∀ (x2 : Int32) (x3 : Int32), ∀ (t : sr_t), sr_g l sr_m9_readLinks 7 [some (sr_r 9 0), some (sr_r 3 i1), some (sr_i x2), some (sr_i x3)] [] t (k7 x2 x3 t) 0 0) (hk50 : ∀ (t : sr_t), sr_g l sr_m9_readLinks 50 [some (sr_r 9 0), some (sr_r 3 i1), none, none] [] t (k50 t) 0 0) : ∀ (x2 : Int32) (x3 : Int32) (xs0 : Int32) (xs1 : Int32), ∀ (t : sr_t), sr_g l sr_m9_readLinks 43 [some (sr_r 9 0), some (sr_r 3 i1), some (sr_i x2), some (sr_i x3)] [sr_i xs0, sr_i xs1, sr_r 17 0] t (f9_readLinks_43 i1 k7 k50 x2 x3 xs0 xs1 t) 0 0 := by
  intro x2 x3 xs0 xs1  t
  unfold f9_readLinks_43
  refine sr_sI (pc := 43) (n := 24) rfl (by decide +kernel) (sr_in17 _ (by omega)) (fun _ _ => rfl) (fun t1 => ?_)
  refine sr_iinc (pc := 44) (i := 3) (n := 1) (w := x3 + 1) (by decide +kernel) rfl rfl (by decide) rfl rfl ?_
  refine sr_goto (pc := 47) (off := (-40)) (tg := 7) (by decide +kernel) (by decide) ?_
  exact sr_wk (sr_mono (mc := 0) (ms := 0) (by omega) (by omega) (hk7 x2 (x3 + 1) t1)) ⟨rfl, ⟨rfl, ⟨rfl, ⟨rfl, trivial⟩⟩⟩⟩
def f9_readLinks_7 (i1 : Nat) (k50 : sr_t → sr_Rs) : Nat → Int32 → Int32 → sr_t → sr_Rs
  | 0 => fun _ _ _ => none
  | n + 1 => fun x2 x3 t => (if 24 ≤ x3 then k50 t else (sr_bI (sr_nt (F10_hasBit x2 x3 t)) (fun v1 t1 => (if v1 = 0 then f9_readLinks_43 i1 (f9_readLinks_7 i1 k50 n) k50 x2 x3 0 x3 t1 else (sr_bR 2 50 (F3_of i1 x3 t1) (fun n2 t2 => (sr_bI (F2_linkBits n2 t2) (fun v3 t3 => f9_readLinks_43 i1 (f9_readLinks_7 i1 k50 n) k50 x2 x3 (v3 &&& x2) x3 t3))))))))
theorem g9_readLinks_7 (l : Launch) (i1 : Nat) (hv_i1 : i1 < 2) (k50 : sr_t → sr_Rs) (hk50 : ∀ (t : sr_t), sr_g l sr_m9_readLinks 50 [some (sr_r 9 0), some (sr_r 3 i1), none, none] [] t (k50 t) 0 0) : ∀ (n : Nat) (x2 : Int32) (x3 : Int32), ∀ (t : sr_t), sr_g l sr_m9_readLinks 7 [some (sr_r 9 0), some (sr_r 3 i1), some (sr_i x2), some (sr_i x3)] [] t (f9_readLinks_7 i1 k50 n x2 x3 t) 0 0 := by
  intro n
  induction n with
  | zero => intros; exact sr_Gn
  | succ n ih =>
    intro x2 x3  t
    unfold f9_readLinks_7
    refine sr_iloadn (pc := 7) (n := 3) (by decide +kernel) rfl ?_
    refine sr_aloadn (pc := 8) (n := 0) (by decide +kernel) rfl ?_
    refine sr_gC (pc := 9) (i2 := 0) fg_9_9 (by decide +kernel) (sr_in9 _ (by omega)) (fun _ => rfl) ?_
    refine sr_al' (pc := 12) (ty := 0) (n := 24) (v := 24) rfl (by decide) (by decide +kernel) (sr_in17 _ (by omega)) (by decide) ?_
    refine sr_icmp_ge (pc := 13) (off := 37) (tg := 50) (by decide +kernel) (by decide) (fun _ => ?_) (fun _ => ?_)
    · exact sr_wk (sr_mono (mc := 0) (ms := 0) (by omega) (by omega) (hk50 t)) ⟨rfl, ⟨rfl, trivial⟩⟩
    · refine sr_aloadn (pc := 16) (n := 0) (by decide +kernel) rfl ?_
      refine sr_gC (pc := 17) (i2 := 0) fg_9_9 (by decide +kernel) (sr_in9 _ (by omega)) (fun _ => rfl) ?_
      refine sr_iloadn (pc := 20) (n := 3) (by decide +kernel) rfl ?_
      refine sr_iloadn (pc := 21) (n := 2) (by decide +kernel) rfl ?_
      refine sr_iloadn (pc := 22) (n := 3) (by decide +kernel) rfl ?_
      refine sr_cSN (pc := 23) (As := [sr_i x2, sr_i x3]) (mc1 := 0) (ms1 := 0) (mc2 := 0) (ms2 := 0) fm_9_44 fl_9_44 (by decide +kernel) (rm_9_readLinks_10_hasBit) rfl rfl rfl (C10_hasBit l x2 x3 t) ?_
      refine sr_kI (fun v1 t1 => ?_)
      refine sr_if_eq (pc := 26) (off := 16) (tg := 42) (by decide +kernel) (by decide) (fun _ => ?_) (fun _ => ?_)
      · refine sr_iconst (pc := 42) (n := 0) (v := 0) (by decide +kernel) rfl ?_
        exact sr_wk (sr_mono (mc := 0) (ms := 0) (by omega) (by omega) (g9_readLinks_43 l i1 hv_i1 (f9_readLinks_7 i1 k50 n) k50 ih hk50 x2 x3 0 x3 t1)) ⟨rfl, ⟨rfl, ⟨rfl, ⟨rfl, trivial⟩⟩⟩⟩
      · refine sr_aloadn (pc := 29) (n := 1) (by decide +kernel) rfl ?_
        refine sr_iloadn (pc := 30) (n := 3) (by decide +kernel) rfl ?_
        refine sr_cV (pc := 31) (As := [sr_i x3]) (mc1 := 0) (ms1 := 0) (mc2 := 0) (ms2 := 0) fm_9_53 fl_9_53 (by decide +kernel) (sr_in3 _ (by omega)) (rm_9_readLinks_3_of) rfl rfl rfl (C3_of l i1 x3 (by omega) t1) ?_
        refine sr_kR (fun n2 t2 hv_n2 => ?_)
        refine sr_cV (pc := 34) (As := []) (mc1 := 0) (ms1 := 0) (mc2 := 0) (ms2 := 0) fm_9_57 fl_9_57 (by decide +kernel) (sr_in2 _ (by omega)) (rm_9_readLinks_2_linkBits) rfl rfl rfl (C2_linkBits l n2 (by omega) t2) ?_
        refine sr_kI (fun v3 t3 => ?_)
        refine sr_iloadn (pc := 37) (n := 2) (by decide +kernel) rfl ?_
        refine sr_iand (pc := 38) (by decide +kernel) ?_
        refine sr_goto (pc := 39) (off := 4) (tg := 43) (by decide +kernel) (by decide) ?_
        exact sr_wk (sr_mono (mc := 0) (ms := 0) (by omega) (by omega) (g9_readLinks_43 l i1 hv_i1 (f9_readLinks_7 i1 k50 n) k50 ih hk50 x2 x3 (v3 &&& x2) x3 t3)) ⟨rfl, ⟨rfl, ⟨rfl, ⟨rfl, trivial⟩⟩⟩⟩
def f9_readLinks_50 (i1 : Nat)  : sr_t → sr_Rs := fun  t => (some (.inl none, t))
theorem g9_readLinks_50 (l : Launch) (i1 : Nat) (hv_i1 : i1 < 2)   : ∀ (t : sr_t), sr_g l sr_m9_readLinks 50 [some (sr_r 9 0), some (sr_r 3 i1), none, none] [] t (f9_readLinks_50 i1   t) 0 0 := by
  intro t
  unfold f9_readLinks_50
  exact sr_ret (pc := 50) (by decide +kernel) rfl
def F9_readLinks (i1 : Nat) (t : sr_t) : sr_Rs := (sr_bI (F3_upBits i1 t) (fun v1 t1 => f9_readLinks_7 i1 (f9_readLinks_50 i1) sr_fu v1 0 t1))
theorem C9_readLinks (l : Launch) (i1 : Nat) (hv_i1 : i1 < 2) (t : sr_t) : sr_ct' l sr_m9_readLinks [sr_r 9 0, sr_r 3 i1] t (F9_readLinks i1 t) 0 0 := by
  refine sr_T_of (L0 := [some (sr_r 9 0), some (sr_r 3 i1), none, none]) rfl (by decide +kernel) (fun _ => rfl) (fun _ => Nat.le_of_ble_eq_true rfl) ?_
  unfold F9_readLinks
  refine sr_aloadn (pc := 0) (n := 1) (by decide +kernel) rfl ?_
  refine sr_cV (pc := 1) (As := []) (mc1 := 0) (ms1 := 0) (mc2 := 0) (ms2 := 0) fm_9_34 fl_9_34 (by decide +kernel) (sr_in3 _ (by omega)) (rm_9_readLinks_3_upBits) rfl rfl rfl (C3_upBits l i1 (by omega) t) ?_
  refine sr_kI (fun v1 t1 => ?_)
  refine sr_istoren (pc := 4) (n := 2) (by decide +kernel) (by decide) rfl rfl ?_
  refine sr_iconst (pc := 5) (n := 0) (v := 0) (by decide +kernel) rfl ?_
  refine sr_istoren (pc := 6) (n := 3) (by decide +kernel) (by decide) rfl rfl ?_
  exact sr_wk (sr_mono (mc := 0) (ms := 0) (by omega) (by omega) (g9_readLinks_7 l i1 hv_i1 (f9_readLinks_50 i1) (g9_readLinks_50 l i1 hv_i1) sr_fu v1 0 t1)) ⟨rfl, ⟨rfl, ⟨rfl, ⟨rfl, trivial⟩⟩⟩⟩
def f9_linkedFrom_30 (a0 : Int32) (k4 : Int32 → Int32 → sr_t → sr_Rs) (k36 : Int32 → sr_t → sr_Rs) : Int32 → Int32 → sr_t → sr_Rs := fun x2 x3 t => k4 x2 (x3 + 1) t
theorem g9_linkedFrom_30 (l : Launch) (a0 : Int32)  (k4 : Int32 → Int32 → sr_t → sr_Rs) (k36 : Int32 → sr_t → sr_Rs) (hk4 : ∀ (x2 : Int32) (x3 : Int32), ∀ (t : sr_t), sr_g l sr_m9_linkedFrom 4 [some (sr_r 9 0), some (sr_i a0), some (sr_i x2), some (sr_i x3)] [] t (k4 x2 x3 t) 0 0) (hk36 : ∀ (x2 : Int32), ∀ (t : sr_t), sr_g l sr_m9_linkedFrom 36 [some (sr_r 9 0), some (sr_i a0), some (sr_i x2), none] [] t (k36 x2 t) 0 0) : ∀ (x2 : Int32) (x3 : Int32), ∀ (t : sr_t), sr_g l sr_m9_linkedFrom 30 [some (sr_r 9 0), some (sr_i a0), some (sr_i x2), some (sr_i x3)] [] t (f9_linkedFrom_30 a0 k4 k36 x2 x3 t) 0 0 := by
  intro x2 x3  t
  unfold f9_linkedFrom_30
  refine sr_iinc (pc := 30) (i := 3) (n := 1) (w := x3 + 1) (by decide +kernel) rfl rfl (by decide) rfl rfl ?_
  refine sr_goto (pc := 33) (off := (-29)) (tg := 4) (by decide +kernel) (by decide) ?_
  exact sr_wk (sr_mono (mc := 0) (ms := 0) (by omega) (by omega) (hk4 x2 (x3 + 1) t)) ⟨rfl, ⟨rfl, ⟨rfl, ⟨rfl, trivial⟩⟩⟩⟩
def f9_linkedFrom_4 (a0 : Int32) (k36 : Int32 → sr_t → sr_Rs) : Nat → Int32 → Int32 → sr_t → sr_Rs
  | 0 => fun _ _ _ => none
  | n + 1 => fun x2 x3 t => (if 24 ≤ x3 then k36 x2 t else (sr_bI (sr_nt (F10_hasBit a0 x3 t)) (fun v1 t1 => (if v1 = 0 then f9_linkedFrom_30 a0 (f9_linkedFrom_4 a0 k36 n) k36 x2 x3 t1 else (if x3 < 0 ∨ 24 ≤ x3.toNatClampNeg then none else f9_linkedFrom_30 a0 (f9_linkedFrom_4 a0 k36 n) k36 (x2 ||| (t1.1 17 0 x3.toNatClampNeg)) x3 t1)))))
theorem g9_linkedFrom_4 (l : Launch) (a0 : Int32)  (k36 : Int32 → sr_t → sr_Rs) (hk36 : ∀ (x2 : Int32), ∀ (t : sr_t), sr_g l sr_m9_linkedFrom 36 [some (sr_r 9 0), some (sr_i a0), some (sr_i x2), none] [] t (k36 x2 t) 0 0) : ∀ (n : Nat) (x2 : Int32) (x3 : Int32), ∀ (t : sr_t), sr_g l sr_m9_linkedFrom 4 [some (sr_r 9 0), some (sr_i a0), some (sr_i x2), some (sr_i x3)] [] t (f9_linkedFrom_4 a0 k36 n x2 x3 t) 0 0 := by
  intro n
  induction n with
  | zero => intros; exact sr_Gn
  | succ n ih =>
    intro x2 x3  t
    unfold f9_linkedFrom_4
    refine sr_iloadn (pc := 4) (n := 3) (by decide +kernel) rfl ?_
    refine sr_aloadn (pc := 5) (n := 0) (by decide +kernel) rfl ?_
    refine sr_gC (pc := 6) (i2 := 0) fg_9_9 (by decide +kernel) (sr_in9 _ (by omega)) (fun _ => rfl) ?_
    refine sr_al' (pc := 9) (ty := 0) (n := 24) (v := 24) rfl (by decide) (by decide +kernel) (sr_in17 _ (by omega)) (by decide) ?_
    refine sr_icmp_ge (pc := 10) (off := 26) (tg := 36) (by decide +kernel) (by decide) (fun _ => ?_) (fun _ => ?_)
    · exact sr_wk (sr_mono (mc := 0) (ms := 0) (by omega) (by omega) (hk36 x2 t)) ⟨rfl, ⟨rfl, ⟨rfl, trivial⟩⟩⟩
    · refine sr_iloadn (pc := 13) (n := 1) (by decide +kernel) rfl ?_
      refine sr_iloadn (pc := 14) (n := 3) (by decide +kernel) rfl ?_
      refine sr_cSN (pc := 15) (As := [sr_i a0, sr_i x3]) (mc1 := 0) (ms1 := 0) (mc2 := 0) (ms2 := 0) fm_9_44 fl_9_44 (by decide +kernel) (rm_9_linkedFrom_10_hasBit) rfl rfl rfl (C10_hasBit l a0 x3 t) ?_
      refine sr_kI (fun v1 t1 => ?_)
      refine sr_if_eq (pc := 18) (off := 12) (tg := 30) (by decide +kernel) (by decide) (fun _ => ?_) (fun _ => ?_)
      · exact sr_wk (sr_mono (mc := 0) (ms := 0) (by omega) (by omega) (g9_linkedFrom_30 l a0 (f9_linkedFrom_4 a0 k36 n) k36 ih hk36 x2 x3 t1)) ⟨rfl, ⟨rfl, ⟨rfl, ⟨rfl, trivial⟩⟩⟩⟩
      · refine sr_iloadn (pc := 21) (n := 2) (by decide +kernel) rfl ?_
        refine sr_aloadn (pc := 22) (n := 0) (by decide +kernel) rfl ?_
        refine sr_gC (pc := 23) (i2 := 0) fg_9_9 (by decide +kernel) (sr_in9 _ (by omega)) (fun _ => rfl) ?_
        refine sr_iloadn (pc := 26) (n := 3) (by decide +kernel) rfl ?_
        refine sr_aI (pc := 27) (n := 24) rfl (by decide +kernel) (sr_in17 _ (by omega)) (fun _ _ => rfl) ?_
        refine sr_ior (pc := 28) (by decide +kernel) ?_
        refine sr_istoren (pc := 29) (n := 2) (by decide +kernel) (by decide) rfl rfl ?_
        exact sr_wk (sr_mono (mc := 0) (ms := 0) (by omega) (by omega) (g9_linkedFrom_30 l a0 (f9_linkedFrom_4 a0 k36 n) k36 ih hk36 (x2 ||| (t1.1 17 0 x3.toNatClampNeg)) x3 t1)) ⟨rfl, ⟨rfl, ⟨rfl, ⟨rfl, trivial⟩⟩⟩⟩
def f9_linkedFrom_36 (a0 : Int32)  : Int32 → sr_t → sr_Rs := fun x2 t => (some (.inl (some (sr_i x2)), t))
theorem g9_linkedFrom_36 (l : Launch) (a0 : Int32)    : ∀ (x2 : Int32), ∀ (t : sr_t), sr_g l sr_m9_linkedFrom 36 [some (sr_r 9 0), some (sr_i a0), some (sr_i x2), none] [] t (f9_linkedFrom_36 a0  x2 t) 0 0 := by
  intro x2  t
  unfold f9_linkedFrom_36
  refine sr_iloadn (pc := 36) (n := 2) (by decide +kernel) rfl ?_
  exact sr_iret (pc := 37) (by decide +kernel) rfl
def F9_linkedFrom (a0 : Int32) (t : sr_t) : sr_Rs := f9_linkedFrom_4 a0 (f9_linkedFrom_36 a0) sr_fu 0 0 t
theorem C9_linkedFrom (l : Launch) (a0 : Int32)  (t : sr_t) : sr_ct' l sr_m9_linkedFrom [sr_r 9 0, sr_i a0] t (F9_linkedFrom a0 t) 0 0 := by
  refine sr_T_of (L0 := [some (sr_r 9 0), some (sr_i a0), none, none]) rfl (by decide +kernel) (fun _ => rfl) (fun _ => Nat.le_of_ble_eq_true rfl) ?_
  unfold F9_linkedFrom
  refine sr_iconst (pc := 0) (n := 0) (v := 0) (by decide +kernel) rfl ?_
  refine sr_istoren (pc := 1) (n := 2) (by decide +kernel) (by decide) rfl rfl ?_
  refine sr_iconst (pc := 2) (n := 0) (v := 0) (by decide +kernel) rfl ?_
  refine sr_istoren (pc := 3) (n := 3) (by decide +kernel) (by decide) rfl rfl ?_
  exact sr_wk (sr_mono (mc := 0) (ms := 0) (by omega) (by omega) (g9_linkedFrom_4 l a0 (f9_linkedFrom_36 a0) (g9_linkedFrom_36 l a0) sr_fu 0 0 t)) ⟨rfl, ⟨rfl, ⟨rfl, ⟨rfl, trivial⟩⟩⟩⟩
def f9_linksToAll_8 (a0 : Int32) (a1 : Int32) (k23 : Int32 → sr_t → sr_Rs) (k40 : sr_t → sr_Rs) : Nat → Int32 → Int32 → sr_t → sr_Rs
  | 0 => fun _ _ _ => none
  | n + 1 => fun x3 x4 t => (if 24 ≤ x4 then k40 t else (if (a1 &&& (x3 ^^^ ((-1)))) = 0 then k23 x4 t else (sr_bI (F9_linkedFrom x3 t) (fun v1 t1 => (f9_linksToAll_8 a0 a1 k23 k40 n) (x3 ||| v1) (x4 + 1) t1))))
theorem g9_linksToAll_8 (l : Launch) (a0 : Int32) (a1 : Int32)  (k23 : Int32 → sr_t → sr_Rs) (k40 : sr_t → sr_Rs) (hk23 : ∀ (x4 : Int32), ∀ (t : sr_t), sr_g l sr_m9_linksToAll 23 [some (sr_r 9 0), some (sr_i a0), some (sr_i a1), none, some (sr_i x4)] [] t (k23 x4 t) 0 0) (hk40 : ∀ (t : sr_t), sr_g l sr_m9_linksToAll 40 [some (sr_r 9 0), some (sr_i a0), some (sr_i a1), none, none] [] t (k40 t) 0 0) : ∀ (n : Nat) (x3 : Int32) (x4 : Int32), ∀ (t : sr_t), sr_g l sr_m9_linksToAll 8 [some (sr_r 9 0), some (sr_i a0), some (sr_i a1), some (sr_i x3), some (sr_i x4)] [] t (f9_linksToAll_8 a0 a1 k23 k40 n x3 x4 t) 0 0 := by
  intro n
  induction n with
  | zero => intros; exact sr_Gn
  | succ n ih =>
    intro x3 x4  t
    unfold f9_linksToAll_8
    refine sr_iload (pc := 8) (i := 4) (by decide +kernel) rfl ?_
    refine sr_bipush (pc := 10) (n := 24) (v := 24) (by decide +kernel) (by decide) ?_
    refine sr_icmp_ge (pc := 12) (off := 28) (tg := 40) (by decide +kernel) (by decide) (fun _ => ?_) (fun _ => ?_)
    · exact sr_wk (sr_mono (mc := 0) (ms := 0) (by omega) (by omega) (hk40 t)) ⟨rfl, ⟨rfl, ⟨rfl, trivial⟩⟩⟩
    · refine sr_iloadn (pc := 15) (n := 2) (by decide +kernel) rfl ?_
      refine sr_iloadn (pc := 16) (n := 3) (by decide +kernel) rfl ?_
      refine sr_iconst (pc := 17) (n := (-1)) (v := (-1)) (by decide +kernel) rfl ?_
      refine sr_ixor (pc := 18) (by decide +kernel) ?_
      refine sr_iand (pc := 19) (by decide +kernel) ?_
      refine sr_if_ne (pc := 20) (off := 6) (tg := 26) (by decide +kernel) (by decide) (fun _ => ?_) (fun _ => ?_)
      · refine sr_iloadn (pc := 26) (n := 3) (by decide +kernel) rfl ?_
        refine sr_aloadn (pc := 27) (n := 0) (by decide +kernel) rfl ?_
        refine sr_iloadn (pc := 28) (n := 3) (by decide +kernel) rfl ?_
        refine sr_cV (pc := 29) (As := [sr_i x3]) (mc1 := 0) (ms1 := 0) (mc2 := 0) (ms2 := 0) fm_9_62 fl_9_62 (by decide +kernel) (sr_in9 _ (by omega)) (rm_9_linksToAll_9_linkedFrom) rfl rfl rfl (C9_linkedFrom l x3 t) ?_
        refine sr_kI (fun v1 t1 => ?_)
        refine sr_ior (pc := 32) (by decide +kernel) ?_
        refine sr_istoren (pc := 33) (n := 3) (by decide +kernel) (by decide) rfl rfl ?_
        refine sr_iinc (pc := 34) (i := 4) (n := 1) (w := x4 + 1) (by decide +kernel) rfl rfl (by decide) rfl rfl ?_
        refine sr_goto (pc := 37) (off := (-29)) (tg := 8) (by decide +kernel) (by decide) ?_
        exact sr_wk (sr_mono (mc := 0) (ms := 0) (by omega) (by omega) (ih (x3 ||| v1) (x4 + 1) t1)) ⟨rfl, ⟨rfl, ⟨rfl, ⟨rfl, ⟨rfl, trivial⟩⟩⟩⟩⟩
      · exact sr_wk (sr_mono (mc := 0) (ms := 0) (by omega) (by omega) (hk23 x4 t)) ⟨rfl, ⟨rfl, ⟨rfl, ⟨rfl, trivial⟩⟩⟩⟩
def f9_linksToAll_23 (a0 : Int32) (a1 : Int32)  : Int32 → sr_t → sr_Rs := fun x4 t => (some (.inl (some (sr_i x4)), t))
theorem g9_linksToAll_23 (l : Launch) (a0 : Int32) (a1 : Int32)    : ∀ (x4 : Int32), ∀ (t : sr_t), sr_g l sr_m9_linksToAll 23 [some (sr_r 9 0), some (sr_i a0), some (sr_i a1), none, some (sr_i x4)] [] t (f9_linksToAll_23 a0 a1  x4 t) 0 0 := by
  intro x4  t
  unfold f9_linksToAll_23
  refine sr_iload (pc := 23) (i := 4) (by decide +kernel) rfl ?_
  exact sr_iret (pc := 25) (by decide +kernel) rfl
def f9_linksToAll_40 (a0 : Int32) (a1 : Int32)  : sr_t → sr_Rs := fun  t => (some (.inl (some (sr_i ((-1)))), t))
theorem g9_linksToAll_40 (l : Launch) (a0 : Int32) (a1 : Int32)    : ∀ (t : sr_t), sr_g l sr_m9_linksToAll 40 [some (sr_r 9 0), some (sr_i a0), some (sr_i a1), none, none] [] t (f9_linksToAll_40 a0 a1   t) 0 0 := by
  intro t
  unfold f9_linksToAll_40
  refine sr_iconst (pc := 40) (n := (-1)) (v := (-1)) (by decide +kernel) rfl ?_
  exact sr_iret (pc := 41) (by decide +kernel) rfl
def F9_linksToAll (a0 : Int32) (a1 : Int32) (t : sr_t) : sr_Rs := (sr_bI (sr_nt (F10_bit a0 t)) (fun v1 t1 => f9_linksToAll_8 a0 a1 (f9_linksToAll_23 a0 a1) (f9_linksToAll_40 a0 a1) sr_fu v1 0 t1))
theorem C9_linksToAll (l : Launch) (a0 : Int32) (a1 : Int32)  (t : sr_t) : sr_ct' l sr_m9_linksToAll [sr_r 9 0, sr_i a0, sr_i a1] t (F9_linksToAll a0 a1 t) 0 0 := by
  refine sr_T_of (L0 := [some (sr_r 9 0), some (sr_i a0), some (sr_i a1), none, none]) rfl (by decide +kernel) (fun _ => rfl) (fun _ => Nat.le_of_ble_eq_true rfl) ?_
  unfold F9_linksToAll
  refine sr_iloadn (pc := 0) (n := 1) (by decide +kernel) rfl ?_
  refine sr_cSN (pc := 1) (As := [sr_i a0]) (mc1 := 0) (ms1 := 0) (mc2 := 0) (ms2 := 0) fm_9_26 fl_9_26 (by decide +kernel) (rm_9_linksToAll_10_bit) rfl rfl rfl (C10_bit l a0 t) ?_
  refine sr_kI (fun v1 t1 => ?_)
  refine sr_istoren (pc := 4) (n := 3) (by decide +kernel) (by decide) rfl rfl ?_
  refine sr_iconst (pc := 5) (n := 0) (v := 0) (by decide +kernel) rfl ?_
  refine sr_istore (pc := 6) (i := 4) (by decide +kernel) (by decide) rfl rfl ?_
  exact sr_wk (sr_mono (mc := 0) (ms := 0) (by omega) (by omega) (g9_linksToAll_8 l a0 a1 (f9_linksToAll_23 a0 a1) (f9_linksToAll_40 a0 a1) (g9_linksToAll_23 l a0 a1) (g9_linksToAll_40 l a0 a1) sr_fu v1 0 t1)) ⟨rfl, ⟨rfl, ⟨rfl, ⟨rfl, ⟨rfl, trivial⟩⟩⟩⟩⟩
def f9_widthOf_44 (i1 : Nat) (k15 : Int32 → Int32 → Int32 → sr_t → sr_Rs) (k52 : sr_t → sr_Rs) (k67 : Int32 → sr_t → sr_Rs) : Int32 → Int32 → Int32 → Int32 → sr_t → sr_Rs := fun x2 x3 x4 xs0 t => (if xs0 = ((-1)) then k52 t else k15 x2 (if x3 < xs0 then xs0 else x3) (x4 + 1) t)
theorem g9_widthOf_44 (l : Launch) (i1 : Nat) (hv_i1 : i1 < 2) (k15 : Int32 → Int32 → Int32 → sr_t → sr_Rs) (k52 : sr_t → sr_Rs) (k67 : Int32 → sr_t → sr_Rs) (hk15 : ∀ (x2 : Int32) (x3 : Int32) (x4 : Int32), ∀ (t : sr_t), sr_g l sr_m9_widthOf 15 [some (sr_r 9 0), some (sr_r 3 i1), some (sr_i x2), some (sr_i x3), some (sr_i x4), none] [] t (k15 x2 x3 x4 t) 0 0) (hk52 : ∀ (t : sr_t), sr_g l sr_m9_widthOf 52 [some (sr_r 9 0), some (sr_r 3 i1), none, none, none, none] [] t (k52 t) 0 0) (hk67 : ∀ (x3 : Int32), ∀ (t : sr_t), sr_g l sr_m9_widthOf 67 [some (sr_r 9 0), some (sr_r 3 i1), none, some (sr_i x3), none, none] [] t (k67 x3 t) 0 0) : ∀ (x2 : Int32) (x3 : Int32) (x4 : Int32) (xs0 : Int32), ∀ (t : sr_t), sr_g l sr_m9_widthOf 44 [some (sr_r 9 0), some (sr_r 3 i1), some (sr_i x2), some (sr_i x3), some (sr_i x4), none] [sr_i xs0] t (f9_widthOf_44 i1 k15 k52 k67 x2 x3 x4 xs0 t) 0 0 := by
  intro x2 x3 x4 xs0  t
  unfold f9_widthOf_44
  refine sr_istore (pc := 44) (i := 5) (by decide +kernel) (by decide) rfl rfl ?_
  refine sr_iload (pc := 46) (i := 5) (by decide +kernel) rfl ?_
  refine sr_iconst (pc := 48) (n := (-1)) (v := (-1)) (by decide +kernel) rfl ?_
  refine sr_icmp_ne (pc := 49) (off := 5) (tg := 54) (by decide +kernel) (by decide) (fun _ => ?_) (fun _ => ?_)
  · refine sr_iloadn (pc := 54) (n := 3) (by decide +kernel) rfl ?_
    refine sr_iload (pc := 55) (i := 5) (by decide +kernel) rfl ?_
    refine sr_mmmax (pc := 57) (idx := 48) (sr_tb (n := 547) (by decide +kernel) rfl) (by decide +kernel) (by decide) (by decide) rfl mw_max1 mw_0 mw_max2 ?_
    refine sr_istoren (pc := 60) (n := 3) (by decide +kernel) (by decide) rfl rfl ?_
    refine sr_iinc (pc := 61) (i := 4) (n := 1) (w := x4 + 1) (by decide +kernel) rfl rfl (by decide) rfl rfl ?_
    refine sr_goto (pc := 64) (off := (-49)) (tg := 15) (by decide +kernel) (by decide) ?_
    exact sr_wk (sr_mono (mc := 0) (ms := 0) (by omega) (by omega) (hk15 x2 (if x3 < xs0 then xs0 else x3) (x4 + 1) t)) ⟨rfl, ⟨rfl, ⟨rfl, ⟨rfl, ⟨rfl, trivial⟩⟩⟩⟩⟩
  · exact sr_wk (sr_mono (mc := 0) (ms := 0) (by omega) (by omega) (hk52 t)) ⟨rfl, ⟨rfl, trivial⟩⟩
def f9_widthOf_15 (i1 : Nat) (k52 : sr_t → sr_Rs) (k67 : Int32 → sr_t → sr_Rs) : Nat → Int32 → Int32 → Int32 → sr_t → sr_Rs
  | 0 => fun _ _ _ _ => none
  | n + 1 => fun x2 x3 x4 t => (if (t.1 3 i1 3) ≤ x4 then k67 x3 t else (sr_bI (sr_nt (F10_hasBit x2 x4 t)) (fun v1 t1 => (if v1 = 0 then f9_widthOf_44 i1 (f9_widthOf_15 i1 k52 k67 n) k52 k67 x2 x3 x4 0 t1 else (sr_bI (F9_linksToAll x4 x2 t1) (fun v2 t2 => f9_widthOf_44 i1 (f9_widthOf_15 i1 k52 k67 n) k52 k67 x2 x3 x4 v2 t2))))))
theorem g9_widthOf_15 (l : Launch) (i1 : Nat) (hv_i1 : i1 < 2) (k52 : sr_t → sr_Rs) (k67 : Int32 → sr_t → sr_Rs) (hk52 : ∀ (t : sr_t), sr_g l sr_m9_widthOf 52 [some (sr_r 9 0), some (sr_r 3 i1), none, none, none, none] [] t (k52 t) 0 0) (hk67 : ∀ (x3 : Int32), ∀ (t : sr_t), sr_g l sr_m9_widthOf 67 [some (sr_r 9 0), some (sr_r 3 i1), none, some (sr_i x3), none, none] [] t (k67 x3 t) 0 0) : ∀ (n : Nat) (x2 : Int32) (x3 : Int32) (x4 : Int32), ∀ (t : sr_t), sr_g l sr_m9_widthOf 15 [some (sr_r 9 0), some (sr_r 3 i1), some (sr_i x2), some (sr_i x3), some (sr_i x4), none] [] t (f9_widthOf_15 i1 k52 k67 n x2 x3 x4 t) 0 0 := by
  intro n
  induction n with
  | zero => intros; exact sr_Gn
  | succ n ih =>
    intro x2 x3 x4  t
    unfold f9_widthOf_15
    refine sr_iload (pc := 15) (i := 4) (by decide +kernel) rfl ?_
    refine sr_aloadn (pc := 17) (n := 1) (by decide +kernel) rfl ?_
    refine sr_gI (pc := 18) fg_9_40 (by decide +kernel) (sr_in3 _ (by omega)) (fun _ => rfl) ?_
    refine sr_icmp_ge (pc := 21) (off := 46) (tg := 67) (by decide +kernel) (by decide) (fun _ => ?_) (fun _ => ?_)
    · exact sr_wk (sr_mono (mc := 0) (ms := 0) (by omega) (by omega) (hk67 x3 t)) ⟨rfl, ⟨rfl, ⟨rfl, trivial⟩⟩⟩
    · refine sr_iloadn (pc := 24) (n := 2) (by decide +kernel) rfl ?_
      refine sr_iload (pc := 25) (i := 4) (by decide +kernel) rfl ?_
      refine sr_cSN (pc := 27) (As := [sr_i x2, sr_i x4]) (mc1 := 0) (ms1 := 0) (mc2 := 0) (ms2 := 0) fm_9_44 fl_9_44 (by decide +kernel) (rm_9_widthOf_10_hasBit) rfl rfl rfl (C10_hasBit l x2 x4 t) ?_
      refine sr_kI (fun v1 t1 => ?_)
      refine sr_if_eq (pc := 30) (off := 13) (tg := 43) (by decide +kernel) (by decide) (fun _ => ?_) (fun _ => ?_)
      · refine sr_iconst (pc := 43) (n := 0) (v := 0) (by decide +kernel) rfl ?_
        exact sr_wk (sr_mono (mc := 0) (ms := 0) (by omega) (by omega) (g9_widthOf_44 l i1 hv_i1 (f9_widthOf_15 i1 k52 k67 n) k52 k67 ih hk52 hk67 x2 x3 x4 0 t1)) ⟨rfl, ⟨rfl, ⟨rfl, ⟨rfl, ⟨rfl, trivial⟩⟩⟩⟩⟩
      · refine sr_aloadn (pc := 33) (n := 0) (by decide +kernel) rfl ?_
        refine sr_iload (pc := 34) (i := 4) (by decide +kernel) rfl ?_
        refine sr_iloadn (pc := 36) (n := 2) (by decide +kernel) rfl ?_
        refine sr_cV (pc := 37) (As := [sr_i x4, sr_i x2]) (mc1 := 0) (ms1 := 0) (mc2 := 0) (ms2 := 0) fm_9_30 fl_9_30 (by decide +kernel) (sr_in9 _ (by omega)) (rm_9_widthOf_9_linksToAll) rfl rfl rfl (C9_linksToAll l x4 x2 t1) ?_
        refine sr_kI (fun v2 t2 => ?_)
        refine sr_goto (pc := 40) (off := 4) (tg := 44) (by decide +kernel) (by decide) ?_
        exact sr_wk (sr_mono (mc := 0) (ms := 0) (by omega) (by omega) (g9_widthOf_44 l i1 hv_i1 (f9_widthOf_15 i1 k52 k67 n) k52 k67 ih hk52 hk67 x2 x3 x4 v2 t2)) ⟨rfl, ⟨rfl, ⟨rfl, ⟨rfl, ⟨rfl, trivial⟩⟩⟩⟩⟩
def f9_widthOf_52 (i1 : Nat)  : sr_t → sr_Rs := fun  t => (some (.inl (some (sr_i ((-1)))), t))
theorem g9_widthOf_52 (l : Launch) (i1 : Nat) (hv_i1 : i1 < 2)   : ∀ (t : sr_t), sr_g l sr_m9_widthOf 52 [some (sr_r 9 0), some (sr_r 3 i1), none, none, none, none] [] t (f9_widthOf_52 i1   t) 0 0 := by
  intro t
  unfold f9_widthOf_52
  refine sr_iconst (pc := 52) (n := (-1)) (v := (-1)) (by decide +kernel) rfl ?_
  exact sr_iret (pc := 53) (by decide +kernel) rfl
def f9_widthOf_67 (i1 : Nat)  : Int32 → sr_t → sr_Rs := fun x3 t => (some (.inl (some (sr_i x3)), t))
theorem g9_widthOf_67 (l : Launch) (i1 : Nat) (hv_i1 : i1 < 2)   : ∀ (x3 : Int32), ∀ (t : sr_t), sr_g l sr_m9_widthOf 67 [some (sr_r 9 0), some (sr_r 3 i1), none, some (sr_i x3), none, none] [] t (f9_widthOf_67 i1  x3 t) 0 0 := by
  intro x3  t
  unfold f9_widthOf_67
  refine sr_iloadn (pc := 67) (n := 3) (by decide +kernel) rfl ?_
  exact sr_iret (pc := 68) (by decide +kernel) rfl
def F9_widthOf (i1 : Nat) (t : sr_t) : sr_Rs := (sr_bV (F9_readLinks i1 t) (fun t1 => (sr_bI (F3_upBits i1 t1) (fun v2 t2 => f9_widthOf_15 i1 (f9_widthOf_52 i1) (f9_widthOf_67 i1) sr_fu v2 0 0 t2))))
theorem C9_widthOf (l : Launch) (i1 : Nat) (hv_i1 : i1 < 2) (t : sr_t) : sr_ct' l sr_m9_widthOf [sr_r 9 0, sr_r 3 i1] t (F9_widthOf i1 t) 0 0 := by
  refine sr_T_of (L0 := [some (sr_r 9 0), some (sr_r 3 i1), none, none, none, none]) rfl (by decide +kernel) (fun _ => rfl) (fun _ => Nat.le_of_ble_eq_true rfl) ?_
  unfold F9_widthOf
  refine sr_aloadn (pc := 0) (n := 0) (by decide +kernel) rfl ?_
  refine sr_aloadn (pc := 1) (n := 1) (by decide +kernel) rfl ?_
  refine sr_cV (pc := 2) (As := [sr_r 3 i1]) (mc1 := 0) (ms1 := 0) (mc2 := 0) (ms2 := 0) fm_9_22 fl_9_22 (by decide +kernel) (sr_in9 _ (by omega)) (rm_9_widthOf_9_readLinks) rfl rfl rfl (C9_readLinks l i1 (by omega) t) ?_
  refine sr_kV (fun t1 => ?_)
  refine sr_aloadn (pc := 5) (n := 1) (by decide +kernel) rfl ?_
  refine sr_cV (pc := 6) (As := []) (mc1 := 0) (ms1 := 0) (mc2 := 0) (ms2 := 0) fm_9_34 fl_9_34 (by decide +kernel) (sr_in3 _ (by omega)) (rm_9_widthOf_3_upBits) rfl rfl rfl (C3_upBits l i1 (by omega) t1) ?_
  refine sr_kI (fun v2 t2 => ?_)
  refine sr_istoren (pc := 9) (n := 2) (by decide +kernel) (by decide) rfl rfl ?_
  refine sr_iconst (pc := 10) (n := 0) (v := 0) (by decide +kernel) rfl ?_
  refine sr_istoren (pc := 11) (n := 3) (by decide +kernel) (by decide) rfl rfl ?_
  refine sr_iconst (pc := 12) (n := 0) (v := 0) (by decide +kernel) rfl ?_
  refine sr_istore (pc := 13) (i := 4) (by decide +kernel) (by decide) rfl rfl ?_
  exact sr_wk (sr_mono (mc := 0) (ms := 0) (by omega) (by omega) (g9_widthOf_15 l i1 hv_i1 (f9_widthOf_52 i1) (f9_widthOf_67 i1) (g9_widthOf_52 l i1 hv_i1) (g9_widthOf_67 l i1 hv_i1) sr_fu v2 0 0 t2)) ⟨rfl, ⟨rfl, ⟨rfl, ⟨rfl, ⟨rfl, trivial⟩⟩⟩⟩⟩
def f3_mostLoaded_47 (i0 : Nat) (k7 : Nat → Int32 → sr_t → sr_Rs) (k53 : Nat → sr_t → sr_Rs) : Nat → Int32 → sr_t → sr_Rs := fun j1 x2 t => k7 j1 (x2 + 1) t
theorem g3_mostLoaded_47 (l : Launch) (i0 : Nat) (hv_i0 : i0 < 2) (k7 : Nat → Int32 → sr_t → sr_Rs) (k53 : Nat → sr_t → sr_Rs) (hk7 : ∀ (j1 : Nat) (x2 : Int32), j1 < 50 → ∀ (t : sr_t), sr_g l sr_m3_mostLoaded 7 [some (sr_r 3 i0), some (sr_r 2 j1), some (sr_i x2)] [] t (k7 j1 x2 t) 0 0) (hk53 : ∀ (j1 : Nat), j1 < 50 → ∀ (t : sr_t), sr_g l sr_m3_mostLoaded 53 [some (sr_r 3 i0), some (sr_r 2 j1), none] [] t (k53 j1 t) 0 0) : ∀ (j1 : Nat) (x2 : Int32), j1 < 50 → ∀ (t : sr_t), sr_g l sr_m3_mostLoaded 47 [some (sr_r 3 i0), some (sr_r 2 j1), some (sr_i x2)] [] t (f3_mostLoaded_47 i0 k7 k53 j1 x2 t) 0 0 := by
  intro j1 x2 hv_j1 t
  unfold f3_mostLoaded_47
  refine sr_iinc (pc := 47) (i := 2) (n := 1) (w := x2 + 1) (by decide +kernel) rfl rfl (by decide) rfl rfl ?_
  refine sr_goto (pc := 50) (off := (-43)) (tg := 7) (by decide +kernel) (by decide) ?_
  exact sr_wk (sr_mono (mc := 0) (ms := 0) (by omega) (by omega) (hk7 j1 (x2 + 1) (by omega) t)) ⟨rfl, ⟨rfl, ⟨rfl, trivial⟩⟩⟩
def f3_mostLoaded_7 (i0 : Nat) (k53 : Nat → sr_t → sr_Rs) : Nat → Nat → Int32 → sr_t → sr_Rs
  | 0 => fun _ _ _ => none
  | n + 1 => fun j1 x2 t => (if (t.1 3 i0 3) ≤ x2 then k53 j1 t else (sr_bR 2 50 (F3_of i0 x2 t) (fun n1 t1 => (if (t1.1 2 n1 2) = 0 then f3_mostLoaded_47 i0 (f3_mostLoaded_7 i0 k53 n) k53 j1 x2 t1 else (sr_bR 2 50 (F3_of i0 x2 t1) (fun n2 t2 => (if (t2.1 2 n2 7) ≤ (t2.1 2 j1 7) then f3_mostLoaded_47 i0 (f3_mostLoaded_7 i0 k53 n) k53 j1 x2 t2 else (sr_bR 2 50 (F3_of i0 x2 t2) (fun n3 t3 => f3_mostLoaded_47 i0 (f3_mostLoaded_7 i0 k53 n) k53 n3 x2 t3)))))))))
theorem g3_mostLoaded_7 (l : Launch) (i0 : Nat) (hv_i0 : i0 < 2) (k53 : Nat → sr_t → sr_Rs) (hk53 : ∀ (j1 : Nat), j1 < 50 → ∀ (t : sr_t), sr_g l sr_m3_mostLoaded 53 [some (sr_r 3 i0), some (sr_r 2 j1), none] [] t (k53 j1 t) 0 0) : ∀ (n : Nat) (j1 : Nat) (x2 : Int32), j1 < 50 → ∀ (t : sr_t), sr_g l sr_m3_mostLoaded 7 [some (sr_r 3 i0), some (sr_r 2 j1), some (sr_i x2)] [] t (f3_mostLoaded_7 i0 k53 n j1 x2 t) 0 0 := by
  intro n
  induction n with
  | zero => intros; exact sr_Gn
  | succ n ih =>
    intro j1 x2 hv_j1 t
    unfold f3_mostLoaded_7
    refine sr_iloadn (pc := 7) (n := 2) (by decide +kernel) rfl ?_
    refine sr_aloadn (pc := 8) (n := 0) (by decide +kernel) rfl ?_
    refine sr_gI (pc := 9) fg_3_51 (by decide +kernel) (sr_in3 _ (by omega)) (fun _ => rfl) ?_
    refine sr_icmp_ge (pc := 12) (off := 41) (tg := 53) (by decide +kernel) (by decide) (fun _ => ?_) (fun _ => ?_)
    · exact sr_wk (sr_mono (mc := 0) (ms := 0) (by omega) (by omega) (hk53 j1 (by omega) t)) ⟨rfl, ⟨rfl, trivial⟩⟩
    · refine sr_aloadn (pc := 15) (n := 0) (by decide +kernel) rfl ?_
      refine sr_iloadn (pc := 16) (n := 2) (by decide +kernel) rfl ?_
      refine sr_cV (pc := 17) (As := [sr_i x2]) (mc1 := 0) (ms1 := 0) (mc2 := 0) (ms2 := 0) fm_3_54 fl_3_54 (by decide +kernel) (sr_in3 _ (by omega)) (rm_3_mostLoaded_3_of) rfl rfl rfl (C3_of l i0 x2 (by omega) t) ?_
      refine sr_kR (fun n1 t1 hv_n1 => ?_)
      refine sr_gI (pc := 20) fg_3_68 (by decide +kernel) (sr_in2 _ (by omega)) (fun _ => rfl) ?_
      refine sr_if_eq (pc := 23) (off := 24) (tg := 47) (by decide +kernel) (by decide) (fun _ => ?_) (fun _ => ?_)
      · exact sr_wk (sr_mono (mc := 0) (ms := 0) (by omega) (by omega) (g3_mostLoaded_47 l i0 hv_i0 (f3_mostLoaded_7 i0 k53 n) k53 ih hk53 j1 x2 (by omega) t1)) ⟨rfl, ⟨rfl, ⟨rfl, trivial⟩⟩⟩
      · refine sr_aloadn (pc := 26) (n := 0) (by decide +kernel) rfl ?_
        refine sr_iloadn (pc := 27) (n := 2) (by decide +kernel) rfl ?_
        refine sr_cV (pc := 28) (As := [sr_i x2]) (mc1 := 0) (ms1 := 0) (mc2 := 0) (ms2 := 0) fm_3_54 fl_3_54 (by decide +kernel) (sr_in3 _ (by omega)) (rm_3_mostLoaded_3_of) rfl rfl rfl (C3_of l i0 x2 (by omega) t1) ?_
        refine sr_kR (fun n2 t2 hv_n2 => ?_)
        refine sr_gI (pc := 31) fg_3_119 (by decide +kernel) (sr_in2 _ (by omega)) (fun _ => rfl) ?_
        refine sr_aloadn (pc := 34) (n := 1) (by decide +kernel) rfl ?_
        refine sr_gI (pc := 35) fg_3_119 (by decide +kernel) (sr_in2 _ (by omega)) (fun _ => rfl) ?_
        refine sr_icmp_le (pc := 38) (off := 9) (tg := 47) (by decide +kernel) (by decide) (fun _ => ?_) (fun _ => ?_)
        · exact sr_wk (sr_mono (mc := 0) (ms := 0) (by omega) (by omega) (g3_mostLoaded_47 l i0 hv_i0 (f3_mostLoaded_7 i0 k53 n) k53 ih hk53 j1 x2 (by omega) t2)) ⟨rfl, ⟨rfl, ⟨rfl, trivial⟩⟩⟩
        · refine sr_aloadn (pc := 41) (n := 0) (by decide +kernel) rfl ?_
          refine sr_iloadn (pc := 42) (n := 2) (by decide +kernel) rfl ?_
          refine sr_cV (pc := 43) (As := [sr_i x2]) (mc1 := 0) (ms1 := 0) (mc2 := 0) (ms2 := 0) fm_3_54 fl_3_54 (by decide +kernel) (sr_in3 _ (by omega)) (rm_3_mostLoaded_3_of) rfl rfl rfl (C3_of l i0 x2 (by omega) t2) ?_
          refine sr_kR (fun n3 t3 hv_n3 => ?_)
          refine sr_astoren (pc := 46) (n := 1) (by decide +kernel) (by decide) rfl rfl ?_
          exact sr_wk (sr_mono (mc := 0) (ms := 0) (by omega) (by omega) (g3_mostLoaded_47 l i0 hv_i0 (f3_mostLoaded_7 i0 k53 n) k53 ih hk53 n3 x2 (by omega) t3)) ⟨rfl, ⟨rfl, ⟨rfl, trivial⟩⟩⟩
def f3_mostLoaded_53 (i0 : Nat)  : Nat → sr_t → sr_Rs := fun j1 t => (some (.inl (some (sr_r 2 j1)), t))
theorem g3_mostLoaded_53 (l : Launch) (i0 : Nat) (hv_i0 : i0 < 2)   : ∀ (j1 : Nat), j1 < 50 → ∀ (t : sr_t), sr_g l sr_m3_mostLoaded 53 [some (sr_r 3 i0), some (sr_r 2 j1), none] [] t (f3_mostLoaded_53 i0  j1 t) 0 0 := by
  intro j1 hv_j1 t
  unfold f3_mostLoaded_53
  refine sr_aloadn (pc := 53) (n := 1) (by decide +kernel) rfl ?_
  exact sr_aret (pc := 54) (by decide +kernel) rfl
def F3_mostLoaded (i0 : Nat) (t : sr_t) : sr_Rs := f3_mostLoaded_7 i0 (f3_mostLoaded_53 i0) sr_fu (25 * i0 + 24) 0 t
theorem C3_mostLoaded (l : Launch) (i0 : Nat) (hv_i0 : i0 < 2) (t : sr_t) : sr_ct' l sr_m3_mostLoaded [sr_r 3 i0] t (F3_mostLoaded i0 t) 0 0 := by
  refine sr_T_of (L0 := [some (sr_r 3 i0), none, none]) rfl (by decide +kernel) (fun _ => rfl) (fun _ => Nat.le_of_ble_eq_true rfl) ?_
  unfold F3_mostLoaded
  refine sr_aloadn (pc := 0) (n := 0) (by decide +kernel) rfl ?_
  refine sr_gC (pc := 1) (i2 := 25 * i0 + 24) fg_3_20 (by decide +kernel) (sr_in3 _ (by omega)) (fun _ => rfl) ?_
  refine sr_astoren (pc := 4) (n := 1) (by decide +kernel) (by decide) rfl rfl ?_
  refine sr_iconst (pc := 5) (n := 0) (v := 0) (by decide +kernel) rfl ?_
  refine sr_istoren (pc := 6) (n := 2) (by decide +kernel) (by decide) rfl rfl ?_
  exact sr_wk (sr_mono (mc := 0) (ms := 0) (by omega) (by omega) (g3_mostLoaded_7 l i0 hv_i0 (f3_mostLoaded_53 i0) (g3_mostLoaded_53 l i0 hv_i0) sr_fu (25 * i0 + 24) 0 (by omega) t)) ⟨rfl, ⟨rfl, ⟨rfl, trivial⟩⟩⟩
