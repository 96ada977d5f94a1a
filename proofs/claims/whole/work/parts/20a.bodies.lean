def sr_m10_bitsOf : sr_M := (⟨"ShiftRing", "bitsOf", "(I)I"⟩, prog_1_method_55_code, 1, (some .int), [], 0, 0)
def F10_bitsOf (a0 : Int32) (t : sr_t) : sr_Rs := (if a0 = 2 then (some (.inl (some (sr_i 1)), t)) else if a0 = 4 then (some (.inl (some (sr_i 2)), t)) else if a0 = 8 then (some (.inl (some (sr_i 3)), t)) else if a0 = 16 then (some (.inl (some (sr_i 4)), t)) else (some (.inl (some (sr_i 0)), t)))
theorem C10_bitsOf (l : Launch) (a0 : Int32)  (t : sr_t) : sr_ct' l sr_m10_bitsOf [sr_i a0] t (F10_bitsOf a0 t) 0 0 := by
  refine sr_T_of (L0 := [some (sr_i a0)]) rfl (by decide +kernel) (fun _ => rfl) (fun _ => Nat.le_of_ble_eq_true rfl) ?_
  unfold F10_bitsOf
  refine sr_iloadn (pc := 0) (n := 0) (by decide +kernel) rfl ?_
  refine sr_lsw (pc := 1) (u := a0) (d := 51) (a1 := 43) (a2 := 45) (a3 := 47) (a4 := 49) (len := 43) (t0 := 52) (t1 := 44) (t2 := 46) (t3 := 48) (t4 := 50) (by decide +kernel) (by decide) (by decide) (by decide) (by decide) (by decide) ?_ ?_ ?_ ?_ ?_
  · refine sr_iconst (pc := 44) (n := 1) (v := 1) (by decide +kernel) rfl ?_
    exact sr_iret (pc := 45) (by decide +kernel) rfl
  · refine sr_iconst (pc := 46) (n := 2) (v := 2) (by decide +kernel) rfl ?_
    exact sr_iret (pc := 47) (by decide +kernel) rfl
  · refine sr_iconst (pc := 48) (n := 3) (v := 3) (by decide +kernel) rfl ?_
    exact sr_iret (pc := 49) (by decide +kernel) rfl
  · refine sr_iconst (pc := 50) (n := 4) (v := 4) (by decide +kernel) rfl ?_
    exact sr_iret (pc := 51) (by decide +kernel) rfl
  · refine sr_iconst (pc := 52) (n := 0) (v := 0) (by decide +kernel) rfl ?_
    exact sr_iret (pc := 53) (by decide +kernel) rfl
def sr_m3_of : sr_M := (⟨"ShiftRing$Ring", "of", "(I)LShiftRing$Node;"⟩, prog_5_method_4_code, 2, (some (.object "ShiftRing$Node")), [], 0, 0)
def sr_m4_empty : sr_M := (⟨"ShiftRing$Row", "empty", "()V"⟩, prog_6_method_2_code, 1, none, [], 0, 0)
def sr_m10_onward : sr_M := (⟨"ShiftRing", "onward", "(II)I"⟩, prog_1_method_56_code, 2, (some .int), [], 0, 0)
def sr_m3_firstFrom : sr_M := (⟨"ShiftRing$Ring", "firstFrom", "(I)LShiftRing$Node;"⟩, prog_5_method_15_code, 6, (some (.object "ShiftRing$Node")), [], 1, 21)
def sr_m4_add : sr_M := (⟨"ShiftRing$Row", "add", "(I)V"⟩, prog_6_method_3_code, 2, none, [], 0, 0)
def sr_m3_lastBackFrom : sr_M := (⟨"ShiftRing$Ring", "lastBackFrom", "(I)LShiftRing$Node;"⟩, prog_5_method_16_code, 6, (some (.object "ShiftRing$Node")), [], 1, 21)
def sr_m3_layInto : sr_M := (⟨"ShiftRing$Ring", "layInto", "(LShiftRing$Table;LShiftRing$Node;)V"⟩, prog_5_method_11_code, 6, none, [], 2, 46)
def sr_m4_at : sr_M := (⟨"ShiftRing$Row", "at", "(I)I"⟩, prog_6_method_4_code, 2, (some .int), [], 0, 0)
def sr_m4_differencesTo : sr_M := (⟨"ShiftRing$Row", "differencesTo", "(LShiftRing$Row;)I"⟩, prog_6_method_6_code, 4, (some .int), [], 1, 21)
def sr_m7_differencesTo : sr_M := (⟨"ShiftRing$Table", "differencesTo", "(LShiftRing$Table;)I"⟩, prog_9_method_3_code, 2, (some .int), [], 2, 44)
def sr_m3_staleOf : sr_M := (⟨"ShiftRing$Ring", "staleOf", "(LShiftRing$Node;)I"⟩, prog_5_method_18_code, 2, (some .int), [], 3, 71)
def sr_m3_staleOfAll : sr_M := (⟨"ShiftRing$Ring", "staleOfAll", "()I"⟩, prog_5_method_19_code, 3, (some .int), [], 4, 92)
def sr_m3_findNext : sr_M := (⟨"ShiftRing$Ring", "findNext", "(LShiftRing$Node;)I"⟩, prog_5_method_14_code, 4, (some .int), [], 1, 21)
def sr_m10_stretch : sr_M := (⟨"ShiftRing", "stretch", "(II)I"⟩, prog_1_method_57_code, 2, (some .int), [], 1, 21)
def sr_m3_refreshNode : sr_M := (⟨"ShiftRing$Ring", "refreshNode", "(LShiftRing$Node;)V"⟩, prog_5_method_13_code, 2, none, [], 2, 46)
def sr_m3_refresh : sr_M := (⟨"ShiftRing$Ring", "refresh", "()V"⟩, prog_5_method_12_code, 2, none, [], 3, 67)
def sr_m3_layAllAgain : sr_M := (⟨"ShiftRing$Ring", "layAllAgain", "()V"⟩, prog_5_method_10_code, 2, none, [], 4, 88)
def sr_m10_mendAll : sr_M := (⟨"ShiftRing", "mendAll", "()I"⟩, prog_1_method_6_code, 2, (some .int), [], 5, 114)
theorem fg_10_12 : sr_FG "ShiftRing" 12 10 0 7 := ⟨RX10, TX10, tyX10, rfl, by decide, rfl, uw_10, tyX10_ok, nmX10, Or.inl (sr_tb (n := 405) (by decide +kernel) rfl)⟩
theorem fg_3_11 : sr_FG "ShiftRing$Ring" 11 3 0 9 := ⟨RX3, TX3, tyX3, rfl, by decide, rfl, uw_3, tyX3_ok, nmX3, Or.inl (sr_tb (n := 151) (by decide +kernel) rfl)⟩
theorem fg_3_20 : sr_FG "ShiftRing$Ring" 20 3 1 9 := ⟨RX3, TX3, tyX3, rfl, by decide, rfl, uw_3, tyX3_ok, nmX3, Or.inl (sr_tb (n := 152) (by decide +kernel) rfl)⟩
theorem fg_3_27 : sr_FG "ShiftRing$Ring" 27 3 2 9 := ⟨RX3, TX3, tyX3, rfl, by decide, rfl, uw_3, tyX3_ok, nmX3, Or.inl (sr_tb (n := 154) (by decide +kernel) rfl)⟩
theorem fg_3_31 : sr_FG "ShiftRing$Ring" 31 3 8 9 := ⟨RX3, TX3, tyX3, rfl, by decide, rfl, uw_3, tyX3_ok, nmX3, Or.inl (sr_tb (n := 172) (by decide +kernel) rfl)⟩
theorem fg_3_38 : sr_FG "ShiftRing$Ring" 38 3 5 9 := ⟨RX3, TX3, tyX3, rfl, by decide, rfl, uw_3, tyX3_ok, nmX3, Or.inl (sr_tb (n := 164) (by decide +kernel) rfl)⟩
theorem fg_3_51 : sr_FG "ShiftRing$Ring" 51 3 3 9 := ⟨RX3, TX3, tyX3, rfl, by decide, rfl, uw_3, tyX3_ok, nmX3, Or.inl (sr_tb (n := 157) (by decide +kernel) rfl)⟩
theorem fg_3_58 : sr_FG "ShiftRing$Ring" 58 2 1 8 := ⟨RX2, TX2, tyX2, rfl, by decide, rfl, uw_2, tyX2_ok, nmX2, Or.inr ⟨"ShiftRing", sr_nb (n := 96) (by decide +kernel) rfl⟩⟩
theorem fg_3_65 : sr_FG "ShiftRing$Ring" 65 2 0 8 := ⟨RX2, TX2, tyX2, rfl, by decide, rfl, uw_2, tyX2_ok, nmX2, Or.inr ⟨"ShiftRing", sr_nb (n := 92) (by decide +kernel) rfl⟩⟩
theorem fg_3_68 : sr_FG "ShiftRing$Ring" 68 2 2 8 := ⟨RX2, TX2, tyX2, rfl, by decide, rfl, uw_2, tyX2_ok, nmX2, Or.inr ⟨"ShiftRing", sr_nb (n := 103) (by decide +kernel) rfl⟩⟩
theorem fg_3_78 : sr_FG "ShiftRing$Ring" 78 2 4 8 := ⟨RX2, TX2, tyX2, rfl, by decide, rfl, uw_2, tyX2_ok, nmX2, Or.inr ⟨"ShiftRing", sr_nb (n := 112) (by decide +kernel) rfl⟩⟩
theorem fg_3_85 : sr_FG "ShiftRing$Ring" 85 7 0 3 := ⟨RX7, TX7, tyX7, rfl, by decide, rfl, uw_7, tyX7_ok, nmX7, Or.inr ⟨"ShiftRing", sr_nb (n := 70) (by decide +kernel) rfl⟩⟩
theorem fg_3_86 : sr_FG "ShiftRing$Ring" 86 7 1 3 := ⟨RX7, TX7, tyX7, rfl, by decide, rfl, uw_7, tyX7_ok, nmX7, Or.inr ⟨"ShiftRing", sr_nb (n := 75) (by decide +kernel) rfl⟩⟩
theorem fg_3_101 : sr_FG "ShiftRing$Ring" 101 7 2 3 := ⟨RX7, TX7, tyX7, rfl, by decide, rfl, uw_7, tyX7_ok, nmX7, Or.inr ⟨"ShiftRing", sr_nb (n := 80) (by decide +kernel) rfl⟩⟩
theorem fg_3_107 : sr_FG "ShiftRing$Ring" 107 3 4 9 := ⟨RX3, TX3, tyX3, rfl, by decide, rfl, uw_3, tyX3_ok, nmX3, Or.inl (sr_tb (n := 163) (by decide +kernel) rfl)⟩
theorem fg_3_113 : sr_FG "ShiftRing$Ring" 113 2 5 8 := ⟨RX2, TX2, tyX2, rfl, by decide, rfl, uw_2, tyX2_ok, nmX2, Or.inr ⟨"ShiftRing", sr_nb (n := 116) (by decide +kernel) rfl⟩⟩
theorem fg_3_116 : sr_FG "ShiftRing$Ring" 116 2 6 8 := ⟨RX2, TX2, tyX2, rfl, by decide, rfl, uw_2, tyX2_ok, nmX2, Or.inr ⟨"ShiftRing", sr_nb (n := 120) (by decide +kernel) rfl⟩⟩
theorem fg_3_119 : sr_FG "ShiftRing$Ring" 119 2 7 8 := ⟨RX2, TX2, tyX2, rfl, by decide, rfl, uw_2, tyX2_ok, nmX2, Or.inr ⟨"ShiftRing", sr_nb (n := 123) (by decide +kernel) rfl⟩⟩
theorem fg_3_130 : sr_FG "ShiftRing$Ring" 130 4 1 2 := ⟨RX4, TX4, tyX4, rfl, by decide, rfl, uw_4, tyX4_ok, nmX4, Or.inr ⟨"ShiftRing", sr_nb (n := 60) (by decide +kernel) rfl⟩⟩
theorem fg_4_9 : sr_FG "ShiftRing$Row" 9 4 0 2 := ⟨RX4, TX4, tyX4, rfl, by decide, rfl, uw_4, tyX4_ok, nmX4, Or.inl (sr_tb (n := 56) (by decide +kernel) rfl)⟩
theorem fg_4_15 : sr_FG "ShiftRing$Row" 15 4 1 2 := ⟨RX4, TX4, tyX4, rfl, by decide, rfl, uw_4, tyX4_ok, nmX4, Or.inl (sr_tb (n := 57) (by decide +kernel) rfl)⟩
theorem fg_7_10 : sr_FG "ShiftRing$Table" 10 7 1 3 := ⟨RX7, TX7, tyX7, rfl, by decide, rfl, uw_7, tyX7_ok, nmX7, Or.inl (sr_tb (n := 72) (by decide +kernel) rfl)⟩
theorem fg_7_16 : sr_FG "ShiftRing$Table" 16 7 2 3 := ⟨RX7, TX7, tyX7, rfl, by decide, rfl, uw_7, tyX7_ok, nmX7, Or.inl (sr_tb (n := 78) (by decide +kernel) rfl)⟩
theorem fg_7_19 : sr_FG "ShiftRing$Table" 19 7 0 3 := ⟨RX7, TX7, tyX7, rfl, by decide, rfl, uw_7, tyX7_ok, nmX7, Or.inl (sr_tb (n := 68) (by decide +kernel) rfl)⟩
theorem ft_2_5 : sr_FT 2 5 8 0 false := ⟨RX2, TX2, rfl, rfl, (fun h => nomatch h), (show parseFieldDescriptor (TX2 5).2.2.1 = some .int from by decide +kernel)⟩
theorem ft_2_6 : sr_FT 2 6 8 0 false := ⟨RX2, TX2, rfl, rfl, (fun h => nomatch h), (show parseFieldDescriptor (TX2 6).2.2.1 = some .int from by decide +kernel)⟩
theorem ft_2_7 : sr_FT 2 7 8 0 false := ⟨RX2, TX2, rfl, rfl, (fun h => nomatch h), (show parseFieldDescriptor (TX2 7).2.2.1 = some .int from by decide +kernel)⟩
theorem ft_3_4 : sr_FT 3 4 9 0 false := ⟨RX3, TX3, rfl, rfl, (fun h => nomatch h), (show parseFieldDescriptor (TX3 4).2.2.1 = some .int from by decide +kernel)⟩
theorem ft_4_1 : sr_FT 4 1 2 0 false := ⟨RX4, TX4, rfl, rfl, (fun h => nomatch h), (show parseFieldDescriptor (TX4 1).2.2.1 = some .int from by decide +kernel)⟩
theorem ft_7_0 : sr_FT 7 0 3 0 false := ⟨RX7, TX7, rfl, rfl, (fun h => nomatch h), (show parseFieldDescriptor (TX7 0).2.2.1 = some .int from by decide +kernel)⟩
theorem fl_10_116 : Cond.methodLink "ShiftRing" 116 (sr_My sr_m3_staleOfAll) ∈ sr_TB := (sr_tb (n := 431) (by decide +kernel) rfl)
theorem fm_10_116 : sr_FV "ShiftRing" 116 sr_m3_staleOfAll 3 0 := ⟨⟨rfl, sr_tb (n := 434) (by decide +kernel) rfl, sr_tb (n := 2) (by decide +kernel) rfl, ⟨by decide, by decide, by decide +kernel⟩, Or.inl fl_10_116⟩, ⟨TX3, 9, rfl, rfl⟩, sr_tb (n := 432) (by decide +kernel) rfl, sr_tb (n := 433) (by decide +kernel) rfl⟩
theorem fl_10_120 : Cond.methodLink "ShiftRing" 120 (sr_My sr_m3_layAllAgain) ∈ sr_TB := (sr_tb (n := 478) (by decide +kernel) rfl)
theorem fm_10_120 : sr_FV "ShiftRing" 120 sr_m3_layAllAgain 3 0 := ⟨⟨rfl, sr_tb (n := 481) (by decide +kernel) rfl, sr_tb (n := 2) (by decide +kernel) rfl, ⟨by decide, by decide, by decide +kernel⟩, Or.inl fl_10_120⟩, ⟨TX3, 9, rfl, rfl⟩, sr_tb (n := 479) (by decide +kernel) rfl, sr_tb (n := 480) (by decide +kernel) rfl⟩
theorem fl_10_436 : Cond.methodLink "ShiftRing" 436 (sr_My sr_m10_onward) ∈ sr_TB := (sr_tb (n := 498) (by decide +kernel) rfl)
theorem fm_10_436 : sr_FS "ShiftRing" 436 sr_m10_onward 2 := ⟨⟨rfl, sr_tb (n := 457) (by decide +kernel) rfl, sr_tb (n := 1) (by decide +kernel) rfl, ⟨by decide, by decide, by decide +kernel⟩, Or.inl fl_10_436⟩, sr_tb (n := 456) (by decide +kernel) rfl⟩
theorem fl_3_54 : Cond.methodLink "ShiftRing$Ring" 54 (sr_My sr_m3_of) ∈ sr_TB := (sr_tb (n := 435) (by decide +kernel) rfl)
theorem fm_3_54 : sr_FV "ShiftRing$Ring" 54 sr_m3_of 3 1 := ⟨⟨rfl, sr_tb (n := 438) (by decide +kernel) rfl, sr_tb (n := 2) (by decide +kernel) rfl, ⟨by decide, by decide, by decide +kernel⟩, Or.inl fl_3_54⟩, ⟨TX3, 9, rfl, rfl⟩, sr_tb (n := 436) (by decide +kernel) rfl, sr_tb (n := 437) (by decide +kernel) rfl⟩
theorem fl_3_75 : Cond.methodLink "ShiftRing$Ring" 75 (sr_My sr_m3_refresh) ∈ sr_TB := (sr_tb (n := 482) (by decide +kernel) rfl)
theorem fm_3_75 : sr_FV "ShiftRing$Ring" 75 sr_m3_refresh 3 0 := ⟨⟨rfl, sr_tb (n := 485) (by decide +kernel) rfl, sr_tb (n := 2) (by decide +kernel) rfl, ⟨by decide, by decide, by decide +kernel⟩, Or.inl fl_3_75⟩, ⟨TX3, 9, rfl, rfl⟩, sr_tb (n := 484) (by decide +kernel) rfl, sr_ts (n := 1) (by decide +kernel) rfl⟩
theorem fl_3_81 : Cond.methodLink "ShiftRing$Ring" 81 (sr_My sr_m3_layInto) ∈ sr_TB := (sr_tb (n := 443) (by decide +kernel) rfl)
theorem fm_3_81 : sr_FV "ShiftRing$Ring" 81 sr_m3_layInto 3 2 := ⟨⟨rfl, sr_tb (n := 446) (by decide +kernel) rfl, sr_tb (n := 2) (by decide +kernel) rfl, ⟨by decide, by decide, by decide +kernel⟩, Or.inl fl_3_81⟩, ⟨TX3, 9, rfl, rfl⟩, sr_tb (n := 445) (by decide +kernel) rfl, sr_ts (n := 0) (by decide +kernel) rfl⟩
theorem fl_3_90 : Cond.methodLink "ShiftRing$Ring" 90 (sr_My sr_m4_empty) ∈ sr_TB := (sr_tb (n := 447) (by decide +kernel) rfl)
theorem fm_3_90 : sr_FV "ShiftRing$Ring" 90 sr_m4_empty 4 0 := ⟨⟨rfl, sr_tb (n := 450) (by decide +kernel) rfl, sr_tb (n := 5) (by decide +kernel) rfl, ⟨by decide, by decide, by decide +kernel⟩, Or.inl fl_3_90⟩, ⟨TX4, 2, rfl, rfl⟩, sr_tb (n := 448) (by decide +kernel) rfl, sr_tb (n := 449) (by decide +kernel) rfl⟩
theorem fl_3_95 : Cond.methodLink "ShiftRing$Ring" 95 (sr_My sr_m3_firstFrom) ∈ sr_TB := (sr_tb (n := 451) (by decide +kernel) rfl)
theorem fm_3_95 : sr_FV "ShiftRing$Ring" 95 sr_m3_firstFrom 3 1 := ⟨⟨rfl, sr_tb (n := 454) (by decide +kernel) rfl, sr_tb (n := 2) (by decide +kernel) rfl, ⟨by decide, by decide, by decide +kernel⟩, Or.inl fl_3_95⟩, ⟨TX3, 9, rfl, rfl⟩, sr_tb (n := 452) (by decide +kernel) rfl, sr_tb (n := 453) (by decide +kernel) rfl⟩
theorem fl_3_98 : Cond.methodLink "ShiftRing$Ring" 98 (sr_My sr_m4_add) ∈ sr_TB := (sr_tb (n := 458) (by decide +kernel) rfl)
theorem fm_3_98 : sr_FV "ShiftRing$Ring" 98 sr_m4_add 4 1 := ⟨⟨rfl, sr_tb (n := 461) (by decide +kernel) rfl, sr_tb (n := 5) (by decide +kernel) rfl, ⟨by decide, by decide, by decide +kernel⟩, Or.inl fl_3_98⟩, ⟨TX4, 2, rfl, rfl⟩, sr_tb (n := 459) (by decide +kernel) rfl, sr_tb (n := 460) (by decide +kernel) rfl⟩
theorem fl_3_104 : Cond.methodLink "ShiftRing$Ring" 104 (sr_My sr_m3_lastBackFrom) ∈ sr_TB := (sr_tb (n := 462) (by decide +kernel) rfl)
theorem fm_3_104 : sr_FV "ShiftRing$Ring" 104 sr_m3_lastBackFrom 3 1 := ⟨⟨rfl, sr_tb (n := 465) (by decide +kernel) rfl, sr_tb (n := 2) (by decide +kernel) rfl, ⟨by decide, by decide, by decide +kernel⟩, Or.inl fl_3_104⟩, ⟨TX3, 9, rfl, rfl⟩, sr_tb (n := 463) (by decide +kernel) rfl, sr_tb (n := 464) (by decide +kernel) rfl⟩
theorem fl_3_110 : Cond.methodLink "ShiftRing$Ring" 110 (sr_My sr_m3_refreshNode) ∈ sr_TB := (sr_tb (n := 486) (by decide +kernel) rfl)
theorem fm_3_110 : sr_FV "ShiftRing$Ring" 110 sr_m3_refreshNode 3 1 := ⟨⟨rfl, sr_tb (n := 489) (by decide +kernel) rfl, sr_tb (n := 2) (by decide +kernel) rfl, ⟨by decide, by decide, by decide +kernel⟩, Or.inl fl_3_110⟩, ⟨TX3, 9, rfl, rfl⟩, sr_tb (n := 488) (by decide +kernel) rfl, sr_ts (n := 2) (by decide +kernel) rfl⟩
theorem fl_3_122 : Cond.methodLink "ShiftRing$Ring" 122 (sr_My sr_m3_findNext) ∈ sr_TB := (sr_tb (n := 490) (by decide +kernel) rfl)
theorem fm_3_122 : sr_FV "ShiftRing$Ring" 122 sr_m3_findNext 3 1 := ⟨⟨rfl, sr_tb (n := 493) (by decide +kernel) rfl, sr_tb (n := 2) (by decide +kernel) rfl, ⟨by decide, by decide, by decide +kernel⟩, Or.inl fl_3_122⟩, ⟨TX3, 9, rfl, rfl⟩, sr_tb (n := 492) (by decide +kernel) rfl, sr_ts (n := 3) (by decide +kernel) rfl⟩
theorem fl_3_126 : Cond.methodLinkNest "ShiftRing$Ring" 126 (sr_My sr_m10_stretch) "ShiftRing" ∈ sr_NB := (sr_nb (n := 495) (by decide +kernel) rfl)
theorem fm_3_126 : sr_FS "ShiftRing$Ring" 126 sr_m10_stretch 2 := ⟨⟨rfl, sr_tb (n := 497) (by decide +kernel) rfl, sr_tb (n := 1) (by decide +kernel) rfl, ⟨by decide, by decide, by decide +kernel⟩, Or.inr ⟨_, fl_3_126⟩⟩, sr_tb (n := 496) (by decide +kernel) rfl⟩
theorem fl_3_131 : Cond.methodLink "ShiftRing$Ring" 131 (sr_My sr_m4_at) ∈ sr_TB := (sr_tb (n := 494) (by decide +kernel) rfl)
theorem fm_3_131 : sr_FV "ShiftRing$Ring" 131 sr_m4_at 4 1 := ⟨⟨rfl, sr_tb (n := 477) (by decide +kernel) rfl, sr_tb (n := 5) (by decide +kernel) rfl, ⟨by decide, by decide, by decide +kernel⟩, Or.inl fl_3_131⟩, ⟨TX4, 2, rfl, rfl⟩, sr_tb (n := 475) (by decide +kernel) rfl, sr_tb (n := 476) (by decide +kernel) rfl⟩
theorem fl_3_134 : Cond.methodLinkNest "ShiftRing$Ring" 134 (sr_My sr_m10_onward) "ShiftRing" ∈ sr_NB := (sr_nb (n := 455) (by decide +kernel) rfl)
theorem fm_3_134 : sr_FS "ShiftRing$Ring" 134 sr_m10_onward 2 := ⟨⟨rfl, sr_tb (n := 457) (by decide +kernel) rfl, sr_tb (n := 1) (by decide +kernel) rfl, ⟨by decide, by decide, by decide +kernel⟩, Or.inr ⟨_, fl_3_134⟩⟩, sr_tb (n := 456) (by decide +kernel) rfl⟩
theorem fl_3_137 : Cond.methodLink "ShiftRing$Ring" 137 (sr_My sr_m7_differencesTo) ∈ sr_TB := (sr_tb (n := 466) (by decide +kernel) rfl)
theorem fm_3_137 : sr_FV "ShiftRing$Ring" 137 sr_m7_differencesTo 7 1 := ⟨⟨rfl, sr_tb (n := 469) (by decide +kernel) rfl, sr_tb (n := 4) (by decide +kernel) rfl, ⟨by decide, by decide, by decide +kernel⟩, Or.inl fl_3_137⟩, ⟨TX7, 3, rfl, rfl⟩, sr_tb (n := 467) (by decide +kernel) rfl, sr_tb (n := 468) (by decide +kernel) rfl⟩
theorem fl_3_141 : Cond.methodLink "ShiftRing$Ring" 141 (sr_My sr_m3_staleOf) ∈ sr_TB := (sr_tb (n := 439) (by decide +kernel) rfl)
theorem fm_3_141 : sr_FV "ShiftRing$Ring" 141 sr_m3_staleOf 3 1 := ⟨⟨rfl, sr_tb (n := 442) (by decide +kernel) rfl, sr_tb (n := 2) (by decide +kernel) rfl, ⟨by decide, by decide, by decide +kernel⟩, Or.inl fl_3_141⟩, ⟨TX3, 9, rfl, rfl⟩, sr_tb (n := 440) (by decide +kernel) rfl, sr_tb (n := 441) (by decide +kernel) rfl⟩
theorem fl_4_22 : Cond.methodLink "ShiftRing$Row" 22 (sr_My sr_m4_at) ∈ sr_TB := (sr_tb (n := 474) (by decide +kernel) rfl)
theorem fm_4_22 : sr_FV "ShiftRing$Row" 22 sr_m4_at 4 1 := ⟨⟨rfl, sr_tb (n := 477) (by decide +kernel) rfl, sr_tb (n := 5) (by decide +kernel) rfl, ⟨by decide, by decide, by decide +kernel⟩, Or.inl fl_4_22⟩, ⟨TX4, 2, rfl, rfl⟩, sr_tb (n := 475) (by decide +kernel) rfl, sr_tb (n := 476) (by decide +kernel) rfl⟩
theorem fl_7_27 : Cond.methodLink "ShiftRing$Table" 27 (sr_My sr_m4_differencesTo) ∈ sr_TB := (sr_tb (n := 470) (by decide +kernel) rfl)
theorem fm_7_27 : sr_FV "ShiftRing$Table" 27 sr_m4_differencesTo 4 1 := ⟨⟨rfl, sr_tb (n := 473) (by decide +kernel) rfl, sr_tb (n := 5) (by decide +kernel) rfl, ⟨by decide, by decide, by decide +kernel⟩, Or.inl fl_7_27⟩, ⟨TX4, 2, rfl, rfl⟩, sr_tb (n := 471) (by decide +kernel) rfl, sr_tb (n := 472) (by decide +kernel) rfl⟩
theorem rm_10_mendAll_3_layAllAgain : sr_RM sr_m10_mendAll sr_m3_layAllAgain := ⟨Nat.le_of_ble_eq_true rfl, Nat.le_of_ble_eq_true rfl⟩
theorem rm_10_mendAll_3_staleOfAll : sr_RM sr_m10_mendAll sr_m3_staleOfAll := ⟨Nat.le_of_ble_eq_true rfl, Nat.le_of_ble_eq_true rfl⟩
theorem rm_10_stretch_10_onward : sr_RM sr_m10_stretch sr_m10_onward := ⟨Nat.le_of_ble_eq_true rfl, Nat.le_of_ble_eq_true rfl⟩
theorem rm_3_findNext_3_of : sr_RM sr_m3_findNext sr_m3_of := ⟨Nat.le_of_ble_eq_true rfl, Nat.le_of_ble_eq_true rfl⟩
theorem rm_3_findNext_4_at : sr_RM sr_m3_findNext sr_m4_at := ⟨Nat.le_of_ble_eq_true rfl, Nat.le_of_ble_eq_true rfl⟩
theorem rm_3_firstFrom_10_onward : sr_RM sr_m3_firstFrom sr_m10_onward := ⟨Nat.le_of_ble_eq_true rfl, Nat.le_of_ble_eq_true rfl⟩
theorem rm_3_firstFrom_3_of : sr_RM sr_m3_firstFrom sr_m3_of := ⟨Nat.le_of_ble_eq_true rfl, Nat.le_of_ble_eq_true rfl⟩
theorem rm_3_lastBackFrom_10_onward : sr_RM sr_m3_lastBackFrom sr_m10_onward := ⟨Nat.le_of_ble_eq_true rfl, Nat.le_of_ble_eq_true rfl⟩
theorem rm_3_lastBackFrom_3_of : sr_RM sr_m3_lastBackFrom sr_m3_of := ⟨Nat.le_of_ble_eq_true rfl, Nat.le_of_ble_eq_true rfl⟩
theorem rm_3_layAllAgain_3_layInto : sr_RM sr_m3_layAllAgain sr_m3_layInto := ⟨Nat.le_of_ble_eq_true rfl, Nat.le_of_ble_eq_true rfl⟩
theorem rm_3_layAllAgain_3_of : sr_RM sr_m3_layAllAgain sr_m3_of := ⟨Nat.le_of_ble_eq_true rfl, Nat.le_of_ble_eq_true rfl⟩
theorem rm_3_layAllAgain_3_refresh : sr_RM sr_m3_layAllAgain sr_m3_refresh := ⟨Nat.le_of_ble_eq_true rfl, Nat.le_of_ble_eq_true rfl⟩
theorem rm_3_layInto_3_firstFrom : sr_RM sr_m3_layInto sr_m3_firstFrom := ⟨Nat.le_of_ble_eq_true rfl, Nat.le_of_ble_eq_true rfl⟩
theorem rm_3_layInto_3_lastBackFrom : sr_RM sr_m3_layInto sr_m3_lastBackFrom := ⟨Nat.le_of_ble_eq_true rfl, Nat.le_of_ble_eq_true rfl⟩
theorem rm_3_layInto_4_add : sr_RM sr_m3_layInto sr_m4_add := ⟨Nat.le_of_ble_eq_true rfl, Nat.le_of_ble_eq_true rfl⟩
theorem rm_3_layInto_4_empty : sr_RM sr_m3_layInto sr_m4_empty := ⟨Nat.le_of_ble_eq_true rfl, Nat.le_of_ble_eq_true rfl⟩
theorem rm_3_refresh_3_of : sr_RM sr_m3_refresh sr_m3_of := ⟨Nat.le_of_ble_eq_true rfl, Nat.le_of_ble_eq_true rfl⟩
theorem rm_3_refresh_3_refreshNode : sr_RM sr_m3_refresh sr_m3_refreshNode := ⟨Nat.le_of_ble_eq_true rfl, Nat.le_of_ble_eq_true rfl⟩
theorem rm_3_refreshNode_10_stretch : sr_RM sr_m3_refreshNode sr_m10_stretch := ⟨Nat.le_of_ble_eq_true rfl, Nat.le_of_ble_eq_true rfl⟩
theorem rm_3_refreshNode_3_findNext : sr_RM sr_m3_refreshNode sr_m3_findNext := ⟨Nat.le_of_ble_eq_true rfl, Nat.le_of_ble_eq_true rfl⟩
theorem rm_3_refreshNode_3_lastBackFrom : sr_RM sr_m3_refreshNode sr_m3_lastBackFrom := ⟨Nat.le_of_ble_eq_true rfl, Nat.le_of_ble_eq_true rfl⟩
theorem rm_3_refreshNode_3_of : sr_RM sr_m3_refreshNode sr_m3_of := ⟨Nat.le_of_ble_eq_true rfl, Nat.le_of_ble_eq_true rfl⟩
theorem rm_3_staleOf_3_layInto : sr_RM sr_m3_staleOf sr_m3_layInto := ⟨Nat.le_of_ble_eq_true rfl, Nat.le_of_ble_eq_true rfl⟩
theorem rm_3_staleOf_7_differencesTo : sr_RM sr_m3_staleOf sr_m7_differencesTo := ⟨Nat.le_of_ble_eq_true rfl, Nat.le_of_ble_eq_true rfl⟩
theorem rm_3_staleOfAll_3_of : sr_RM sr_m3_staleOfAll sr_m3_of := ⟨Nat.le_of_ble_eq_true rfl, Nat.le_of_ble_eq_true rfl⟩
theorem rm_3_staleOfAll_3_staleOf : sr_RM sr_m3_staleOfAll sr_m3_staleOf := ⟨Nat.le_of_ble_eq_true rfl, Nat.le_of_ble_eq_true rfl⟩
theorem rm_4_differencesTo_4_at : sr_RM sr_m4_differencesTo sr_m4_at := ⟨Nat.le_of_ble_eq_true rfl, Nat.le_of_ble_eq_true rfl⟩
theorem rm_7_differencesTo_4_differencesTo : sr_RM sr_m7_differencesTo sr_m4_differencesTo := ⟨Nat.le_of_ble_eq_true rfl, Nat.le_of_ble_eq_true rfl⟩
def f3_of_26 (i0 : Nat) (a0 : Int32)  : Nat → sr_t → sr_Rs := fun js0 t => (some (.inl (some (sr_r 2 js0)), t))
theorem g3_of_26 (l : Launch) (i0 : Nat) (a0 : Int32) (hv_i0 : i0 < 2)   : ∀ (js0 : Nat), js0 < 50 → ∀ (t : sr_t), sr_g l sr_m3_of 26 [some (sr_r 3 i0), some (sr_i a0)] [sr_r 2 js0] t (f3_of_26 i0 a0  js0 t) 0 0 := by
  intro js0 hv_js0 t
  unfold f3_of_26
  exact sr_aret (pc := 26) (by decide +kernel) rfl
def f3_of_22 (i0 : Nat) (a0 : Int32)  : sr_t → sr_Rs := fun  t => f3_of_26 i0 a0 (25 * i0 + 24) t
theorem g3_of_22 (l : Launch) (i0 : Nat) (a0 : Int32) (hv_i0 : i0 < 2)   : ∀ (t : sr_t), sr_g l sr_m3_of 22 [some (sr_r 3 i0), some (sr_i a0)] [] t (f3_of_22 i0 a0   t) 0 0 := by
  intro t
  unfold f3_of_22
  refine sr_aloadn (pc := 22) (n := 0) (by decide +kernel) rfl ?_
  refine sr_gC (pc := 23) (i2 := 25 * i0 + 24) fg_3_20 (by decide +kernel) (sr_in3 _ (by omega)) (fun _ => rfl) ?_
  exact sr_wk (sr_mono (mc := 0) (ms := 0) (by omega) (by omega) (g3_of_26 l i0 a0 hv_i0 (25 * i0 + 24) (by omega) t)) ⟨rfl, ⟨rfl, trivial⟩⟩
def F3_of (i0 : Nat) (a0 : Int32) (t : sr_t) : sr_Rs := (if a0 < 0 then f3_of_22 i0 a0 t else (if 24 ≤ a0 then f3_of_22 i0 a0 t else (if a0 < 0 ∨ 24 ≤ a0.toNatClampNeg then none else f3_of_26 i0 a0 (25 * i0 + a0.toNatClampNeg) t)))
theorem C3_of (l : Launch) (i0 : Nat) (a0 : Int32) (hv_i0 : i0 < 2) (t : sr_t) : sr_ct' l sr_m3_of [sr_r 3 i0, sr_i a0] t (F3_of i0 a0 t) 0 0 := by
  refine sr_T_of (L0 := [some (sr_r 3 i0), some (sr_i a0)]) rfl (by decide +kernel) (fun _ => rfl) (fun _ => Nat.le_of_ble_eq_true rfl) ?_
  unfold F3_of
  refine sr_iloadn (pc := 0) (n := 1) (by decide +kernel) rfl ?_
  refine sr_if_lt (pc := 1) (off := 21) (tg := 22) (by decide +kernel) (by decide) (fun _ => ?_) (fun _ => ?_)
  · exact sr_wk (sr_mono (mc := 0) (ms := 0) (by omega) (by omega) (g3_of_22 l i0 a0 hv_i0 t)) ⟨rfl, ⟨rfl, trivial⟩⟩
  · refine sr_iloadn (pc := 4) (n := 1) (by decide +kernel) rfl ?_
    refine sr_aloadn (pc := 5) (n := 0) (by decide +kernel) rfl ?_
    refine sr_gC (pc := 6) (i2 := i0) fg_3_11 (by decide +kernel) (sr_in3 _ (by omega)) (fun _ => rfl) ?_
    refine sr_al' (pc := 9) (ty := 2) (n := 24) (v := 24) rfl (by decide) (by decide +kernel) (sr_in13 _ (by omega)) (by decide) ?_
    refine sr_icmp_ge (pc := 10) (off := 12) (tg := 22) (by decide +kernel) (by decide) (fun _ => ?_) (fun _ => ?_)
    · exact sr_wk (sr_mono (mc := 0) (ms := 0) (by omega) (by omega) (g3_of_22 l i0 a0 hv_i0 t)) ⟨rfl, ⟨rfl, trivial⟩⟩
    · refine sr_aloadn (pc := 13) (n := 0) (by decide +kernel) rfl ?_
      refine sr_gC (pc := 14) (i2 := i0) fg_3_11 (by decide +kernel) (sr_in3 _ (by omega)) (fun _ => rfl) ?_
      refine sr_iloadn (pc := 17) (n := 1) (by decide +kernel) rfl ?_
      refine sr_aA (pc := 18) (n := 24) (f := (fun j => 25 * i0 + j)) rfl (by decide) (by decide +kernel) (sr_in13 _ (by omega)) (fun _ _ => rfl) (fun hv_x => ?_)
      refine sr_goto (pc := 19) (off := 7) (tg := 26) (by decide +kernel) (by decide) ?_
      exact sr_wk (sr_mono (mc := 0) (ms := 0) (by omega) (by omega) (g3_of_26 l i0 a0 hv_i0 (25 * i0 + a0.toNatClampNeg) (by omega) t)) ⟨rfl, ⟨rfl, trivial⟩⟩
def F4_empty (i0 : Nat) (t : sr_t) : sr_Rs := (sr_lt (sr_u t 4 i0 1 0) (fun t1 => (some (.inl none, t1))))
theorem C4_empty (l : Launch) (i0 : Nat) (hv_i0 : i0 < 107) (t : sr_t) : sr_ct' l sr_m4_empty [sr_r 4 i0] t (F4_empty i0 t) 0 0 := by
  refine sr_T_of (L0 := [some (sr_r 4 i0)]) rfl (by decide +kernel) (fun _ => rfl) (fun _ => Nat.le_of_ble_eq_true rfl) ?_
  unfold F4_empty
  refine sr_aloadn (pc := 0) (n := 0) (by decide +kernel) rfl ?_
  refine sr_iconst (pc := 1) (n := 0) (v := 0) (by decide +kernel) rfl ?_
  refine sr_pI (pc := 2) fg_4_15 ft_4_1 (by decide +kernel) (sr_in4 _ (by omega)) (fun _ => rfl) (fun t1 => ?_)
  exact sr_ret (pc := 5) (by decide +kernel) rfl
def F10_onward (a0 : Int32) (a1 : Int32) (t : sr_t) : sr_Rs := (some (.inl (some (sr_i ((a1 - a0) &&& 4095))), t))
theorem C10_onward (l : Launch) (a0 : Int32) (a1 : Int32)  (t : sr_t) : sr_ct' l sr_m10_onward [sr_i a0, sr_i a1] t (F10_onward a0 a1 t) 0 0 := by
  refine sr_T_of (L0 := [some (sr_i a0), some (sr_i a1)]) rfl (by decide +kernel) (fun _ => rfl) (fun _ => Nat.le_of_ble_eq_true rfl) ?_
  unfold F10_onward
  refine sr_iloadn (pc := 0) (n := 1) (by decide +kernel) rfl ?_
  refine sr_iloadn (pc := 1) (n := 0) (by decide +kernel) rfl ?_
  refine sr_isub (pc := 2) (by decide +kernel) ?_
  refine sr_sipush (pc := 3) (n := 4095) (v := 4095) (by decide +kernel) (by decide) ?_
  refine sr_iand (pc := 6) (by decide +kernel) ?_
  exact sr_iret (pc := 7) (by decide +kernel) rfl
def f3_firstFrom_63 (i0 : Nat) (a0 : Int32) (k12 : Nat → Int32 → Int32 → sr_t → sr_Rs) (k69 : Nat → sr_t → sr_Rs) : Nat → Int32 → Int32 → sr_t → sr_Rs := fun j2 x3 x4 t => k12 j2 x3 (x4 + 1) t
theorem g3_firstFrom_63 (l : Launch) (i0 : Nat) (a0 : Int32) (hv_i0 : i0 < 2) (k12 : Nat → Int32 → Int32 → sr_t → sr_Rs) (k69 : Nat → sr_t → sr_Rs) (hk12 : ∀ (j2 : Nat) (x3 : Int32) (x4 : Int32), j2 < 50 → ∀ (t : sr_t), sr_g l sr_m3_firstFrom 12 [some (sr_r 3 i0), some (sr_i a0), some (sr_r 2 j2), some (sr_i x3), some (sr_i x4), none] [] t (k12 j2 x3 x4 t) 0 0) (hk69 : ∀ (j2 : Nat), j2 < 50 → ∀ (t : sr_t), sr_g l sr_m3_firstFrom 69 [some (sr_r 3 i0), some (sr_i a0), some (sr_r 2 j2), none, none, none] [] t (k69 j2 t) 0 0) : ∀ (j2 : Nat) (x3 : Int32) (x4 : Int32), j2 < 50 → ∀ (t : sr_t), sr_g l sr_m3_firstFrom 63 [some (sr_r 3 i0), some (sr_i a0), some (sr_r 2 j2), some (sr_i x3), some (sr_i x4), none] [] t (f3_firstFrom_63 i0 a0 k12 k69 j2 x3 x4 t) 0 0 := by
  intro j2 x3 x4 hv_j2 t
  unfold f3_firstFrom_63
  refine sr_iinc (pc := 63) (i := 4) (n := 1) (w := x4 + 1) (by decide +kernel) rfl rfl (by decide) rfl rfl ?_
  refine sr_goto (pc := 66) (off := (-54)) (tg := 12) (by decide +kernel) (by decide) ?_
  exact sr_wk (sr_mono (mc := 0) (ms := 0) (by omega) (by omega) (hk12 j2 x3 (x4 + 1) (by omega) t)) ⟨rfl, ⟨rfl, ⟨rfl, ⟨rfl, ⟨rfl, trivial⟩⟩⟩⟩⟩
def f3_firstFrom_12 (i0 : Nat) (a0 : Int32) (k69 : Nat → sr_t → sr_Rs) : Nat → Nat → Int32 → Int32 → sr_t → sr_Rs
  | 0 => fun _ _ _ _ => none
  | n + 1 => fun j2 x3 x4 t => (if (t.1 3 i0 3) ≤ x4 then k69 j2 t else (sr_bR 2 50 (F3_of i0 x4 t) (fun n1 t1 => (if (t1.1 2 n1 2) = 0 then f3_firstFrom_63 i0 a0 (f3_firstFrom_12 i0 a0 k69 n) k69 j2 x3 x4 t1 else (sr_bI (sr_nt (F10_onward a0 (t1.1 2 n1 1) t1)) (fun v2 t2 => (if x3 ≤ v2 then f3_firstFrom_63 i0 a0 (f3_firstFrom_12 i0 a0 k69 n) k69 j2 x3 x4 t2 else (sr_bI (sr_nt (F10_onward a0 (t2.1 2 n1 1) t2)) (fun v3 t3 => f3_firstFrom_63 i0 a0 (f3_firstFrom_12 i0 a0 k69 n) k69 n1 v3 x4 t3)))))))))
theorem g3_firstFrom_12 (l : Launch) (i0 : Nat) (a0 : Int32) (hv_i0 : i0 < 2) (k69 : Nat → sr_t → sr_Rs) (hk69 : ∀ (j2 : Nat), j2 < 50 → ∀ (t : sr_t), sr_g l sr_m3_firstFrom 69 [some (sr_r 3 i0), some (sr_i a0), some (sr_r 2 j2), none, none, none] [] t (k69 j2 t) 0 0) : ∀ (n : Nat) (j2 : Nat) (x3 : Int32) (x4 : Int32), j2 < 50 → ∀ (t : sr_t), sr_g l sr_m3_firstFrom 12 [some (sr_r 3 i0), some (sr_i a0), some (sr_r 2 j2), some (sr_i x3), some (sr_i x4), none] [] t (f3_firstFrom_12 i0 a0 k69 n j2 x3 x4 t) 0 0 := by
  intro n
  induction n with
  | zero => intros; exact sr_Gn
  | succ n ih =>
    intro j2 x3 x4 hv_j2 t
    unfold f3_firstFrom_12
    refine sr_iload (pc := 12) (i := 4) (by decide +kernel) rfl ?_
    refine sr_aloadn (pc := 14) (n := 0) (by decide +kernel) rfl ?_
    refine sr_gI (pc := 15) fg_3_51 (by decide +kernel) (sr_in3 _ (by omega)) (fun _ => rfl) ?_
    refine sr_icmp_ge (pc := 18) (off := 51) (tg := 69) (by decide +kernel) (by decide) (fun _ => ?_) (fun _ => ?_)
    · exact sr_wk (sr_mono (mc := 0) (ms := 0) (by omega) (by omega) (hk69 j2 (by omega) t)) ⟨rfl, ⟨rfl, ⟨rfl, trivial⟩⟩⟩
    · refine sr_aloadn (pc := 21) (n := 0) (by decide +kernel) rfl ?_
      refine sr_iload (pc := 22) (i := 4) (by decide +kernel) rfl ?_
      refine sr_cV (pc := 24) (As := [sr_i x4]) (mc1 := 0) (ms1 := 0) (mc2 := 0) (ms2 := 0) fm_3_54 fl_3_54 (by decide +kernel) (sr_in3 _ (by omega)) (rm_3_firstFrom_3_of) rfl rfl rfl (C3_of l i0 x4 (by omega) t) ?_
      refine sr_kR (fun n1 t1 hv_n1 => ?_)
      refine sr_astore (pc := 27) (i := 5) (by decide +kernel) (by decide) rfl rfl ?_
      refine sr_aload (pc := 29) (i := 5) (by decide +kernel) rfl ?_
      refine sr_gI (pc := 31) fg_3_68 (by decide +kernel) (sr_in2 _ (by omega)) (fun _ => rfl) ?_
      refine sr_if_eq (pc := 34) (off := 29) (tg := 63) (by decide +kernel) (by decide) (fun _ => ?_) (fun _ => ?_)
      · exact sr_wk (sr_mono (mc := 0) (ms := 0) (by omega) (by omega) (g3_firstFrom_63 l i0 a0 hv_i0 (f3_firstFrom_12 i0 a0 k69 n) k69 ih hk69 j2 x3 x4 (by omega) t1)) ⟨rfl, ⟨rfl, ⟨rfl, ⟨rfl, ⟨rfl, trivial⟩⟩⟩⟩⟩
      · refine sr_iloadn (pc := 37) (n := 1) (by decide +kernel) rfl ?_
        refine sr_aload (pc := 38) (i := 5) (by decide +kernel) rfl ?_
        refine sr_gI (pc := 40) fg_3_58 (by decide +kernel) (sr_in2 _ (by omega)) (fun _ => rfl) ?_
        refine sr_cSN (pc := 43) (As := [sr_i a0, sr_i (t1.1 2 n1 1)]) (mc1 := 0) (ms1 := 0) (mc2 := 0) (ms2 := 0) fm_3_134 fl_3_134 (by decide +kernel) (rm_3_firstFrom_10_onward) rfl rfl rfl (C10_onward l a0 (t1.1 2 n1 1) t1) ?_
        refine sr_kI (fun v2 t2 => ?_)
        refine sr_iloadn (pc := 46) (n := 3) (by decide +kernel) rfl ?_
        refine sr_icmp_ge (pc := 47) (off := 16) (tg := 63) (by decide +kernel) (by decide) (fun _ => ?_) (fun _ => ?_)
        · exact sr_wk (sr_mono (mc := 0) (ms := 0) (by omega) (by omega) (g3_firstFrom_63 l i0 a0 hv_i0 (f3_firstFrom_12 i0 a0 k69 n) k69 ih hk69 j2 x3 x4 (by omega) t2)) ⟨rfl, ⟨rfl, ⟨rfl, ⟨rfl, ⟨rfl, trivial⟩⟩⟩⟩⟩
        · refine sr_iloadn (pc := 50) (n := 1) (by decide +kernel) rfl ?_
          refine sr_aload (pc := 51) (i := 5) (by decide +kernel) rfl ?_
          refine sr_gI (pc := 53) fg_3_58 (by decide +kernel) (sr_in2 _ (by omega)) (fun _ => rfl) ?_
          refine sr_cSN (pc := 56) (As := [sr_i a0, sr_i (t2.1 2 n1 1)]) (mc1 := 0) (ms1 := 0) (mc2 := 0) (ms2 := 0) fm_3_134 fl_3_134 (by decide +kernel) (rm_3_firstFrom_10_onward) rfl rfl rfl (C10_onward l a0 (t2.1 2 n1 1) t2) ?_
          refine sr_kI (fun v3 t3 => ?_)
          refine sr_istoren (pc := 59) (n := 3) (by decide +kernel) (by decide) rfl rfl ?_
          refine sr_aload (pc := 60) (i := 5) (by decide +kernel) rfl ?_
          refine sr_astoren (pc := 62) (n := 2) (by decide +kernel) (by decide) rfl rfl ?_
          exact sr_wk (sr_mono (mc := 0) (ms := 0) (by omega) (by omega) (g3_firstFrom_63 l i0 a0 hv_i0 (f3_firstFrom_12 i0 a0 k69 n) k69 ih hk69 n1 v3 x4 (by omega) t3)) ⟨rfl, ⟨rfl, ⟨rfl, ⟨rfl, ⟨rfl, trivial⟩⟩⟩⟩⟩
def f3_firstFrom_69 (i0 : Nat) (a0 : Int32)  : Nat → sr_t → sr_Rs := fun j2 t => (some (.inl (some (sr_r 2 j2)), t))
theorem g3_firstFrom_69 (l : Launch) (i0 : Nat) (a0 : Int32) (hv_i0 : i0 < 2)   : ∀ (j2 : Nat), j2 < 50 → ∀ (t : sr_t), sr_g l sr_m3_firstFrom 69 [some (sr_r 3 i0), some (sr_i a0), some (sr_r 2 j2), none, none, none] [] t (f3_firstFrom_69 i0 a0  j2 t) 0 0 := by
  intro j2 hv_j2 t
  unfold f3_firstFrom_69
  refine sr_aloadn (pc := 69) (n := 2) (by decide +kernel) rfl ?_
  exact sr_aret (pc := 70) (by decide +kernel) rfl
def F3_firstFrom (i0 : Nat) (a0 : Int32) (t : sr_t) : sr_Rs := f3_firstFrom_12 i0 a0 (f3_firstFrom_69 i0 a0) sr_fu (25 * i0 + 24) 4096 0 t
theorem C3_firstFrom (l : Launch) (i0 : Nat) (a0 : Int32) (hv_i0 : i0 < 2) (t : sr_t) : sr_ct' l sr_m3_firstFrom [sr_r 3 i0, sr_i a0] t (F3_firstFrom i0 a0 t) 0 0 := by
  refine sr_T_of (L0 := [some (sr_r 3 i0), some (sr_i a0), none, none, none, none]) rfl (by decide +kernel) (fun _ => rfl) (fun _ => Nat.le_of_ble_eq_true rfl) ?_
  unfold F3_firstFrom
  refine sr_aloadn (pc := 0) (n := 0) (by decide +kernel) rfl ?_
  refine sr_gC (pc := 1) (i2 := 25 * i0 + 24) fg_3_20 (by decide +kernel) (sr_in3 _ (by omega)) (fun _ => rfl) ?_
  refine sr_astoren (pc := 4) (n := 2) (by decide +kernel) (by decide) rfl rfl ?_
  refine sr_sipush (pc := 5) (n := 4096) (v := 4096) (by decide +kernel) (by decide) ?_
  refine sr_istoren (pc := 8) (n := 3) (by decide +kernel) (by decide) rfl rfl ?_
  refine sr_iconst (pc := 9) (n := 0) (v := 0) (by decide +kernel) rfl ?_
  refine sr_istore (pc := 10) (i := 4) (by decide +kernel) (by decide) rfl rfl ?_
  exact sr_wk (sr_mono (mc := 0) (ms := 0) (by omega) (by omega) (g3_firstFrom_12 l i0 a0 hv_i0 (f3_firstFrom_69 i0 a0) (g3_firstFrom_69 l i0 a0 hv_i0) sr_fu (25 * i0 + 24) 4096 0 (by omega) t)) ⟨rfl, ⟨rfl, ⟨rfl, ⟨rfl, ⟨rfl, trivial⟩⟩⟩⟩⟩
def f4_add_39 (i0 : Nat) (a0 : Int32)  : sr_t → sr_Rs := fun  t => (some (.inl none, t))
theorem g4_add_39 (l : Launch) (i0 : Nat) (a0 : Int32) (hv_i0 : i0 < 107)   : ∀ (t : sr_t), sr_g l sr_m4_add 39 [some (sr_r 4 i0), some (sr_i a0)] [] t (f4_add_39 i0 a0   t) 0 0 := by
  intro t
  unfold f4_add_39
  exact sr_ret (pc := 39) (by decide +kernel) rfl
def F4_add (i0 : Nat) (a0 : Int32) (t : sr_t) : sr_Rs := (if (t.1 4 i0 1) < 0 then f4_add_39 i0 a0 t else (if 8 ≤ (t.1 4 i0 1) then f4_add_39 i0 a0 t else (if t.1 4 i0 1 < 0 ∨ 8 ≤ (t.1 4 i0 1).toNatClampNeg then none else sr_lt (sr_u t 12 i0 (t.1 4 i0 1).toNatClampNeg a0) (fun t1 => (sr_lt (sr_u t1 4 i0 1 ((t1.1 4 i0 1) + 1)) (fun t2 => f4_add_39 i0 a0 t2))))))
theorem C4_add (l : Launch) (i0 : Nat) (a0 : Int32) (hv_i0 : i0 < 107) (t : sr_t) : sr_ct' l sr_m4_add [sr_r 4 i0, sr_i a0] t (F4_add i0 a0 t) 0 0 := by
  refine sr_T_of (L0 := [some (sr_r 4 i0), some (sr_i a0)]) rfl (by decide +kernel) (fun _ => rfl) (fun _ => Nat.le_of_ble_eq_true rfl) ?_
  unfold F4_add
  refine sr_aloadn (pc := 0) (n := 0) (by decide +kernel) rfl ?_
  refine sr_gI (pc := 1) fg_4_15 (by decide +kernel) (sr_in4 _ (by omega)) (fun _ => rfl) ?_
  refine sr_if_lt (pc := 4) (off := 35) (tg := 39) (by decide +kernel) (by decide) (fun _ => ?_) (fun _ => ?_)
  · exact sr_wk (sr_mono (mc := 0) (ms := 0) (by omega) (by omega) (g4_add_39 l i0 a0 hv_i0 t)) ⟨rfl, ⟨rfl, trivial⟩⟩
  · refine sr_aloadn (pc := 7) (n := 0) (by decide +kernel) rfl ?_
    refine sr_gI (pc := 8) fg_4_15 (by decide +kernel) (sr_in4 _ (by omega)) (fun _ => rfl) ?_
    refine sr_aloadn (pc := 11) (n := 0) (by decide +kernel) rfl ?_
    refine sr_gC (pc := 12) (i2 := i0) fg_4_9 (by decide +kernel) (sr_in4 _ (by omega)) (fun _ => rfl) ?_
    refine sr_al' (pc := 15) (ty := 0) (n := 8) (v := 8) rfl (by decide) (by decide +kernel) (sr_in12 _ (by omega)) (by decide) ?_
    refine sr_icmp_ge (pc := 16) (off := 23) (tg := 39) (by decide +kernel) (by decide) (fun _ => ?_) (fun _ => ?_)
    · exact sr_wk (sr_mono (mc := 0) (ms := 0) (by omega) (by omega) (g4_add_39 l i0 a0 hv_i0 t)) ⟨rfl, ⟨rfl, trivial⟩⟩
    · refine sr_aloadn (pc := 19) (n := 0) (by decide +kernel) rfl ?_
      refine sr_gC (pc := 20) (i2 := i0) fg_4_9 (by decide +kernel) (sr_in4 _ (by omega)) (fun _ => rfl) ?_
      refine sr_aloadn (pc := 23) (n := 0) (by decide +kernel) rfl ?_
      refine sr_gI (pc := 24) fg_4_15 (by decide +kernel) (sr_in4 _ (by omega)) (fun _ => rfl) ?_
      refine sr_iloadn (pc := 27) (n := 1) (by decide +kernel) rfl ?_
      refine sr_sI (pc := 28) (n := 8) rfl (by decide +kernel) (sr_in12 _ (by omega)) (fun _ _ => rfl) (fun t1 => ?_)
      refine sr_aloadn (pc := 29) (n := 0) (by decide +kernel) rfl ?_
      refine sr_dup (pc := 30) (by decide +kernel) rfl ?_
      refine sr_gI (pc := 31) fg_4_15 (by decide +kernel) (sr_in4 _ (by omega)) (fun _ => rfl) ?_
      refine sr_iconst (pc := 34) (n := 1) (v := 1) (by decide +kernel) rfl ?_
      refine sr_iadd (pc := 35) (by decide +kernel) ?_
      refine sr_pI (pc := 36) fg_4_15 ft_4_1 (by decide +kernel) (sr_in4 _ (by omega)) (fun _ => rfl) (fun t2 => ?_)
      exact sr_wk (sr_mono (mc := 0) (ms := 0) (by omega) (by omega) (g4_add_39 l i0 a0 hv_i0 t2)) ⟨rfl, ⟨rfl, trivial⟩⟩
def f3_lastBackFrom_63 (i0 : Nat) (a0 : Int32) (k12 : Nat → Int32 → Int32 → sr_t → sr_Rs) (k69 : Nat → sr_t → sr_Rs) : Nat → Int32 → Int32 → sr_t → sr_Rs := fun j2 x3 x4 t => k12 j2 x3 (x4 + 1) t
theorem g3_lastBackFrom_63 (l : Launch) (i0 : Nat) (a0 : Int32) (hv_i0 : i0 < 2) (k12 : Nat → Int32 → Int32 → sr_t → sr_Rs) (k69 : Nat → sr_t → sr_Rs) (hk12 : ∀ (j2 : Nat) (x3 : Int32) (x4 : Int32), j2 < 50 → ∀ (t : sr_t), sr_g l sr_m3_lastBackFrom 12 [some (sr_r 3 i0), some (sr_i a0), some (sr_r 2 j2), some (sr_i x3), some (sr_i x4), none] [] t (k12 j2 x3 x4 t) 0 0) (hk69 : ∀ (j2 : Nat), j2 < 50 → ∀ (t : sr_t), sr_g l sr_m3_lastBackFrom 69 [some (sr_r 3 i0), some (sr_i a0), some (sr_r 2 j2), none, none, none] [] t (k69 j2 t) 0 0) : ∀ (j2 : Nat) (x3 : Int32) (x4 : Int32), j2 < 50 → ∀ (t : sr_t), sr_g l sr_m3_lastBackFrom 63 [some (sr_r 3 i0), some (sr_i a0), some (sr_r 2 j2), some (sr_i x3), some (sr_i x4), none] [] t (f3_lastBackFrom_63 i0 a0 k12 k69 j2 x3 x4 t) 0 0 := by
  intro j2 x3 x4 hv_j2 t
  unfold f3_lastBackFrom_63
  refine sr_iinc (pc := 63) (i := 4) (n := 1) (w := x4 + 1) (by decide +kernel) rfl rfl (by decide) rfl rfl ?_
  refine sr_goto (pc := 66) (off := (-54)) (tg := 12) (by decide +kernel) (by decide) ?_
  exact sr_wk (sr_mono (mc := 0) (ms := 0) (by omega) (by omega) (hk12 j2 x3 (x4 + 1) (by omega) t)) ⟨rfl, ⟨rfl, ⟨rfl, ⟨rfl, ⟨rfl, trivial⟩⟩⟩⟩⟩
def f3_lastBackFrom_12 (i0 : Nat) (a0 : Int32) (k69 : Nat → sr_t → sr_Rs) : Nat → Nat → Int32 → Int32 → sr_t → sr_Rs
  | 0 => fun _ _ _ _ => none
  | n + 1 => fun j2 x3 x4 t => (if (t.1 3 i0 3) ≤ x4 then k69 j2 t else (sr_bR 2 50 (F3_of i0 x4 t) (fun n1 t1 => (if (t1.1 2 n1 2) = 0 then f3_lastBackFrom_63 i0 a0 (f3_lastBackFrom_12 i0 a0 k69 n) k69 j2 x3 x4 t1 else (sr_bI (sr_nt (F10_onward (t1.1 2 n1 1) a0 t1)) (fun v2 t2 => (if x3 ≤ v2 then f3_lastBackFrom_63 i0 a0 (f3_lastBackFrom_12 i0 a0 k69 n) k69 j2 x3 x4 t2 else (sr_bI (sr_nt (F10_onward (t2.1 2 n1 1) a0 t2)) (fun v3 t3 => f3_lastBackFrom_63 i0 a0 (f3_lastBackFrom_12 i0 a0 k69 n) k69 n1 v3 x4 t3)))))))))
theorem g3_lastBackFrom_12 (l : Launch) (i0 : Nat) (a0 : Int32) (hv_i0 : i0 < 2) (k69 : Nat → sr_t → sr_Rs) (hk69 : ∀ (j2 : Nat), j2 < 50 → ∀ (t : sr_t), sr_g l sr_m3_lastBackFrom 69 [some (sr_r 3 i0), some (sr_i a0), some (sr_r 2 j2), none, none, none] [] t (k69 j2 t) 0 0) : ∀ (n : Nat) (j2 : Nat) (x3 : Int32) (x4 : Int32), j2 < 50 → ∀ (t : sr_t), sr_g l sr_m3_lastBackFrom 12 [some (sr_r 3 i0), some (sr_i a0), some (sr_r 2 j2), some (sr_i x3), some (sr_i x4), none] [] t (f3_lastBackFrom_12 i0 a0 k69 n j2 x3 x4 t) 0 0 := by
  intro n
  induction n with
  | zero => intros; exact sr_Gn
  | succ n ih =>
    intro j2 x3 x4 hv_j2 t
    unfold f3_lastBackFrom_12
    refine sr_iload (pc := 12) (i := 4) (by decide +kernel) rfl ?_
    refine sr_aloadn (pc := 14) (n := 0) (by decide +kernel) rfl ?_
    refine sr_gI (pc := 15) fg_3_51 (by decide +kernel) (sr_in3 _ (by omega)) (fun _ => rfl) ?_
    refine sr_icmp_ge (pc := 18) (off := 51) (tg := 69) (by decide +kernel) (by decide) (fun _ => ?_) (fun _ => ?_)
    · exact sr_wk (sr_mono (mc := 0) (ms := 0) (by omega) (by omega) (hk69 j2 (by omega) t)) ⟨rfl, ⟨rfl, ⟨rfl, trivial⟩⟩⟩
    · refine sr_aloadn (pc := 21) (n := 0) (by decide +kernel) rfl ?_
      refine sr_iload (pc := 22) (i := 4) (by decide +kernel) rfl ?_
      refine sr_cV (pc := 24) (As := [sr_i x4]) (mc1 := 0) (ms1 := 0) (mc2 := 0) (ms2 := 0) fm_3_54 fl_3_54 (by decide +kernel) (sr_in3 _ (by omega)) (rm_3_lastBackFrom_3_of) rfl rfl rfl (C3_of l i0 x4 (by omega) t) ?_
      refine sr_kR (fun n1 t1 hv_n1 => ?_)
      refine sr_astore (pc := 27) (i := 5) (by decide +kernel) (by decide) rfl rfl ?_
      refine sr_aload (pc := 29) (i := 5) (by decide +kernel) rfl ?_
      refine sr_gI (pc := 31) fg_3_68 (by decide +kernel) (sr_in2 _ (by omega)) (fun _ => rfl) ?_
      refine sr_if_eq (pc := 34) (off := 29) (tg := 63) (by decide +kernel) (by decide) (fun _ => ?_) (fun _ => ?_)
      · exact sr_wk (sr_mono (mc := 0) (ms := 0) (by omega) (by omega) (g3_lastBackFrom_63 l i0 a0 hv_i0 (f3_lastBackFrom_12 i0 a0 k69 n) k69 ih hk69 j2 x3 x4 (by omega) t1)) ⟨rfl, ⟨rfl, ⟨rfl, ⟨rfl, ⟨rfl, trivial⟩⟩⟩⟩⟩
      · refine sr_aload (pc := 37) (i := 5) (by decide +kernel) rfl ?_
        refine sr_gI (pc := 39) fg_3_58 (by decide +kernel) (sr_in2 _ (by omega)) (fun _ => rfl) ?_
        refine sr_iloadn (pc := 42) (n := 1) (by decide +kernel) rfl ?_
        refine sr_cSN (pc := 43) (As := [sr_i (t1.1 2 n1 1), sr_i a0]) (mc1 := 0) (ms1 := 0) (mc2 := 0) (ms2 := 0) fm_3_134 fl_3_134 (by decide +kernel) (rm_3_lastBackFrom_10_onward) rfl rfl rfl (C10_onward l (t1.1 2 n1 1) a0 t1) ?_
        refine sr_kI (fun v2 t2 => ?_)
        refine sr_iloadn (pc := 46) (n := 3) (by decide +kernel) rfl ?_
        refine sr_icmp_ge (pc := 47) (off := 16) (tg := 63) (by decide +kernel) (by decide) (fun _ => ?_) (fun _ => ?_)
        · exact sr_wk (sr_mono (mc := 0) (ms := 0) (by omega) (by omega) (g3_lastBackFrom_63 l i0 a0 hv_i0 (f3_lastBackFrom_12 i0 a0 k69 n) k69 ih hk69 j2 x3 x4 (by omega) t2)) ⟨rfl, ⟨rfl, ⟨rfl, ⟨rfl, ⟨rfl, trivial⟩⟩⟩⟩⟩
        · refine sr_aload (pc := 50) (i := 5) (by decide +kernel) rfl ?_
          refine sr_gI (pc := 52) fg_3_58 (by decide +kernel) (sr_in2 _ (by omega)) (fun _ => rfl) ?_
          refine sr_iloadn (pc := 55) (n := 1) (by decide +kernel) rfl ?_
          refine sr_cSN (pc := 56) (As := [sr_i (t2.1 2 n1 1), sr_i a0]) (mc1 := 0) (ms1 := 0) (mc2 := 0) (ms2 := 0) fm_3_134 fl_3_134 (by decide +kernel) (rm_3_lastBackFrom_10_onward) rfl rfl rfl (C10_onward l (t2.1 2 n1 1) a0 t2) ?_
          refine sr_kI (fun v3 t3 => ?_)
          refine sr_istoren (pc := 59) (n := 3) (by decide +kernel) (by decide) rfl rfl ?_
          refine sr_aload (pc := 60) (i := 5) (by decide +kernel) rfl ?_
          refine sr_astoren (pc := 62) (n := 2) (by decide +kernel) (by decide) rfl rfl ?_
          exact sr_wk (sr_mono (mc := 0) (ms := 0) (by omega) (by omega) (g3_lastBackFrom_63 l i0 a0 hv_i0 (f3_lastBackFrom_12 i0 a0 k69 n) k69 ih hk69 n1 v3 x4 (by omega) t3)) ⟨rfl, ⟨rfl, ⟨rfl, ⟨rfl, ⟨rfl, trivial⟩⟩⟩⟩⟩
def f3_lastBackFrom_69 (i0 : Nat) (a0 : Int32)  : Nat → sr_t → sr_Rs := fun j2 t => (some (.inl (some (sr_r 2 j2)), t))
theorem g3_lastBackFrom_69 (l : Launch) (i0 : Nat) (a0 : Int32) (hv_i0 : i0 < 2)   : ∀ (j2 : Nat), j2 < 50 → ∀ (t : sr_t), sr_g l sr_m3_lastBackFrom 69 [some (sr_r 3 i0), some (sr_i a0), some (sr_r 2 j2), none, none, none] [] t (f3_lastBackFrom_69 i0 a0  j2 t) 0 0 := by
  intro j2 hv_j2 t
  unfold f3_lastBackFrom_69
  refine sr_aloadn (pc := 69) (n := 2) (by decide +kernel) rfl ?_
  exact sr_aret (pc := 70) (by decide +kernel) rfl
def F3_lastBackFrom (i0 : Nat) (a0 : Int32) (t : sr_t) : sr_Rs := f3_lastBackFrom_12 i0 a0 (f3_lastBackFrom_69 i0 a0) sr_fu (25 * i0 + 24) 4096 0 t
theorem C3_lastBackFrom (l : Launch) (i0 : Nat) (a0 : Int32) (hv_i0 : i0 < 2) (t : sr_t) : sr_ct' l sr_m3_lastBackFrom [sr_r 3 i0, sr_i a0] t (F3_lastBackFrom i0 a0 t) 0 0 := by
  refine sr_T_of (L0 := [some (sr_r 3 i0), some (sr_i a0), none, none, none, none]) rfl (by decide +kernel) (fun _ => rfl) (fun _ => Nat.le_of_ble_eq_true rfl) ?_
  unfold F3_lastBackFrom
  refine sr_aloadn (pc := 0) (n := 0) (by decide +kernel) rfl ?_
  refine sr_gC (pc := 1) (i2 := 25 * i0 + 24) fg_3_20 (by decide +kernel) (sr_in3 _ (by omega)) (fun _ => rfl) ?_
  refine sr_astoren (pc := 4) (n := 2) (by decide +kernel) (by decide) rfl rfl ?_
  refine sr_sipush (pc := 5) (n := 4096) (v := 4096) (by decide +kernel) (by decide) ?_
  refine sr_istoren (pc := 8) (n := 3) (by decide +kernel) (by decide) rfl rfl ?_
  refine sr_iconst (pc := 9) (n := 0) (v := 0) (by decide +kernel) rfl ?_
  refine sr_istore (pc := 10) (i := 4) (by decide +kernel) (by decide) rfl rfl ?_
  exact sr_wk (sr_mono (mc := 0) (ms := 0) (by omega) (by omega) (g3_lastBackFrom_12 l i0 a0 hv_i0 (f3_lastBackFrom_69 i0 a0) (g3_lastBackFrom_69 l i0 a0 hv_i0) sr_fu (25 * i0 + 24) 4096 0 (by omega) t)) ⟨rfl, ⟨rfl, ⟨rfl, ⟨rfl, ⟨rfl, trivial⟩⟩⟩⟩⟩
def f3_layInto_29 (i0 : Nat) (i1 : Nat) (i2 : Nat) (k68 : sr_t → sr_Rs) : Nat → Nat → Int32 → sr_t → sr_Rs
  | 0 => fun _ _ _ => none
  | n + 1 => fun j3 x4 t => (if 3 ≤ x4 then k68 t else (if j3 = i2 then k68 t else (sr_bV (F4_add (2 * i1) (t.1 2 j3 0) t) (fun t1 => (sr_bR 2 50 (F3_firstFrom i0 ((t1.1 2 j3 1) + 1) t1) (fun n2 t2 => (f3_layInto_29 i0 i1 i2 k68 n) n2 (x4 + 1) t2))))))
theorem g3_layInto_29 (l : Launch) (i0 : Nat) (i1 : Nat) (i2 : Nat) (hv_i0 : i0 < 2) (hv_i1 : i1 < 52) (hv_i2 : i2 < 50) (k68 : sr_t → sr_Rs) (hk68 : ∀ (t : sr_t), sr_g l sr_m3_layInto 68 [some (sr_r 3 i0), some (sr_r 7 i1), some (sr_r 2 i2), none, none, none] [] t (k68 t) 0 0) : ∀ (n : Nat) (j3 : Nat) (x4 : Int32), j3 < 50 → ∀ (t : sr_t), sr_g l sr_m3_layInto 29 [some (sr_r 3 i0), some (sr_r 7 i1), some (sr_r 2 i2), some (sr_r 2 j3), some (sr_i x4), none] [] t (f3_layInto_29 i0 i1 i2 k68 n j3 x4 t) 0 0 := by
  intro n
  induction n with
  | zero => intros; exact sr_Gn
  | succ n ih =>
    intro j3 x4 hv_j3 t
    unfold f3_layInto_29
    refine sr_iload (pc := 29) (i := 4) (by decide +kernel) rfl ?_
    refine sr_iconst (pc := 31) (n := 3) (v := 3) (by decide +kernel) rfl ?_
    refine sr_icmp_ge (pc := 32) (off := 36) (tg := 68) (by decide +kernel) (by decide) (fun _ => ?_) (fun _ => ?_)
    · exact sr_wk (sr_mono (mc := 0) (ms := 0) (by omega) (by omega) (hk68 t)) ⟨rfl, ⟨rfl, ⟨rfl, trivial⟩⟩⟩
    · refine sr_aloadn (pc := 35) (n := 3) (by decide +kernel) rfl ?_
      refine sr_aloadn (pc := 36) (n := 2) (by decide +kernel) rfl ?_
      refine sr_acmp_eq (pc := 37) (off := 31) (tg := 68) (by decide +kernel) (by decide) (sr_in2 _ (by omega)) (sr_in2 _ (by omega)) (fun _ => ?_) (fun _ => ?_)
      · exact sr_wk (sr_mono (mc := 0) (ms := 0) (by omega) (by omega) (hk68 t)) ⟨rfl, ⟨rfl, ⟨rfl, trivial⟩⟩⟩
      · refine sr_aloadn (pc := 40) (n := 1) (by decide +kernel) rfl ?_
        refine sr_gC (pc := 41) (i2 := 2 * i1) fg_3_86 (by decide +kernel) (sr_in7 _ (by omega)) (fun _ => rfl) ?_
        refine sr_aloadn (pc := 44) (n := 3) (by decide +kernel) rfl ?_
        refine sr_gI (pc := 45) fg_3_65 (by decide +kernel) (sr_in2 _ (by omega)) (fun _ => rfl) ?_
        refine sr_cV (pc := 48) (As := [sr_i (t.1 2 j3 0)]) (mc1 := 0) (ms1 := 0) (mc2 := 0) (ms2 := 0) fm_3_98 fl_3_98 (by decide +kernel) (sr_in4 _ (by omega)) (rm_3_layInto_4_add) rfl rfl rfl (C4_add l (2 * i1) (t.1 2 j3 0) (by omega) t) ?_
        refine sr_kV (fun t1 => ?_)
        refine sr_aloadn (pc := 51) (n := 0) (by decide +kernel) rfl ?_
        refine sr_aloadn (pc := 52) (n := 3) (by decide +kernel) rfl ?_
        refine sr_gI (pc := 53) fg_3_58 (by decide +kernel) (sr_in2 _ (by omega)) (fun _ => rfl) ?_
        refine sr_iconst (pc := 56) (n := 1) (v := 1) (by decide +kernel) rfl ?_
        refine sr_iadd (pc := 57) (by decide +kernel) ?_
        refine sr_cV (pc := 58) (As := [sr_i ((t1.1 2 j3 1) + 1)]) (mc1 := 0) (ms1 := 0) (mc2 := 0) (ms2 := 0) fm_3_95 fl_3_95 (by decide +kernel) (sr_in3 _ (by omega)) (rm_3_layInto_3_firstFrom) rfl rfl rfl (C3_firstFrom l i0 ((t1.1 2 j3 1) + 1) (by omega) t1) ?_
        refine sr_kR (fun n2 t2 hv_n2 => ?_)
        refine sr_astoren (pc := 61) (n := 3) (by decide +kernel) (by decide) rfl rfl ?_
        refine sr_iinc (pc := 62) (i := 4) (n := 1) (w := x4 + 1) (by decide +kernel) rfl rfl (by decide) rfl rfl ?_
        refine sr_goto (pc := 65) (off := (-36)) (tg := 29) (by decide +kernel) (by decide) ?_
        exact sr_wk (sr_mono (mc := 0) (ms := 0) (by omega) (by omega) (ih n2 (x4 + 1) (by omega) t2)) ⟨rfl, ⟨rfl, ⟨rfl, ⟨rfl, ⟨rfl, trivial⟩⟩⟩⟩⟩
def f3_layInto_116 (i0 : Nat) (i1 : Nat) (i2 : Nat) (k96 : Nat → Nat → Int32 → sr_t → sr_Rs) (k144 : sr_t → sr_Rs) : Nat → Nat → Int32 → sr_t → sr_Rs := fun j3 j4 x5 t => (sr_bV (F4_add (2 * i1 + 1) (t.1 2 j3 0) t) (fun t1 => (sr_bR 2 50 (F3_firstFrom i0 ((t1.1 2 j3 1) + 1) t1) (fun n2 t2 => k96 n2 j4 (x5 + 1) t2))))
theorem g3_layInto_116 (l : Launch) (i0 : Nat) (i1 : Nat) (i2 : Nat) (hv_i0 : i0 < 2) (hv_i1 : i1 < 52) (hv_i2 : i2 < 50) (k96 : Nat → Nat → Int32 → sr_t → sr_Rs) (k144 : sr_t → sr_Rs) (hk96 : ∀ (j3 : Nat) (j4 : Nat) (x5 : Int32), j3 < 50 → j4 < 50 → ∀ (t : sr_t), sr_g l sr_m3_layInto 96 [some (sr_r 3 i0), some (sr_r 7 i1), some (sr_r 2 i2), some (sr_r 2 j3), some (sr_r 2 j4), some (sr_i x5)] [] t (k96 j3 j4 x5 t) 0 0) (hk144 : ∀ (t : sr_t), sr_g l sr_m3_layInto 144 [some (sr_r 3 i0), some (sr_r 7 i1), some (sr_r 2 i2), none, none, none] [] t (k144 t) 0 0) : ∀ (j3 : Nat) (j4 : Nat) (x5 : Int32), j3 < 50 → j4 < 50 → ∀ (t : sr_t), sr_g l sr_m3_layInto 116 [some (sr_r 3 i0), some (sr_r 7 i1), some (sr_r 2 i2), some (sr_r 2 j3), some (sr_r 2 j4), some (sr_i x5)] [] t (f3_layInto_116 i0 i1 i2 k96 k144 j3 j4 x5 t) 0 0 := by
  intro j3 j4 x5 hv_j3 hv_j4 t
  unfold f3_layInto_116
  refine sr_aloadn (pc := 116) (n := 1) (by decide +kernel) rfl ?_
  refine sr_gC (pc := 117) (i2 := 2 * i1 + 1) fg_3_101 (by decide +kernel) (sr_in7 _ (by omega)) (fun _ => rfl) ?_
  refine sr_aloadn (pc := 120) (n := 3) (by decide +kernel) rfl ?_
  refine sr_gI (pc := 121) fg_3_65 (by decide +kernel) (sr_in2 _ (by omega)) (fun _ => rfl) ?_
  refine sr_cV (pc := 124) (As := [sr_i (t.1 2 j3 0)]) (mc1 := 0) (ms1 := 0) (mc2 := 0) (ms2 := 0) fm_3_98 fl_3_98 (by decide +kernel) (sr_in4 _ (by omega)) (rm_3_layInto_4_add) rfl rfl rfl (C4_add l (2 * i1 + 1) (t.1 2 j3 0) (by omega) t) ?_
  refine sr_kV (fun t1 => ?_)
  refine sr_aloadn (pc := 127) (n := 0) (by decide +kernel) rfl ?_
  refine sr_aloadn (pc := 128) (n := 3) (by decide +kernel) rfl ?_
  refine sr_gI (pc := 129) fg_3_58 (by decide +kernel) (sr_in2 _ (by omega)) (fun _ => rfl) ?_
  refine sr_iconst (pc := 132) (n := 1) (v := 1) (by decide +kernel) rfl ?_
  refine sr_iadd (pc := 133) (by decide +kernel) ?_
  refine sr_cV (pc := 134) (As := [sr_i ((t1.1 2 j3 1) + 1)]) (mc1 := 0) (ms1 := 0) (mc2 := 0) (ms2 := 0) fm_3_95 fl_3_95 (by decide +kernel) (sr_in3 _ (by omega)) (rm_3_layInto_3_firstFrom) rfl rfl rfl (C3_firstFrom l i0 ((t1.1 2 j3 1) + 1) (by omega) t1) ?_
  refine sr_kR (fun n2 t2 hv_n2 => ?_)
  refine sr_astoren (pc := 137) (n := 3) (by decide +kernel) (by decide) rfl rfl ?_
  refine sr_iinc (pc := 138) (i := 5) (n := 1) (w := x5 + 1) (by decide +kernel) rfl rfl (by decide) rfl rfl ?_
  refine sr_goto (pc := 141) (off := (-45)) (tg := 96) (by decide +kernel) (by decide) ?_
  exact sr_wk (sr_mono (mc := 0) (ms := 0) (by omega) (by omega) (hk96 n2 j4 (x5 + 1) (by omega) (by omega) t2)) ⟨rfl, ⟨rfl, ⟨rfl, ⟨rfl, ⟨rfl, ⟨rfl, trivial⟩⟩⟩⟩⟩⟩
def f3_layInto_96 (i0 : Nat) (i1 : Nat) (i2 : Nat) (k144 : sr_t → sr_Rs) : Nat → Nat → Nat → Int32 → sr_t → sr_Rs
  | 0 => fun _ _ _ _ => none
  | n + 1 => fun j3 j4 x5 t => (if (t.1 3 i0 8) ≤ x5 then k144 t else (if x5 = 0 then f3_layInto_116 i0 i1 i2 (f3_layInto_96 i0 i1 i2 k144 n) k144 j3 j4 x5 t else (if j3 = j4 then k144 t else f3_layInto_116 i0 i1 i2 (f3_layInto_96 i0 i1 i2 k144 n) k144 j3 j4 x5 t)))
theorem g3_layInto_96 (l : Launch) (i0 : Nat) (i1 : Nat) (i2 : Nat) (hv_i0 : i0 < 2) (hv_i1 : i1 < 52) (hv_i2 : i2 < 50) (k144 : sr_t → sr_Rs) (hk144 : ∀ (t : sr_t), sr_g l sr_m3_layInto 144 [some (sr_r 3 i0), some (sr_r 7 i1), some (sr_r 2 i2), none, none, none] [] t (k144 t) 0 0) : ∀ (n : Nat) (j3 : Nat) (j4 : Nat) (x5 : Int32), j3 < 50 → j4 < 50 → ∀ (t : sr_t), sr_g l sr_m3_layInto 96 [some (sr_r 3 i0), some (sr_r 7 i1), some (sr_r 2 i2), some (sr_r 2 j3), some (sr_r 2 j4), some (sr_i x5)] [] t (f3_layInto_96 i0 i1 i2 k144 n j3 j4 x5 t) 0 0 := by
  intro n
  induction n with
  | zero => intros; exact sr_Gn
  | succ n ih =>
    intro j3 j4 x5 hv_j3 hv_j4 t
    unfold f3_layInto_96
    refine sr_iload (pc := 96) (i := 5) (by decide +kernel) rfl ?_
    refine sr_aloadn (pc := 98) (n := 0) (by decide +kernel) rfl ?_
    refine sr_gI (pc := 99) fg_3_31 (by decide +kernel) (sr_in3 _ (by omega)) (fun _ => rfl) ?_
    refine sr_icmp_ge (pc := 102) (off := 42) (tg := 144) (by decide +kernel) (by decide) (fun _ => ?_) (fun _ => ?_)
    · exact sr_wk (sr_mono (mc := 0) (ms := 0) (by omega) (by omega) (hk144 t)) ⟨rfl, ⟨rfl, ⟨rfl, trivial⟩⟩⟩
    · refine sr_iload (pc := 105) (i := 5) (by decide +kernel) rfl ?_
      refine sr_if_eq (pc := 107) (off := 9) (tg := 116) (by decide +kernel) (by decide) (fun _ => ?_) (fun _ => ?_)
      · exact sr_wk (sr_mono (mc := 0) (ms := 0) (by omega) (by omega) (g3_layInto_116 l i0 i1 i2 hv_i0 hv_i1 hv_i2 (f3_layInto_96 i0 i1 i2 k144 n) k144 ih hk144 j3 j4 x5 (by omega) (by omega) t)) ⟨rfl, ⟨rfl, ⟨rfl, ⟨rfl, ⟨rfl, ⟨rfl, trivial⟩⟩⟩⟩⟩⟩
      · refine sr_aloadn (pc := 110) (n := 3) (by decide +kernel) rfl ?_
        refine sr_aload (pc := 111) (i := 4) (by decide +kernel) rfl ?_
        refine sr_acmp_eq (pc := 113) (off := 31) (tg := 144) (by decide +kernel) (by decide) (sr_in2 _ (by omega)) (sr_in2 _ (by omega)) (fun _ => ?_) (fun _ => ?_)
        · exact sr_wk (sr_mono (mc := 0) (ms := 0) (by omega) (by omega) (hk144 t)) ⟨rfl, ⟨rfl, ⟨rfl, trivial⟩⟩⟩
        · exact sr_wk (sr_mono (mc := 0) (ms := 0) (by omega) (by omega) (g3_layInto_116 l i0 i1 i2 hv_i0 hv_i1 hv_i2 (f3_layInto_96 i0 i1 i2 k144 n) k144 ih hk144 j3 j4 x5 (by omega) (by omega) t)) ⟨rfl, ⟨rfl, ⟨rfl, ⟨rfl, ⟨rfl, ⟨rfl, trivial⟩⟩⟩⟩⟩⟩
def f3_layInto_144 (i0 : Nat) (i1 : Nat) (i2 : Nat)  : sr_t → sr_Rs := fun  t => (some (.inl none, t))
theorem g3_layInto_144 (l : Launch) (i0 : Nat) (i1 : Nat) (i2 : Nat) (hv_i0 : i0 < 2) (hv_i1 : i1 < 52) (hv_i2 : i2 < 50)   : ∀ (t : sr_t), sr_g l sr_m3_layInto 144 [some (sr_r 3 i0), some (sr_r 7 i1), some (sr_r 2 i2), none, none, none] [] t (f3_layInto_144 i0 i1 i2   t) 0 0 := by
  intro t
  unfold f3_layInto_144
  exact sr_ret (pc := 144) (by decide +kernel) rfl
def f3_layInto_68 (i0 : Nat) (i1 : Nat) (i2 : Nat)  : sr_t → sr_Rs := fun  t => (sr_bV (F4_empty (2 * i1 + 1) t) (fun t1 => (sr_bR 2 50 (F3_lastBackFrom i0 ((t1.1 2 i2 1) * (t1.1 3 i0 5)) t1) (fun n2 t2 => f3_layInto_96 i0 i1 i2 (f3_layInto_144 i0 i1 i2) sr_fu n2 n2 0 t2))))
theorem g3_layInto_68 (l : Launch) (i0 : Nat) (i1 : Nat) (i2 : Nat) (hv_i0 : i0 < 2) (hv_i1 : i1 < 52) (hv_i2 : i2 < 50)   : ∀ (t : sr_t), sr_g l sr_m3_layInto 68 [some (sr_r 3 i0), some (sr_r 7 i1), some (sr_r 2 i2), none, none, none] [] t (f3_layInto_68 i0 i1 i2   t) 0 0 := by
  intro t
  unfold f3_layInto_68
  refine sr_aloadn (pc := 68) (n := 1) (by decide +kernel) rfl ?_
  refine sr_gC (pc := 69) (i2 := 2 * i1 + 1) fg_3_101 (by decide +kernel) (sr_in7 _ (by omega)) (fun _ => rfl) ?_
  refine sr_cV (pc := 72) (As := []) (mc1 := 0) (ms1 := 0) (mc2 := 0) (ms2 := 0) fm_3_90 fl_3_90 (by decide +kernel) (sr_in4 _ (by omega)) (rm_3_layInto_4_empty) rfl rfl rfl (C4_empty l (2 * i1 + 1) (by omega) t) ?_
  refine sr_kV (fun t1 => ?_)
  refine sr_aloadn (pc := 75) (n := 0) (by decide +kernel) rfl ?_
  refine sr_aloadn (pc := 76) (n := 2) (by decide +kernel) rfl ?_
  refine sr_gI (pc := 77) fg_3_58 (by decide +kernel) (sr_in2 _ (by omega)) (fun _ => rfl) ?_
  refine sr_aloadn (pc := 80) (n := 0) (by decide +kernel) rfl ?_
  refine sr_gI (pc := 81) fg_3_38 (by decide +kernel) (sr_in3 _ (by omega)) (fun _ => rfl) ?_
  refine sr_imul (pc := 84) (by decide +kernel) ?_
  refine sr_cV (pc := 85) (As := [sr_i ((t1.1 2 i2 1) * (t1.1 3 i0 5))]) (mc1 := 0) (ms1 := 0) (mc2 := 0) (ms2 := 0) fm_3_104 fl_3_104 (by decide +kernel) (sr_in3 _ (by omega)) (rm_3_layInto_3_lastBackFrom) rfl rfl rfl (C3_lastBackFrom l i0 ((t1.1 2 i2 1) * (t1.1 3 i0 5)) (by omega) t1) ?_
  refine sr_kR (fun n2 t2 hv_n2 => ?_)
  refine sr_astore (pc := 88) (i := 4) (by decide +kernel) (by decide) rfl rfl ?_
  refine sr_aload (pc := 90) (i := 4) (by decide +kernel) rfl ?_
  refine sr_astoren (pc := 92) (n := 3) (by decide +kernel) (by decide) rfl rfl ?_
  refine sr_iconst (pc := 93) (n := 0) (v := 0) (by decide +kernel) rfl ?_
  refine sr_istore (pc := 94) (i := 5) (by decide +kernel) (by decide) rfl rfl ?_
  exact sr_wk (sr_mono (mc := 0) (ms := 0) (by omega) (by omega) (g3_layInto_96 l i0 i1 i2 hv_i0 hv_i1 hv_i2 (f3_layInto_144 i0 i1 i2) (g3_layInto_144 l i0 i1 i2 hv_i0 hv_i1 hv_i2) sr_fu n2 n2 0 (by omega) (by omega) t2)) ⟨rfl, ⟨rfl, ⟨rfl, ⟨rfl, ⟨rfl, ⟨rfl, trivial⟩⟩⟩⟩⟩⟩
def F3_layInto (i0 : Nat) (i1 : Nat) (i2 : Nat) (t : sr_t) : sr_Rs := (sr_lt (sr_u t 7 i1 0 (t.1 3 i0 5)) (fun t1 => (sr_bV (F4_empty (2 * i1) t1) (fun t2 => (sr_bR 2 50 (F3_firstFrom i0 ((t2.1 2 i2 1) + 1) t2) (fun n3 t3 => f3_layInto_29 i0 i1 i2 (f3_layInto_68 i0 i1 i2) sr_fu n3 0 t3))))))
theorem C3_layInto (l : Launch) (i0 : Nat) (i1 : Nat) (i2 : Nat) (hv_i0 : i0 < 2) (hv_i1 : i1 < 52) (hv_i2 : i2 < 50) (t : sr_t) : sr_ct' l sr_m3_layInto [sr_r 3 i0, sr_r 7 i1, sr_r 2 i2] t (F3_layInto i0 i1 i2 t) 0 0 := by
  refine sr_T_of (L0 := [some (sr_r 3 i0), some (sr_r 7 i1), some (sr_r 2 i2), none, none, none]) rfl (by decide +kernel) (fun _ => rfl) (fun _ => Nat.le_of_ble_eq_true rfl) ?_
  unfold F3_layInto
  refine sr_aloadn (pc := 0) (n := 1) (by decide +kernel) rfl ?_
  refine sr_aloadn (pc := 1) (n := 0) (by decide +kernel) rfl ?_
  refine sr_gI (pc := 2) fg_3_38 (by decide +kernel) (sr_in3 _ (by omega)) (fun _ => rfl) ?_
  refine sr_pI (pc := 5) fg_3_85 ft_7_0 (by decide +kernel) (sr_in7 _ (by omega)) (fun _ => rfl) (fun t1 => ?_)
  refine sr_aloadn (pc := 8) (n := 1) (by decide +kernel) rfl ?_
  refine sr_gC (pc := 9) (i2 := 2 * i1) fg_3_86 (by decide +kernel) (sr_in7 _ (by omega)) (fun _ => rfl) ?_
  refine sr_cV (pc := 12) (As := []) (mc1 := 0) (ms1 := 0) (mc2 := 0) (ms2 := 0) fm_3_90 fl_3_90 (by decide +kernel) (sr_in4 _ (by omega)) (rm_3_layInto_4_empty) rfl rfl rfl (C4_empty l (2 * i1) (by omega) t1) ?_
  refine sr_kV (fun t2 => ?_)
  refine sr_aloadn (pc := 15) (n := 0) (by decide +kernel) rfl ?_
  refine sr_aloadn (pc := 16) (n := 2) (by decide +kernel) rfl ?_
  refine sr_gI (pc := 17) fg_3_58 (by decide +kernel) (sr_in2 _ (by omega)) (fun _ => rfl) ?_
  refine sr_iconst (pc := 20) (n := 1) (v := 1) (by decide +kernel) rfl ?_
  refine sr_iadd (pc := 21) (by decide +kernel) ?_
  refine sr_cV (pc := 22) (As := [sr_i ((t2.1 2 i2 1) + 1)]) (mc1 := 0) (ms1 := 0) (mc2 := 0) (ms2 := 0) fm_3_95 fl_3_95 (by decide +kernel) (sr_in3 _ (by omega)) (rm_3_layInto_3_firstFrom) rfl rfl rfl (C3_firstFrom l i0 ((t2.1 2 i2 1) + 1) (by omega) t2) ?_
  refine sr_kR (fun n3 t3 hv_n3 => ?_)
  refine sr_astoren (pc := 25) (n := 3) (by decide +kernel) (by decide) rfl rfl ?_
  refine sr_iconst (pc := 26) (n := 0) (v := 0) (by decide +kernel) rfl ?_
  refine sr_istore (pc := 27) (i := 4) (by decide +kernel) (by decide) rfl rfl ?_
  exact sr_wk (sr_mono (mc := 0) (ms := 0) (by omega) (by omega) (g3_layInto_29 l i0 i1 i2 hv_i0 hv_i1 hv_i2 (f3_layInto_68 i0 i1 i2) (g3_layInto_68 l i0 i1 i2 hv_i0 hv_i1 hv_i2) sr_fu n3 0 (by omega) t3)) ⟨rfl, ⟨rfl, ⟨rfl, ⟨rfl, ⟨rfl, trivial⟩⟩⟩⟩⟩
def f4_at_31 (i0 : Nat) (a0 : Int32)  : Int32 → sr_t → sr_Rs := fun xs0 t => (some (.inl (some (sr_i xs0)), t))
theorem g4_at_31 (l : Launch) (i0 : Nat) (a0 : Int32) (hv_i0 : i0 < 107)   : ∀ (xs0 : Int32), ∀ (t : sr_t), sr_g l sr_m4_at 31 [some (sr_r 4 i0), some (sr_i a0)] [sr_i xs0] t (f4_at_31 i0 a0  xs0 t) 0 0 := by
  intro xs0  t
  unfold f4_at_31
  exact sr_iret (pc := 31) (by decide +kernel) rfl
def f4_at_30 (i0 : Nat) (a0 : Int32)  : sr_t → sr_Rs := fun  t => f4_at_31 i0 a0 ((-1)) t
theorem g4_at_30 (l : Launch) (i0 : Nat) (a0 : Int32) (hv_i0 : i0 < 107)   : ∀ (t : sr_t), sr_g l sr_m4_at 30 [some (sr_r 4 i0), some (sr_i a0)] [] t (f4_at_30 i0 a0   t) 0 0 := by
  intro t
  unfold f4_at_30
  refine sr_iconst (pc := 30) (n := (-1)) (v := (-1)) (by decide +kernel) rfl ?_
  exact sr_wk (sr_mono (mc := 0) (ms := 0) (by omega) (by omega) (g4_at_31 l i0 a0 hv_i0 ((-1)) t)) ⟨rfl, ⟨rfl, trivial⟩⟩
def F4_at (i0 : Nat) (a0 : Int32) (t : sr_t) : sr_Rs := (if a0 < 0 then f4_at_30 i0 a0 t else (if (t.1 4 i0 1) ≤ a0 then f4_at_30 i0 a0 t else (if 8 ≤ a0 then f4_at_30 i0 a0 t else (if a0 < 0 ∨ 8 ≤ a0.toNatClampNeg then none else f4_at_31 i0 a0 (t.1 12 i0 a0.toNatClampNeg) t))))
theorem C4_at (l : Launch) (i0 : Nat) (a0 : Int32) (hv_i0 : i0 < 107) (t : sr_t) : sr_ct' l sr_m4_at [sr_r 4 i0, sr_i a0] t (F4_at i0 a0 t) 0 0 := by
  refine sr_T_of (L0 := [some (sr_r 4 i0), some (sr_i a0)]) rfl (by decide +kernel) (fun _ => rfl) (fun _ => Nat.le_of_ble_eq_true rfl) ?_
  unfold F4_at
  refine sr_iloadn (pc := 0) (n := 1) (by decide +kernel) rfl ?_
  refine sr_if_lt (pc := 1) (off := 29) (tg := 30) (by decide +kernel) (by decide) (fun _ => ?_) (fun _ => ?_)
  · exact sr_wk (sr_mono (mc := 0) (ms := 0) (by omega) (by omega) (g4_at_30 l i0 a0 hv_i0 t)) ⟨rfl, ⟨rfl, trivial⟩⟩
  · refine sr_iloadn (pc := 4) (n := 1) (by decide +kernel) rfl ?_
    refine sr_aloadn (pc := 5) (n := 0) (by decide +kernel) rfl ?_
    refine sr_gI (pc := 6) fg_4_15 (by decide +kernel) (sr_in4 _ (by omega)) (fun _ => rfl) ?_
    refine sr_icmp_ge (pc := 9) (off := 21) (tg := 30) (by decide +kernel) (by decide) (fun _ => ?_) (fun _ => ?_)
    · exact sr_wk (sr_mono (mc := 0) (ms := 0) (by omega) (by omega) (g4_at_30 l i0 a0 hv_i0 t)) ⟨rfl, ⟨rfl, trivial⟩⟩
    · refine sr_iloadn (pc := 12) (n := 1) (by decide +kernel) rfl ?_
      refine sr_aloadn (pc := 13) (n := 0) (by decide +kernel) rfl ?_
      refine sr_gC (pc := 14) (i2 := i0) fg_4_9 (by decide +kernel) (sr_in4 _ (by omega)) (fun _ => rfl) ?_
      refine sr_al' (pc := 17) (ty := 0) (n := 8) (v := 8) rfl (by decide) (by decide +kernel) (sr_in12 _ (by omega)) (by decide) ?_
      refine sr_icmp_ge (pc := 18) (off := 12) (tg := 30) (by decide +kernel) (by decide) (fun _ => ?_) (fun _ => ?_)
      · exact sr_wk (sr_mono (mc := 0) (ms := 0) (by omega) (by omega) (g4_at_30 l i0 a0 hv_i0 t)) ⟨rfl, ⟨rfl, trivial⟩⟩
      · refine sr_aloadn (pc := 21) (n := 0) (by decide +kernel) rfl ?_
        refine sr_gC (pc := 22) (i2 := i0) fg_4_9 (by decide +kernel) (sr_in4 _ (by omega)) (fun _ => rfl) ?_
        refine sr_iloadn (pc := 25) (n := 1) (by decide +kernel) rfl ?_
        refine sr_aI (pc := 26) (n := 8) rfl (by decide +kernel) (sr_in12 _ (by omega)) (fun _ _ => rfl) ?_
        refine sr_goto (pc := 27) (off := 4) (tg := 31) (by decide +kernel) (by decide) ?_
        exact sr_wk (sr_mono (mc := 0) (ms := 0) (by omega) (by omega) (g4_at_31 l i0 a0 hv_i0 (t.1 12 i0 a0.toNatClampNeg) t)) ⟨rfl, ⟨rfl, trivial⟩⟩
def f4_differencesTo_29 (i0 : Nat) (i1 : Nat) (k4 : Int32 → Int32 → sr_t → sr_Rs) (k35 : Int32 → sr_t → sr_Rs) : Int32 → Int32 → sr_t → sr_Rs := fun x2 x3 t => k4 x2 (x3 + 1) t
theorem g4_differencesTo_29 (l : Launch) (i0 : Nat) (i1 : Nat) (hv_i0 : i0 < 107) (hv_i1 : i1 < 107) (k4 : Int32 → Int32 → sr_t → sr_Rs) (k35 : Int32 → sr_t → sr_Rs) (hk4 : ∀ (x2 : Int32) (x3 : Int32), ∀ (t : sr_t), sr_g l sr_m4_differencesTo 4 [some (sr_r 4 i0), some (sr_r 4 i1), some (sr_i x2), some (sr_i x3)] [] t (k4 x2 x3 t) 0 0) (hk35 : ∀ (x2 : Int32), ∀ (t : sr_t), sr_g l sr_m4_differencesTo 35 [some (sr_r 4 i0), some (sr_r 4 i1), some (sr_i x2), none] [] t (k35 x2 t) 0 0) : ∀ (x2 : Int32) (x3 : Int32), ∀ (t : sr_t), sr_g l sr_m4_differencesTo 29 [some (sr_r 4 i0), some (sr_r 4 i1), some (sr_i x2), some (sr_i x3)] [] t (f4_differencesTo_29 i0 i1 k4 k35 x2 x3 t) 0 0 := by
  intro x2 x3  t
  unfold f4_differencesTo_29
  refine sr_iinc (pc := 29) (i := 3) (n := 1) (w := x3 + 1) (by decide +kernel) rfl rfl (by decide) rfl rfl ?_
  refine sr_goto (pc := 32) (off := (-28)) (tg := 4) (by decide +kernel) (by decide) ?_
  exact sr_wk (sr_mono (mc := 0) (ms := 0) (by omega) (by omega) (hk4 x2 (x3 + 1) t)) ⟨rfl, ⟨rfl, ⟨rfl, ⟨rfl, trivial⟩⟩⟩⟩
def f4_differencesTo_4 (i0 : Nat) (i1 : Nat) (k35 : Int32 → sr_t → sr_Rs) : Nat → Int32 → Int32 → sr_t → sr_Rs
  | 0 => fun _ _ _ => none
  | n + 1 => fun x2 x3 t => (if 8 ≤ x3 then k35 x2 t else (sr_bI (F4_at i0 x3 t) (fun v1 t1 => (sr_bI (F4_at i1 x3 t1) (fun v2 t2 => (if v1 = v2 then f4_differencesTo_29 i0 i1 (f4_differencesTo_4 i0 i1 k35 n) k35 x2 x3 t2 else f4_differencesTo_29 i0 i1 (f4_differencesTo_4 i0 i1 k35 n) k35 (x2 + 1) x3 t2))))))
theorem g4_differencesTo_4 (l : Launch) (i0 : Nat) (i1 : Nat) (hv_i0 : i0 < 107) (hv_i1 : i1 < 107) (k35 : Int32 → sr_t → sr_Rs) (hk35 : ∀ (x2 : Int32), ∀ (t : sr_t), sr_g l sr_m4_differencesTo 35 [some (sr_r 4 i0), some (sr_r 4 i1), some (sr_i x2), none] [] t (k35 x2 t) 0 0) : ∀ (n : Nat) (x2 : Int32) (x3 : Int32), ∀ (t : sr_t), sr_g l sr_m4_differencesTo 4 [some (sr_r 4 i0), some (sr_r 4 i1), some (sr_i x2), some (sr_i x3)] [] t (f4_differencesTo_4 i0 i1 k35 n x2 x3 t) 0 0 := by
  intro n
  induction n with
  | zero => intros; exact sr_Gn
  | succ n ih =>
    intro x2 x3  t
    unfold f4_differencesTo_4
    refine sr_iloadn (pc := 4) (n := 3) (by decide +kernel) rfl ?_
    refine sr_aloadn (pc := 5) (n := 0) (by decide +kernel) rfl ?_
    refine sr_gC (pc := 6) (i2 := i0) fg_4_9 (by decide +kernel) (sr_in4 _ (by omega)) (fun _ => rfl) ?_
    refine sr_al' (pc := 9) (ty := 0) (n := 8) (v := 8) rfl (by decide) (by decide +kernel) (sr_in12 _ (by omega)) (by decide) ?_
    refine sr_icmp_ge (pc := 10) (off := 25) (tg := 35) (by decide +kernel) (by decide) (fun _ => ?_) (fun _ => ?_)
    · exact sr_wk (sr_mono (mc := 0) (ms := 0) (by omega) (by omega) (hk35 x2 t)) ⟨rfl, ⟨rfl, ⟨rfl, trivial⟩⟩⟩
    · refine sr_aloadn (pc := 13) (n := 0) (by decide +kernel) rfl ?_
      refine sr_iloadn (pc := 14) (n := 3) (by decide +kernel) rfl ?_
      refine sr_cV (pc := 15) (As := [sr_i x3]) (mc1 := 0) (ms1 := 0) (mc2 := 0) (ms2 := 0) fm_4_22 fl_4_22 (by decide +kernel) (sr_in4 _ (by omega)) (rm_4_differencesTo_4_at) rfl rfl rfl (C4_at l i0 x3 (by omega) t) ?_
      refine sr_kI (fun v1 t1 => ?_)
      refine sr_aloadn (pc := 18) (n := 1) (by decide +kernel) rfl ?_
      refine sr_iloadn (pc := 19) (n := 3) (by decide +kernel) rfl ?_
      refine sr_cV (pc := 20) (As := [sr_i x3]) (mc1 := 0) (ms1 := 0) (mc2 := 0) (ms2 := 0) fm_4_22 fl_4_22 (by decide +kernel) (sr_in4 _ (by omega)) (rm_4_differencesTo_4_at) rfl rfl rfl (C4_at l i1 x3 (by omega) t1) ?_
      refine sr_kI (fun v2 t2 => ?_)
      refine sr_icmp_eq (pc := 23) (off := 6) (tg := 29) (by decide +kernel) (by decide) (fun _ => ?_) (fun _ => ?_)
      · exact sr_wk (sr_mono (mc := 0) (ms := 0) (by omega) (by omega) (g4_differencesTo_29 l i0 i1 hv_i0 hv_i1 (f4_differencesTo_4 i0 i1 k35 n) k35 ih hk35 x2 x3 t2)) ⟨rfl, ⟨rfl, ⟨rfl, ⟨rfl, trivial⟩⟩⟩⟩
      · refine sr_iinc (pc := 26) (i := 2) (n := 1) (w := x2 + 1) (by decide +kernel) rfl rfl (by decide) rfl rfl ?_
        exact sr_wk (sr_mono (mc := 0) (ms := 0) (by omega) (by omega) (g4_differencesTo_29 l i0 i1 hv_i0 hv_i1 (f4_differencesTo_4 i0 i1 k35 n) k35 ih hk35 (x2 + 1) x3 t2)) ⟨rfl, ⟨rfl, ⟨rfl, ⟨rfl, trivial⟩⟩⟩⟩
def f4_differencesTo_35 (i0 : Nat) (i1 : Nat)  : Int32 → sr_t → sr_Rs := fun x2 t => (some (.inl (some (sr_i x2)), t))
theorem g4_differencesTo_35 (l : Launch) (i0 : Nat) (i1 : Nat) (hv_i0 : i0 < 107) (hv_i1 : i1 < 107)   : ∀ (x2 : Int32), ∀ (t : sr_t), sr_g l sr_m4_differencesTo 35 [some (sr_r 4 i0), some (sr_r 4 i1), some (sr_i x2), none] [] t (f4_differencesTo_35 i0 i1  x2 t) 0 0 := by
  intro x2  t
  unfold f4_differencesTo_35
  refine sr_iloadn (pc := 35) (n := 2) (by decide +kernel) rfl ?_
  exact sr_iret (pc := 36) (by decide +kernel) rfl
def F4_differencesTo (i0 : Nat) (i1 : Nat) (t : sr_t) : sr_Rs := f4_differencesTo_4 i0 i1 (f4_differencesTo_35 i0 i1) sr_fu 0 0 t
theorem C4_differencesTo (l : Launch) (i0 : Nat) (i1 : Nat) (hv_i0 : i0 < 107) (hv_i1 : i1 < 107) (t : sr_t) : sr_ct' l sr_m4_differencesTo [sr_r 4 i0, sr_r 4 i1] t (F4_differencesTo i0 i1 t) 0 0 := by
  refine sr_T_of (L0 := [some (sr_r 4 i0), some (sr_r 4 i1), none, none]) rfl (by decide +kernel) (fun _ => rfl) (fun _ => Nat.le_of_ble_eq_true rfl) ?_
  unfold F4_differencesTo
  refine sr_iconst (pc := 0) (n := 0) (v := 0) (by decide +kernel) rfl ?_
  refine sr_istoren (pc := 1) (n := 2) (by decide +kernel) (by decide) rfl rfl ?_
  refine sr_iconst (pc := 2) (n := 0) (v := 0) (by decide +kernel) rfl ?_
  refine sr_istoren (pc := 3) (n := 3) (by decide +kernel) (by decide) rfl rfl ?_
  exact sr_wk (sr_mono (mc := 0) (ms := 0) (by omega) (by omega) (g4_differencesTo_4 l i0 i1 hv_i0 hv_i1 (f4_differencesTo_35 i0 i1) (g4_differencesTo_35 l i0 i1 hv_i0 hv_i1) sr_fu 0 0 t)) ⟨rfl, ⟨rfl, ⟨rfl, ⟨rfl, trivial⟩⟩⟩⟩
def f7_differencesTo_39 (i0 : Nat) (i1 : Nat)  : Int32 → Int32 → sr_t → sr_Rs := fun xs0 xs1 t => (some (.inl (some (sr_i (xs1 + xs0))), t))
theorem g7_differencesTo_39 (l : Launch) (i0 : Nat) (i1 : Nat) (hv_i0 : i0 < 52) (hv_i1 : i1 < 52)   : ∀ (xs0 : Int32) (xs1 : Int32), ∀ (t : sr_t), sr_g l sr_m7_differencesTo 39 [some (sr_r 7 i0), some (sr_r 7 i1)] [sr_i xs0, sr_i xs1] t (f7_differencesTo_39 i0 i1  xs0 xs1 t) 0 0 := by
  intro xs0 xs1  t
  unfold f7_differencesTo_39
  refine sr_iadd (pc := 39) (by decide +kernel) ?_
  exact sr_iret (pc := 40) (by decide +kernel) rfl
def F7_differencesTo (i0 : Nat) (i1 : Nat) (t : sr_t) : sr_Rs := (sr_bI (F4_differencesTo (2 * i0) (2 * i1) t) (fun v1 t1 => (sr_bI (F4_differencesTo (2 * i0 + 1) (2 * i1 + 1) t1) (fun v2 t2 => (if (t2.1 7 i0 0) = (t2.1 7 i1 0) then f7_differencesTo_39 i0 i1 0 (v1 + v2) t2 else f7_differencesTo_39 i0 i1 1 (v1 + v2) t2)))))
theorem C7_differencesTo (l : Launch) (i0 : Nat) (i1 : Nat) (hv_i0 : i0 < 52) (hv_i1 : i1 < 52) (t : sr_t) : sr_ct' l sr_m7_differencesTo [sr_r 7 i0, sr_r 7 i1] t (F7_differencesTo i0 i1 t) 0 0 := by
  refine sr_T_of (L0 := [some (sr_r 7 i0), some (sr_r 7 i1)]) rfl (by decide +kernel) (fun _ => rfl) (fun _ => Nat.le_of_ble_eq_true rfl) ?_
  unfold F7_differencesTo
  refine sr_aloadn (pc := 0) (n := 0) (by decide +kernel) rfl ?_
  refine sr_gC (pc := 1) (i2 := 2 * i0) fg_7_10 (by decide +kernel) (sr_in7 _ (by omega)) (fun _ => rfl) ?_
  refine sr_aloadn (pc := 4) (n := 1) (by decide +kernel) rfl ?_
  refine sr_gC (pc := 5) (i2 := 2 * i1) fg_7_10 (by decide +kernel) (sr_in7 _ (by omega)) (fun _ => rfl) ?_
  refine sr_cV (pc := 8) (As := [sr_r 4 (2 * i1)]) (mc1 := 0) (ms1 := 0) (mc2 := 0) (ms2 := 0) fm_7_27 fl_7_27 (by decide +kernel) (sr_in4 _ (by omega)) (rm_7_differencesTo_4_differencesTo) rfl rfl rfl (C4_differencesTo l (2 * i0) (2 * i1) (by omega) (by omega) t) ?_
  refine sr_kI (fun v1 t1 => ?_)
  refine sr_aloadn (pc := 11) (n := 0) (by decide +kernel) rfl ?_
  refine sr_gC (pc := 12) (i2 := 2 * i0 + 1) fg_7_16 (by decide +kernel) (sr_in7 _ (by omega)) (fun _ => rfl) ?_
  refine sr_aloadn (pc := 15) (n := 1) (by decide +kernel) rfl ?_
  refine sr_gC (pc := 16) (i2 := 2 * i1 + 1) fg_7_16 (by decide +kernel) (sr_in7 _ (by omega)) (fun _ => rfl) ?_
  refine sr_cV (pc := 19) (As := [sr_r 4 (2 * i1 + 1)]) (mc1 := 0) (ms1 := 0) (mc2 := 0) (ms2 := 0) fm_7_27 fl_7_27 (by decide +kernel) (sr_in4 _ (by omega)) (rm_7_differencesTo_4_differencesTo) rfl rfl rfl (C4_differencesTo l (2 * i0 + 1) (2 * i1 + 1) (by omega) (by omega) t1) ?_
  refine sr_kI (fun v2 t2 => ?_)
  refine sr_iadd (pc := 22) (by decide +kernel) ?_
  refine sr_aloadn (pc := 23) (n := 0) (by decide +kernel) rfl ?_
  refine sr_gI (pc := 24) fg_7_19 (by decide +kernel) (sr_in7 _ (by omega)) (fun _ => rfl) ?_
  refine sr_aloadn (pc := 27) (n := 1) (by decide +kernel) rfl ?_
  refine sr_gI (pc := 28) fg_7_19 (by decide +kernel) (sr_in7 _ (by omega)) (fun _ => rfl) ?_
  refine sr_icmp_ne (pc := 31) (off := 7) (tg := 38) (by decide +kernel) (by decide) (fun _ => ?_) (fun _ => ?_)
  · refine sr_iconst (pc := 38) (n := 1) (v := 1) (by decide +kernel) rfl ?_
    exact sr_wk (sr_mono (mc := 0) (ms := 0) (by omega) (by omega) (g7_differencesTo_39 l i0 i1 hv_i0 hv_i1 1 (v1 + v2) t2)) ⟨rfl, ⟨rfl, trivial⟩⟩
  · refine sr_iconst (pc := 34) (n := 0) (v := 0) (by decide +kernel) rfl ?_
    refine sr_goto (pc := 35) (off := 4) (tg := 39) (by decide +kernel) (by decide) ?_
    exact sr_wk (sr_mono (mc := 0) (ms := 0) (by omega) (by omega) (g7_differencesTo_39 l i0 i1 hv_i0 hv_i1 0 (v1 + v2) t2)) ⟨rfl, ⟨rfl, trivial⟩⟩
def F3_staleOf (i0 : Nat) (i1 : Nat) (t : sr_t) : sr_Rs := (sr_bV (F3_layInto i0 (50 + i0) i1 t) (fun t1 => (sr_bI (F7_differencesTo i1 (50 + i0) t1) (fun v2 t2 => (some (.inl (some (sr_i v2)), t2))))))
theorem C3_staleOf (l : Launch) (i0 : Nat) (i1 : Nat) (hv_i0 : i0 < 2) (hv_i1 : i1 < 50) (t : sr_t) : sr_ct' l sr_m3_staleOf [sr_r 3 i0, sr_r 2 i1] t (F3_staleOf i0 i1 t) 0 0 := by
  refine sr_T_of (L0 := [some (sr_r 3 i0), some (sr_r 2 i1)]) rfl (by decide +kernel) (fun _ => rfl) (fun _ => Nat.le_of_ble_eq_true rfl) ?_
  unfold F3_staleOf
  refine sr_aloadn (pc := 0) (n := 0) (by decide +kernel) rfl ?_
  refine sr_aloadn (pc := 1) (n := 0) (by decide +kernel) rfl ?_
  refine sr_gC (pc := 2) (i2 := 50 + i0) fg_3_27 (by decide +kernel) (sr_in3 _ (by omega)) (fun _ => rfl) ?_
  refine sr_aloadn (pc := 5) (n := 1) (by decide +kernel) rfl ?_
  refine sr_cV (pc := 6) (As := [sr_r 7 (50 + i0), sr_r 2 i1]) (mc1 := 0) (ms1 := 0) (mc2 := 0) (ms2 := 0) fm_3_81 fl_3_81 (by decide +kernel) (sr_in3 _ (by omega)) (rm_3_staleOf_3_layInto) rfl rfl rfl (C3_layInto l i0 (50 + i0) i1 (by omega) (by omega) (by omega) t) ?_
  refine sr_kV (fun t1 => ?_)
  refine sr_aloadn (pc := 9) (n := 1) (by decide +kernel) rfl ?_
  refine sr_gC (pc := 10) (i2 := i1) fg_3_78 (by decide +kernel) (sr_in2 _ (by omega)) (fun _ => rfl) ?_
  refine sr_aloadn (pc := 13) (n := 0) (by decide +kernel) rfl ?_
  refine sr_gC (pc := 14) (i2 := 50 + i0) fg_3_27 (by decide +kernel) (sr_in3 _ (by omega)) (fun _ => rfl) ?_
  refine sr_cV (pc := 17) (As := [sr_r 7 (50 + i0)]) (mc1 := 0) (ms1 := 0) (mc2 := 0) (ms2 := 0) fm_3_137 fl_3_137 (by decide +kernel) (sr_in7 _ (by omega)) (rm_3_staleOf_7_differencesTo) rfl rfl rfl (C7_differencesTo l i1 (50 + i0) (by omega) (by omega) t1) ?_
  refine sr_kI (fun v2 t2 => ?_)
  exact sr_iret (pc := 20) (by decide +kernel) rfl
def f3_staleOfAll_35 (i0 : Nat) (k4 : Int32 → Int32 → sr_t → sr_Rs) (k41 : Int32 → sr_t → sr_Rs) : Int32 → Int32 → sr_t → sr_Rs := fun x1 x2 t => k4 x1 (x2 + 1) t
theorem g3_staleOfAll_35 (l : Launch) (i0 : Nat) (hv_i0 : i0 < 2) (k4 : Int32 → Int32 → sr_t → sr_Rs) (k41 : Int32 → sr_t → sr_Rs) (hk4 : ∀ (x1 : Int32) (x2 : Int32), ∀ (t : sr_t), sr_g l sr_m3_staleOfAll 4 [some (sr_r 3 i0), some (sr_i x1), some (sr_i x2)] [] t (k4 x1 x2 t) 0 0) (hk41 : ∀ (x1 : Int32), ∀ (t : sr_t), sr_g l sr_m3_staleOfAll 41 [some (sr_r 3 i0), some (sr_i x1), none] [] t (k41 x1 t) 0 0) : ∀ (x1 : Int32) (x2 : Int32), ∀ (t : sr_t), sr_g l sr_m3_staleOfAll 35 [some (sr_r 3 i0), some (sr_i x1), some (sr_i x2)] [] t (f3_staleOfAll_35 i0 k4 k41 x1 x2 t) 0 0 := by
  intro x1 x2  t
  unfold f3_staleOfAll_35
  refine sr_iinc (pc := 35) (i := 2) (n := 1) (w := x2 + 1) (by decide +kernel) rfl rfl (by decide) rfl rfl ?_
  refine sr_goto (pc := 38) (off := (-34)) (tg := 4) (by decide +kernel) (by decide) ?_
  exact sr_wk (sr_mono (mc := 0) (ms := 0) (by omega) (by omega) (hk4 x1 (x2 + 1) t)) ⟨rfl, ⟨rfl, ⟨rfl, trivial⟩⟩⟩
def f3_staleOfAll_4 (i0 : Nat) (k41 : Int32 → sr_t → sr_Rs) : Nat → Int32 → Int32 → sr_t → sr_Rs
  | 0 => fun _ _ _ => none
  | n + 1 => fun x1 x2 t => (if (t.1 3 i0 3) ≤ x2 then k41 x1 t else (sr_bR 2 50 (F3_of i0 x2 t) (fun n1 t1 => (if (t1.1 2 n1 2) = 0 then f3_staleOfAll_35 i0 (f3_staleOfAll_4 i0 k41 n) k41 x1 x2 t1 else (sr_bR 2 50 (F3_of i0 x2 t1) (fun n2 t2 => (sr_bI (F3_staleOf i0 n2 t2) (fun v3 t3 => f3_staleOfAll_35 i0 (f3_staleOfAll_4 i0 k41 n) k41 (x1 + v3) x2 t3))))))))
theorem g3_staleOfAll_4 (l : Launch) (i0 : Nat) (hv_i0 : i0 < 2) (k41 : Int32 → sr_t → sr_Rs) (hk41 : ∀ (x1 : Int32), ∀ (t : sr_t), sr_g l sr_m3_staleOfAll 41 [some (sr_r 3 i0), some (sr_i x1), none] [] t (k41 x1 t) 0 0) : ∀ (n : Nat) (x1 : Int32) (x2 : Int32), ∀ (t : sr_t), sr_g l sr_m3_staleOfAll 4 [some (sr_r 3 i0), some (sr_i x1), some (sr_i x2)] [] t (f3_staleOfAll_4 i0 k41 n x1 x2 t) 0 0 := by
  intro n
  induction n with
  | zero => intros; exact sr_Gn
  | succ n ih =>
    intro x1 x2  t
    unfold f3_staleOfAll_4
    refine sr_iloadn (pc := 4) (n := 2) (by decide +kernel) rfl ?_
    refine sr_aloadn (pc := 5) (n := 0) (by decide +kernel) rfl ?_
    refine sr_gI (pc := 6) fg_3_51 (by decide +kernel) (sr_in3 _ (by omega)) (fun _ => rfl) ?_
    refine sr_icmp_ge (pc := 9) (off := 32) (tg := 41) (by decide +kernel) (by decide) (fun _ => ?_) (fun _ => ?_)
    · exact sr_wk (sr_mono (mc := 0) (ms := 0) (by omega) (by omega) (hk41 x1 t)) ⟨rfl, ⟨rfl, trivial⟩⟩
    · refine sr_aloadn (pc := 12) (n := 0) (by decide +kernel) rfl ?_
      refine sr_iloadn (pc := 13) (n := 2) (by decide +kernel) rfl ?_
      refine sr_cV (pc := 14) (As := [sr_i x2]) (mc1 := 0) (ms1 := 0) (mc2 := 0) (ms2 := 0) fm_3_54 fl_3_54 (by decide +kernel) (sr_in3 _ (by omega)) (rm_3_staleOfAll_3_of) rfl rfl rfl (C3_of l i0 x2 (by omega) t) ?_
      refine sr_kR (fun n1 t1 hv_n1 => ?_)
      refine sr_gI (pc := 17) fg_3_68 (by decide +kernel) (sr_in2 _ (by omega)) (fun _ => rfl) ?_
      refine sr_if_eq (pc := 20) (off := 15) (tg := 35) (by decide +kernel) (by decide) (fun _ => ?_) (fun _ => ?_)
      · exact sr_wk (sr_mono (mc := 0) (ms := 0) (by omega) (by omega) (g3_staleOfAll_35 l i0 hv_i0 (f3_staleOfAll_4 i0 k41 n) k41 ih hk41 x1 x2 t1)) ⟨rfl, ⟨rfl, ⟨rfl, trivial⟩⟩⟩
      · refine sr_iloadn (pc := 23) (n := 1) (by decide +kernel) rfl ?_
        refine sr_aloadn (pc := 24) (n := 0) (by decide +kernel) rfl ?_
        refine sr_aloadn (pc := 25) (n := 0) (by decide +kernel) rfl ?_
        refine sr_iloadn (pc := 26) (n := 2) (by decide +kernel) rfl ?_
        refine sr_cV (pc := 27) (As := [sr_i x2]) (mc1 := 0) (ms1 := 0) (mc2 := 0) (ms2 := 0) fm_3_54 fl_3_54 (by decide +kernel) (sr_in3 _ (by omega)) (rm_3_staleOfAll_3_of) rfl rfl rfl (C3_of l i0 x2 (by omega) t1) ?_
        refine sr_kR (fun n2 t2 hv_n2 => ?_)
        refine sr_cV (pc := 30) (As := [sr_r 2 n2]) (mc1 := 0) (ms1 := 0) (mc2 := 0) (ms2 := 0) fm_3_141 fl_3_141 (by decide +kernel) (sr_in3 _ (by omega)) (rm_3_staleOfAll_3_staleOf) rfl rfl rfl (C3_staleOf l i0 n2 (by omega) (by omega) t2) ?_
        refine sr_kI (fun v3 t3 => ?_)
        refine sr_iadd (pc := 33) (by decide +kernel) ?_
        refine sr_istoren (pc := 34) (n := 1) (by decide +kernel) (by decide) rfl rfl ?_
        exact sr_wk (sr_mono (mc := 0) (ms := 0) (by omega) (by omega) (g3_staleOfAll_35 l i0 hv_i0 (f3_staleOfAll_4 i0 k41 n) k41 ih hk41 (x1 + v3) x2 t3)) ⟨rfl, ⟨rfl, ⟨rfl, trivial⟩⟩⟩
def f3_staleOfAll_41 (i0 : Nat)  : Int32 → sr_t → sr_Rs := fun x1 t => (some (.inl (some (sr_i x1)), t))
theorem g3_staleOfAll_41 (l : Launch) (i0 : Nat) (hv_i0 : i0 < 2)   : ∀ (x1 : Int32), ∀ (t : sr_t), sr_g l sr_m3_staleOfAll 41 [some (sr_r 3 i0), some (sr_i x1), none] [] t (f3_staleOfAll_41 i0  x1 t) 0 0 := by
  intro x1  t
  unfold f3_staleOfAll_41
  refine sr_iloadn (pc := 41) (n := 1) (by decide +kernel) rfl ?_
  exact sr_iret (pc := 42) (by decide +kernel) rfl
def F3_staleOfAll (i0 : Nat) (t : sr_t) : sr_Rs := f3_staleOfAll_4 i0 (f3_staleOfAll_41 i0) sr_fu 0 0 t
theorem C3_staleOfAll (l : Launch) (i0 : Nat) (hv_i0 : i0 < 2) (t : sr_t) : sr_ct' l sr_m3_staleOfAll [sr_r 3 i0] t (F3_staleOfAll i0 t) 0 0 := by
  refine sr_T_of (L0 := [some (sr_r 3 i0), none, none]) rfl (by decide +kernel) (fun _ => rfl) (fun _ => Nat.le_of_ble_eq_true rfl) ?_
  unfold F3_staleOfAll
  refine sr_iconst (pc := 0) (n := 0) (v := 0) (by decide +kernel) rfl ?_
  refine sr_istoren (pc := 1) (n := 1) (by decide +kernel) (by decide) rfl rfl ?_
  refine sr_iconst (pc := 2) (n := 0) (v := 0) (by decide +kernel) rfl ?_
  refine sr_istoren (pc := 3) (n := 2) (by decide +kernel) (by decide) rfl rfl ?_
  exact sr_wk (sr_mono (mc := 0) (ms := 0) (by omega) (by omega) (g3_staleOfAll_4 l i0 hv_i0 (f3_staleOfAll_41 i0) (g3_staleOfAll_41 l i0 hv_i0) sr_fu 0 0 t)) ⟨rfl, ⟨rfl, ⟨rfl, trivial⟩⟩⟩
def f3_findNext_10 (i0 : Nat) (i1 : Nat) (k33 : Nat → Int32 → sr_t → sr_Rs) (k45 : Nat → sr_t → sr_Rs) : Nat → Nat → Int32 → sr_t → sr_Rs
  | 0 => fun _ _ _ => none
  | n + 1 => fun j2 x3 t => (if (t.1 4 j2 1) ≤ x3 then k45 j2 t else (sr_bI (F4_at j2 x3 t) (fun v1 t1 => (sr_bR 2 50 (F3_of i0 v1 t1) (fun n2 t2 => (if (t2.1 2 n2 2) = 0 then (f3_findNext_10 i0 i1 k33 k45 n) j2 (x3 + 1) t2 else k33 j2 x3 t2))))))
theorem g3_findNext_10 (l : Launch) (i0 : Nat) (i1 : Nat) (hv_i0 : i0 < 2) (hv_i1 : i1 < 50) (k33 : Nat → Int32 → sr_t → sr_Rs) (k45 : Nat → sr_t → sr_Rs) (hk33 : ∀ (j2 : Nat) (x3 : Int32), j2 < 107 → ∀ (t : sr_t), sr_g l sr_m3_findNext 33 [some (sr_r 3 i0), some (sr_r 2 i1), some (sr_r 4 j2), some (sr_i x3)] [] t (k33 j2 x3 t) 0 0) (hk45 : ∀ (j2 : Nat), j2 < 107 → ∀ (t : sr_t), sr_g l sr_m3_findNext 45 [some (sr_r 3 i0), some (sr_r 2 i1), some (sr_r 4 j2), none] [] t (k45 j2 t) 0 0) : ∀ (n : Nat) (j2 : Nat) (x3 : Int32), j2 < 107 → ∀ (t : sr_t), sr_g l sr_m3_findNext 10 [some (sr_r 3 i0), some (sr_r 2 i1), some (sr_r 4 j2), some (sr_i x3)] [] t (f3_findNext_10 i0 i1 k33 k45 n j2 x3 t) 0 0 := by
  intro n
  induction n with
  | zero => intros; exact sr_Gn
  | succ n ih =>
    intro j2 x3 hv_j2 t
    unfold f3_findNext_10
    refine sr_iloadn (pc := 10) (n := 3) (by decide +kernel) rfl ?_
    refine sr_aloadn (pc := 11) (n := 2) (by decide +kernel) rfl ?_
    refine sr_gI (pc := 12) fg_3_130 (by decide +kernel) (sr_in4 _ (by omega)) (fun _ => rfl) ?_
    refine sr_icmp_ge (pc := 15) (off := 30) (tg := 45) (by decide +kernel) (by decide) (fun _ => ?_) (fun _ => ?_)
    · exact sr_wk (sr_mono (mc := 0) (ms := 0) (by omega) (by omega) (hk45 j2 (by omega) t)) ⟨rfl, ⟨rfl, ⟨rfl, trivial⟩⟩⟩
    · refine sr_aloadn (pc := 18) (n := 0) (by decide +kernel) rfl ?_
      refine sr_aloadn (pc := 19) (n := 2) (by decide +kernel) rfl ?_
      refine sr_iloadn (pc := 20) (n := 3) (by decide +kernel) rfl ?_
      refine sr_cV (pc := 21) (As := [sr_i x3]) (mc1 := 0) (ms1 := 0) (mc2 := 0) (ms2 := 0) fm_3_131 fl_3_131 (by decide +kernel) (sr_in4 _ (by omega)) (rm_3_findNext_4_at) rfl rfl rfl (C4_at l j2 x3 (by omega) t) ?_
      refine sr_kI (fun v1 t1 => ?_)
      refine sr_cV (pc := 24) (As := [sr_i v1]) (mc1 := 0) (ms1 := 0) (mc2 := 0) (ms2 := 0) fm_3_54 fl_3_54 (by decide +kernel) (sr_in3 _ (by omega)) (rm_3_findNext_3_of) rfl rfl rfl (C3_of l i0 v1 (by omega) t1) ?_
      refine sr_kR (fun n2 t2 hv_n2 => ?_)
      refine sr_gI (pc := 27) fg_3_68 (by decide +kernel) (sr_in2 _ (by omega)) (fun _ => rfl) ?_
      refine sr_if_eq (pc := 30) (off := 9) (tg := 39) (by decide +kernel) (by decide) (fun _ => ?_) (fun _ => ?_)
      · refine sr_iinc (pc := 39) (i := 3) (n := 1) (w := x3 + 1) (by decide +kernel) rfl rfl (by decide) rfl rfl ?_
        refine sr_goto (pc := 42) (off := (-32)) (tg := 10) (by decide +kernel) (by decide) ?_
        exact sr_wk (sr_mono (mc := 0) (ms := 0) (by omega) (by omega) (ih j2 (x3 + 1) (by omega) t2)) ⟨rfl, ⟨rfl, ⟨rfl, ⟨rfl, trivial⟩⟩⟩⟩
      · exact sr_wk (sr_mono (mc := 0) (ms := 0) (by omega) (by omega) (hk33 j2 x3 (by omega) t2)) ⟨rfl, ⟨rfl, ⟨rfl, ⟨rfl, trivial⟩⟩⟩⟩
def f3_findNext_33 (i0 : Nat) (i1 : Nat)  : Nat → Int32 → sr_t → sr_Rs := fun j2 x3 t => (sr_bI (F4_at j2 x3 t) (fun v1 t1 => (some (.inl (some (sr_i v1)), t1))))
theorem g3_findNext_33 (l : Launch) (i0 : Nat) (i1 : Nat) (hv_i0 : i0 < 2) (hv_i1 : i1 < 50)   : ∀ (j2 : Nat) (x3 : Int32), j2 < 107 → ∀ (t : sr_t), sr_g l sr_m3_findNext 33 [some (sr_r 3 i0), some (sr_r 2 i1), some (sr_r 4 j2), some (sr_i x3)] [] t (f3_findNext_33 i0 i1  j2 x3 t) 0 0 := by
  intro j2 x3 hv_j2 t
  unfold f3_findNext_33
  refine sr_aloadn (pc := 33) (n := 2) (by decide +kernel) rfl ?_
  refine sr_iloadn (pc := 34) (n := 3) (by decide +kernel) rfl ?_
  refine sr_cV (pc := 35) (As := [sr_i x3]) (mc1 := 0) (ms1 := 0) (mc2 := 0) (ms2 := 0) fm_3_131 fl_3_131 (by decide +kernel) (sr_in4 _ (by omega)) (rm_3_findNext_4_at) rfl rfl rfl (C4_at l j2 x3 (by omega) t) ?_
  refine sr_kI (fun v1 t1 => ?_)
  exact sr_iret (pc := 38) (by decide +kernel) rfl
def f3_findNext_60 (i0 : Nat) (i1 : Nat)  : Int32 → sr_t → sr_Rs := fun xs0 t => (some (.inl (some (sr_i xs0)), t))
theorem g3_findNext_60 (l : Launch) (i0 : Nat) (i1 : Nat) (hv_i0 : i0 < 2) (hv_i1 : i1 < 50)   : ∀ (xs0 : Int32), ∀ (t : sr_t), sr_g l sr_m3_findNext 60 [some (sr_r 3 i0), some (sr_r 2 i1), none, none] [sr_i xs0] t (f3_findNext_60 i0 i1  xs0 t) 0 0 := by
  intro xs0  t
  unfold f3_findNext_60
  exact sr_iret (pc := 60) (by decide +kernel) rfl
def f3_findNext_45 (i0 : Nat) (i1 : Nat)  : Nat → sr_t → sr_Rs := fun j2 t => (if (t.1 4 j2 1) = 0 then f3_findNext_60 i0 i1 (t.1 2 i1 0) t else f3_findNext_60 i0 i1 ((-1)) t)
theorem g3_findNext_45 (l : Launch) (i0 : Nat) (i1 : Nat) (hv_i0 : i0 < 2) (hv_i1 : i1 < 50)   : ∀ (j2 : Nat), j2 < 107 → ∀ (t : sr_t), sr_g l sr_m3_findNext 45 [some (sr_r 3 i0), some (sr_r 2 i1), some (sr_r 4 j2), none] [] t (f3_findNext_45 i0 i1  j2 t) 0 0 := by
  intro j2 hv_j2 t
  unfold f3_findNext_45
  refine sr_aloadn (pc := 45) (n := 2) (by decide +kernel) rfl ?_
  refine sr_gI (pc := 46) fg_3_130 (by decide +kernel) (sr_in4 _ (by omega)) (fun _ => rfl) ?_
  refine sr_if_ne (pc := 49) (off := 10) (tg := 59) (by decide +kernel) (by decide) (fun _ => ?_) (fun _ => ?_)
  · refine sr_iconst (pc := 59) (n := (-1)) (v := (-1)) (by decide +kernel) rfl ?_
    exact sr_wk (sr_mono (mc := 0) (ms := 0) (by omega) (by omega) (g3_findNext_60 l i0 i1 hv_i0 hv_i1 ((-1)) t)) ⟨rfl, ⟨rfl, trivial⟩⟩
  · refine sr_aloadn (pc := 52) (n := 1) (by decide +kernel) rfl ?_
    refine sr_gI (pc := 53) fg_3_65 (by decide +kernel) (sr_in2 _ (by omega)) (fun _ => rfl) ?_
    refine sr_goto (pc := 56) (off := 4) (tg := 60) (by decide +kernel) (by decide) ?_
    exact sr_wk (sr_mono (mc := 0) (ms := 0) (by omega) (by omega) (g3_findNext_60 l i0 i1 hv_i0 hv_i1 (t.1 2 i1 0) t)) ⟨rfl, ⟨rfl, trivial⟩⟩
def F3_findNext (i0 : Nat) (i1 : Nat) (t : sr_t) : sr_Rs := f3_findNext_10 i0 i1 (f3_findNext_33 i0 i1) (f3_findNext_45 i0 i1) sr_fu (2 * i1) 0 t
theorem C3_findNext (l : Launch) (i0 : Nat) (i1 : Nat) (hv_i0 : i0 < 2) (hv_i1 : i1 < 50) (t : sr_t) : sr_ct' l sr_m3_findNext [sr_r 3 i0, sr_r 2 i1] t (F3_findNext i0 i1 t) 0 0 := by
  refine sr_T_of (L0 := [some (sr_r 3 i0), some (sr_r 2 i1), none, none]) rfl (by decide +kernel) (fun _ => rfl) (fun _ => Nat.le_of_ble_eq_true rfl) ?_
  unfold F3_findNext
  refine sr_aloadn (pc := 0) (n := 1) (by decide +kernel) rfl ?_
  refine sr_gC (pc := 1) (i2 := i1) fg_3_78 (by decide +kernel) (sr_in2 _ (by omega)) (fun _ => rfl) ?_
  refine sr_gC (pc := 4) (i2 := 2 * i1) fg_3_86 (by decide +kernel) (sr_in7 _ (by omega)) (fun _ => rfl) ?_
  refine sr_astoren (pc := 7) (n := 2) (by decide +kernel) (by decide) rfl rfl ?_
  refine sr_iconst (pc := 8) (n := 0) (v := 0) (by decide +kernel) rfl ?_
  refine sr_istoren (pc := 9) (n := 3) (by decide +kernel) (by decide) rfl rfl ?_
  exact sr_wk (sr_mono (mc := 0) (ms := 0) (by omega) (by omega) (g3_findNext_10 l i0 i1 hv_i0 hv_i1 (f3_findNext_33 i0 i1) (f3_findNext_45 i0 i1) (g3_findNext_33 l i0 i1 hv_i0 hv_i1) (g3_findNext_45 l i0 i1 hv_i0 hv_i1) sr_fu (2 * i1) 0 (by omega) t)) ⟨rfl, ⟨rfl, ⟨rfl, ⟨rfl, trivial⟩⟩⟩⟩
def f10_stretch_16 (a0 : Int32) (a1 : Int32)  : Int32 → sr_t → sr_Rs := fun xs0 t => (some (.inl (some (sr_i xs0)), t))
theorem g10_stretch_16 (l : Launch) (a0 : Int32) (a1 : Int32)    : ∀ (xs0 : Int32), ∀ (t : sr_t), sr_g l sr_m10_stretch 16 [some (sr_i a0), some (sr_i a1)] [sr_i xs0] t (f10_stretch_16 a0 a1  xs0 t) 0 0 := by
  intro xs0  t
  unfold f10_stretch_16
  exact sr_iret (pc := 16) (by decide +kernel) rfl
def F10_stretch (a0 : Int32) (a1 : Int32) (t : sr_t) : sr_Rs := (if a0 = a1 then f10_stretch_16 a0 a1 4096 t else (sr_bI (F10_onward a0 a1 t) (fun v1 t1 => f10_stretch_16 a0 a1 v1 t1)))
theorem C10_stretch (l : Launch) (a0 : Int32) (a1 : Int32)  (t : sr_t) : sr_ct' l sr_m10_stretch [sr_i a0, sr_i a1] t (F10_stretch a0 a1 t) 0 0 := by
  refine sr_T_of (L0 := [some (sr_i a0), some (sr_i a1)]) rfl (by decide +kernel) (fun _ => rfl) (fun _ => Nat.le_of_ble_eq_true rfl) ?_
  unfold F10_stretch
  refine sr_iloadn (pc := 0) (n := 0) (by decide +kernel) rfl ?_
  refine sr_iloadn (pc := 1) (n := 1) (by decide +kernel) rfl ?_
  refine sr_icmp_ne (pc := 2) (off := 9) (tg := 11) (by decide +kernel) (by decide) (fun _ => ?_) (fun _ => ?_)
  · refine sr_iloadn (pc := 11) (n := 0) (by decide +kernel) rfl ?_
    refine sr_iloadn (pc := 12) (n := 1) (by decide +kernel) rfl ?_
    refine sr_cS (pc := 13) (As := [sr_i a0, sr_i a1]) (mc1 := 0) (ms1 := 0) (mc2 := 0) (ms2 := 0) fm_10_436 fl_10_436 (by decide +kernel) (rm_10_stretch_10_onward) rfl rfl rfl (C10_onward l a0 a1 t) ?_
    refine sr_kI (fun v1 t1 => ?_)
    exact sr_wk (sr_mono (mc := 0) (ms := 0) (by omega) (by omega) (g10_stretch_16 l a0 a1 v1 t1)) ⟨rfl, ⟨rfl, trivial⟩⟩
  · refine sr_sipush (pc := 5) (n := 4096) (v := 4096) (by decide +kernel) (by decide) ?_
    refine sr_goto (pc := 8) (off := 8) (tg := 16) (by decide +kernel) (by decide) ?_
    exact sr_wk (sr_mono (mc := 0) (ms := 0) (by omega) (by omega) (g10_stretch_16 l a0 a1 4096 t)) ⟨rfl, ⟨rfl, trivial⟩⟩
def f3_refreshNode_72 (i0 : Nat) (i1 : Nat)  : sr_t → sr_Rs := fun  t => (sr_bR 2 50 (F3_lastBackFrom i0 ((t.1 2 i1 1) - 1) t) (fun n1 t1 => (sr_bI (sr_nt (F10_stretch (t1.1 2 n1 1) (t1.1 2 i1 1) t1)) (fun v2 t2 => (sr_lt (sr_u t2 2 i1 7 v2) (fun t3 => (some (.inl none, t3))))))))
theorem g3_refreshNode_72 (l : Launch) (i0 : Nat) (i1 : Nat) (hv_i0 : i0 < 2) (hv_i1 : i1 < 50)   : ∀ (t : sr_t), sr_g l sr_m3_refreshNode 72 [some (sr_r 3 i0), some (sr_r 2 i1)] [] t (f3_refreshNode_72 i0 i1   t) 0 0 := by
  intro t
  unfold f3_refreshNode_72
  refine sr_aloadn (pc := 72) (n := 1) (by decide +kernel) rfl ?_
  refine sr_aloadn (pc := 73) (n := 0) (by decide +kernel) rfl ?_
  refine sr_aloadn (pc := 74) (n := 1) (by decide +kernel) rfl ?_
  refine sr_gI (pc := 75) fg_3_58 (by decide +kernel) (sr_in2 _ (by omega)) (fun _ => rfl) ?_
  refine sr_iconst (pc := 78) (n := 1) (v := 1) (by decide +kernel) rfl ?_
  refine sr_isub (pc := 79) (by decide +kernel) ?_
  refine sr_cV (pc := 80) (As := [sr_i ((t.1 2 i1 1) - 1)]) (mc1 := 0) (ms1 := 0) (mc2 := 0) (ms2 := 0) fm_3_104 fl_3_104 (by decide +kernel) (sr_in3 _ (by omega)) (rm_3_refreshNode_3_lastBackFrom) rfl rfl rfl (C3_lastBackFrom l i0 ((t.1 2 i1 1) - 1) (by omega) t) ?_
  refine sr_kR (fun n1 t1 hv_n1 => ?_)
  refine sr_gI (pc := 83) fg_3_58 (by decide +kernel) (sr_in2 _ (by omega)) (fun _ => rfl) ?_
  refine sr_aloadn (pc := 86) (n := 1) (by decide +kernel) rfl ?_
  refine sr_gI (pc := 87) fg_3_58 (by decide +kernel) (sr_in2 _ (by omega)) (fun _ => rfl) ?_
  refine sr_cSN (pc := 90) (As := [sr_i (t1.1 2 n1 1), sr_i (t1.1 2 i1 1)]) (mc1 := 0) (ms1 := 0) (mc2 := 0) (ms2 := 0) fm_3_126 fl_3_126 (by decide +kernel) (rm_3_refreshNode_10_stretch) rfl rfl rfl (C10_stretch l (t1.1 2 n1 1) (t1.1 2 i1 1) t1) ?_
  refine sr_kI (fun v2 t2 => ?_)
  refine sr_pI (pc := 93) fg_3_119 ft_2_7 (by decide +kernel) (sr_in2 _ (by omega)) (fun _ => rfl) (fun t3 => ?_)
  exact sr_ret (pc := 96) (by decide +kernel) rfl
def F3_refreshNode (i0 : Nat) (i1 : Nat) (t : sr_t) : sr_Rs := (sr_lt (sr_u t 2 i1 5 ((-1))) (fun t1 => (sr_lt (sr_u t1 2 i1 6 0) (fun t2 => (sr_lt (sr_u t2 2 i1 7 0) (fun t3 => (if (t3.1 2 i1 2) = 0 then (some (.inl none, t3)) else (sr_lt (sr_u t3 3 i0 4 ((t3.1 3 i0 4) + 1)) (fun t4 => (sr_bI (F3_findNext i0 i1 t4) (fun v5 t5 => (sr_lt (sr_u t5 2 i1 5 v5) (fun t6 => (if (t6.1 2 i1 5) = ((-1)) then f3_refreshNode_72 i0 i1 t6 else (sr_bR 2 50 (F3_of i0 (t6.1 2 i1 5) t6) (fun n7 t7 => (sr_bI (sr_nt (F10_stretch (t6.1 2 i1 1) (t7.1 2 n7 1) t7)) (fun v8 t8 => (sr_lt (sr_u t8 2 i1 6 v8) (fun t9 => f3_refreshNode_72 i0 i1 t9))))))))))))))))))))
theorem C3_refreshNode (l : Launch) (i0 : Nat) (i1 : Nat) (hv_i0 : i0 < 2) (hv_i1 : i1 < 50) (t : sr_t) : sr_ct' l sr_m3_refreshNode [sr_r 3 i0, sr_r 2 i1] t (F3_refreshNode i0 i1 t) 0 0 := by
  refine sr_T_of (L0 := [some (sr_r 3 i0), some (sr_r 2 i1)]) rfl (by decide +kernel) (fun _ => rfl) (fun _ => Nat.le_of_ble_eq_true rfl) ?_
  unfold F3_refreshNode
  refine sr_aloadn (pc := 0) (n := 1) (by decide +kernel) rfl ?_
  refine sr_iconst (pc := 1) (n := (-1)) (v := (-1)) (by decide +kernel) rfl ?_
  refine sr_pI (pc := 2) fg_3_113 ft_2_5 (by decide +kernel) (sr_in2 _ (by omega)) (fun _ => rfl) (fun t1 => ?_)
  refine sr_aloadn (pc := 5) (n := 1) (by decide +kernel) rfl ?_
  refine sr_iconst (pc := 6) (n := 0) (v := 0) (by decide +kernel) rfl ?_
  refine sr_pI (pc := 7) fg_3_116 ft_2_6 (by decide +kernel) (sr_in2 _ (by omega)) (fun _ => rfl) (fun t2 => ?_)
  refine sr_aloadn (pc := 10) (n := 1) (by decide +kernel) rfl ?_
  refine sr_iconst (pc := 11) (n := 0) (v := 0) (by decide +kernel) rfl ?_
  refine sr_pI (pc := 12) fg_3_119 ft_2_7 (by decide +kernel) (sr_in2 _ (by omega)) (fun _ => rfl) (fun t3 => ?_)
  refine sr_aloadn (pc := 15) (n := 1) (by decide +kernel) rfl ?_
  refine sr_gI (pc := 16) fg_3_68 (by decide +kernel) (sr_in2 _ (by omega)) (fun _ => rfl) ?_
  refine sr_if_ne (pc := 19) (off := 4) (tg := 23) (by decide +kernel) (by decide) (fun _ => ?_) (fun _ => ?_)
  · refine sr_aloadn (pc := 23) (n := 0) (by decide +kernel) rfl ?_
    refine sr_dup (pc := 24) (by decide +kernel) rfl ?_
    refine sr_gI (pc := 25) fg_3_107 (by decide +kernel) (sr_in3 _ (by omega)) (fun _ => rfl) ?_
    refine sr_iconst (pc := 28) (n := 1) (v := 1) (by decide +kernel) rfl ?_
    refine sr_iadd (pc := 29) (by decide +kernel) ?_
    refine sr_pI (pc := 30) fg_3_107 ft_3_4 (by decide +kernel) (sr_in3 _ (by omega)) (fun _ => rfl) (fun t4 => ?_)
    refine sr_aloadn (pc := 33) (n := 1) (by decide +kernel) rfl ?_
    refine sr_aloadn (pc := 34) (n := 0) (by decide +kernel) rfl ?_
    refine sr_aloadn (pc := 35) (n := 1) (by decide +kernel) rfl ?_
    refine sr_cV (pc := 36) (As := [sr_r 2 i1]) (mc1 := 0) (ms1 := 0) (mc2 := 0) (ms2 := 0) fm_3_122 fl_3_122 (by decide +kernel) (sr_in3 _ (by omega)) (rm_3_refreshNode_3_findNext) rfl rfl rfl (C3_findNext l i0 i1 (by omega) (by omega) t4) ?_
    refine sr_kI (fun v5 t5 => ?_)
    refine sr_pI (pc := 39) fg_3_113 ft_2_5 (by decide +kernel) (sr_in2 _ (by omega)) (fun _ => rfl) (fun t6 => ?_)
    refine sr_aloadn (pc := 42) (n := 1) (by decide +kernel) rfl ?_
    refine sr_gI (pc := 43) fg_3_113 (by decide +kernel) (sr_in2 _ (by omega)) (fun _ => rfl) ?_
    refine sr_iconst (pc := 46) (n := (-1)) (v := (-1)) (by decide +kernel) rfl ?_
    refine sr_icmp_eq (pc := 47) (off := 25) (tg := 72) (by decide +kernel) (by decide) (fun _ => ?_) (fun _ => ?_)
    · exact sr_wk (sr_mono (mc := 0) (ms := 0) (by omega) (by omega) (g3_refreshNode_72 l i0 i1 hv_i0 hv_i1 t6)) ⟨rfl, ⟨rfl, trivial⟩⟩
    · refine sr_aloadn (pc := 50) (n := 1) (by decide +kernel) rfl ?_
      refine sr_aloadn (pc := 51) (n := 1) (by decide +kernel) rfl ?_
      refine sr_gI (pc := 52) fg_3_58 (by decide +kernel) (sr_in2 _ (by omega)) (fun _ => rfl) ?_
      refine sr_aloadn (pc := 55) (n := 0) (by decide +kernel) rfl ?_
      refine sr_aloadn (pc := 56) (n := 1) (by decide +kernel) rfl ?_
      refine sr_gI (pc := 57) fg_3_113 (by decide +kernel) (sr_in2 _ (by omega)) (fun _ => rfl) ?_
      refine sr_cV (pc := 60) (As := [sr_i (t6.1 2 i1 5)]) (mc1 := 0) (ms1 := 0) (mc2 := 0) (ms2 := 0) fm_3_54 fl_3_54 (by decide +kernel) (sr_in3 _ (by omega)) (rm_3_refreshNode_3_of) rfl rfl rfl (C3_of l i0 (t6.1 2 i1 5) (by omega) t6) ?_
      refine sr_kR (fun n7 t7 hv_n7 => ?_)
      refine sr_gI (pc := 63) fg_3_58 (by decide +kernel) (sr_in2 _ (by omega)) (fun _ => rfl) ?_
      refine sr_cSN (pc := 66) (As := [sr_i (t6.1 2 i1 1), sr_i (t7.1 2 n7 1)]) (mc1 := 0) (ms1 := 0) (mc2 := 0) (ms2 := 0) fm_3_126 fl_3_126 (by decide +kernel) (rm_3_refreshNode_10_stretch) rfl rfl rfl (C10_stretch l (t6.1 2 i1 1) (t7.1 2 n7 1) t7) ?_
      refine sr_kI (fun v8 t8 => ?_)
      refine sr_pI (pc := 69) fg_3_116 ft_2_6 (by decide +kernel) (sr_in2 _ (by omega)) (fun _ => rfl) (fun t9 => ?_)
      exact sr_wk (sr_mono (mc := 0) (ms := 0) (by omega) (by omega) (g3_refreshNode_72 l i0 i1 hv_i0 hv_i1 t9)) ⟨rfl, ⟨rfl, trivial⟩⟩
  · exact sr_ret (pc := 22) (by decide +kernel) rfl
def f3_refresh_7 (i0 : Nat) (k30 : sr_t → sr_Rs) : Nat → Int32 → sr_t → sr_Rs
  | 0 => fun _ _ => none
  | n + 1 => fun x1 t => (if (t.1 3 i0 3) ≤ x1 then k30 t else (sr_bR 2 50 (F3_of i0 x1 t) (fun n1 t1 => (sr_bV (F3_refreshNode i0 n1 t1) (fun t2 => (f3_refresh_7 i0 k30 n) (x1 + 1) t2)))))
theorem g3_refresh_7 (l : Launch) (i0 : Nat) (hv_i0 : i0 < 2) (k30 : sr_t → sr_Rs) (hk30 : ∀ (t : sr_t), sr_g l sr_m3_refresh 30 [some (sr_r 3 i0), none] [] t (k30 t) 0 0) : ∀ (n : Nat) (x1 : Int32), ∀ (t : sr_t), sr_g l sr_m3_refresh 7 [some (sr_r 3 i0), some (sr_i x1)] [] t (f3_refresh_7 i0 k30 n x1 t) 0 0 := by
  intro n
  induction n with
  | zero => intros; exact sr_Gn
  | succ n ih =>
    intro x1  t
    unfold f3_refresh_7
    refine sr_iloadn (pc := 7) (n := 1) (by decide +kernel) rfl ?_
    refine sr_aloadn (pc := 8) (n := 0) (by decide +kernel) rfl ?_
    refine sr_gI (pc := 9) fg_3_51 (by decide +kernel) (sr_in3 _ (by omega)) (fun _ => rfl) ?_
    refine sr_icmp_ge (pc := 12) (off := 18) (tg := 30) (by decide +kernel) (by decide) (fun _ => ?_) (fun _ => ?_)
    · exact sr_wk (sr_mono (mc := 0) (ms := 0) (by omega) (by omega) (hk30 t)) ⟨rfl, trivial⟩
    · refine sr_aloadn (pc := 15) (n := 0) (by decide +kernel) rfl ?_
      refine sr_aloadn (pc := 16) (n := 0) (by decide +kernel) rfl ?_
      refine sr_iloadn (pc := 17) (n := 1) (by decide +kernel) rfl ?_
      refine sr_cV (pc := 18) (As := [sr_i x1]) (mc1 := 0) (ms1 := 0) (mc2 := 0) (ms2 := 0) fm_3_54 fl_3_54 (by decide +kernel) (sr_in3 _ (by omega)) (rm_3_refresh_3_of) rfl rfl rfl (C3_of l i0 x1 (by omega) t) ?_
      refine sr_kR (fun n1 t1 hv_n1 => ?_)
      refine sr_cV (pc := 21) (As := [sr_r 2 n1]) (mc1 := 0) (ms1 := 0) (mc2 := 0) (ms2 := 0) fm_3_110 fl_3_110 (by decide +kernel) (sr_in3 _ (by omega)) (rm_3_refresh_3_refreshNode) rfl rfl rfl (C3_refreshNode l i0 n1 (by omega) (by omega) t1) ?_
      refine sr_kV (fun t2 => ?_)
      refine sr_iinc (pc := 24) (i := 1) (n := 1) (w := x1 + 1) (by decide +kernel) rfl rfl (by decide) rfl rfl ?_
      refine sr_goto (pc := 27) (off := (-20)) (tg := 7) (by decide +kernel) (by decide) ?_
      exact sr_wk (sr_mono (mc := 0) (ms := 0) (by omega) (by omega) (ih (x1 + 1) t2)) ⟨rfl, ⟨rfl, trivial⟩⟩
def f3_refresh_30 (i0 : Nat)  : sr_t → sr_Rs := fun  t => (some (.inl none, t))
theorem g3_refresh_30 (l : Launch) (i0 : Nat) (hv_i0 : i0 < 2)   : ∀ (t : sr_t), sr_g l sr_m3_refresh 30 [some (sr_r 3 i0), none] [] t (f3_refresh_30 i0   t) 0 0 := by
  intro t
  unfold f3_refresh_30
  exact sr_ret (pc := 30) (by decide +kernel) rfl
def F3_refresh (i0 : Nat) (t : sr_t) : sr_Rs := (sr_lt (sr_u t 3 i0 4 0) (fun t1 => f3_refresh_7 i0 (f3_refresh_30 i0) sr_fu 0 t1))
theorem C3_refresh (l : Launch) (i0 : Nat) (hv_i0 : i0 < 2) (t : sr_t) : sr_ct' l sr_m3_refresh [sr_r 3 i0] t (F3_refresh i0 t) 0 0 := by
  refine sr_T_of (L0 := [some (sr_r 3 i0), none]) rfl (by decide +kernel) (fun _ => rfl) (fun _ => Nat.le_of_ble_eq_true rfl) ?_
  unfold F3_refresh
  refine sr_aloadn (pc := 0) (n := 0) (by decide +kernel) rfl ?_
  refine sr_iconst (pc := 1) (n := 0) (v := 0) (by decide +kernel) rfl ?_
  refine sr_pI (pc := 2) fg_3_107 ft_3_4 (by decide +kernel) (sr_in3 _ (by omega)) (fun _ => rfl) (fun t1 => ?_)
  refine sr_iconst (pc := 5) (n := 0) (v := 0) (by decide +kernel) rfl ?_
  refine sr_istoren (pc := 6) (n := 1) (by decide +kernel) (by decide) rfl rfl ?_
  exact sr_wk (sr_mono (mc := 0) (ms := 0) (by omega) (by omega) (g3_refresh_7 l i0 hv_i0 (f3_refresh_30 i0) (g3_refresh_30 l i0 hv_i0) sr_fu 0 t1)) ⟨rfl, ⟨rfl, trivial⟩⟩
def f3_layAllAgain_38 (i0 : Nat) (k2 : Int32 → sr_t → sr_Rs) (k44 : sr_t → sr_Rs) : Int32 → sr_t → sr_Rs := fun x1 t => k2 (x1 + 1) t
theorem g3_layAllAgain_38 (l : Launch) (i0 : Nat) (hv_i0 : i0 < 2) (k2 : Int32 → sr_t → sr_Rs) (k44 : sr_t → sr_Rs) (hk2 : ∀ (x1 : Int32), ∀ (t : sr_t), sr_g l sr_m3_layAllAgain 2 [some (sr_r 3 i0), some (sr_i x1)] [] t (k2 x1 t) 0 0) (hk44 : ∀ (t : sr_t), sr_g l sr_m3_layAllAgain 44 [some (sr_r 3 i0), none] [] t (k44 t) 0 0) : ∀ (x1 : Int32), ∀ (t : sr_t), sr_g l sr_m3_layAllAgain 38 [some (sr_r 3 i0), some (sr_i x1)] [] t (f3_layAllAgain_38 i0 k2 k44 x1 t) 0 0 := by
  intro x1  t
  unfold f3_layAllAgain_38
  refine sr_iinc (pc := 38) (i := 1) (n := 1) (w := x1 + 1) (by decide +kernel) rfl rfl (by decide) rfl rfl ?_
  refine sr_goto (pc := 41) (off := (-39)) (tg := 2) (by decide +kernel) (by decide) ?_
  exact sr_wk (sr_mono (mc := 0) (ms := 0) (by omega) (by omega) (hk2 (x1 + 1) t)) ⟨rfl, ⟨rfl, trivial⟩⟩
def f3_layAllAgain_2 (i0 : Nat) (k44 : sr_t → sr_Rs) : Nat → Int32 → sr_t → sr_Rs
  | 0 => fun _ _ => none
  | n + 1 => fun x1 t => (if (t.1 3 i0 3) ≤ x1 then k44 t else (sr_bR 2 50 (F3_of i0 x1 t) (fun n1 t1 => (if (t1.1 2 n1 2) = 0 then f3_layAllAgain_38 i0 (f3_layAllAgain_2 i0 k44 n) k44 x1 t1 else (sr_bR 2 50 (F3_of i0 x1 t1) (fun n2 t2 => (sr_bR 2 50 (F3_of i0 x1 t2) (fun n3 t3 => (sr_bV (F3_layInto i0 n2 n3 t3) (fun t4 => f3_layAllAgain_38 i0 (f3_layAllAgain_2 i0 k44 n) k44 x1 t4))))))))))
theorem g3_layAllAgain_2 (l : Launch) (i0 : Nat) (hv_i0 : i0 < 2) (k44 : sr_t → sr_Rs) (hk44 : ∀ (t : sr_t), sr_g l sr_m3_layAllAgain 44 [some (sr_r 3 i0), none] [] t (k44 t) 0 0) : ∀ (n : Nat) (x1 : Int32), ∀ (t : sr_t), sr_g l sr_m3_layAllAgain 2 [some (sr_r 3 i0), some (sr_i x1)] [] t (f3_layAllAgain_2 i0 k44 n x1 t) 0 0 := by
  intro n
  induction n with
  | zero => intros; exact sr_Gn
  | succ n ih =>
    intro x1  t
    unfold f3_layAllAgain_2
    refine sr_iloadn (pc := 2) (n := 1) (by decide +kernel) rfl ?_
    refine sr_aloadn (pc := 3) (n := 0) (by decide +kernel) rfl ?_
    refine sr_gI (pc := 4) fg_3_51 (by decide +kernel) (sr_in3 _ (by omega)) (fun _ => rfl) ?_
    refine sr_icmp_ge (pc := 7) (off := 37) (tg := 44) (by decide +kernel) (by decide) (fun _ => ?_) (fun _ => ?_)
    · exact sr_wk (sr_mono (mc := 0) (ms := 0) (by omega) (by omega) (hk44 t)) ⟨rfl, trivial⟩
    · refine sr_aloadn (pc := 10) (n := 0) (by decide +kernel) rfl ?_
      refine sr_iloadn (pc := 11) (n := 1) (by decide +kernel) rfl ?_
      refine sr_cV (pc := 12) (As := [sr_i x1]) (mc1 := 0) (ms1 := 0) (mc2 := 0) (ms2 := 0) fm_3_54 fl_3_54 (by decide +kernel) (sr_in3 _ (by omega)) (rm_3_layAllAgain_3_of) rfl rfl rfl (C3_of l i0 x1 (by omega) t) ?_
      refine sr_kR (fun n1 t1 hv_n1 => ?_)
      refine sr_gI (pc := 15) fg_3_68 (by decide +kernel) (sr_in2 _ (by omega)) (fun _ => rfl) ?_
      refine sr_if_eq (pc := 18) (off := 20) (tg := 38) (by decide +kernel) (by decide) (fun _ => ?_) (fun _ => ?_)
      · exact sr_wk (sr_mono (mc := 0) (ms := 0) (by omega) (by omega) (g3_layAllAgain_38 l i0 hv_i0 (f3_layAllAgain_2 i0 k44 n) k44 ih hk44 x1 t1)) ⟨rfl, ⟨rfl, trivial⟩⟩
      · refine sr_aloadn (pc := 21) (n := 0) (by decide +kernel) rfl ?_
        refine sr_aloadn (pc := 22) (n := 0) (by decide +kernel) rfl ?_
        refine sr_iloadn (pc := 23) (n := 1) (by decide +kernel) rfl ?_
        refine sr_cV (pc := 24) (As := [sr_i x1]) (mc1 := 0) (ms1 := 0) (mc2 := 0) (ms2 := 0) fm_3_54 fl_3_54 (by decide +kernel) (sr_in3 _ (by omega)) (rm_3_layAllAgain_3_of) rfl rfl rfl (C3_of l i0 x1 (by omega) t1) ?_
        refine sr_kR (fun n2 t2 hv_n2 => ?_)
        refine sr_gC (pc := 27) (i2 := n2) fg_3_78 (by decide +kernel) (sr_in2 _ (by omega)) (fun _ => rfl) ?_
        refine sr_aloadn (pc := 30) (n := 0) (by decide +kernel) rfl ?_
        refine sr_iloadn (pc := 31) (n := 1) (by decide +kernel) rfl ?_
        refine sr_cV (pc := 32) (As := [sr_i x1]) (mc1 := 0) (ms1 := 0) (mc2 := 0) (ms2 := 0) fm_3_54 fl_3_54 (by decide +kernel) (sr_in3 _ (by omega)) (rm_3_layAllAgain_3_of) rfl rfl rfl (C3_of l i0 x1 (by omega) t2) ?_
        refine sr_kR (fun n3 t3 hv_n3 => ?_)
        refine sr_cV (pc := 35) (As := [sr_r 7 n2, sr_r 2 n3]) (mc1 := 0) (ms1 := 0) (mc2 := 0) (ms2 := 0) fm_3_81 fl_3_81 (by decide +kernel) (sr_in3 _ (by omega)) (rm_3_layAllAgain_3_layInto) rfl rfl rfl (C3_layInto l i0 n2 n3 (by omega) (by omega) (by omega) t3) ?_
        refine sr_kV (fun t4 => ?_)
        exact sr_wk (sr_mono (mc := 0) (ms := 0) (by omega) (by omega) (g3_layAllAgain_38 l i0 hv_i0 (f3_layAllAgain_2 i0 k44 n) k44 ih hk44 x1 t4)) ⟨rfl, ⟨rfl, trivial⟩⟩
def f3_layAllAgain_44 (i0 : Nat)  : sr_t → sr_Rs := fun  t => (sr_bV (F3_refresh i0 t) (fun t1 => (some (.inl none, t1))))
theorem g3_layAllAgain_44 (l : Launch) (i0 : Nat) (hv_i0 : i0 < 2)   : ∀ (t : sr_t), sr_g l sr_m3_layAllAgain 44 [some (sr_r 3 i0), none] [] t (f3_layAllAgain_44 i0   t) 0 0 := by
  intro t
  unfold f3_layAllAgain_44
  refine sr_aloadn (pc := 44) (n := 0) (by decide +kernel) rfl ?_
  refine sr_cV (pc := 45) (As := []) (mc1 := 0) (ms1 := 0) (mc2 := 0) (ms2 := 0) fm_3_75 fl_3_75 (by decide +kernel) (sr_in3 _ (by omega)) (rm_3_layAllAgain_3_refresh) rfl rfl rfl (C3_refresh l i0 (by omega) t) ?_
  refine sr_kV (fun t1 => ?_)
  exact sr_ret (pc := 48) (by decide +kernel) rfl
def F3_layAllAgain (i0 : Nat) (t : sr_t) : sr_Rs := f3_layAllAgain_2 i0 (f3_layAllAgain_44 i0) sr_fu 0 t
theorem C3_layAllAgain (l : Launch) (i0 : Nat) (hv_i0 : i0 < 2) (t : sr_t) : sr_ct' l sr_m3_layAllAgain [sr_r 3 i0] t (F3_layAllAgain i0 t) 0 0 := by
  refine sr_T_of (L0 := [some (sr_r 3 i0), none]) rfl (by decide +kernel) (fun _ => rfl) (fun _ => Nat.le_of_ble_eq_true rfl) ?_
  unfold F3_layAllAgain
  refine sr_iconst (pc := 0) (n := 0) (v := 0) (by decide +kernel) rfl ?_
  refine sr_istoren (pc := 1) (n := 1) (by decide +kernel) (by decide) rfl rfl ?_
  exact sr_wk (sr_mono (mc := 0) (ms := 0) (by omega) (by omega) (g3_layAllAgain_2 l i0 hv_i0 (f3_layAllAgain_44 i0) (g3_layAllAgain_44 l i0 hv_i0) sr_fu 0 t)) ⟨rfl, ⟨rfl, trivial⟩⟩
