def sr_m4_init : sr_M := (⟨"ShiftRing$Row", "<init>", "()V"⟩, prog_6_method_1_code, 1, none, [], 1, 20)
def sr_m7_init : sr_M := (⟨"ShiftRing$Table", "<init>", "()V"⟩, prog_9_method_1_code, 1, none, [], 2, 40)
def sr_m2_init : sr_M := (⟨"ShiftRing$Node", "<init>", "(I)V"⟩, prog_4_method_1_code, 2, none, [], 3, 60)
def sr_m3_init : sr_M := (⟨"ShiftRing$Ring", "<init>", "()V"⟩, prog_5_method_1_code, 2, none, [], 4, 81)
def sr_m0_init : sr_M := (⟨"ShiftRing$Entry", "<init>", "()V"⟩, prog_2_method_1_code, 1, none, [], 1, 20)
def sr_m6_init : sr_M := (⟨"ShiftRing$Store", "<init>", "()V"⟩, prog_8_method_1_code, 2, none, [], 2, 40)
def sr_m8_init : sr_M := (⟨"ShiftRing$Trip", "<init>", "(LShiftRing$Ring;)V"⟩, prog_10_method_1_code, 2, none, [], 2, 40)
def sr_m5_init : sr_M := (⟨"ShiftRing$Sample", "<init>", "(LShiftRing$Ring;)V"⟩, prog_7_method_1_code, 2, none, [], 3, 61)
def sr_m1_init : sr_M := (⟨"ShiftRing$Forecast", "<init>", "(LShiftRing$Sample;)V"⟩, prog_3_method_1_code, 2, none, [], 5, 102)
def sr_m9_init : sr_M := (⟨"ShiftRing$Ways", "<init>", "()V"⟩, prog_11_method_1_code, 1, none, [], 1, 20)
def sr_m10_init : sr_M := (⟨"ShiftRing", "<init>", "()V"⟩, prog_1_method_1_code, 1, none, [], 6, 123)
def sr_m11_init : sr_M := (⟨"ShiftRingModel", "<init>", "()V"⟩, prog_13_method_1_code, 1, none, [], 1, 20)
theorem fg_0_9 : sr_FG "ShiftRing$Entry" 9 0 0 4 := ⟨RX0, TX0, tyX0, rfl, by decide, rfl, uw_0, tyX0_ok, nmX0, Or.inl (sr_tb (n := 207) (by decide +kernel) rfl)⟩
theorem fg_2_18 : sr_FG "ShiftRing$Node" 18 2 5 8 := ⟨RX2, TX2, tyX2, rfl, by decide, rfl, uw_2, tyX2_ok, nmX2, Or.inl (sr_tb (n := 114) (by decide +kernel) rfl)⟩
theorem ft_0_2 : sr_FT 0 2 4 2 true := ⟨RX0, TX0, rfl, rfl, fun _ => rfl, Or.inr ⟨.int, by decide +kernel⟩⟩
theorem ft_0_3 : sr_FT 0 3 4 2 true := ⟨RX0, TX0, rfl, rfl, fun _ => rfl, Or.inr ⟨.int, by decide +kernel⟩⟩
theorem ft_1_0 : sr_FT 1 0 2 2 true := ⟨RX1, TX1, rfl, rfl, fun _ => rfl, Or.inl ⟨"ShiftRing$Ring", by decide +kernel⟩⟩
theorem ft_1_1 : sr_FT 1 1 2 2 true := ⟨RX1, TX1, rfl, rfl, fun _ => rfl, Or.inl ⟨"ShiftRing$Sample", by decide +kernel⟩⟩
theorem ft_2_0 : sr_FT 2 0 8 0 true := ⟨RX2, TX2, rfl, rfl, fun _ => rfl, (show parseFieldDescriptor (TX2 0).2.2.1 = some .int from by decide +kernel)⟩
theorem ft_2_4 : sr_FT 2 4 8 2 true := ⟨RX2, TX2, rfl, rfl, fun _ => rfl, Or.inl ⟨"ShiftRing$Table", by decide +kernel⟩⟩
theorem ft_3_0 : sr_FT 3 0 9 2 true := ⟨RX3, TX3, rfl, rfl, fun _ => rfl, Or.inr ⟨.object "ShiftRing$Node", by decide +kernel⟩⟩
theorem ft_3_1 : sr_FT 3 1 9 2 true := ⟨RX3, TX3, rfl, rfl, fun _ => rfl, Or.inl ⟨"ShiftRing$Node", by decide +kernel⟩⟩
theorem ft_3_2 : sr_FT 3 2 9 2 true := ⟨RX3, TX3, rfl, rfl, fun _ => rfl, Or.inl ⟨"ShiftRing$Table", by decide +kernel⟩⟩
theorem ft_4_0 : sr_FT 4 0 2 2 true := ⟨RX4, TX4, rfl, rfl, fun _ => rfl, Or.inr ⟨.int, by decide +kernel⟩⟩
theorem ft_5_0 : sr_FT 5 0 11 2 true := ⟨RX5, TX5, rfl, rfl, fun _ => rfl, Or.inl ⟨"ShiftRing$Trip", by decide +kernel⟩⟩
theorem ft_5_1 : sr_FT 5 1 11 2 true := ⟨RX5, TX5, rfl, rfl, fun _ => rfl, Or.inr ⟨.int, by decide +kernel⟩⟩
theorem ft_5_2 : sr_FT 5 2 11 2 true := ⟨RX5, TX5, rfl, rfl, fun _ => rfl, Or.inr ⟨.int, by decide +kernel⟩⟩
theorem ft_6_0 : sr_FT 6 0 5 2 true := ⟨RX6, TX6, rfl, rfl, fun _ => rfl, Or.inr ⟨.object "ShiftRing$Entry", by decide +kernel⟩⟩
theorem ft_6_1 : sr_FT 6 1 5 2 true := ⟨RX6, TX6, rfl, rfl, fun _ => rfl, Or.inl ⟨"ShiftRing$Entry", by decide +kernel⟩⟩
theorem ft_7_1 : sr_FT 7 1 3 2 true := ⟨RX7, TX7, rfl, rfl, fun _ => rfl, Or.inl ⟨"ShiftRing$Row", by decide +kernel⟩⟩
theorem ft_7_2 : sr_FT 7 2 3 2 true := ⟨RX7, TX7, rfl, rfl, fun _ => rfl, Or.inl ⟨"ShiftRing$Row", by decide +kernel⟩⟩
theorem ft_8_15 : sr_FT 8 15 17 2 true := ⟨RX8, TX8, rfl, rfl, fun _ => rfl, Or.inr ⟨.int, by decide +kernel⟩⟩
theorem ft_8_16 : sr_FT 8 16 17 2 true := ⟨RX8, TX8, rfl, rfl, fun _ => rfl, Or.inl ⟨"ShiftRing$Row", by decide +kernel⟩⟩
theorem ft_9_0 : sr_FT 9 0 3 2 true := ⟨RX9, TX9, rfl, rfl, fun _ => rfl, Or.inr ⟨.int, by decide +kernel⟩⟩
theorem ft_9_1 : sr_FT 9 1 3 2 true := ⟨RX9, TX9, rfl, rfl, fun _ => rfl, Or.inr ⟨.long, by decide +kernel⟩⟩
theorem ft_9_2 : sr_FT 9 2 3 2 true := ⟨RX9, TX9, rfl, rfl, fun _ => rfl, Or.inr ⟨.int, by decide +kernel⟩⟩
theorem ft_10_0 : sr_FT 10 0 7 2 true := ⟨RX10, TX10, rfl, rfl, fun _ => rfl, Or.inl ⟨"ShiftRing$Ring", by decide +kernel⟩⟩
theorem ft_10_1 : sr_FT 10 1 7 2 true := ⟨RX10, TX10, rfl, rfl, fun _ => rfl, Or.inl ⟨"ShiftRing$Store", by decide +kernel⟩⟩
theorem ft_10_2 : sr_FT 10 2 7 2 true := ⟨RX10, TX10, rfl, rfl, fun _ => rfl, Or.inl ⟨"ShiftRing$Trip", by decide +kernel⟩⟩
theorem ft_10_3 : sr_FT 10 3 7 2 true := ⟨RX10, TX10, rfl, rfl, fun _ => rfl, Or.inl ⟨"ShiftRing$Trip", by decide +kernel⟩⟩
theorem ft_10_4 : sr_FT 10 4 7 2 true := ⟨RX10, TX10, rfl, rfl, fun _ => rfl, Or.inl ⟨"ShiftRing$Sample", by decide +kernel⟩⟩
theorem ft_10_5 : sr_FT 10 5 7 2 true := ⟨RX10, TX10, rfl, rfl, fun _ => rfl, Or.inl ⟨"ShiftRing$Forecast", by decide +kernel⟩⟩
theorem ft_10_6 : sr_FT 10 6 7 2 true := ⟨RX10, TX10, rfl, rfl, fun _ => rfl, Or.inl ⟨"ShiftRing$Ways", by decide +kernel⟩⟩
theorem ft_11_2 : sr_FT 11 2 53 2 true := ⟨RX11, TX11, rfl, rfl, fun _ => rfl, Or.inr ⟨.int, by decide +kernel⟩⟩
theorem ft_11_3 : sr_FT 11 3 53 2 true := ⟨RX11, TX11, rfl, rfl, fun _ => rfl, Or.inr ⟨.int, by decide +kernel⟩⟩
theorem ft_11_4 : sr_FT 11 4 53 2 true := ⟨RX11, TX11, rfl, rfl, fun _ => rfl, Or.inr ⟨.int, by decide +kernel⟩⟩
theorem ft_11_5 : sr_FT 11 5 53 2 true := ⟨RX11, TX11, rfl, rfl, fun _ => rfl, Or.inr ⟨.int, by decide +kernel⟩⟩
theorem ft_11_6 : sr_FT 11 6 53 2 true := ⟨RX11, TX11, rfl, rfl, fun _ => rfl, Or.inr ⟨.int, by decide +kernel⟩⟩
theorem ft_11_23 : sr_FT 11 23 53 2 true := ⟨RX11, TX11, rfl, rfl, fun _ => rfl, Or.inr ⟨.int, by decide +kernel⟩⟩
theorem ft_11_24 : sr_FT 11 24 53 2 true := ⟨RX11, TX11, rfl, rfl, fun _ => rfl, Or.inr ⟨.int, by decide +kernel⟩⟩
theorem ft_11_25 : sr_FT 11 25 53 2 true := ⟨RX11, TX11, rfl, rfl, fun _ => rfl, Or.inr ⟨.int, by decide +kernel⟩⟩
theorem ft_11_26 : sr_FT 11 26 53 2 true := ⟨RX11, TX11, rfl, rfl, fun _ => rfl, Or.inr ⟨.int, by decide +kernel⟩⟩
theorem ft_11_27 : sr_FT 11 27 53 2 true := ⟨RX11, TX11, rfl, rfl, fun _ => rfl, Or.inr ⟨.int, by decide +kernel⟩⟩
theorem ft_11_29 : sr_FT 11 29 53 2 true := ⟨RX11, TX11, rfl, rfl, fun _ => rfl, Or.inr ⟨.int, by decide +kernel⟩⟩
theorem ft_11_31 : sr_FT 11 31 53 2 true := ⟨RX11, TX11, rfl, rfl, fun _ => rfl, Or.inr ⟨.int, by decide +kernel⟩⟩
theorem ft_11_32 : sr_FT 11 32 53 2 true := ⟨RX11, TX11, rfl, rfl, fun _ => rfl, Or.inr ⟨.int, by decide +kernel⟩⟩
theorem ft_11_35 : sr_FT 11 35 53 2 true := ⟨RX11, TX11, rfl, rfl, fun _ => rfl, Or.inr ⟨.int, by decide +kernel⟩⟩
theorem ft_11_36 : sr_FT 11 36 53 2 true := ⟨RX11, TX11, rfl, rfl, fun _ => rfl, Or.inr ⟨.int, by decide +kernel⟩⟩
theorem ft_11_37 : sr_FT 11 37 53 2 true := ⟨RX11, TX11, rfl, rfl, fun _ => rfl, Or.inr ⟨.int, by decide +kernel⟩⟩
theorem ft_11_38 : sr_FT 11 38 53 2 true := ⟨RX11, TX11, rfl, rfl, fun _ => rfl, Or.inr ⟨.int, by decide +kernel⟩⟩
theorem ft_11_39 : sr_FT 11 39 53 2 true := ⟨RX11, TX11, rfl, rfl, fun _ => rfl, Or.inr ⟨.int, by decide +kernel⟩⟩
theorem ft_11_48 : sr_FT 11 48 53 2 true := ⟨RX11, TX11, rfl, rfl, fun _ => rfl, Or.inr ⟨.int, by decide +kernel⟩⟩
theorem ft_11_49 : sr_FT 11 49 53 2 true := ⟨RX11, TX11, rfl, rfl, fun _ => rfl, Or.inr ⟨.int, by decide +kernel⟩⟩
theorem ft_11_50 : sr_FT 11 50 53 2 true := ⟨RX11, TX11, rfl, rfl, fun _ => rfl, Or.inr ⟨.int, by decide +kernel⟩⟩
theorem ft_11_51 : sr_FT 11 51 53 2 true := ⟨RX11, TX11, rfl, rfl, fun _ => rfl, Or.inr ⟨.int, by decide +kernel⟩⟩
theorem ft_11_52 : sr_FT 11 52 53 2 true := ⟨RX11, TX11, rfl, rfl, fun _ => rfl, Or.inr ⟨.int, by decide +kernel⟩⟩
theorem fl_10_11 : Cond.methodLink "ShiftRing" 11 (sr_My sr_m3_init) ∈ sr_TB := (sr_tb (n := 33) (by decide +kernel) rfl)
theorem fm_10_11 : sr_FI "ShiftRing" 11 sr_m3_init 0 := ⟨⟨rfl, sr_tb (n := 35) (by decide +kernel) rfl, sr_tb (n := 2) (by decide +kernel) rfl, ⟨by decide, by decide, by decide +kernel⟩, Or.inl fl_10_11⟩, sr_tb (n := 34) (by decide +kernel) rfl, rfl, rfl⟩
theorem fl_10_18 : Cond.methodLink "ShiftRing" 18 (sr_My sr_m6_init) ∈ sr_TB := (sr_tb (n := 196) (by decide +kernel) rfl)
theorem fm_10_18 : sr_FI "ShiftRing" 18 sr_m6_init 0 := ⟨⟨rfl, sr_tb (n := 198) (by decide +kernel) rfl, sr_tb (n := 6) (by decide +kernel) rfl, ⟨by decide, by decide, by decide +kernel⟩, Or.inl fl_10_18⟩, sr_tb (n := 197) (by decide +kernel) rfl, rfl, rfl⟩
theorem fl_10_25 : Cond.methodLink "ShiftRing" 25 (sr_My sr_m8_init) ∈ sr_TB := (sr_tb (n := 244) (by decide +kernel) rfl)
theorem fm_10_25 : sr_FI "ShiftRing" 25 sr_m8_init 1 := ⟨⟨rfl, sr_tb (n := 246) (by decide +kernel) rfl, sr_tb (n := 8) (by decide +kernel) rfl, ⟨by decide, by decide, by decide +kernel⟩, Or.inl fl_10_25⟩, sr_tb (n := 245) (by decide +kernel) rfl, rfl, rfl⟩
theorem fl_10_37 : Cond.methodLink "ShiftRing" 37 (sr_My sr_m5_init) ∈ sr_TB := (sr_tb (n := 322) (by decide +kernel) rfl)
theorem fm_10_37 : sr_FI "ShiftRing" 37 sr_m5_init 1 := ⟨⟨rfl, sr_tb (n := 324) (by decide +kernel) rfl, sr_tb (n := 9) (by decide +kernel) rfl, ⟨by decide, by decide, by decide +kernel⟩, Or.inl fl_10_37⟩, sr_tb (n := 323) (by decide +kernel) rfl, rfl, rfl⟩
theorem fl_10_44 : Cond.methodLink "ShiftRing" 44 (sr_My sr_m1_init) ∈ sr_TB := (sr_tb (n := 375) (by decide +kernel) rfl)
theorem fm_10_44 : sr_FI "ShiftRing" 44 sr_m1_init 1 := ⟨⟨rfl, sr_tb (n := 377) (by decide +kernel) rfl, sr_tb (n := 10) (by decide +kernel) rfl, ⟨by decide, by decide, by decide +kernel⟩, Or.inl fl_10_44⟩, sr_tb (n := 376) (by decide +kernel) rfl, rfl, rfl⟩
theorem fl_10_53 : Cond.methodLinkNest "ShiftRing" 53 (sr_My sr_m9_init) "ShiftRing" ∈ sr_NB := (sr_nb (n := 390) (by decide +kernel) rfl)
theorem fm_10_53 : sr_FI "ShiftRing" 53 sr_m9_init 0 := ⟨⟨rfl, sr_tb (n := 392) (by decide +kernel) rfl, sr_tb (n := 11) (by decide +kernel) rfl, ⟨by decide, by decide, by decide +kernel⟩, Or.inr ⟨_, fl_10_53⟩⟩, sr_tb (n := 391) (by decide +kernel) rfl, rfl, rfl⟩
theorem fl_1_11 : Cond.methodLink "ShiftRing$Forecast" 11 (sr_My sr_m3_init) ∈ sr_TB := (sr_tb (n := 380) (by decide +kernel) rfl)
theorem fm_1_11 : sr_FI "ShiftRing$Forecast" 11 sr_m3_init 0 := ⟨⟨rfl, sr_tb (n := 35) (by decide +kernel) rfl, sr_tb (n := 2) (by decide +kernel) rfl, ⟨by decide, by decide, by decide +kernel⟩, Or.inl fl_1_11⟩, sr_tb (n := 34) (by decide +kernel) rfl, rfl, rfl⟩
theorem fl_2_11 : Cond.methodLinkNest "ShiftRing$Node" 11 (sr_My sr_m7_init) "ShiftRing" ∈ sr_NB := (sr_nb (n := 46) (by decide +kernel) rfl)
theorem fm_2_11 : sr_FI "ShiftRing$Node" 11 sr_m7_init 0 := ⟨⟨rfl, sr_tb (n := 48) (by decide +kernel) rfl, sr_tb (n := 4) (by decide +kernel) rfl, ⟨by decide, by decide, by decide +kernel⟩, Or.inr ⟨_, fl_2_11⟩⟩, sr_tb (n := 47) (by decide +kernel) rfl, rfl, rfl⟩
theorem fl_3_17 : Cond.methodLink "ShiftRing$Ring" 17 (sr_My sr_m2_init) ∈ sr_TB := (sr_tb (n := 40) (by decide +kernel) rfl)
theorem fm_3_17 : sr_FI "ShiftRing$Ring" 17 sr_m2_init 1 := ⟨⟨rfl, sr_tb (n := 42) (by decide +kernel) rfl, sr_tb (n := 3) (by decide +kernel) rfl, ⟨by decide, by decide, by decide +kernel⟩, Or.inl fl_3_17⟩, sr_tb (n := 41) (by decide +kernel) rfl, rfl, rfl⟩
theorem fl_3_26 : Cond.methodLinkNest "ShiftRing$Ring" 26 (sr_My sr_m7_init) "ShiftRing" ∈ sr_NB := (sr_nb (n := 143) (by decide +kernel) rfl)
theorem fm_3_26 : sr_FI "ShiftRing$Ring" 26 sr_m7_init 0 := ⟨⟨rfl, sr_tb (n := 48) (by decide +kernel) rfl, sr_tb (n := 4) (by decide +kernel) rfl, ⟨by decide, by decide, by decide +kernel⟩, Or.inr ⟨_, fl_3_26⟩⟩, sr_tb (n := 47) (by decide +kernel) rfl, rfl, rfl⟩
theorem fl_5_20 : Cond.methodLink "ShiftRing$Sample" 20 (sr_My sr_m8_init) ∈ sr_TB := (sr_tb (n := 327) (by decide +kernel) rfl)
theorem fm_5_20 : sr_FI "ShiftRing$Sample" 20 sr_m8_init 1 := ⟨⟨rfl, sr_tb (n := 246) (by decide +kernel) rfl, sr_tb (n := 8) (by decide +kernel) rfl, ⟨by decide, by decide, by decide +kernel⟩, Or.inl fl_5_20⟩, sr_tb (n := 245) (by decide +kernel) rfl, rfl, rfl⟩
theorem fl_6_17 : Cond.methodLinkNest "ShiftRing$Store" 17 (sr_My sr_m0_init) "ShiftRing" ∈ sr_NB := (sr_nb (n := 203) (by decide +kernel) rfl)
theorem fm_6_17 : sr_FI "ShiftRing$Store" 17 sr_m0_init 0 := ⟨⟨rfl, sr_tb (n := 205) (by decide +kernel) rfl, sr_tb (n := 7) (by decide +kernel) rfl, ⟨by decide, by decide, by decide +kernel⟩, Or.inr ⟨_, fl_6_17⟩⟩, sr_tb (n := 204) (by decide +kernel) rfl, rfl, rfl⟩
theorem fl_7_9 : Cond.methodLinkNest "ShiftRing$Table" 9 (sr_My sr_m4_init) "ShiftRing" ∈ sr_NB := (sr_nb (n := 52) (by decide +kernel) rfl)
theorem fm_7_9 : sr_FI "ShiftRing$Table" 9 sr_m4_init 0 := ⟨⟨rfl, sr_tb (n := 54) (by decide +kernel) rfl, sr_tb (n := 5) (by decide +kernel) rfl, ⟨by decide, by decide, by decide +kernel⟩, Or.inr ⟨_, fl_7_9⟩⟩, sr_tb (n := 53) (by decide +kernel) rfl, rfl, rfl⟩
theorem fl_8_21 : Cond.methodLinkNest "ShiftRing$Trip" 21 (sr_My sr_m4_init) "ShiftRing" ∈ sr_NB := (sr_nb (n := 249) (by decide +kernel) rfl)
theorem fm_8_21 : sr_FI "ShiftRing$Trip" 21 sr_m4_init 0 := ⟨⟨rfl, sr_tb (n := 54) (by decide +kernel) rfl, sr_tb (n := 5) (by decide +kernel) rfl, ⟨by decide, by decide, by decide +kernel⟩, Or.inr ⟨_, fl_8_21⟩⟩, sr_tb (n := 53) (by decide +kernel) rfl, rfl, rfl⟩
theorem rm_10_init_1_init : sr_RM sr_m10_init sr_m1_init := ⟨Nat.le_of_ble_eq_true rfl, Nat.le_of_ble_eq_true rfl⟩
theorem rm_10_init_3_init : sr_RM sr_m10_init sr_m3_init := ⟨Nat.le_of_ble_eq_true rfl, Nat.le_of_ble_eq_true rfl⟩
theorem rm_10_init_5_init : sr_RM sr_m10_init sr_m5_init := ⟨Nat.le_of_ble_eq_true rfl, Nat.le_of_ble_eq_true rfl⟩
theorem rm_10_init_6_init : sr_RM sr_m10_init sr_m6_init := ⟨Nat.le_of_ble_eq_true rfl, Nat.le_of_ble_eq_true rfl⟩
theorem rm_10_init_8_init : sr_RM sr_m10_init sr_m8_init := ⟨Nat.le_of_ble_eq_true rfl, Nat.le_of_ble_eq_true rfl⟩
theorem rm_10_init_9_init : sr_RM sr_m10_init sr_m9_init := ⟨Nat.le_of_ble_eq_true rfl, Nat.le_of_ble_eq_true rfl⟩
theorem rm_1_init_3_init : sr_RM sr_m1_init sr_m3_init := ⟨Nat.le_of_ble_eq_true rfl, Nat.le_of_ble_eq_true rfl⟩
theorem rm_2_init_7_init : sr_RM sr_m2_init sr_m7_init := ⟨Nat.le_of_ble_eq_true rfl, Nat.le_of_ble_eq_true rfl⟩
theorem rm_3_init_2_init : sr_RM sr_m3_init sr_m2_init := ⟨Nat.le_of_ble_eq_true rfl, Nat.le_of_ble_eq_true rfl⟩
theorem rm_3_init_3_setBase : sr_RM sr_m3_init sr_m3_setBase := ⟨Nat.le_of_ble_eq_true rfl, Nat.le_of_ble_eq_true rfl⟩
theorem rm_3_init_7_init : sr_RM sr_m3_init sr_m7_init := ⟨Nat.le_of_ble_eq_true rfl, Nat.le_of_ble_eq_true rfl⟩
theorem rm_5_init_8_init : sr_RM sr_m5_init sr_m8_init := ⟨Nat.le_of_ble_eq_true rfl, Nat.le_of_ble_eq_true rfl⟩
theorem rm_6_init_0_init : sr_RM sr_m6_init sr_m0_init := ⟨Nat.le_of_ble_eq_true rfl, Nat.le_of_ble_eq_true rfl⟩
theorem rm_7_init_4_init : sr_RM sr_m7_init sr_m4_init := ⟨Nat.le_of_ble_eq_true rfl, Nat.le_of_ble_eq_true rfl⟩
theorem rm_8_init_4_init : sr_RM sr_m8_init sr_m4_init := ⟨Nat.le_of_ble_eq_true rfl, Nat.le_of_ble_eq_true rfl⟩
theorem fn_10_9 : sr_FN "ShiftRing" 9 3 9 (sr_df 3) := ⟨RX3, TX3, tyX3, rfl, rfl, uw_3, tyX3_ok, sr_tb (n := 31) (by decide +kernel) rfl, sr_tb (n := 32) (by decide +kernel) rfl, sr_tb (n := 2) (by decide +kernel) rfl, fun ad j hj => match j, hj with | 0, _ => rfl | 1, _ => rfl | 2, _ => rfl | 3, _ => rfl | 4, _ => rfl | 5, _ => rfl | 6, _ => rfl | 7, _ => rfl | 8, _ => rfl | _ + 9, hj => absurd hj (by omega)⟩
theorem fn_10_16 : sr_FN "ShiftRing" 16 6 5 (sr_df 6) := ⟨RX6, TX6, tyX6, rfl, rfl, uw_6, tyX6_ok, sr_tb (n := 194) (by decide +kernel) rfl, sr_tb (n := 195) (by decide +kernel) rfl, sr_tb (n := 6) (by decide +kernel) rfl, fun ad j hj => match j, hj with | 0, _ => rfl | 1, _ => rfl | 2, _ => rfl | 3, _ => rfl | 4, _ => rfl | _ + 5, hj => absurd hj (by omega)⟩
theorem fn_10_23 : sr_FN "ShiftRing" 23 8 17 (sr_df 8) := ⟨RX8, TX8, tyX8, rfl, rfl, uw_8, tyX8_ok, sr_tb (n := 242) (by decide +kernel) rfl, sr_tb (n := 243) (by decide +kernel) rfl, sr_tb (n := 8) (by decide +kernel) rfl, fun ad j hj => match j, hj with | 0, _ => rfl | 1, _ => rfl | 2, _ => rfl | 3, _ => rfl | 4, _ => rfl | 5, _ => rfl | 6, _ => rfl | 7, _ => rfl | 8, _ => rfl | 9, _ => rfl | 10, _ => rfl | 11, _ => rfl | 12, _ => rfl | 13, _ => rfl | 14, _ => rfl | 15, _ => rfl | 16, _ => rfl | _ + 17, hj => absurd hj (by omega)⟩
theorem fn_10_35 : sr_FN "ShiftRing" 35 5 11 (sr_df 5) := ⟨RX5, TX5, tyX5, rfl, rfl, uw_5, tyX5_ok, sr_tb (n := 320) (by decide +kernel) rfl, sr_tb (n := 321) (by decide +kernel) rfl, sr_tb (n := 9) (by decide +kernel) rfl, fun ad j hj => match j, hj with | 0, _ => rfl | 1, _ => rfl | 2, _ => rfl | 3, _ => rfl | 4, _ => rfl | 5, _ => rfl | 6, _ => rfl | 7, _ => rfl | 8, _ => rfl | 9, _ => rfl | 10, _ => rfl | _ + 11, hj => absurd hj (by omega)⟩
theorem fn_10_42 : sr_FN "ShiftRing" 42 1 2 (sr_df 1) := ⟨RX1, TX1, tyX1, rfl, rfl, uw_1, tyX1_ok, sr_tb (n := 373) (by decide +kernel) rfl, sr_tb (n := 374) (by decide +kernel) rfl, sr_tb (n := 10) (by decide +kernel) rfl, fun ad j hj => match j, hj with | 0, _ => rfl | 1, _ => rfl | _ + 2, hj => absurd hj (by omega)⟩
theorem fn_10_51 : sr_FN "ShiftRing" 51 9 3 (sr_df 9) := ⟨RX9, TX9, tyX9, rfl, rfl, uw_9, tyX9_ok, sr_tb (n := 388) (by decide +kernel) rfl, sr_tb (n := 389) (by decide +kernel) rfl, sr_tb (n := 11) (by decide +kernel) rfl, fun ad j hj => match j, hj with | 0, _ => rfl | 1, _ => rfl | 2, _ => rfl | _ + 3, hj => absurd hj (by omega)⟩
theorem fn_1_9 : sr_FN "ShiftRing$Forecast" 9 3 9 (sr_df 3) := ⟨RX3, TX3, tyX3, rfl, rfl, uw_3, tyX3_ok, sr_tb (n := 379) (by decide +kernel) rfl, sr_tb (n := 32) (by decide +kernel) rfl, sr_tb (n := 2) (by decide +kernel) rfl, fun ad j hj => match j, hj with | 0, _ => rfl | 1, _ => rfl | 2, _ => rfl | 3, _ => rfl | 4, _ => rfl | 5, _ => rfl | 6, _ => rfl | 7, _ => rfl | 8, _ => rfl | _ + 9, hj => absurd hj (by omega)⟩
theorem fn_2_9 : sr_FN "ShiftRing$Node" 9 7 3 (sr_df 7) := ⟨RX7, TX7, tyX7, rfl, rfl, uw_7, tyX7_ok, sr_tb (n := 44) (by decide +kernel) rfl, sr_tb (n := 45) (by decide +kernel) rfl, sr_tb (n := 4) (by decide +kernel) rfl, fun ad j hj => match j, hj with | 0, _ => rfl | 1, _ => rfl | 2, _ => rfl | _ + 3, hj => absurd hj (by omega)⟩
theorem fn_3_9 : sr_FN "ShiftRing$Ring" 9 2 8 (sr_df 2) := ⟨RX2, TX2, tyX2, rfl, rfl, uw_2, tyX2_ok, sr_tb (n := 37) (by decide +kernel) rfl, sr_tb (n := 39) (by decide +kernel) rfl, sr_tb (n := 3) (by decide +kernel) rfl, fun ad j hj => match j, hj with | 0, _ => rfl | 1, _ => rfl | 2, _ => rfl | 3, _ => rfl | 4, _ => rfl | 5, _ => rfl | 6, _ => rfl | 7, _ => rfl | _ + 8, hj => absurd hj (by omega)⟩
theorem fn_3_24 : sr_FN "ShiftRing$Ring" 24 7 3 (sr_df 7) := ⟨RX7, TX7, tyX7, rfl, rfl, uw_7, tyX7_ok, sr_tb (n := 142) (by decide +kernel) rfl, sr_tb (n := 45) (by decide +kernel) rfl, sr_tb (n := 4) (by decide +kernel) rfl, fun ad j hj => match j, hj with | 0, _ => rfl | 1, _ => rfl | 2, _ => rfl | _ + 3, hj => absurd hj (by omega)⟩
theorem fn_5_18 : sr_FN "ShiftRing$Sample" 18 8 17 (sr_df 8) := ⟨RX8, TX8, tyX8, rfl, rfl, uw_8, tyX8_ok, sr_tb (n := 326) (by decide +kernel) rfl, sr_tb (n := 243) (by decide +kernel) rfl, sr_tb (n := 8) (by decide +kernel) rfl, fun ad j hj => match j, hj with | 0, _ => rfl | 1, _ => rfl | 2, _ => rfl | 3, _ => rfl | 4, _ => rfl | 5, _ => rfl | 6, _ => rfl | 7, _ => rfl | 8, _ => rfl | 9, _ => rfl | 10, _ => rfl | 11, _ => rfl | 12, _ => rfl | 13, _ => rfl | 14, _ => rfl | 15, _ => rfl | 16, _ => rfl | _ + 17, hj => absurd hj (by omega)⟩
theorem fn_6_9 : sr_FN "ShiftRing$Store" 9 0 4 (sr_df 0) := ⟨RX0, TX0, tyX0, rfl, rfl, uw_0, tyX0_ok, sr_tb (n := 200) (by decide +kernel) rfl, sr_tb (n := 202) (by decide +kernel) rfl, sr_tb (n := 7) (by decide +kernel) rfl, fun ad j hj => match j, hj with | 0, _ => rfl | 1, _ => rfl | 2, _ => rfl | 3, _ => rfl | _ + 4, hj => absurd hj (by omega)⟩
theorem fn_7_7 : sr_FN "ShiftRing$Table" 7 4 2 (sr_df 4) := ⟨RX4, TX4, tyX4, rfl, rfl, uw_4, tyX4_ok, sr_tb (n := 50) (by decide +kernel) rfl, sr_tb (n := 51) (by decide +kernel) rfl, sr_tb (n := 5) (by decide +kernel) rfl, fun ad j hj => match j, hj with | 0, _ => rfl | 1, _ => rfl | _ + 2, hj => absurd hj (by omega)⟩
theorem fn_8_19 : sr_FN "ShiftRing$Trip" 19 4 2 (sr_df 4) := ⟨RX4, TX4, tyX4, rfl, rfl, uw_4, tyX4_ok, sr_tb (n := 248) (by decide +kernel) rfl, sr_tb (n := 51) (by decide +kernel) rfl, sr_tb (n := 5) (by decide +kernel) rfl, fun ad j hj => match j, hj with | 0, _ => rfl | 1, _ => rfl | _ + 2, hj => absurd hj (by omega)⟩
def FC4_init (i0 : Nat) (t : sr_c) : sr_R2 := (sr_nw t 12 i0 (fun h1 => (sr_if (sr_mb h1 4 i0) (sr_lh (h1.1, (4, i0, 0, sr_r 12 i0) :: h1.2) (fun h2 => (some (.inl none, h2)))))))
theorem CC4_init (l : Launch) (i0 : Nat) (t : sr_c) : sr_T sr_e2 l sr_m4_init [sr_r 4 i0] t (FC4_init i0 t) 1 8 := by
  refine sr_T_of (L0 := [some (sr_r 4 i0)]) rfl (by decide +kernel) (fun _ => rfl) (fun _ => Nat.le_of_ble_eq_true rfl) ?_
  unfold FC4_init
  refine sr_aloadn (pc := 0) (n := 0) (by decide +kernel) rfl ?_
  refine sr_objI (pc := 1) (idx := 3) (by decide +kernel) (sr_tb (n := 55) (by decide +kernel) rfl) oi_1 oi_2 (by decide) (by decide) rfl ?_
  refine sr_aloadn (pc := 4) (n := 0) (by decide +kernel) rfl ?_
  refine sr_bipush (pc := 5) (n := 8) (v := 8) (by decide +kernel) (by decide) ?_
  refine sr_newa2 (pc := 7) (k := 12) (n := 8) (i := i0) (at' := .int) (mc := 0) (ms := 0) rfl (Or.inl ⟨rfl, rfl⟩) ac_int (by decide +kernel) (fun _ => rfl) (by decide) (by decide) (by decide) (fun h1 => ?_)
  refine sr_chk _ (fun hm => ?_)
  refine sr_put (pc := 9) (t2 := (h1.1, (4, i0, 0, sr_r 12 i0) :: h1.2)) fg_4_9 ft_4_0 (by decide +kernel) (sr_mb_ok hm) ⟨_, _, rfl⟩ (fun _ => ⟨rfl, RX4, TX4, rfl, rfl, sr_tb (n := 56) (by decide +kernel) rfl⟩) (sr_e2_put _ _ _ _ _) ?_
  refine sr_gh _ (fun h2 => ?_)
  exact sr_ret (pc := 12) (by decide +kernel) rfl
def FC7_init (i0 : Nat) (t : sr_c) : sr_R2 := (sr_nw t 4 (2 * i0) (fun h1 => (sr_bd (sr_nt (sr_fk h1 1 (FC4_init (2 * i0) h1))) (sr_dV (fun h2 => (sr_if (sr_mb h2 7 i0) (sr_lh (h2.1, (7, i0, 1, sr_r 4 (2 * i0)) :: h2.2) (fun h3 => (sr_nw h3 4 (2 * i0 + 1) (fun h4 => (sr_bd (sr_nt (sr_fk h4 1 (FC4_init (2 * i0 + 1) h4))) (sr_dV (fun h5 => (sr_if (sr_mb h5 7 i0) (sr_lh (h5.1, (7, i0, 2, sr_r 4 (2 * i0 + 1)) :: h5.2) (fun h6 => (some (.inl none, h6))))))))))))))))))
theorem CC7_init (l : Launch) (i0 : Nat) (t : sr_c) : sr_T sr_e2 l sr_m7_init [sr_r 7 i0] t (FC7_init i0 t) 4 20 := by
  refine sr_T_of (L0 := [some (sr_r 7 i0)]) rfl (by decide +kernel) (fun _ => rfl) (fun _ => Nat.le_of_ble_eq_true rfl) ?_
  unfold FC7_init
  refine sr_aloadn (pc := 0) (n := 0) (by decide +kernel) rfl ?_
  refine sr_objI (pc := 1) (idx := 1) (by decide +kernel) (sr_tb (n := 49) (by decide +kernel) rfl) oi_1 oi_2 (by decide) (by decide) rfl ?_
  refine sr_aloadn (pc := 4) (n := 0) (by decide +kernel) rfl ?_
  refine sr_new2 (pc := 5) (i := (2 * i0)) (mc := 3) (ms := 18) fn_7_7 (by decide +kernel) (fun h1 => ?_)
  refine sr_dup (pc := 8) (by decide +kernel) rfl ?_
  refine sr_callI (pc := 9) (As := []) (mc1 := 1) (ms1 := 8) (mc2 := 2) (ms2 := 10) (fx := sr_fk h1 1 (FC4_init (2 * i0) h1)) fm_7_9 (by decide +kernel) rm_7_init_4_init rfl rfl rfl (sr_fk_ok h1 1 (FC4_init (2 * i0) h1)) (sr_fk_T (CC4_init l (2 * i0) h1)) (sr_kV (fun h2 => ?_))
  refine sr_chk _ (fun hm => ?_)
  refine sr_put (pc := 12) (t2 := (h2.1, (7, i0, 1, sr_r 4 (2 * i0)) :: h2.2)) fg_7_10 ft_7_1 (by decide +kernel) (sr_mb_ok hm) ⟨_, _, rfl⟩ (fun _ => ⟨rfl, RX7, TX7, rfl, rfl, sr_tb (n := 72) (by decide +kernel) rfl⟩) (sr_e2_put _ _ _ _ _) ?_
  refine sr_gh _ (fun h3 => ?_)
  refine sr_aloadn (pc := 15) (n := 0) (by decide +kernel) rfl ?_
  refine sr_new2 (pc := 16) (i := (2 * i0 + 1)) (mc := 1) (ms := 8) fn_7_7 (by decide +kernel) (fun h4 => ?_)
  refine sr_dup (pc := 19) (by decide +kernel) rfl ?_
  refine sr_callI (pc := 20) (As := []) (mc1 := 1) (ms1 := 8) (mc2 := 0) (ms2 := 0) (fx := sr_fk h4 1 (FC4_init (2 * i0 + 1) h4)) fm_7_9 (by decide +kernel) rm_7_init_4_init rfl rfl rfl (sr_fk_ok h4 1 (FC4_init (2 * i0 + 1) h4)) (sr_fk_T (CC4_init l (2 * i0 + 1) h4)) (sr_kV (fun h5 => ?_))
  refine sr_chk _ (fun hm => ?_)
  refine sr_put (pc := 23) (t2 := (h5.1, (7, i0, 2, sr_r 4 (2 * i0 + 1)) :: h5.2)) fg_7_16 ft_7_2 (by decide +kernel) (sr_mb_ok hm) ⟨_, _, rfl⟩ (fun _ => ⟨rfl, RX7, TX7, rfl, rfl, sr_tb (n := 78) (by decide +kernel) rfl⟩) (sr_e2_put _ _ _ _ _) ?_
  refine sr_gh _ (fun h6 => ?_)
  exact sr_ret (pc := 26) (by decide +kernel) rfl
def FC2_init (i0 : Nat) (a0 : Int32) (t : sr_c) : sr_R2 := (sr_nw t 7 i0 (fun h1 => (sr_bd (sr_nt (sr_fk h1 4 (FC7_init i0 h1))) (sr_dV (fun h2 => (sr_if (sr_mb h2 2 i0) (sr_lh (h2.1, (2, i0, 4, sr_r 7 i0) :: h2.2) (fun h3 => (sr_if (sr_mb h3 2 i0) (sr_lh (h3.1, (2, i0, 5, sr_i (-1)) :: h3.2) (fun h4 => (sr_if (sr_mb h4 2 i0) (sr_lh (h4.1, (2, i0, 0, sr_i a0) :: h4.2) (fun h5 => (some (.inl none, h5))))))))))))))))
theorem CC2_init (l : Launch) (i0 : Nat) (a0 : Int32) (t : sr_c) : sr_T sr_e2 l sr_m2_init [sr_r 2 i0, sr_i a0] t (FC2_init i0 a0 t) 5 23 := by
  refine sr_T_of (L0 := [some (sr_r 2 i0), some (sr_i a0)]) rfl (by decide +kernel) (fun _ => rfl) (fun _ => Nat.le_of_ble_eq_true rfl) ?_
  unfold FC2_init
  refine sr_aloadn (pc := 0) (n := 0) (by decide +kernel) rfl ?_
  refine sr_objI (pc := 1) (idx := 3) (by decide +kernel) (sr_tb (n := 43) (by decide +kernel) rfl) oi_1 oi_2 (by decide) (by decide) rfl ?_
  refine sr_aloadn (pc := 4) (n := 0) (by decide +kernel) rfl ?_
  refine sr_new2 (pc := 5) (i := i0) (mc := 4) (ms := 20) fn_2_9 (by decide +kernel) (fun h1 => ?_)
  refine sr_dup (pc := 8) (by decide +kernel) rfl ?_
  refine sr_callI (pc := 9) (As := []) (mc1 := 4) (ms1 := 20) (mc2 := 0) (ms2 := 0) (fx := sr_fk h1 4 (FC7_init i0 h1)) fm_2_11 (by decide +kernel) rm_2_init_7_init rfl rfl rfl (sr_fk_ok h1 4 (FC7_init i0 h1)) (sr_fk_T (CC7_init l i0 h1)) (sr_kV (fun h2 => ?_))
  refine sr_chk _ (fun hm => ?_)
  refine sr_put (pc := 12) (t2 := (h2.1, (2, i0, 4, sr_r 7 i0) :: h2.2)) fg_2_12 ft_2_4 (by decide +kernel) (sr_mb_ok hm) ⟨_, _, rfl⟩ (fun _ => ⟨rfl, RX2, TX2, rfl, rfl, sr_tb (n := 109) (by decide +kernel) rfl⟩) (sr_e2_put _ _ _ _ _) ?_
  refine sr_gh _ (fun h3 => ?_)
  refine sr_aloadn (pc := 15) (n := 0) (by decide +kernel) rfl ?_
  refine sr_iconst (pc := 16) (n := (-1)) (v := (-1)) (by decide +kernel) rfl ?_
  refine sr_chk _ (fun hm => ?_)
  refine sr_put (pc := 17) (t2 := (h3.1, (2, i0, 5, sr_i (-1)) :: h3.2)) fg_2_18 ft_2_5 (by decide +kernel) (sr_mb_ok hm) ⟨_, rfl⟩ (fun hq => nomatch hq) (sr_e2_put _ _ _ _ _) ?_
  refine sr_gh _ (fun h4 => ?_)
  refine sr_aloadn (pc := 20) (n := 0) (by decide +kernel) rfl ?_
  refine sr_iloadn (pc := 21) (n := 1) (by decide +kernel) rfl ?_
  refine sr_chk _ (fun hm => ?_)
  refine sr_put (pc := 22) (t2 := (h4.1, (2, i0, 0, sr_i a0) :: h4.2)) fg_2_22 ft_2_0 (by decide +kernel) (sr_mb_ok hm) ⟨_, rfl⟩ (fun _ => ⟨rfl, RX2, TX2, rfl, rfl, sr_tb (n := 89) (by decide +kernel) rfl⟩) (sr_e2_put _ _ _ _ _) ?_
  refine sr_gh _ (fun h5 => ?_)
  exact sr_ret (pc := 25) (by decide +kernel) rfl
def FC3_setBase (i0 : Nat) (a0 : Int32) (t : sr_c) : sr_R2 := (sr_if (sr_mb t 3 i0) (sr_lh (t.1, (3, i0, 5, sr_i a0) :: t.2) (fun h1 => (sr_bd (sr_nt (sr_fk h1 0 (FC10_bitsOf a0 h1))) (sr_dI (fun w2 h2 => (sr_if (sr_mb h2 3 i0) (sr_lh (h2.1, (3, i0, 6, sr_i w2) :: h2.2) (fun h3 => (sr_if (sr_mb h3 3 i0) (sr_mI (sr_lk h3.2 3 i0 6) (fun w4 => (if w4 ≤ 0 then (sr_if (sr_mb h3 3 i0) (sr_lh (h3.1, (3, i0, 7, sr_i 0) :: h3.2) (fun h5 => (some (.inl none, h5))))) else (sr_if (sr_mb h3 3 i0) (sr_mI (sr_lk h3.2 3 i0 6) (fun w6 => (if w6 = 0 then none else (sr_if (sr_mb h3 3 i0) (sr_lh (h3.1, (3, i0, 7, sr_i (12 / w6)) :: h3.2) (fun h7 => (some (.inl none, h7))))))))))))))))))))))
theorem CC3_setBase (l : Launch) (i0 : Nat) (a0 : Int32) (t : sr_c) : sr_T sr_e2 l sr_m3_setBase [sr_r 3 i0, sr_i a0] t (FC3_setBase i0 a0 t) 0 0 := by
  refine sr_T_of (L0 := [some (sr_r 3 i0), some (sr_i a0)]) rfl (by decide +kernel) (fun _ => rfl) (fun _ => Nat.le_of_ble_eq_true rfl) ?_
  unfold FC3_setBase
  refine sr_aloadn (pc := 0) (n := 0) (by decide +kernel) rfl ?_
  refine sr_iloadn (pc := 1) (n := 1) (by decide +kernel) rfl ?_
  refine sr_chk _ (fun hm => ?_)
  refine sr_put (pc := 2) (t2 := (t.1, (3, i0, 5, sr_i a0) :: t.2)) fg_3_38 ft_3_5 (by decide +kernel) (sr_mb_ok hm) ⟨_, rfl⟩ (fun hq => nomatch hq) (sr_e2_put _ _ _ _ _) ?_
  refine sr_gh _ (fun h1 => ?_)
  refine sr_aloadn (pc := 5) (n := 0) (by decide +kernel) rfl ?_
  refine sr_iloadn (pc := 6) (n := 1) (by decide +kernel) rfl ?_
  refine sr_callSN (pc := 7) (As := [sr_i a0]) (mc1 := 0) (ms1 := 0) (mc2 := 0) (ms2 := 0) (fx := sr_fk h1 0 (FC10_bitsOf a0 h1)) fm_3_41 fl_3_41 (by decide +kernel) rm_3_setBase_10_bitsOf rfl rfl rfl (sr_fk_ok h1 0 (FC10_bitsOf a0 h1)) (sr_fk_T (CC10_bitsOf l a0 h1)) (sr_kI (fun w2 h2 => ?_))
  refine sr_chk _ (fun hm => ?_)
  refine sr_put (pc := 10) (t2 := (h2.1, (3, i0, 6, sr_i w2) :: h2.2)) fg_3_45 ft_3_6 (by decide +kernel) (sr_mb_ok hm) ⟨_, rfl⟩ (fun hq => nomatch hq) (sr_e2_put _ _ _ _ _) ?_
  refine sr_gh _ (fun h3 => ?_)
  refine sr_aloadn (pc := 13) (n := 0) (by decide +kernel) rfl ?_
  refine sr_aloadn (pc := 14) (n := 0) (by decide +kernel) rfl ?_
  refine sr_chk _ (fun hm => ?_)
  refine sr_mi _ (fun w4 hw => ?_)
  refine sr_get (pc := 15) fg_3_45 (by decide +kernel) (sr_mb_ok hm) hw ?_
  refine sr_if_le (pc := 18) (off := 13) (tg := 31) (by decide +kernel) (by decide) (fun _ => ?_) (fun _ => ?_)
  · refine sr_iconst (pc := 31) (n := 0) (v := 0) (by decide +kernel) rfl ?_
    refine sr_chk _ (fun hm => ?_)
    refine sr_put (pc := 32) (t2 := (h3.1, (3, i0, 7, sr_i 0) :: h3.2)) fg_3_48 ft_3_7 (by decide +kernel) (sr_mb_ok hm) ⟨_, rfl⟩ (fun hq => nomatch hq) (sr_e2_put _ _ _ _ _) ?_
    refine sr_gh _ (fun h5 => ?_)
    exact sr_ret (pc := 35) (by decide +kernel) rfl
  · refine sr_bipush (pc := 21) (n := 12) (v := 12) (by decide +kernel) (by decide) ?_
    refine sr_aloadn (pc := 23) (n := 0) (by decide +kernel) rfl ?_
    refine sr_chk _ (fun hm => ?_)
    refine sr_mi _ (fun w6 hw => ?_)
    refine sr_get (pc := 24) fg_3_45 (by decide +kernel) (sr_mb_ok hm) hw ?_
    refine sr_idiv (pc := 27) (by decide +kernel) (fun _ => ?_)
    refine sr_goto (pc := 28) (off := 4) (tg := 32) (by decide +kernel) (by decide) ?_
    refine sr_chk _ (fun hm => ?_)
    refine sr_put (pc := 32) (t2 := (h3.1, (3, i0, 7, sr_i (12 / w6)) :: h3.2)) fg_3_48 ft_3_7 (by decide +kernel) (sr_mb_ok hm) ⟨_, rfl⟩ (fun hq => nomatch hq) (sr_e2_put _ _ _ _ _) ?_
    refine sr_gh _ (fun h7 => ?_)
    exact sr_ret (pc := 35) (by decide +kernel) rfl
def FC3_init_it (i0 : Nat) (n : Nat) (kx : sr_c → sr_R2) (t : sr_c) : sr_R2 := (sr_if (sr_mb t 3 i0 && decide (sr_lk t.2 3 i0 0 = sr_r 13 i0)) (sr_if (sr_mb t 13 i0) (if (24 : Int32) ≤ nI n then none else (sr_if (sr_mb t 3 i0 && decide (sr_lk t.2 3 i0 0 = sr_r 13 i0)) (sr_nw t 2 (25 * i0 + n) (fun h1 => (sr_bd (sr_nt (sr_fk h1 5 (FC2_init (25 * i0 + n) (nI n) h1))) (sr_dV (fun h2 => (sr_if (sr_mb h2 13 i0 && sr_mb h2 2 (25 * i0 + n)) (if (nI n) < 0 ∨ 24 ≤ (nI n).toNatClampNeg then none else sr_lh (h2.1, (13, i0, (nI n).toNatClampNeg, sr_r 2 (25 * i0 + n)) :: h2.2) (fun h3 => (kx h3)))))))))))))
theorem CC3_init_it (l : Launch) (i0 : Nat) (n : Nat) (hn : n < 24) (kx : sr_c → sr_R2) (mc ms : Nat) (hk : ∀ t, sr_G sr_e2 l sr_m3_init 43 [some (sr_r 3 i0), some (sr_i (nI (n + 1)))] [] t (kx t) mc ms) (t : sr_c) : sr_G sr_e2 l sr_m3_init 43 [some (sr_r 3 i0), some (sr_i (nI n))] [] t (FC3_init_it i0 n kx t) (6 + mc) (31 + ms) := by
  unfold FC3_init_it
  refine sr_iloadn (pc := 43) (n := 1) (by decide +kernel) rfl ?_
  refine sr_aloadn (pc := 44) (n := 0) (by decide +kernel) rfl ?_
  refine sr_chk _ (fun hm => ?_)
  have hm2 := (Bool.and_eq_true _ _).mp hm
  refine sr_get (pc := 45) fg_3_11 (by decide +kernel) (sr_mb_ok hm2.1) (of_decide_eq_true hm2.2) ?_
  refine sr_chk _ (fun hm => ?_)
  refine sr_alen (pc := 48) (ty := 2) (n := 24) (v := 24) rfl (by decide) (by decide +kernel) (sr_mb_ok hm) (by decide) ?_
  refine sr_icmp_ge (pc := 49) (off := 23) (tg := 72) (by decide +kernel) (by decide) (fun hq => absurd hq (nI_ge hn (by decide))) (fun _ => ?_)
  refine sr_aloadn (pc := 52) (n := 0) (by decide +kernel) rfl ?_
  refine sr_chk _ (fun hm => ?_)
  have hm2 := (Bool.and_eq_true _ _).mp hm
  refine sr_get (pc := 53) fg_3_11 (by decide +kernel) (sr_mb_ok hm2.1) (of_decide_eq_true hm2.2) ?_
  refine sr_iloadn (pc := 56) (n := 1) (by decide +kernel) rfl ?_
  refine sr_mono (mc := 1 + (5 + mc)) (ms := 8 + (23 + ms)) (by omega) (by omega) ?_
  refine sr_new2 (pc := 57) (i := (25 * i0 + n)) (mc := 5 + mc) (ms := 23 + ms) fn_3_9 (by decide +kernel) (fun h1 => ?_)
  refine sr_dup (pc := 60) (by decide +kernel) rfl ?_
  refine sr_iloadn (pc := 61) (n := 1) (by decide +kernel) rfl ?_
  refine sr_mono (mc := 5 + (0 + mc)) (ms := 23 + (0 + ms)) (by omega) (by omega) ?_
  refine sr_callI (pc := 62) (As := [sr_i (nI n)]) (mc1 := 5) (ms1 := 23) (mc2 := 0 + mc) (ms2 := 0 + ms) (fx := sr_fk h1 5 (FC2_init (25 * i0 + n) (nI n) h1)) fm_3_17 (by decide +kernel) rm_3_init_2_init rfl rfl rfl (sr_fk_ok h1 5 (FC2_init (25 * i0 + n) (nI n) h1)) (sr_fk_T (CC2_init l (25 * i0 + n) (nI n) h1)) (sr_kV (fun h2 => ?_))
  refine sr_chk _ (fun hm => ?_)
  refine sr_aast (pc := 65) (t2 := (h2.1, (13, i0, (nI n).toNatClampNeg, sr_r 2 (25 * i0 + n)) :: h2.2)) (n := 24) (C9 := RX2) (T := TX2) (nn := 8) rfl (Or.inl ⟨rfl, rfl⟩) rfl rfl (by decide +kernel) (sr_mb_ok ((Bool.and_eq_true _ _).mp hm).1) (sr_mb_ok ((Bool.and_eq_true _ _).mp hm).2) (sr_e2_put _ _ _ _ _) (fun _ => ?_)
  refine sr_gh _ (fun h3 => ?_)
  refine sr_iinc (pc := 66) (i := 1) (n := 1) (w := nI (n + 1)) (by decide +kernel) rfl (nI_1 n) (by decide) rfl rfl ?_
  refine sr_goto (pc := 69) (off := (-26)) (tg := 43) (by decide +kernel) (by decide) ?_
  exact sr_mono (by omega) (by omega) (hk h3)
def FC3_init_lp (i0 : Nat) (kx : sr_c → sr_R2) : Nat → Nat → sr_c → sr_R2
  | 0, _ => kx
  | r + 1, n => FC3_init_it i0 n (FC3_init_lp i0 kx r (n + 1))
theorem CC3_init_lp (l : Launch) (i0 : Nat) (kx : sr_c → sr_R2) (mc ms : Nat) (hk : ∀ t, sr_G sr_e2 l sr_m3_init 43 [some (sr_r 3 i0), some (sr_i 24)] [] t (kx t) mc ms) : ∀ (r n : Nat), n + r = 24 → ∀ t, sr_G sr_e2 l sr_m3_init 43 [some (sr_r 3 i0), some (sr_i (nI n))] [] t (FC3_init_lp i0 kx r n t) (mc + 6 * r) (ms + 31 * r) := by
  intro r
  induction r with
  | zero =>
    intro n h t
    have : n = 24 := by omega
    subst this
    exact hk t
  | succ r ih =>
    intro n h t
    have e := CC3_init_it l i0 n (by omega) (FC3_init_lp i0 kx r (n + 1)) (mc + 6 * r) (ms + 31 * r) (fun t => ih (n + 1) (by omega) t) t
    exact sr_mono (by omega) (by omega) e
def FC3_init_ex (i0 : Nat) (t : sr_c) : sr_R2 := (sr_if (sr_mb t 3 i0 && decide (sr_lk t.2 3 i0 0 = sr_r 13 i0)) (sr_if (sr_mb t 13 i0) (if (24 : Int32) ≤ 24 then (sr_if (sr_mb t 3 i0) (sr_bd (sr_fk t 0 (FC3_setBase i0 4 t)) (sr_dV (fun h1 => (some (.inl none, h1)))))) else none)))
theorem CC3_init_ex (l : Launch) (i0 : Nat) (t : sr_c) : sr_G sr_e2 l sr_m3_init 43 [some (sr_r 3 i0), some (sr_i 24)] [] t (FC3_init_ex i0 t) 0 0 := by
  unfold FC3_init_ex
  refine sr_iloadn (pc := 43) (n := 1) (by decide +kernel) rfl ?_
  refine sr_aloadn (pc := 44) (n := 0) (by decide +kernel) rfl ?_
  refine sr_chk _ (fun hm => ?_)
  have hm2 := (Bool.and_eq_true _ _).mp hm
  refine sr_get (pc := 45) fg_3_11 (by decide +kernel) (sr_mb_ok hm2.1) (of_decide_eq_true hm2.2) ?_
  refine sr_chk _ (fun hm => ?_)
  refine sr_alen (pc := 48) (ty := 2) (n := 24) (v := 24) rfl (by decide) (by decide +kernel) (sr_mb_ok hm) (by decide) ?_
  refine sr_icmp_ge (pc := 49) (off := 23) (tg := 72) (by decide +kernel) (by decide) (fun _ => ?_) (fun hq => absurd (by decide) hq)
  refine sr_aloadn (pc := 72) (n := 0) (by decide +kernel) rfl ?_
  refine sr_iconst (pc := 73) (n := 4) (v := 4) (by decide +kernel) rfl ?_
  refine sr_chk _ (fun hm => ?_)
  refine sr_callV (pc := 74) (As := [sr_i 4]) (mc1 := 0) (ms1 := 0) (mc2 := 0) (ms2 := 0) (fx := sr_fk t 0 (FC3_setBase i0 4 t)) fm_3_35 fl_3_35 (by decide +kernel) (sr_mb_ok hm) rm_3_init_3_setBase rfl rfl rfl (sr_fk_ok2 t 0 (FC3_setBase i0 4 t)) (sr_fk_T (CC3_setBase l i0 4 t)) (sr_kV (fun h1 => ?_))
  exact sr_ret (pc := 77) (by decide +kernel) rfl
def FC3_init (i0 : Nat) (t : sr_c) : sr_R2 := (sr_nw t 13 i0 (fun h1 => (sr_if (sr_mb h1 3 i0) (sr_lh (h1.1, (3, i0, 0, sr_r 13 i0) :: h1.2) (fun h2 => (sr_nw h2 2 (25 * i0 + 24) (fun h3 => (sr_bd (sr_nt (sr_fk h3 5 (FC2_init (25 * i0 + 24) (-1) h3))) (sr_dV (fun h4 => (sr_if (sr_mb h4 3 i0) (sr_lh (h4.1, (3, i0, 1, sr_r 2 (25 * i0 + 24)) :: h4.2) (fun h5 => (sr_nw h5 7 (50 + i0) (fun h6 => (sr_bd (sr_nt (sr_fk h6 4 (FC7_init (50 + i0) h6))) (sr_dV (fun h7 => (sr_if (sr_mb h7 3 i0) (sr_lh (h7.1, (3, i0, 2, sr_r 7 (50 + i0)) :: h7.2) (fun h8 => (sr_if (sr_mb h8 3 i0) (sr_lh (h8.1, (3, i0, 8, sr_i 4) :: h8.2) (fun h9 => (FC3_init_lp i0 (FC3_init_ex i0) 24 0 h9)))))))))))))))))))))))))
theorem CC3_init (l : Launch) (i0 : Nat) (t : sr_c) : sr_T sr_e2 l sr_m3_init [sr_r 3 i0] t (FC3_init i0 t) 156 822 := by
  refine sr_T_of (L0 := [some (sr_r 3 i0), none]) rfl (by decide +kernel) (fun _ => rfl) (fun _ => Nat.le_of_ble_eq_true rfl) ?_
  unfold FC3_init
  refine sr_aloadn (pc := 0) (n := 0) (by decide +kernel) rfl ?_
  refine sr_objI (pc := 1) (idx := 3) (by decide +kernel) (sr_tb (n := 36) (by decide +kernel) rfl) oi_1 oi_2 (by decide) (by decide) rfl ?_
  refine sr_aloadn (pc := 4) (n := 0) (by decide +kernel) rfl ?_
  refine sr_bipush (pc := 5) (n := 24) (v := 24) (by decide +kernel) (by decide) ?_
  refine sr_newq2 (pc := 7) (idx := 9) (k := 13) (n := 24) (i := i0) (C9 := RX2) (mc := 155) (ms := 798) rfl (Or.inl ⟨rfl, rfl⟩) (sr_tb (n := 37) (by decide +kernel) rfl) (sr_nb (n := 38) (by decide +kernel) rfl) (by decide +kernel) (fun _ => rfl) (by decide) (by decide) (by decide) (fun h1 => ?_)
  refine sr_chk _ (fun hm => ?_)
  refine sr_put (pc := 10) (t2 := (h1.1, (3, i0, 0, sr_r 13 i0) :: h1.2)) fg_3_11 ft_3_0 (by decide +kernel) (sr_mb_ok hm) ⟨_, _, rfl⟩ (fun _ => ⟨rfl, RX3, TX3, rfl, rfl, sr_tb (n := 151) (by decide +kernel) rfl⟩) (sr_e2_put _ _ _ _ _) ?_
  refine sr_gh _ (fun h2 => ?_)
  refine sr_aloadn (pc := 13) (n := 0) (by decide +kernel) rfl ?_
  refine sr_new2 (pc := 14) (i := (25 * i0 + 24)) (mc := 154) (ms := 790) fn_3_9 (by decide +kernel) (fun h3 => ?_)
  refine sr_dup (pc := 17) (by decide +kernel) rfl ?_
  refine sr_iconst (pc := 18) (n := (-1)) (v := (-1)) (by decide +kernel) rfl ?_
  refine sr_callI (pc := 19) (As := [sr_i (-1)]) (mc1 := 5) (ms1 := 23) (mc2 := 149) (ms2 := 767) (fx := sr_fk h3 5 (FC2_init (25 * i0 + 24) (-1) h3)) fm_3_17 (by decide +kernel) rm_3_init_2_init rfl rfl rfl (sr_fk_ok h3 5 (FC2_init (25 * i0 + 24) (-1) h3)) (sr_fk_T (CC2_init l (25 * i0 + 24) (-1) h3)) (sr_kV (fun h4 => ?_))
  refine sr_chk _ (fun hm => ?_)
  refine sr_put (pc := 22) (t2 := (h4.1, (3, i0, 1, sr_r 2 (25 * i0 + 24)) :: h4.2)) fg_3_20 ft_3_1 (by decide +kernel) (sr_mb_ok hm) ⟨_, _, rfl⟩ (fun _ => ⟨rfl, RX3, TX3, rfl, rfl, sr_tb (n := 152) (by decide +kernel) rfl⟩) (sr_e2_put _ _ _ _ _) ?_
  refine sr_gh _ (fun h5 => ?_)
  refine sr_aloadn (pc := 25) (n := 0) (by decide +kernel) rfl ?_
  refine sr_new2 (pc := 26) (i := (50 + i0)) (mc := 148) (ms := 764) fn_3_24 (by decide +kernel) (fun h6 => ?_)
  refine sr_dup (pc := 29) (by decide +kernel) rfl ?_
  refine sr_callI (pc := 30) (As := []) (mc1 := 4) (ms1 := 20) (mc2 := 144) (ms2 := 744) (fx := sr_fk h6 4 (FC7_init (50 + i0) h6)) fm_3_26 (by decide +kernel) rm_3_init_7_init rfl rfl rfl (sr_fk_ok h6 4 (FC7_init (50 + i0) h6)) (sr_fk_T (CC7_init l (50 + i0) h6)) (sr_kV (fun h7 => ?_))
  refine sr_chk _ (fun hm => ?_)
  refine sr_put (pc := 33) (t2 := (h7.1, (3, i0, 2, sr_r 7 (50 + i0)) :: h7.2)) fg_3_27 ft_3_2 (by decide +kernel) (sr_mb_ok hm) ⟨_, _, rfl⟩ (fun _ => ⟨rfl, RX3, TX3, rfl, rfl, sr_tb (n := 154) (by decide +kernel) rfl⟩) (sr_e2_put _ _ _ _ _) ?_
  refine sr_gh _ (fun h8 => ?_)
  refine sr_aloadn (pc := 36) (n := 0) (by decide +kernel) rfl ?_
  refine sr_iconst (pc := 37) (n := 4) (v := 4) (by decide +kernel) rfl ?_
  refine sr_chk _ (fun hm => ?_)
  refine sr_put (pc := 38) (t2 := (h8.1, (3, i0, 8, sr_i 4) :: h8.2)) fg_3_31 ft_3_8 (by decide +kernel) (sr_mb_ok hm) ⟨_, rfl⟩ (fun hq => nomatch hq) (sr_e2_put _ _ _ _ _) ?_
  refine sr_gh _ (fun h9 => ?_)
  refine sr_iconst (pc := 41) (n := 0) (v := 0) (by decide +kernel) rfl ?_
  refine sr_istoren (pc := 42) (n := 1) (by decide +kernel) (by decide) rfl rfl ?_
  exact CC3_init_lp l i0 (FC3_init_ex i0) 0 0 (fun t => CC3_init_ex l i0 t) 24 0 rfl h9
def FC0_init (i0 : Nat) (t : sr_c) : sr_R2 := (sr_if (sr_mb t 0 i0) (sr_lh (t.1, (0, i0, 0, sr_i (-1)) :: t.2) (fun h1 => (sr_nw h1 20 i0 (fun h2 => (sr_if (sr_mb h2 0 i0) (sr_lh (h2.1, (0, i0, 2, sr_r 20 i0) :: h2.2) (fun h3 => (sr_nw h3 21 i0 (fun h4 => (sr_if (sr_mb h4 0 i0) (sr_lh (h4.1, (0, i0, 3, sr_r 21 i0) :: h4.2) (fun h5 => (some (.inl none, h5)))))))))))))))
theorem CC0_init (l : Launch) (i0 : Nat) (t : sr_c) : sr_T sr_e2 l sr_m0_init [sr_r 0 i0] t (FC0_init i0 t) 2 48 := by
  refine sr_T_of (L0 := [some (sr_r 0 i0)]) rfl (by decide +kernel) (fun _ => rfl) (fun _ => Nat.le_of_ble_eq_true rfl) ?_
  unfold FC0_init
  refine sr_aloadn (pc := 0) (n := 0) (by decide +kernel) rfl ?_
  refine sr_objI (pc := 1) (idx := 3) (by decide +kernel) (sr_tb (n := 206) (by decide +kernel) rfl) oi_1 oi_2 (by decide) (by decide) rfl ?_
  refine sr_aloadn (pc := 4) (n := 0) (by decide +kernel) rfl ?_
  refine sr_iconst (pc := 5) (n := (-1)) (v := (-1)) (by decide +kernel) rfl ?_
  refine sr_chk _ (fun hm => ?_)
  refine sr_put (pc := 6) (t2 := (t.1, (0, i0, 0, sr_i (-1)) :: t.2)) fg_0_9 ft_0_0 (by decide +kernel) (sr_mb_ok hm) ⟨_, rfl⟩ (fun hq => nomatch hq) (sr_e2_put _ _ _ _ _) ?_
  refine sr_gh _ (fun h1 => ?_)
  refine sr_aloadn (pc := 9) (n := 0) (by decide +kernel) rfl ?_
  refine sr_bipush (pc := 10) (n := 24) (v := 24) (by decide +kernel) (by decide) ?_
  refine sr_newa2 (pc := 12) (k := 20) (n := 24) (i := i0) (at' := .int) (mc := 1) (ms := 24) rfl (Or.inl ⟨rfl, rfl⟩) ac_int (by decide +kernel) (fun _ => rfl) (by decide) (by decide) (by decide) (fun h2 => ?_)
  refine sr_chk _ (fun hm => ?_)
  refine sr_put (pc := 14) (t2 := (h2.1, (0, i0, 2, sr_r 20 i0) :: h2.2)) fg_0_15 ft_0_2 (by decide +kernel) (sr_mb_ok hm) ⟨_, _, rfl⟩ (fun _ => ⟨rfl, RX0, TX0, rfl, rfl, sr_tb (n := 212) (by decide +kernel) rfl⟩) (sr_e2_put _ _ _ _ _) ?_
  refine sr_gh _ (fun h3 => ?_)
  refine sr_aloadn (pc := 17) (n := 0) (by decide +kernel) rfl ?_
  refine sr_bipush (pc := 18) (n := 24) (v := 24) (by decide +kernel) (by decide) ?_
  refine sr_newa2 (pc := 20) (k := 21) (n := 24) (i := i0) (at' := .int) (mc := 0) (ms := 0) rfl (Or.inl ⟨rfl, rfl⟩) ac_int (by decide +kernel) (fun _ => rfl) (by decide) (by decide) (by decide) (fun h4 => ?_)
  refine sr_chk _ (fun hm => ?_)
  refine sr_put (pc := 22) (t2 := (h4.1, (0, i0, 3, sr_r 21 i0) :: h4.2)) fg_0_19 ft_0_3 (by decide +kernel) (sr_mb_ok hm) ⟨_, _, rfl⟩ (fun _ => ⟨rfl, RX0, TX0, rfl, rfl, sr_tb (n := 213) (by decide +kernel) rfl⟩) (sr_e2_put _ _ _ _ _) ?_
  refine sr_gh _ (fun h5 => ?_)
  exact sr_ret (pc := 25) (by decide +kernel) rfl
def FC6_init_it  (n : Nat) (kx : sr_c → sr_R2) (t : sr_c) : sr_R2 := (sr_if (sr_mb t 6 0 && decide (sr_lk t.2 6 0 0 = sr_r 22 0)) (sr_if (sr_mb t 22 0) (if (32 : Int32) ≤ nI n then none else (sr_if (sr_mb t 6 0 && decide (sr_lk t.2 6 0 0 = sr_r 22 0)) (sr_nw t 0 n (fun h1 => (sr_bd (sr_nt (sr_fk h1 2 (FC0_init n h1))) (sr_dV (fun h2 => (sr_if (sr_mb h2 22 0 && sr_mb h2 0 n) (if (nI n) < 0 ∨ 32 ≤ (nI n).toNatClampNeg then none else sr_lh (h2.1, (22, 0, (nI n).toNatClampNeg, sr_r 0 n) :: h2.2) (fun h3 => (kx h3)))))))))))))
theorem CC6_init_it (l : Launch)  (n : Nat) (hn : n < 32) (kx : sr_c → sr_R2) (mc ms : Nat) (hk : ∀ t, sr_G sr_e2 l sr_m6_init 31 [some (sr_r 6 0), some (sr_i (nI (n + 1)))] [] t (kx t) mc ms) (t : sr_c) : sr_G sr_e2 l sr_m6_init 31 [some (sr_r 6 0), some (sr_i (nI n))] [] t (FC6_init_it  n kx t) (3 + mc) (52 + ms) := by
  unfold FC6_init_it
  refine sr_iloadn (pc := 31) (n := 1) (by decide +kernel) rfl ?_
  refine sr_aloadn (pc := 32) (n := 0) (by decide +kernel) rfl ?_
  refine sr_chk _ (fun hm => ?_)
  have hm2 := (Bool.and_eq_true _ _).mp hm
  refine sr_get (pc := 33) fg_6_11 (by decide +kernel) (sr_mb_ok hm2.1) (of_decide_eq_true hm2.2) ?_
  refine sr_chk _ (fun hm => ?_)
  refine sr_alen (pc := 36) (ty := 3) (n := 32) (v := 32) rfl (by decide) (by decide +kernel) (sr_mb_ok hm) (by decide) ?_
  refine sr_icmp_ge (pc := 37) (off := 22) (tg := 59) (by decide +kernel) (by decide) (fun hq => absurd hq (nI_ge hn (by decide))) (fun _ => ?_)
  refine sr_aloadn (pc := 40) (n := 0) (by decide +kernel) rfl ?_
  refine sr_chk _ (fun hm => ?_)
  have hm2 := (Bool.and_eq_true _ _).mp hm
  refine sr_get (pc := 41) fg_6_11 (by decide +kernel) (sr_mb_ok hm2.1) (of_decide_eq_true hm2.2) ?_
  refine sr_iloadn (pc := 44) (n := 1) (by decide +kernel) rfl ?_
  refine sr_mono (mc := 1 + (2 + mc)) (ms := 4 + (48 + ms)) (by omega) (by omega) ?_
  refine sr_new2 (pc := 45) (i := n) (mc := 2 + mc) (ms := 48 + ms) fn_6_9 (by decide +kernel) (fun h1 => ?_)
  refine sr_dup (pc := 48) (by decide +kernel) rfl ?_
  refine sr_mono (mc := 2 + (0 + mc)) (ms := 48 + (0 + ms)) (by omega) (by omega) ?_
  refine sr_callI (pc := 49) (As := []) (mc1 := 2) (ms1 := 48) (mc2 := 0 + mc) (ms2 := 0 + ms) (fx := sr_fk h1 2 (FC0_init n h1)) fm_6_17 (by decide +kernel) rm_6_init_0_init rfl rfl rfl (sr_fk_ok h1 2 (FC0_init n h1)) (sr_fk_T (CC0_init l n h1)) (sr_kV (fun h2 => ?_))
  refine sr_chk _ (fun hm => ?_)
  refine sr_aast (pc := 52) (t2 := (h2.1, (22, 0, (nI n).toNatClampNeg, sr_r 0 n) :: h2.2)) (n := 32) (C9 := RX0) (T := TX0) (nn := 4) rfl (Or.inr ⟨rfl, rfl⟩) rfl rfl (by decide +kernel) (sr_mb_ok ((Bool.and_eq_true _ _).mp hm).1) (sr_mb_ok ((Bool.and_eq_true _ _).mp hm).2) (sr_e2_put _ _ _ _ _) (fun _ => ?_)
  refine sr_gh _ (fun h3 => ?_)
  refine sr_iinc (pc := 53) (i := 1) (n := 1) (w := nI (n + 1)) (by decide +kernel) rfl (nI_1 n) (by decide) rfl rfl ?_
  refine sr_goto (pc := 56) (off := (-25)) (tg := 31) (by decide +kernel) (by decide) ?_
  exact sr_mono (by omega) (by omega) (hk h3)
def FC6_init_lp  (kx : sr_c → sr_R2) : Nat → Nat → sr_c → sr_R2
  | 0, _ => kx
  | r + 1, n => FC6_init_it  n (FC6_init_lp  kx r (n + 1))
theorem CC6_init_lp (l : Launch)  (kx : sr_c → sr_R2) (mc ms : Nat) (hk : ∀ t, sr_G sr_e2 l sr_m6_init 31 [some (sr_r 6 0), some (sr_i 32)] [] t (kx t) mc ms) : ∀ (r n : Nat), n + r = 32 → ∀ t, sr_G sr_e2 l sr_m6_init 31 [some (sr_r 6 0), some (sr_i (nI n))] [] t (FC6_init_lp  kx r n t) (mc + 3 * r) (ms + 52 * r) := by
  intro r
  induction r with
  | zero =>
    intro n h t
    have : n = 32 := by omega
    subst this
    exact hk t
  | succ r ih =>
    intro n h t
    have e := CC6_init_it l  n (by omega) (FC6_init_lp  kx r (n + 1)) (mc + 3 * r) (ms + 52 * r) (fun t => ih (n + 1) (by omega) t) t
    exact sr_mono (by omega) (by omega) e
def FC6_init_ex  (t : sr_c) : sr_R2 := (sr_if (sr_mb t 6 0 && decide (sr_lk t.2 6 0 0 = sr_r 22 0)) (sr_if (sr_mb t 22 0) (if (32 : Int32) ≤ 32 then (some (.inl none, t)) else none)))
theorem CC6_init_ex (l : Launch)  (t : sr_c) : sr_G sr_e2 l sr_m6_init 31 [some (sr_r 6 0), some (sr_i 32)] [] t (FC6_init_ex  t) 0 0 := by
  unfold FC6_init_ex
  refine sr_iloadn (pc := 31) (n := 1) (by decide +kernel) rfl ?_
  refine sr_aloadn (pc := 32) (n := 0) (by decide +kernel) rfl ?_
  refine sr_chk _ (fun hm => ?_)
  have hm2 := (Bool.and_eq_true _ _).mp hm
  refine sr_get (pc := 33) fg_6_11 (by decide +kernel) (sr_mb_ok hm2.1) (of_decide_eq_true hm2.2) ?_
  refine sr_chk _ (fun hm => ?_)
  refine sr_alen (pc := 36) (ty := 3) (n := 32) (v := 32) rfl (by decide) (by decide +kernel) (sr_mb_ok hm) (by decide) ?_
  refine sr_icmp_ge (pc := 37) (off := 22) (tg := 59) (by decide +kernel) (by decide) (fun _ => ?_) (fun hq => absurd (by decide) hq)
  exact sr_ret (pc := 59) (by decide +kernel) rfl
def FC6_init  (t : sr_c) : sr_R2 := (sr_nw t 22 0 (fun h1 => (sr_if (sr_mb h1 6 0) (sr_lh (h1.1, (6, 0, 0, sr_r 22 0) :: h1.2) (fun h2 => (sr_nw h2 0 32 (fun h3 => (sr_bd (sr_nt (sr_fk h3 2 (FC0_init 32 h3))) (sr_dV (fun h4 => (sr_if (sr_mb h4 6 0) (sr_lh (h4.1, (6, 0, 1, sr_r 0 32) :: h4.2) (fun h5 => (sr_if (sr_mb h5 6 0) (sr_lh (h5.1, (6, 0, 4, sr_i 2) :: h5.2) (fun h6 => (FC6_init_lp  (FC6_init_ex ) 32 0 h6)))))))))))))))))
theorem CC6_init (l : Launch)  (t : sr_c) : sr_T sr_e2 l sr_m6_init [sr_r 6 0] t (FC6_init  t) 100 1748 := by
  refine sr_T_of (L0 := [some (sr_r 6 0), none]) rfl (by decide +kernel) (fun _ => rfl) (fun _ => Nat.le_of_ble_eq_true rfl) ?_
  unfold FC6_init
  refine sr_aloadn (pc := 0) (n := 0) (by decide +kernel) rfl ?_
  refine sr_objI (pc := 1) (idx := 3) (by decide +kernel) (sr_tb (n := 199) (by decide +kernel) rfl) oi_1 oi_2 (by decide) (by decide) rfl ?_
  refine sr_aloadn (pc := 4) (n := 0) (by decide +kernel) rfl ?_
  refine sr_bipush (pc := 5) (n := 32) (v := 32) (by decide +kernel) (by decide) ?_
  refine sr_newq2 (pc := 7) (idx := 9) (k := 22) (n := 32) (i := 0) (C9 := RX0) (mc := 99) (ms := 1716) rfl (Or.inr ⟨rfl, rfl⟩) (sr_tb (n := 200) (by decide +kernel) rfl) (sr_nb (n := 201) (by decide +kernel) rfl) (by decide +kernel) (fun _ => rfl) (by decide) (by decide) (by decide) (fun h1 => ?_)
  refine sr_chk _ (fun hm => ?_)
  refine sr_put (pc := 10) (t2 := (h1.1, (6, 0, 0, sr_r 22 0) :: h1.2)) fg_6_11 ft_6_0 (by decide +kernel) (sr_mb_ok hm) ⟨_, _, rfl⟩ (fun _ => ⟨rfl, RX6, TX6, rfl, rfl, sr_tb (n := 223) (by decide +kernel) rfl⟩) (sr_e2_put _ _ _ _ _) ?_
  refine sr_gh _ (fun h2 => ?_)
  refine sr_aloadn (pc := 13) (n := 0) (by decide +kernel) rfl ?_
  refine sr_new2 (pc := 14) (i := 32) (mc := 98) (ms := 1712) fn_6_9 (by decide +kernel) (fun h3 => ?_)
  refine sr_dup (pc := 17) (by decide +kernel) rfl ?_
  refine sr_callI (pc := 18) (As := []) (mc1 := 2) (ms1 := 48) (mc2 := 96) (ms2 := 1664) (fx := sr_fk h3 2 (FC0_init 32 h3)) fm_6_17 (by decide +kernel) rm_6_init_0_init rfl rfl rfl (sr_fk_ok h3 2 (FC0_init 32 h3)) (sr_fk_T (CC0_init l 32 h3)) (sr_kV (fun h4 => ?_))
  refine sr_chk _ (fun hm => ?_)
  refine sr_put (pc := 21) (t2 := (h4.1, (6, 0, 1, sr_r 0 32) :: h4.2)) fg_6_18 ft_6_1 (by decide +kernel) (sr_mb_ok hm) ⟨_, _, rfl⟩ (fun _ => ⟨rfl, RX6, TX6, rfl, rfl, sr_tb (n := 224) (by decide +kernel) rfl⟩) (sr_e2_put _ _ _ _ _) ?_
  refine sr_gh _ (fun h5 => ?_)
  refine sr_aloadn (pc := 24) (n := 0) (by decide +kernel) rfl ?_
  refine sr_iconst (pc := 25) (n := 2) (v := 2) (by decide +kernel) rfl ?_
  refine sr_chk _ (fun hm => ?_)
  refine sr_put (pc := 26) (t2 := (h5.1, (6, 0, 4, sr_i 2) :: h5.2)) fg_6_22 ft_6_4 (by decide +kernel) (sr_mb_ok hm) ⟨_, rfl⟩ (fun hq => nomatch hq) (sr_e2_put _ _ _ _ _) ?_
  refine sr_gh _ (fun h6 => ?_)
  refine sr_iconst (pc := 29) (n := 0) (v := 0) (by decide +kernel) rfl ?_
  refine sr_istoren (pc := 30) (n := 1) (by decide +kernel) (by decide) rfl rfl ?_
  exact CC6_init_lp l  (FC6_init_ex ) 0 0 (fun t => CC6_init_ex l  t) 32 0 rfl h6
def FC8_init (i0 : Nat) (i1 : Nat) (t : sr_c) : sr_R2 := (sr_if (sr_mb t 8 i0) (sr_lh (t.1, (8, i0, 6, sr_i (-4)) :: t.2) (fun h1 => (sr_nw h1 14 i0 (fun h2 => (sr_if (sr_mb h2 8 i0) (sr_lh (h2.1, (8, i0, 15, sr_r 14 i0) :: h2.2) (fun h3 => (sr_nw h3 4 (104 + i0) (fun h4 => (sr_bd (sr_nt (sr_fk h4 1 (FC4_init (104 + i0) h4))) (sr_dV (fun h5 => (sr_if (sr_mb h5 8 i0) (sr_lh (h5.1, (8, i0, 16, sr_r 4 (104 + i0)) :: h5.2) (fun h6 => (sr_if (sr_mb h6 8 i0) (sr_lh (h6.1, (8, i0, 0, sr_r 3 i1) :: h6.2) (fun h7 => (sr_if (sr_mb h7 3 i1 && decide (sr_lk h7.2 3 i1 1 = sr_r 2 (25 * i1 + 24))) (sr_if (sr_mb h7 8 i0) (sr_lh (h7.1, (8, i0, 3, sr_r 2 (25 * i1 + 24)) :: h7.2) (fun h8 => (some (.inl none, h8)))))))))))))))))))))))))
theorem CC8_init (l : Launch) (i0 : Nat) (i1 : Nat) (t : sr_c) : sr_T sr_e2 l sr_m8_init [sr_r 8 i0, sr_r 3 i1] t (FC8_init i0 i1 t) 3 810 := by
  refine sr_T_of (L0 := [some (sr_r 8 i0), some (sr_r 3 i1)]) rfl (by decide +kernel) (fun _ => rfl) (fun _ => Nat.le_of_ble_eq_true rfl) ?_
  unfold FC8_init
  refine sr_aloadn (pc := 0) (n := 0) (by decide +kernel) rfl ?_
  refine sr_objI (pc := 1) (idx := 3) (by decide +kernel) (sr_tb (n := 247) (by decide +kernel) rfl) oi_1 oi_2 (by decide) (by decide) rfl ?_
  refine sr_aloadn (pc := 4) (n := 0) (by decide +kernel) rfl ?_
  refine sr_bipush (pc := 5) (n := (-4)) (v := (-4)) (by decide +kernel) (by decide) ?_
  refine sr_chk _ (fun hm => ?_)
  refine sr_put (pc := 7) (t2 := (t.1, (8, i0, 6, sr_i (-4)) :: t.2)) fg_8_9 ft_8_6 (by decide +kernel) (sr_mb_ok hm) ⟨_, rfl⟩ (fun hq => nomatch hq) (sr_e2_put _ _ _ _ _) ?_
  refine sr_gh _ (fun h1 => ?_)
  refine sr_aloadn (pc := 10) (n := 0) (by decide +kernel) rfl ?_
  refine sr_sipush (pc := 11) (n := 800) (v := 800) (by decide +kernel) (by decide) ?_
  refine sr_newa2 (pc := 14) (k := 14) (n := 800) (i := i0) (at' := .int) (mc := 2) (ms := 10) rfl (Or.inl ⟨rfl, rfl⟩) ac_int (by decide +kernel) (fun _ => rfl) (by decide) (by decide) (by decide) (fun h2 => ?_)
  refine sr_chk _ (fun hm => ?_)
  refine sr_put (pc := 16) (t2 := (h2.1, (8, i0, 15, sr_r 14 i0) :: h2.2)) fg_8_15 ft_8_15 (by decide +kernel) (sr_mb_ok hm) ⟨_, _, rfl⟩ (fun _ => ⟨rfl, RX8, TX8, rfl, rfl, sr_tb (n := 282) (by decide +kernel) rfl⟩) (sr_e2_put _ _ _ _ _) ?_
  refine sr_gh _ (fun h3 => ?_)
  refine sr_aloadn (pc := 19) (n := 0) (by decide +kernel) rfl ?_
  refine sr_new2 (pc := 20) (i := (104 + i0)) (mc := 1) (ms := 8) fn_8_19 (by decide +kernel) (fun h4 => ?_)
  refine sr_dup (pc := 23) (by decide +kernel) rfl ?_
  refine sr_callI (pc := 24) (As := []) (mc1 := 1) (ms1 := 8) (mc2 := 0) (ms2 := 0) (fx := sr_fk h4 1 (FC4_init (104 + i0) h4)) fm_8_21 (by decide +kernel) rm_8_init_4_init rfl rfl rfl (sr_fk_ok h4 1 (FC4_init (104 + i0) h4)) (sr_fk_T (CC4_init l (104 + i0) h4)) (sr_kV (fun h5 => ?_))
  refine sr_chk _ (fun hm => ?_)
  refine sr_put (pc := 27) (t2 := (h5.1, (8, i0, 16, sr_r 4 (104 + i0)) :: h5.2)) fg_8_22 ft_8_16 (by decide +kernel) (sr_mb_ok hm) ⟨_, _, rfl⟩ (fun _ => ⟨rfl, RX8, TX8, rfl, rfl, sr_tb (n := 283) (by decide +kernel) rfl⟩) (sr_e2_put _ _ _ _ _) ?_
  refine sr_gh _ (fun h6 => ?_)
  refine sr_aloadn (pc := 30) (n := 0) (by decide +kernel) rfl ?_
  refine sr_aloadn (pc := 31) (n := 1) (by decide +kernel) rfl ?_
  refine sr_chk _ (fun hm => ?_)
  refine sr_put (pc := 32) (t2 := (h6.1, (8, i0, 0, sr_r 3 i1) :: h6.2)) fg_8_26 ft_8_0 (by decide +kernel) (sr_mb_ok hm) ⟨_, _, rfl⟩ (fun hq => nomatch hq) (sr_e2_put _ _ _ _ _) ?_
  refine sr_gh _ (fun h7 => ?_)
  refine sr_aloadn (pc := 35) (n := 0) (by decide +kernel) rfl ?_
  refine sr_aloadn (pc := 36) (n := 1) (by decide +kernel) rfl ?_
  refine sr_chk _ (fun hm => ?_)
  have hm2 := (Bool.and_eq_true _ _).mp hm
  refine sr_get (pc := 37) fg_8_30 (by decide +kernel) (sr_mb_ok hm2.1) (of_decide_eq_true hm2.2) ?_
  refine sr_chk _ (fun hm => ?_)
  refine sr_put (pc := 40) (t2 := (h7.1, (8, i0, 3, sr_r 2 (25 * i1 + 24)) :: h7.2)) fg_8_36 ft_8_3 (by decide +kernel) (sr_mb_ok hm) ⟨_, _, rfl⟩ (fun hq => nomatch hq) (sr_e2_put _ _ _ _ _) ?_
  refine sr_gh _ (fun h8 => ?_)
  exact sr_ret (pc := 43) (by decide +kernel) rfl
def FC5_init (i1 : Nat) (t : sr_c) : sr_R2 := (sr_nw t 15 0 (fun h1 => (sr_if (sr_mb h1 5 0) (sr_lh (h1.1, (5, 0, 1, sr_r 15 0) :: h1.2) (fun h2 => (sr_nw h2 16 0 (fun h3 => (sr_if (sr_mb h3 5 0) (sr_lh (h3.1, (5, 0, 2, sr_r 16 0) :: h3.2) (fun h4 => (sr_nw h4 8 2 (fun h5 => (sr_bd (sr_nt (sr_fk h5 3 (FC8_init 2 i1 h5))) (sr_dV (fun h6 => (sr_if (sr_mb h6 5 0) (sr_lh (h6.1, (5, 0, 0, sr_r 8 2) :: h6.2) (fun h7 => (some (.inl none, h7))))))))))))))))))))
theorem CC5_init (l : Launch) (i1 : Nat) (t : sr_c) : sr_T sr_e2 l sr_m5_init [sr_r 5 0, sr_r 3 i1] t (FC5_init i1 t) 6 1427 := by
  refine sr_T_of (L0 := [some (sr_r 5 0), some (sr_r 3 i1)]) rfl (by decide +kernel) (fun _ => rfl) (fun _ => Nat.le_of_ble_eq_true rfl) ?_
  unfold FC5_init
  refine sr_aloadn (pc := 0) (n := 0) (by decide +kernel) rfl ?_
  refine sr_objI (pc := 1) (idx := 3) (by decide +kernel) (sr_tb (n := 325) (by decide +kernel) rfl) oi_1 oi_2 (by decide) (by decide) rfl ?_
  refine sr_aloadn (pc := 4) (n := 0) (by decide +kernel) rfl ?_
  refine sr_bipush (pc := 5) (n := 24) (v := 24) (by decide +kernel) (by decide) ?_
  refine sr_newa2 (pc := 7) (k := 15) (n := 24) (i := 0) (at' := .int) (mc := 5) (ms := 1403) rfl (Or.inl ⟨rfl, rfl⟩) ac_int (by decide +kernel) (fun _ => rfl) (by decide) (by decide) (by decide) (fun h1 => ?_)
  refine sr_chk _ (fun hm => ?_)
  refine sr_put (pc := 9) (t2 := (h1.1, (5, 0, 1, sr_r 15 0) :: h1.2)) fg_5_9 ft_5_1 (by decide +kernel) (sr_mb_ok hm) ⟨_, _, rfl⟩ (fun _ => ⟨rfl, RX5, TX5, rfl, rfl, sr_tb (n := 329) (by decide +kernel) rfl⟩) (sr_e2_put _ _ _ _ _) ?_
  refine sr_gh _ (fun h2 => ?_)
  refine sr_aloadn (pc := 12) (n := 0) (by decide +kernel) rfl ?_
  refine sr_sipush (pc := 13) (n := 576) (v := 576) (by decide +kernel) (by decide) ?_
  refine sr_newa2 (pc := 16) (k := 16) (n := 576) (i := 0) (at' := .int) (mc := 4) (ms := 827) rfl (Or.inl ⟨rfl, rfl⟩) ac_int (by decide +kernel) (fun _ => rfl) (by decide) (by decide) (by decide) (fun h3 => ?_)
  refine sr_chk _ (fun hm => ?_)
  refine sr_put (pc := 18) (t2 := (h3.1, (5, 0, 2, sr_r 16 0) :: h3.2)) fg_5_15 ft_5_2 (by decide +kernel) (sr_mb_ok hm) ⟨_, _, rfl⟩ (fun _ => ⟨rfl, RX5, TX5, rfl, rfl, sr_tb (n := 330) (by decide +kernel) rfl⟩) (sr_e2_put _ _ _ _ _) ?_
  refine sr_gh _ (fun h4 => ?_)
  refine sr_aloadn (pc := 21) (n := 0) (by decide +kernel) rfl ?_
  refine sr_new2 (pc := 22) (i := 2) (mc := 3) (ms := 810) fn_5_18 (by decide +kernel) (fun h5 => ?_)
  refine sr_dup (pc := 25) (by decide +kernel) rfl ?_
  refine sr_aloadn (pc := 26) (n := 1) (by decide +kernel) rfl ?_
  refine sr_callI (pc := 27) (As := [sr_r 3 i1]) (mc1 := 3) (ms1 := 810) (mc2 := 0) (ms2 := 0) (fx := sr_fk h5 3 (FC8_init 2 i1 h5)) fm_5_20 (by decide +kernel) rm_5_init_8_init rfl rfl rfl (sr_fk_ok h5 3 (FC8_init 2 i1 h5)) (sr_fk_T (CC8_init l 2 i1 h5)) (sr_kV (fun h6 => ?_))
  refine sr_chk _ (fun hm => ?_)
  refine sr_put (pc := 30) (t2 := (h6.1, (5, 0, 0, sr_r 8 2) :: h6.2)) fg_5_23 ft_5_0 (by decide +kernel) (sr_mb_ok hm) ⟨_, _, rfl⟩ (fun _ => ⟨rfl, RX5, TX5, rfl, rfl, sr_tb (n := 328) (by decide +kernel) rfl⟩) (sr_e2_put _ _ _ _ _) ?_
  refine sr_gh _ (fun h7 => ?_)
  exact sr_ret (pc := 33) (by decide +kernel) rfl
def FC1_init  (t : sr_c) : sr_R2 := (sr_nw t 3 1 (fun h1 => (sr_bd (sr_nt (sr_fk h1 156 (FC3_init 1 h1))) (sr_dV (fun h2 => (sr_if (sr_mb h2 1 0) (sr_lh (h2.1, (1, 0, 0, sr_r 3 1) :: h2.2) (fun h3 => (sr_if (sr_mb h3 1 0) (sr_lh (h3.1, (1, 0, 1, sr_r 5 0) :: h3.2) (fun h4 => (some (.inl none, h4)))))))))))))
theorem CC1_init (l : Launch)  (t : sr_c) : sr_T sr_e2 l sr_m1_init [sr_r 1 0, sr_r 5 0] t (FC1_init  t) 157 831 := by
  refine sr_T_of (L0 := [some (sr_r 1 0), some (sr_r 5 0)]) rfl (by decide +kernel) (fun _ => rfl) (fun _ => Nat.le_of_ble_eq_true rfl) ?_
  unfold FC1_init
  refine sr_aloadn (pc := 0) (n := 0) (by decide +kernel) rfl ?_
  refine sr_objI (pc := 1) (idx := 3) (by decide +kernel) (sr_tb (n := 378) (by decide +kernel) rfl) oi_1 oi_2 (by decide) (by decide) rfl ?_
  refine sr_aloadn (pc := 4) (n := 0) (by decide +kernel) rfl ?_
  refine sr_new2 (pc := 5) (i := 1) (mc := 156) (ms := 822) fn_1_9 (by decide +kernel) (fun h1 => ?_)
  refine sr_dup (pc := 8) (by decide +kernel) rfl ?_
  refine sr_callI (pc := 9) (As := []) (mc1 := 156) (ms1 := 822) (mc2 := 0) (ms2 := 0) (fx := sr_fk h1 156 (FC3_init 1 h1)) fm_1_11 (by decide +kernel) rm_1_init_3_init rfl rfl rfl (sr_fk_ok h1 156 (FC3_init 1 h1)) (sr_fk_T (CC3_init l 1 h1)) (sr_kV (fun h2 => ?_))
  refine sr_chk _ (fun hm => ?_)
  refine sr_put (pc := 12) (t2 := (h2.1, (1, 0, 0, sr_r 3 1) :: h2.2)) fg_1_12 ft_1_0 (by decide +kernel) (sr_mb_ok hm) ⟨_, _, rfl⟩ (fun _ => ⟨rfl, RX1, TX1, rfl, rfl, sr_tb (n := 381) (by decide +kernel) rfl⟩) (sr_e2_put _ _ _ _ _) ?_
  refine sr_gh _ (fun h3 => ?_)
  refine sr_aloadn (pc := 15) (n := 0) (by decide +kernel) rfl ?_
  refine sr_aloadn (pc := 16) (n := 1) (by decide +kernel) rfl ?_
  refine sr_chk _ (fun hm => ?_)
  refine sr_put (pc := 17) (t2 := (h3.1, (1, 0, 1, sr_r 5 0) :: h3.2)) fg_1_18 ft_1_1 (by decide +kernel) (sr_mb_ok hm) ⟨_, _, rfl⟩ (fun _ => ⟨rfl, RX1, TX1, rfl, rfl, sr_tb (n := 382) (by decide +kernel) rfl⟩) (sr_e2_put _ _ _ _ _) ?_
  refine sr_gh _ (fun h4 => ?_)
  exact sr_ret (pc := 20) (by decide +kernel) rfl
def FC9_init  (t : sr_c) : sr_R2 := (sr_nw t 17 0 (fun h1 => (sr_if (sr_mb h1 9 0) (sr_lh (h1.1, (9, 0, 0, sr_r 17 0) :: h1.2) (fun h2 => (sr_nw h2 18 0 (fun h3 => (sr_if (sr_mb h3 9 0) (sr_lh (h3.1, (9, 0, 1, sr_r 18 0) :: h3.2) (fun h4 => (sr_nw h4 19 0 (fun h5 => (sr_if (sr_mb h5 9 0) (sr_lh (h5.1, (9, 0, 2, sr_r 19 0) :: h5.2) (fun h6 => (some (.inl none, h6)))))))))))))))))
theorem CC9_init (l : Launch)  (t : sr_c) : sr_T sr_e2 l sr_m9_init [sr_r 9 0] t (FC9_init  t) 3 120 := by
  refine sr_T_of (L0 := [some (sr_r 9 0)]) rfl (by decide +kernel) (fun _ => rfl) (fun _ => Nat.le_of_ble_eq_true rfl) ?_
  unfold FC9_init
  refine sr_aloadn (pc := 0) (n := 0) (by decide +kernel) rfl ?_
  refine sr_objI (pc := 1) (idx := 3) (by decide +kernel) (sr_tb (n := 393) (by decide +kernel) rfl) oi_1 oi_2 (by decide) (by decide) rfl ?_
  refine sr_aloadn (pc := 4) (n := 0) (by decide +kernel) rfl ?_
  refine sr_bipush (pc := 5) (n := 24) (v := 24) (by decide +kernel) (by decide) ?_
  refine sr_newa2 (pc := 7) (k := 17) (n := 24) (i := 0) (at' := .int) (mc := 2) (ms := 96) rfl (Or.inl ⟨rfl, rfl⟩) ac_int (by decide +kernel) (fun _ => rfl) (by decide) (by decide) (by decide) (fun h1 => ?_)
  refine sr_chk _ (fun hm => ?_)
  refine sr_put (pc := 9) (t2 := (h1.1, (9, 0, 0, sr_r 17 0) :: h1.2)) fg_9_9 ft_9_0 (by decide +kernel) (sr_mb_ok hm) ⟨_, _, rfl⟩ (fun _ => ⟨rfl, RX9, TX9, rfl, rfl, sr_tb (n := 394) (by decide +kernel) rfl⟩) (sr_e2_put _ _ _ _ _) ?_
  refine sr_gh _ (fun h2 => ?_)
  refine sr_aloadn (pc := 12) (n := 0) (by decide +kernel) rfl ?_
  refine sr_bipush (pc := 13) (n := 48) (v := 48) (by decide +kernel) (by decide) ?_
  refine sr_newa2 (pc := 15) (k := 18) (n := 48) (i := 0) (at' := .long) (mc := 1) (ms := 48) rfl (Or.inr ⟨rfl, rfl⟩) ac_long (by decide +kernel) (fun _ => rfl) (by decide) (by decide) (by decide) (fun h3 => ?_)
  refine sr_chk _ (fun hm => ?_)
  refine sr_put (pc := 17) (t2 := (h3.1, (9, 0, 1, sr_r 18 0) :: h3.2)) fg_9_15 ft_9_1 (by decide +kernel) (sr_mb_ok hm) ⟨_, _, rfl⟩ (fun _ => ⟨rfl, RX9, TX9, rfl, rfl, sr_tb (n := 395) (by decide +kernel) rfl⟩) (sr_e2_put _ _ _ _ _) ?_
  refine sr_gh _ (fun h4 => ?_)
  refine sr_aloadn (pc := 20) (n := 0) (by decide +kernel) rfl ?_
  refine sr_bipush (pc := 21) (n := 48) (v := 48) (by decide +kernel) (by decide) ?_
  refine sr_newa2 (pc := 23) (k := 19) (n := 48) (i := 0) (at' := .int) (mc := 0) (ms := 0) rfl (Or.inl ⟨rfl, rfl⟩) ac_int (by decide +kernel) (fun _ => rfl) (by decide) (by decide) (by decide) (fun h5 => ?_)
  refine sr_chk _ (fun hm => ?_)
  refine sr_put (pc := 25) (t2 := (h5.1, (9, 0, 2, sr_r 19 0) :: h5.2)) fg_9_19 ft_9_2 (by decide +kernel) (sr_mb_ok hm) ⟨_, _, rfl⟩ (fun _ => ⟨rfl, RX9, TX9, rfl, rfl, sr_tb (n := 396) (by decide +kernel) rfl⟩) (sr_e2_put _ _ _ _ _) ?_
  refine sr_gh _ (fun h6 => ?_)
  exact sr_ret (pc := 28) (by decide +kernel) rfl
set_option maxRecDepth 100000 in
set_option maxHeartbeats 4000000 in
def FC10_init  (t : sr_c) : sr_R2 := (sr_nw t 3 0 (fun h1 => (sr_bd (sr_nt (sr_fk h1 156 (FC3_init 0 h1))) (sr_dV (fun h2 => (sr_if (sr_mb h2 10 0) (sr_lh (h2.1, (10, 0, 0, sr_r 3 0) :: h2.2) (fun h3 => (sr_nw h3 6 0 (fun h4 => (sr_bd (sr_nt (sr_fk h4 100 (FC6_init h4))) (sr_dV (fun h5 => (sr_if (sr_mb h5 10 0) (sr_lh (h5.1, (10, 0, 1, sr_r 6 0) :: h5.2) (fun h6 => (sr_nw h6 8 0 (fun h7 => (sr_if (sr_mb h7 10 0 && decide (sr_lk h7.2 10 0 0 = sr_r 3 0)) (sr_bd (sr_nt (sr_fk h7 3 (FC8_init 0 0 h7))) (sr_dV (fun h8 => (sr_if (sr_mb h8 10 0) (sr_lh (h8.1, (10, 0, 2, sr_r 8 0) :: h8.2) (fun h9 => (sr_nw h9 8 1 (fun h10 => (sr_if (sr_mb h10 10 0 && decide (sr_lk h10.2 10 0 0 = sr_r 3 0)) (sr_bd (sr_nt (sr_fk h10 3 (FC8_init 1 0 h10))) (sr_dV (fun h11 => (sr_if (sr_mb h11 10 0) (sr_lh (h11.1, (10, 0, 3, sr_r 8 1) :: h11.2) (fun h12 => (sr_nw h12 5 0 (fun h13 => (sr_if (sr_mb h13 10 0 && decide (sr_lk h13.2 10 0 0 = sr_r 3 0)) (sr_bd (sr_nt (sr_fk h13 6 (FC5_init 0 h13))) (sr_dV (fun h14 => (sr_if (sr_mb h14 10 0) (sr_lh (h14.1, (10, 0, 4, sr_r 5 0) :: h14.2) (fun h15 => (sr_nw h15 1 0 (fun h16 => (sr_if (sr_mb h16 10 0 && decide (sr_lk h16.2 10 0 4 = sr_r 5 0)) (sr_bd (sr_nt (sr_fk h16 157 (FC1_init h16))) (sr_dV (fun h17 => (sr_if (sr_mb h17 10 0) (sr_lh (h17.1, (10, 0, 5, sr_r 1 0) :: h17.2) (fun h18 => (sr_nw h18 9 0 (fun h19 => (sr_bd (sr_nt (sr_fk h19 3 (FC9_init h19))) (sr_dV (fun h20 => (sr_if (sr_mb h20 10 0) (sr_lh (h20.1, (10, 0, 6, sr_r 9 0) :: h20.2) (fun h21 => (some (.inl none, h21))))))))))))))))))))))))))))))))))))))))))))))))))))))))))))))
set_option maxRecDepth 100000 in
set_option maxHeartbeats 4000000 in
theorem CC10_init (l : Launch)  (t : sr_c) : sr_T sr_e2 l sr_m10_init [sr_r 10 0] t (FC10_init  t) 435 6632 := by
  refine sr_T_of (L0 := [some (sr_r 10 0)]) rfl (by decide +kernel) (fun _ => rfl) (fun _ => Nat.le_of_ble_eq_true rfl) ?_
  unfold FC10_init
  refine sr_aloadn (pc := 0) (n := 0) (by decide +kernel) rfl ?_
  refine sr_objI (pc := 1) (idx := 3) (by decide +kernel) (sr_tb (n := 28) (by decide +kernel) rfl) oi_1 oi_2 (by decide) (by decide) rfl ?_
  refine sr_aloadn (pc := 4) (n := 0) (by decide +kernel) rfl ?_
  refine sr_new2 (pc := 5) (i := 0) (mc := 434) (ms := 6623) fn_10_9 (by decide +kernel) (fun h1 => ?_)
  refine sr_dup (pc := 8) (by decide +kernel) rfl ?_
  refine sr_callI (pc := 9) (As := []) (mc1 := 156) (ms1 := 822) (mc2 := 278) (ms2 := 5801) (fx := sr_fk h1 156 (FC3_init 0 h1)) fm_10_11 (by decide +kernel) rm_10_init_3_init rfl rfl rfl (sr_fk_ok h1 156 (FC3_init 0 h1)) (sr_fk_T (CC3_init l 0 h1)) (sr_kV (fun h2 => ?_))
  refine sr_chk _ (fun hm => ?_)
  refine sr_put (pc := 12) (t2 := (h2.1, (10, 0, 0, sr_r 3 0) :: h2.2)) fg_10_12 ft_10_0 (by decide +kernel) (sr_mb_ok hm) ⟨_, _, rfl⟩ (fun _ => ⟨rfl, RX10, TX10, rfl, rfl, sr_tb (n := 405) (by decide +kernel) rfl⟩) (sr_e2_put _ _ _ _ _) ?_
  refine sr_gh _ (fun h3 => ?_)
  refine sr_aloadn (pc := 15) (n := 0) (by decide +kernel) rfl ?_
  refine sr_new2 (pc := 16) (i := 0) (mc := 277) (ms := 5796) fn_10_16 (by decide +kernel) (fun h4 => ?_)
  refine sr_dup (pc := 19) (by decide +kernel) rfl ?_
  refine sr_callI (pc := 20) (As := []) (mc1 := 100) (ms1 := 1748) (mc2 := 177) (ms2 := 4048) (fx := sr_fk h4 100 (FC6_init h4)) fm_10_18 (by decide +kernel) rm_10_init_6_init rfl rfl rfl (sr_fk_ok h4 100 (FC6_init h4)) (sr_fk_T (CC6_init l h4)) (sr_kV (fun h5 => ?_))
  refine sr_chk _ (fun hm => ?_)
  refine sr_put (pc := 23) (t2 := (h5.1, (10, 0, 1, sr_r 6 0) :: h5.2)) fg_10_19 ft_10_1 (by decide +kernel) (sr_mb_ok hm) ⟨_, _, rfl⟩ (fun _ => ⟨rfl, RX10, TX10, rfl, rfl, sr_tb (n := 406) (by decide +kernel) rfl⟩) (sr_e2_put _ _ _ _ _) ?_
  refine sr_gh _ (fun h6 => ?_)
  refine sr_aloadn (pc := 26) (n := 0) (by decide +kernel) rfl ?_
  refine sr_new2 (pc := 27) (i := 0) (mc := 176) (ms := 4031) fn_10_23 (by decide +kernel) (fun h7 => ?_)
  refine sr_dup (pc := 30) (by decide +kernel) rfl ?_
  refine sr_aloadn (pc := 31) (n := 0) (by decide +kernel) rfl ?_
  refine sr_chk _ (fun hm => ?_)
  have hm2 := (Bool.and_eq_true _ _).mp hm
  refine sr_get (pc := 32) fg_10_12 (by decide +kernel) (sr_mb_ok hm2.1) (of_decide_eq_true hm2.2) ?_
  refine sr_callI (pc := 35) (As := [sr_r 3 0]) (mc1 := 3) (ms1 := 810) (mc2 := 173) (ms2 := 3221) (fx := sr_fk h7 3 (FC8_init 0 0 h7)) fm_10_25 (by decide +kernel) rm_10_init_8_init rfl rfl rfl (sr_fk_ok h7 3 (FC8_init 0 0 h7)) (sr_fk_T (CC8_init l 0 0 h7)) (sr_kV (fun h8 => ?_))
  refine sr_chk _ (fun hm => ?_)
  refine sr_put (pc := 38) (t2 := (h8.1, (10, 0, 2, sr_r 8 0) :: h8.2)) fg_10_28 ft_10_2 (by decide +kernel) (sr_mb_ok hm) ⟨_, _, rfl⟩ (fun _ => ⟨rfl, RX10, TX10, rfl, rfl, sr_tb (n := 407) (by decide +kernel) rfl⟩) (sr_e2_put _ _ _ _ _) ?_
  refine sr_gh _ (fun h9 => ?_)
  refine sr_aloadn (pc := 41) (n := 0) (by decide +kernel) rfl ?_
  refine sr_new2 (pc := 42) (i := 1) (mc := 172) (ms := 3204) fn_10_23 (by decide +kernel) (fun h10 => ?_)
  refine sr_dup (pc := 45) (by decide +kernel) rfl ?_
  refine sr_aloadn (pc := 46) (n := 0) (by decide +kernel) rfl ?_
  refine sr_chk _ (fun hm => ?_)
  have hm2 := (Bool.and_eq_true _ _).mp hm
  refine sr_get (pc := 47) fg_10_12 (by decide +kernel) (sr_mb_ok hm2.1) (of_decide_eq_true hm2.2) ?_
  refine sr_callI (pc := 50) (As := [sr_r 3 0]) (mc1 := 3) (ms1 := 810) (mc2 := 169) (ms2 := 2394) (fx := sr_fk h10 3 (FC8_init 1 0 h10)) fm_10_25 (by decide +kernel) rm_10_init_8_init rfl rfl rfl (sr_fk_ok h10 3 (FC8_init 1 0 h10)) (sr_fk_T (CC8_init l 1 0 h10)) (sr_kV (fun h11 => ?_))
  refine sr_chk _ (fun hm => ?_)
  refine sr_put (pc := 53) (t2 := (h11.1, (10, 0, 3, sr_r 8 1) :: h11.2)) fg_10_32 ft_10_3 (by decide +kernel) (sr_mb_ok hm) ⟨_, _, rfl⟩ (fun _ => ⟨rfl, RX10, TX10, rfl, rfl, sr_tb (n := 408) (by decide +kernel) rfl⟩) (sr_e2_put _ _ _ _ _) ?_
  refine sr_gh _ (fun h12 => ?_)
  refine sr_aloadn (pc := 56) (n := 0) (by decide +kernel) rfl ?_
  refine sr_new2 (pc := 57) (i := 0) (mc := 168) (ms := 2383) fn_10_35 (by decide +kernel) (fun h13 => ?_)
  refine sr_dup (pc := 60) (by decide +kernel) rfl ?_
  refine sr_aloadn (pc := 61) (n := 0) (by decide +kernel) rfl ?_
  refine sr_chk _ (fun hm => ?_)
  have hm2 := (Bool.and_eq_true _ _).mp hm
  refine sr_get (pc := 62) fg_10_12 (by decide +kernel) (sr_mb_ok hm2.1) (of_decide_eq_true hm2.2) ?_
  refine sr_callI (pc := 65) (As := [sr_r 3 0]) (mc1 := 6) (ms1 := 1427) (mc2 := 162) (ms2 := 956) (fx := sr_fk h13 6 (FC5_init 0 h13)) fm_10_37 (by decide +kernel) rm_10_init_5_init rfl rfl rfl (sr_fk_ok h13 6 (FC5_init 0 h13)) (sr_fk_T (CC5_init l 0 h13)) (sr_kV (fun h14 => ?_))
  refine sr_chk _ (fun hm => ?_)
  refine sr_put (pc := 68) (t2 := (h14.1, (10, 0, 4, sr_r 5 0) :: h14.2)) fg_10_38 ft_10_4 (by decide +kernel) (sr_mb_ok hm) ⟨_, _, rfl⟩ (fun _ => ⟨rfl, RX10, TX10, rfl, rfl, sr_tb (n := 409) (by decide +kernel) rfl⟩) (sr_e2_put _ _ _ _ _) ?_
  refine sr_gh _ (fun h15 => ?_)
  refine sr_aloadn (pc := 71) (n := 0) (by decide +kernel) rfl ?_
  refine sr_new2 (pc := 72) (i := 0) (mc := 161) (ms := 954) fn_10_42 (by decide +kernel) (fun h16 => ?_)
  refine sr_dup (pc := 75) (by decide +kernel) rfl ?_
  refine sr_aloadn (pc := 76) (n := 0) (by decide +kernel) rfl ?_
  refine sr_chk _ (fun hm => ?_)
  have hm2 := (Bool.and_eq_true _ _).mp hm
  refine sr_get (pc := 77) fg_10_38 (by decide +kernel) (sr_mb_ok hm2.1) (of_decide_eq_true hm2.2) ?_
  refine sr_callI (pc := 80) (As := [sr_r 5 0]) (mc1 := 157) (ms1 := 831) (mc2 := 4) (ms2 := 123) (fx := sr_fk h16 157 (FC1_init h16)) fm_10_44 (by decide +kernel) rm_10_init_1_init rfl rfl rfl (sr_fk_ok h16 157 (FC1_init h16)) (sr_fk_T (CC1_init l h16)) (sr_kV (fun h17 => ?_))
  refine sr_chk _ (fun hm => ?_)
  refine sr_put (pc := 83) (t2 := (h17.1, (10, 0, 5, sr_r 1 0) :: h17.2)) fg_10_47 ft_10_5 (by decide +kernel) (sr_mb_ok hm) ⟨_, _, rfl⟩ (fun _ => ⟨rfl, RX10, TX10, rfl, rfl, sr_tb (n := 410) (by decide +kernel) rfl⟩) (sr_e2_put _ _ _ _ _) ?_
  refine sr_gh _ (fun h18 => ?_)
  refine sr_aloadn (pc := 86) (n := 0) (by decide +kernel) rfl ?_
  refine sr_new2 (pc := 87) (i := 0) (mc := 3) (ms := 120) fn_10_51 (by decide +kernel) (fun h19 => ?_)
  refine sr_dup (pc := 90) (by decide +kernel) rfl ?_
  refine sr_callI (pc := 91) (As := []) (mc1 := 3) (ms1 := 120) (mc2 := 0) (ms2 := 0) (fx := sr_fk h19 3 (FC9_init h19)) fm_10_53 (by decide +kernel) rm_10_init_9_init rfl rfl rfl (sr_fk_ok h19 3 (FC9_init h19)) (sr_fk_T (CC9_init l h19)) (sr_kV (fun h20 => ?_))
  refine sr_chk _ (fun hm => ?_)
  refine sr_put (pc := 94) (t2 := (h20.1, (10, 0, 6, sr_r 9 0) :: h20.2)) fg_10_54 ft_10_6 (by decide +kernel) (sr_mb_ok hm) ⟨_, _, rfl⟩ (fun _ => ⟨rfl, RX10, TX10, rfl, rfl, sr_tb (n := 411) (by decide +kernel) rfl⟩) (sr_e2_put _ _ _ _ _) ?_
  refine sr_gh _ (fun h21 => ?_)
  exact sr_ret (pc := 97) (by decide +kernel) rfl
set_option maxRecDepth 100000 in
set_option maxHeartbeats 4000000 in
def FC11_init  (t : sr_c) : sr_R2 := (sr_nw t 24 0 (fun h1 => (sr_if (sr_mb h1 11 0) (sr_lh (h1.1, (11, 0, 2, sr_r 24 0) :: h1.2) (fun h2 => (sr_nw h2 25 0 (fun h3 => (sr_if (sr_mb h3 11 0) (sr_lh (h3.1, (11, 0, 3, sr_r 25 0) :: h3.2) (fun h4 => (sr_nw h4 26 0 (fun h5 => (sr_if (sr_mb h5 11 0) (sr_lh (h5.1, (11, 0, 4, sr_r 26 0) :: h5.2) (fun h6 => (sr_nw h6 27 0 (fun h7 => (sr_if (sr_mb h7 11 0) (sr_lh (h7.1, (11, 0, 5, sr_r 27 0) :: h7.2) (fun h8 => (sr_nw h8 28 0 (fun h9 => (sr_if (sr_mb h9 11 0) (sr_lh (h9.1, (11, 0, 6, sr_r 28 0) :: h9.2) (fun h10 => (sr_if (sr_mb h10 11 0) (sr_lh (h10.1, (11, 0, 7, sr_i 4) :: h10.2) (fun h11 => (sr_if (sr_mb h11 11 0) (sr_lh (h11.1, (11, 0, 8, sr_i 4) :: h11.2) (fun h12 => (sr_if (sr_mb h12 11 0) (sr_lh (h12.1, (11, 0, 9, sr_i 2) :: h12.2) (fun h13 => (sr_nw h13 29 0 (fun h14 => (sr_if (sr_mb h14 11 0) (sr_lh (h14.1, (11, 0, 23, sr_r 29 0) :: h14.2) (fun h15 => (sr_nw h15 30 0 (fun h16 => (sr_if (sr_mb h16 11 0) (sr_lh (h16.1, (11, 0, 24, sr_r 30 0) :: h16.2) (fun h17 => (sr_nw h17 31 0 (fun h18 => (sr_if (sr_mb h18 11 0) (sr_lh (h18.1, (11, 0, 25, sr_r 31 0) :: h18.2) (fun h19 => (sr_nw h19 32 0 (fun h20 => (sr_if (sr_mb h20 11 0) (sr_lh (h20.1, (11, 0, 26, sr_r 32 0) :: h20.2) (fun h21 => (sr_nw h21 33 0 (fun h22 => (sr_if (sr_mb h22 33 0) (if (0 : Int32) < 0 ∨ 9 ≤ (0 : Int32).toNatClampNeg then none else sr_lh (h22.1, (33, 0, (0 : Int32).toNatClampNeg, sr_i 0) :: h22.2) (fun h23 => (sr_if (sr_mb h23 33 0) (if (1 : Int32) < 0 ∨ 9 ≤ (1 : Int32).toNatClampNeg then none else sr_lh (h23.1, (33, 0, (1 : Int32).toNatClampNeg, sr_i 0) :: h23.2) (fun h24 => (sr_if (sr_mb h24 33 0) (if (2 : Int32) < 0 ∨ 9 ≤ (2 : Int32).toNatClampNeg then none else sr_lh (h24.1, (33, 0, (2 : Int32).toNatClampNeg, sr_i 0) :: h24.2) (fun h25 => (sr_if (sr_mb h25 33 0) (if (3 : Int32) < 0 ∨ 9 ≤ (3 : Int32).toNatClampNeg then none else sr_lh (h25.1, (33, 0, (3 : Int32).toNatClampNeg, sr_i 0) :: h25.2) (fun h26 => (sr_if (sr_mb h26 33 0) (if (4 : Int32) < 0 ∨ 9 ≤ (4 : Int32).toNatClampNeg then none else sr_lh (h26.1, (33, 0, (4 : Int32).toNatClampNeg, sr_i 0) :: h26.2) (fun h27 => (sr_if (sr_mb h27 33 0) (if (5 : Int32) < 0 ∨ 9 ≤ (5 : Int32).toNatClampNeg then none else sr_lh (h27.1, (33, 0, (5 : Int32).toNatClampNeg, sr_i 0) :: h27.2) (fun h28 => (sr_if (sr_mb h28 33 0) (if (6 : Int32) < 0 ∨ 9 ≤ (6 : Int32).toNatClampNeg then none else sr_lh (h28.1, (33, 0, (6 : Int32).toNatClampNeg, sr_i 0) :: h28.2) (fun h29 => (sr_if (sr_mb h29 33 0) (if (7 : Int32) < 0 ∨ 9 ≤ (7 : Int32).toNatClampNeg then none else sr_lh (h29.1, (33, 0, (7 : Int32).toNatClampNeg, sr_i (-1)) :: h29.2) (fun h30 => (sr_if (sr_mb h30 33 0) (if (8 : Int32) < 0 ∨ 9 ≤ (8 : Int32).toNatClampNeg then none else sr_lh (h30.1, (33, 0, (8 : Int32).toNatClampNeg, sr_i 0) :: h30.2) (fun h31 => (sr_if (sr_mb h31 11 0) (sr_lh (h31.1, (11, 0, 27, sr_r 33 0) :: h31.2) (fun h32 => (sr_nw h32 34 0 (fun h33 => (sr_if (sr_mb h33 11 0) (sr_lh (h33.1, (11, 0, 29, sr_r 34 0) :: h33.2) (fun h34 => (sr_nw h34 35 0 (fun h35 => (sr_if (sr_mb h35 11 0) (sr_lh (h35.1, (11, 0, 31, sr_r 35 0) :: h35.2) (fun h36 => (sr_nw h36 36 0 (fun h37 => (sr_if (sr_mb h37 11 0) (sr_lh (h37.1, (11, 0, 32, sr_r 36 0) :: h37.2) (fun h38 => (sr_nw h38 37 0 (fun h39 => (sr_if (sr_mb h39 11 0) (sr_lh (h39.1, (11, 0, 35, sr_r 37 0) :: h39.2) (fun h40 => (sr_nw h40 38 0 (fun h41 => (sr_if (sr_mb h41 11 0) (sr_lh (h41.1, (11, 0, 36, sr_r 38 0) :: h41.2) (fun h42 => (sr_nw h42 39 0 (fun h43 => (sr_if (sr_mb h43 11 0) (sr_lh (h43.1, (11, 0, 37, sr_r 39 0) :: h43.2) (fun h44 => (sr_nw h44 40 0 (fun h45 => (sr_if (sr_mb h45 11 0) (sr_lh (h45.1, (11, 0, 38, sr_r 40 0) :: h45.2) (fun h46 => (sr_nw h46 41 0 (fun h47 => (sr_if (sr_mb h47 11 0) (sr_lh (h47.1, (11, 0, 39, sr_r 41 0) :: h47.2) (fun h48 => (sr_nw h48 42 0 (fun h49 => (sr_if (sr_mb h49 11 0) (sr_lh (h49.1, (11, 0, 48, sr_r 42 0) :: h49.2) (fun h50 => (sr_nw h50 43 0 (fun h51 => (sr_if (sr_mb h51 11 0) (sr_lh (h51.1, (11, 0, 49, sr_r 43 0) :: h51.2) (fun h52 => (sr_nw h52 44 0 (fun h53 => (sr_if (sr_mb h53 11 0) (sr_lh (h53.1, (11, 0, 50, sr_r 44 0) :: h53.2) (fun h54 => (sr_nw h54 45 0 (fun h55 => (sr_if (sr_mb h55 11 0) (sr_lh (h55.1, (11, 0, 51, sr_r 45 0) :: h55.2) (fun h56 => (sr_nw h56 46 0 (fun h57 => (sr_if (sr_mb h57 11 0) (sr_lh (h57.1, (11, 0, 52, sr_r 46 0) :: h57.2) (fun h58 => (sr_if (sr_mb h58 11 0) (sr_lh (h58.1, (11, 0, 22, sr_i 0) :: h58.2) (fun h59 => (some (.inl none, h59))))))))))))))))))))))))))))))))))))))))))))))))))))))))))))))))))))))))))))))))))))))))))))))))))))))))))))))))))))))))))))))))))))))))))))))))))))))))))))
set_option maxRecDepth 100000 in
set_option maxHeartbeats 4000000 in
theorem CC11_init (l : Launch)  (t : sr_c) : sr_T sr_e2 l sr_m11_init [sr_r 11 0] t (FC11_init  t) 23 6219 := by
  refine sr_T_of (L0 := [some (sr_r 11 0)]) rfl (by decide +kernel) (fun _ => rfl) (fun _ => Nat.le_of_ble_eq_true rfl) ?_
  unfold FC11_init
  refine sr_aloadn (pc := 0) (n := 0) (by decide +kernel) rfl ?_
  refine sr_objI (pc := 1) (idx := 1) (by decide +kernel) (sr_tb (n := 1384) (by decide +kernel) rfl) oi_1 oi_2 (by decide) (by decide) rfl ?_
  refine sr_aloadn (pc := 4) (n := 0) (by decide +kernel) rfl ?_
  refine sr_bipush (pc := 5) (n := 24) (v := 24) (by decide +kernel) (by decide) ?_
  refine sr_newa2 (pc := 7) (k := 24) (n := 24) (i := 0) (at' := .int) (mc := 22) (ms := 6195) rfl (Or.inl ⟨rfl, rfl⟩) ac_int (by decide +kernel) (fun _ => rfl) (by decide) (by decide) (by decide) (fun h1 => ?_)
  refine sr_chk _ (fun hm => ?_)
  refine sr_put (pc := 9) (t2 := (h1.1, (11, 0, 2, sr_r 24 0) :: h1.2)) fg_11_7 ft_11_2 (by decide +kernel) (sr_mb_ok hm) ⟨_, _, rfl⟩ (fun _ => ⟨rfl, RX11, TX11, rfl, rfl, sr_tb (n := 1387) (by decide +kernel) rfl⟩) (sr_e2_put _ _ _ _ _) ?_
  refine sr_gh _ (fun h2 => ?_)
  refine sr_aloadn (pc := 12) (n := 0) (by decide +kernel) rfl ?_
  refine sr_bipush (pc := 13) (n := 24) (v := 24) (by decide +kernel) (by decide) ?_
  refine sr_newa2 (pc := 15) (k := 25) (n := 24) (i := 0) (at' := .int) (mc := 21) (ms := 6171) rfl (Or.inl ⟨rfl, rfl⟩) ac_int (by decide +kernel) (fun _ => rfl) (by decide) (by decide) (by decide) (fun h3 => ?_)
  refine sr_chk _ (fun hm => ?_)
  refine sr_put (pc := 17) (t2 := (h3.1, (11, 0, 3, sr_r 25 0) :: h3.2)) fg_11_13 ft_11_3 (by decide +kernel) (sr_mb_ok hm) ⟨_, _, rfl⟩ (fun _ => ⟨rfl, RX11, TX11, rfl, rfl, sr_tb (n := 1388) (by decide +kernel) rfl⟩) (sr_e2_put _ _ _ _ _) ?_
  refine sr_gh _ (fun h4 => ?_)
  refine sr_aloadn (pc := 20) (n := 0) (by decide +kernel) rfl ?_
  refine sr_bipush (pc := 21) (n := 24) (v := 24) (by decide +kernel) (by decide) ?_
  refine sr_newa2 (pc := 23) (k := 26) (n := 24) (i := 0) (at' := .int) (mc := 20) (ms := 6147) rfl (Or.inl ⟨rfl, rfl⟩) ac_int (by decide +kernel) (fun _ => rfl) (by decide) (by decide) (by decide) (fun h5 => ?_)
  refine sr_chk _ (fun hm => ?_)
  refine sr_put (pc := 25) (t2 := (h5.1, (11, 0, 4, sr_r 26 0) :: h5.2)) fg_11_16 ft_11_4 (by decide +kernel) (sr_mb_ok hm) ⟨_, _, rfl⟩ (fun _ => ⟨rfl, RX11, TX11, rfl, rfl, sr_tb (n := 1389) (by decide +kernel) rfl⟩) (sr_e2_put _ _ _ _ _) ?_
  refine sr_gh _ (fun h6 => ?_)
  refine sr_aloadn (pc := 28) (n := 0) (by decide +kernel) rfl ?_
  refine sr_sipush (pc := 29) (n := 336) (v := 336) (by decide +kernel) (by decide) ?_
  refine sr_newa2 (pc := 32) (k := 27) (n := 336) (i := 0) (at' := .int) (mc := 19) (ms := 5811) rfl (Or.inl ⟨rfl, rfl⟩) ac_int (by decide +kernel) (fun _ => rfl) (by decide) (by decide) (by decide) (fun h7 => ?_)
  refine sr_chk _ (fun hm => ?_)
  refine sr_put (pc := 34) (t2 := (h7.1, (11, 0, 5, sr_r 27 0) :: h7.2)) fg_11_19 ft_11_5 (by decide +kernel) (sr_mb_ok hm) ⟨_, _, rfl⟩ (fun _ => ⟨rfl, RX11, TX11, rfl, rfl, sr_tb (n := 1390) (by decide +kernel) rfl⟩) (sr_e2_put _ _ _ _ _) ?_
  refine sr_gh _ (fun h8 => ?_)
  refine sr_aloadn (pc := 37) (n := 0) (by decide +kernel) rfl ?_
  refine sr_sipush (pc := 38) (n := 336) (v := 336) (by decide +kernel) (by decide) ?_
  refine sr_newa2 (pc := 41) (k := 28) (n := 336) (i := 0) (at' := .int) (mc := 18) (ms := 5475) rfl (Or.inl ⟨rfl, rfl⟩) ac_int (by decide +kernel) (fun _ => rfl) (by decide) (by decide) (by decide) (fun h9 => ?_)
  refine sr_chk _ (fun hm => ?_)
  refine sr_put (pc := 43) (t2 := (h9.1, (11, 0, 6, sr_r 28 0) :: h9.2)) fg_11_22 ft_11_6 (by decide +kernel) (sr_mb_ok hm) ⟨_, _, rfl⟩ (fun _ => ⟨rfl, RX11, TX11, rfl, rfl, sr_tb (n := 1391) (by decide +kernel) rfl⟩) (sr_e2_put _ _ _ _ _) ?_
  refine sr_gh _ (fun h10 => ?_)
  refine sr_aloadn (pc := 46) (n := 0) (by decide +kernel) rfl ?_
  refine sr_iconst (pc := 47) (n := 4) (v := 4) (by decide +kernel) rfl ?_
  refine sr_chk _ (fun hm => ?_)
  refine sr_put (pc := 48) (t2 := (h10.1, (11, 0, 7, sr_i 4) :: h10.2)) fg_11_25 ft_11_7 (by decide +kernel) (sr_mb_ok hm) ⟨_, rfl⟩ (fun hq => nomatch hq) (sr_e2_put _ _ _ _ _) ?_
  refine sr_gh _ (fun h11 => ?_)
  refine sr_aloadn (pc := 51) (n := 0) (by decide +kernel) rfl ?_
  refine sr_iconst (pc := 52) (n := 4) (v := 4) (by decide +kernel) rfl ?_
  refine sr_chk _ (fun hm => ?_)
  refine sr_put (pc := 53) (t2 := (h11.1, (11, 0, 8, sr_i 4) :: h11.2)) fg_11_29 ft_11_8 (by decide +kernel) (sr_mb_ok hm) ⟨_, rfl⟩ (fun hq => nomatch hq) (sr_e2_put _ _ _ _ _) ?_
  refine sr_gh _ (fun h12 => ?_)
  refine sr_aloadn (pc := 56) (n := 0) (by decide +kernel) rfl ?_
  refine sr_iconst (pc := 57) (n := 2) (v := 2) (by decide +kernel) rfl ?_
  refine sr_chk _ (fun hm => ?_)
  refine sr_put (pc := 58) (t2 := (h12.1, (11, 0, 9, sr_i 2) :: h12.2)) fg_11_32 ft_11_9 (by decide +kernel) (sr_mb_ok hm) ⟨_, rfl⟩ (fun hq => nomatch hq) (sr_e2_put _ _ _ _ _) ?_
  refine sr_gh _ (fun h13 => ?_)
  refine sr_aloadn (pc := 61) (n := 0) (by decide +kernel) rfl ?_
  refine sr_sipush (pc := 62) (n := 200) (v := 200) (by decide +kernel) (by decide) ?_
  refine sr_newa2 (pc := 65) (k := 29) (n := 200) (i := 0) (at' := .int) (mc := 17) (ms := 5275) rfl (Or.inl ⟨rfl, rfl⟩) ac_int (by decide +kernel) (fun _ => rfl) (by decide) (by decide) (by decide) (fun h14 => ?_)
  refine sr_chk _ (fun hm => ?_)
  refine sr_put (pc := 67) (t2 := (h14.1, (11, 0, 23, sr_r 29 0) :: h14.2)) fg_11_35 ft_11_23 (by decide +kernel) (sr_mb_ok hm) ⟨_, _, rfl⟩ (fun _ => ⟨rfl, RX11, TX11, rfl, rfl, sr_tb (n := 1406) (by decide +kernel) rfl⟩) (sr_e2_put _ _ _ _ _) ?_
  refine sr_gh _ (fun h15 => ?_)
  refine sr_aloadn (pc := 70) (n := 0) (by decide +kernel) rfl ?_
  refine sr_sipush (pc := 71) (n := 200) (v := 200) (by decide +kernel) (by decide) ?_
  refine sr_newa2 (pc := 74) (k := 30) (n := 200) (i := 0) (at' := .int) (mc := 16) (ms := 5075) rfl (Or.inl ⟨rfl, rfl⟩) ac_int (by decide +kernel) (fun _ => rfl) (by decide) (by decide) (by decide) (fun h16 => ?_)
  refine sr_chk _ (fun hm => ?_)
  refine sr_put (pc := 76) (t2 := (h16.1, (11, 0, 24, sr_r 30 0) :: h16.2)) fg_11_38 ft_11_24 (by decide +kernel) (sr_mb_ok hm) ⟨_, _, rfl⟩ (fun _ => ⟨rfl, RX11, TX11, rfl, rfl, sr_tb (n := 1407) (by decide +kernel) rfl⟩) (sr_e2_put _ _ _ _ _) ?_
  refine sr_gh _ (fun h17 => ?_)
  refine sr_aloadn (pc := 79) (n := 0) (by decide +kernel) rfl ?_
  refine sr_sipush (pc := 80) (n := 200) (v := 200) (by decide +kernel) (by decide) ?_
  refine sr_newa2 (pc := 83) (k := 31) (n := 200) (i := 0) (at' := .int) (mc := 15) (ms := 4875) rfl (Or.inl ⟨rfl, rfl⟩) ac_int (by decide +kernel) (fun _ => rfl) (by decide) (by decide) (by decide) (fun h18 => ?_)
  refine sr_chk _ (fun hm => ?_)
  refine sr_put (pc := 85) (t2 := (h18.1, (11, 0, 25, sr_r 31 0) :: h18.2)) fg_11_41 ft_11_25 (by decide +kernel) (sr_mb_ok hm) ⟨_, _, rfl⟩ (fun _ => ⟨rfl, RX11, TX11, rfl, rfl, sr_tb (n := 1408) (by decide +kernel) rfl⟩) (sr_e2_put _ _ _ _ _) ?_
  refine sr_gh _ (fun h19 => ?_)
  refine sr_aloadn (pc := 88) (n := 0) (by decide +kernel) rfl ?_
  refine sr_sipush (pc := 89) (n := 200) (v := 200) (by decide +kernel) (by decide) ?_
  refine sr_newa2 (pc := 92) (k := 32) (n := 200) (i := 0) (at' := .int) (mc := 14) (ms := 4675) rfl (Or.inl ⟨rfl, rfl⟩) ac_int (by decide +kernel) (fun _ => rfl) (by decide) (by decide) (by decide) (fun h20 => ?_)
  refine sr_chk _ (fun hm => ?_)
  refine sr_put (pc := 94) (t2 := (h20.1, (11, 0, 26, sr_r 32 0) :: h20.2)) fg_11_44 ft_11_26 (by decide +kernel) (sr_mb_ok hm) ⟨_, _, rfl⟩ (fun _ => ⟨rfl, RX11, TX11, rfl, rfl, sr_tb (n := 1409) (by decide +kernel) rfl⟩) (sr_e2_put _ _ _ _ _) ?_
  refine sr_gh _ (fun h21 => ?_)
  refine sr_aloadn (pc := 97) (n := 0) (by decide +kernel) rfl ?_
  refine sr_bipush (pc := 98) (n := 9) (v := 9) (by decide +kernel) (by decide) ?_
  refine sr_newa2 (pc := 100) (k := 33) (n := 9) (i := 0) (at' := .int) (mc := 13) (ms := 4666) rfl (Or.inl ⟨rfl, rfl⟩) ac_int (by decide +kernel) (fun _ => rfl) (by decide) (by decide) (by decide) (fun h22 => ?_)
  refine sr_dup (pc := 102) (by decide +kernel) rfl ?_
  refine sr_iconst (pc := 103) (n := 0) (v := 0) (by decide +kernel) rfl ?_
  refine sr_iconst (pc := 104) (n := 0) (v := 0) (by decide +kernel) rfl ?_
  refine sr_chk _ (fun hm => ?_)
  refine sr_iast (pc := 105) (t2 := (h22.1, (33, 0, (0 : Int32).toNatClampNeg, sr_i 0) :: h22.2)) (n := 9) rfl (by decide +kernel) (sr_mb_ok hm) (sr_e2_put _ _ _ _ _) (fun _ => ?_)
  refine sr_gh _ (fun h23 => ?_)
  refine sr_dup (pc := 106) (by decide +kernel) rfl ?_
  refine sr_iconst (pc := 107) (n := 1) (v := 1) (by decide +kernel) rfl ?_
  refine sr_iconst (pc := 108) (n := 0) (v := 0) (by decide +kernel) rfl ?_
  refine sr_chk _ (fun hm => ?_)
  refine sr_iast (pc := 109) (t2 := (h23.1, (33, 0, (1 : Int32).toNatClampNeg, sr_i 0) :: h23.2)) (n := 9) rfl (by decide +kernel) (sr_mb_ok hm) (sr_e2_put _ _ _ _ _) (fun _ => ?_)
  refine sr_gh _ (fun h24 => ?_)
  refine sr_dup (pc := 110) (by decide +kernel) rfl ?_
  refine sr_iconst (pc := 111) (n := 2) (v := 2) (by decide +kernel) rfl ?_
  refine sr_iconst (pc := 112) (n := 0) (v := 0) (by decide +kernel) rfl ?_
  refine sr_chk _ (fun hm => ?_)
  refine sr_iast (pc := 113) (t2 := (h24.1, (33, 0, (2 : Int32).toNatClampNeg, sr_i 0) :: h24.2)) (n := 9) rfl (by decide +kernel) (sr_mb_ok hm) (sr_e2_put _ _ _ _ _) (fun _ => ?_)
  refine sr_gh _ (fun h25 => ?_)
  refine sr_dup (pc := 114) (by decide +kernel) rfl ?_
  refine sr_iconst (pc := 115) (n := 3) (v := 3) (by decide +kernel) rfl ?_
  refine sr_iconst (pc := 116) (n := 0) (v := 0) (by decide +kernel) rfl ?_
  refine sr_chk _ (fun hm => ?_)
  refine sr_iast (pc := 117) (t2 := (h25.1, (33, 0, (3 : Int32).toNatClampNeg, sr_i 0) :: h25.2)) (n := 9) rfl (by decide +kernel) (sr_mb_ok hm) (sr_e2_put _ _ _ _ _) (fun _ => ?_)
  refine sr_gh _ (fun h26 => ?_)
  refine sr_dup (pc := 118) (by decide +kernel) rfl ?_
  refine sr_iconst (pc := 119) (n := 4) (v := 4) (by decide +kernel) rfl ?_
  refine sr_iconst (pc := 120) (n := 0) (v := 0) (by decide +kernel) rfl ?_
  refine sr_chk _ (fun hm => ?_)
  refine sr_iast (pc := 121) (t2 := (h26.1, (33, 0, (4 : Int32).toNatClampNeg, sr_i 0) :: h26.2)) (n := 9) rfl (by decide +kernel) (sr_mb_ok hm) (sr_e2_put _ _ _ _ _) (fun _ => ?_)
  refine sr_gh _ (fun h27 => ?_)
  refine sr_dup (pc := 122) (by decide +kernel) rfl ?_
  refine sr_iconst (pc := 123) (n := 5) (v := 5) (by decide +kernel) rfl ?_
  refine sr_iconst (pc := 124) (n := 0) (v := 0) (by decide +kernel) rfl ?_
  refine sr_chk _ (fun hm => ?_)
  refine sr_iast (pc := 125) (t2 := (h27.1, (33, 0, (5 : Int32).toNatClampNeg, sr_i 0) :: h27.2)) (n := 9) rfl (by decide +kernel) (sr_mb_ok hm) (sr_e2_put _ _ _ _ _) (fun _ => ?_)
  refine sr_gh _ (fun h28 => ?_)
  refine sr_dup (pc := 126) (by decide +kernel) rfl ?_
  refine sr_bipush (pc := 127) (n := 6) (v := 6) (by decide +kernel) (by decide) ?_
  refine sr_iconst (pc := 129) (n := 0) (v := 0) (by decide +kernel) rfl ?_
  refine sr_chk _ (fun hm => ?_)
  refine sr_iast (pc := 130) (t2 := (h28.1, (33, 0, (6 : Int32).toNatClampNeg, sr_i 0) :: h28.2)) (n := 9) rfl (by decide +kernel) (sr_mb_ok hm) (sr_e2_put _ _ _ _ _) (fun _ => ?_)
  refine sr_gh _ (fun h29 => ?_)
  refine sr_dup (pc := 131) (by decide +kernel) rfl ?_
  refine sr_bipush (pc := 132) (n := 7) (v := 7) (by decide +kernel) (by decide) ?_
  refine sr_iconst (pc := 134) (n := (-1)) (v := (-1)) (by decide +kernel) rfl ?_
  refine sr_chk _ (fun hm => ?_)
  refine sr_iast (pc := 135) (t2 := (h29.1, (33, 0, (7 : Int32).toNatClampNeg, sr_i (-1)) :: h29.2)) (n := 9) rfl (by decide +kernel) (sr_mb_ok hm) (sr_e2_put _ _ _ _ _) (fun _ => ?_)
  refine sr_gh _ (fun h30 => ?_)
  refine sr_dup (pc := 136) (by decide +kernel) rfl ?_
  refine sr_bipush (pc := 137) (n := 8) (v := 8) (by decide +kernel) (by decide) ?_
  refine sr_iconst (pc := 139) (n := 0) (v := 0) (by decide +kernel) rfl ?_
  refine sr_chk _ (fun hm => ?_)
  refine sr_iast (pc := 140) (t2 := (h30.1, (33, 0, (8 : Int32).toNatClampNeg, sr_i 0) :: h30.2)) (n := 9) rfl (by decide +kernel) (sr_mb_ok hm) (sr_e2_put _ _ _ _ _) (fun _ => ?_)
  refine sr_gh _ (fun h31 => ?_)
  refine sr_chk _ (fun hm => ?_)
  refine sr_put (pc := 141) (t2 := (h31.1, (11, 0, 27, sr_r 33 0) :: h31.2)) fg_11_47 ft_11_27 (by decide +kernel) (sr_mb_ok hm) ⟨_, _, rfl⟩ (fun _ => ⟨rfl, RX11, TX11, rfl, rfl, sr_tb (n := 1410) (by decide +kernel) rfl⟩) (sr_e2_put _ _ _ _ _) ?_
  refine sr_gh _ (fun h32 => ?_)
  refine sr_aloadn (pc := 144) (n := 0) (by decide +kernel) rfl ?_
  refine sr_iconst (pc := 145) (n := 4) (v := 4) (by decide +kernel) rfl ?_
  refine sr_newa2 (pc := 146) (k := 34) (n := 4) (i := 0) (at' := .int) (mc := 12) (ms := 4662) rfl (Or.inl ⟨rfl, rfl⟩) ac_int (by decide +kernel) (fun _ => rfl) (by decide) (by decide) (by decide) (fun h33 => ?_)
  refine sr_chk _ (fun hm => ?_)
  refine sr_put (pc := 148) (t2 := (h33.1, (11, 0, 29, sr_r 34 0) :: h33.2)) fg_11_50 ft_11_29 (by decide +kernel) (sr_mb_ok hm) ⟨_, _, rfl⟩ (fun _ => ⟨rfl, RX11, TX11, rfl, rfl, sr_tb (n := 1412) (by decide +kernel) rfl⟩) (sr_e2_put _ _ _ _ _) ?_
  refine sr_gh _ (fun h34 => ?_)
  refine sr_aloadn (pc := 151) (n := 0) (by decide +kernel) rfl ?_
  refine sr_bipush (pc := 152) (n := 24) (v := 24) (by decide +kernel) (by decide) ?_
  refine sr_newa2 (pc := 154) (k := 35) (n := 24) (i := 0) (at' := .int) (mc := 11) (ms := 4638) rfl (Or.inl ⟨rfl, rfl⟩) ac_int (by decide +kernel) (fun _ => rfl) (by decide) (by decide) (by decide) (fun h35 => ?_)
  refine sr_chk _ (fun hm => ?_)
  refine sr_put (pc := 156) (t2 := (h35.1, (11, 0, 31, sr_r 35 0) :: h35.2)) fg_11_53 ft_11_31 (by decide +kernel) (sr_mb_ok hm) ⟨_, _, rfl⟩ (fun _ => ⟨rfl, RX11, TX11, rfl, rfl, sr_tb (n := 1414) (by decide +kernel) rfl⟩) (sr_e2_put _ _ _ _ _) ?_
  refine sr_gh _ (fun h36 => ?_)
  refine sr_aloadn (pc := 159) (n := 0) (by decide +kernel) rfl ?_
  refine sr_sipush (pc := 160) (n := 576) (v := 576) (by decide +kernel) (by decide) ?_
  refine sr_newa2 (pc := 163) (k := 36) (n := 576) (i := 0) (at' := .int) (mc := 10) (ms := 4062) rfl (Or.inl ⟨rfl, rfl⟩) ac_int (by decide +kernel) (fun _ => rfl) (by decide) (by decide) (by decide) (fun h37 => ?_)
  refine sr_chk _ (fun hm => ?_)
  refine sr_put (pc := 165) (t2 := (h37.1, (11, 0, 32, sr_r 36 0) :: h37.2)) fg_11_56 ft_11_32 (by decide +kernel) (sr_mb_ok hm) ⟨_, _, rfl⟩ (fun _ => ⟨rfl, RX11, TX11, rfl, rfl, sr_tb (n := 1415) (by decide +kernel) rfl⟩) (sr_e2_put _ _ _ _ _) ?_
  refine sr_gh _ (fun h38 => ?_)
  refine sr_aloadn (pc := 168) (n := 0) (by decide +kernel) rfl ?_
  refine sr_bipush (pc := 169) (n := 32) (v := 32) (by decide +kernel) (by decide) ?_
  refine sr_newa2 (pc := 171) (k := 37) (n := 32) (i := 0) (at' := .int) (mc := 9) (ms := 4030) rfl (Or.inl ⟨rfl, rfl⟩) ac_int (by decide +kernel) (fun _ => rfl) (by decide) (by decide) (by decide) (fun h39 => ?_)
  refine sr_chk _ (fun hm => ?_)
  refine sr_put (pc := 173) (t2 := (h39.1, (11, 0, 35, sr_r 37 0) :: h39.2)) fg_11_59 ft_11_35 (by decide +kernel) (sr_mb_ok hm) ⟨_, _, rfl⟩ (fun _ => ⟨rfl, RX11, TX11, rfl, rfl, sr_tb (n := 1418) (by decide +kernel) rfl⟩) (sr_e2_put _ _ _ _ _) ?_
  refine sr_gh _ (fun h40 => ?_)
  refine sr_aloadn (pc := 176) (n := 0) (by decide +kernel) rfl ?_
  refine sr_bipush (pc := 177) (n := 32) (v := 32) (by decide +kernel) (by decide) ?_
  refine sr_newa2 (pc := 179) (k := 38) (n := 32) (i := 0) (at' := .int) (mc := 8) (ms := 3998) rfl (Or.inl ⟨rfl, rfl⟩) ac_int (by decide +kernel) (fun _ => rfl) (by decide) (by decide) (by decide) (fun h41 => ?_)
  refine sr_chk _ (fun hm => ?_)
  refine sr_put (pc := 181) (t2 := (h41.1, (11, 0, 36, sr_r 38 0) :: h41.2)) fg_11_62 ft_11_36 (by decide +kernel) (sr_mb_ok hm) ⟨_, _, rfl⟩ (fun _ => ⟨rfl, RX11, TX11, rfl, rfl, sr_tb (n := 1419) (by decide +kernel) rfl⟩) (sr_e2_put _ _ _ _ _) ?_
  refine sr_gh _ (fun h42 => ?_)
  refine sr_aloadn (pc := 184) (n := 0) (by decide +kernel) rfl ?_
  refine sr_sipush (pc := 185) (n := 768) (v := 768) (by decide +kernel) (by decide) ?_
  refine sr_newa2 (pc := 188) (k := 39) (n := 768) (i := 0) (at' := .int) (mc := 7) (ms := 3230) rfl (Or.inl ⟨rfl, rfl⟩) ac_int (by decide +kernel) (fun _ => rfl) (by decide) (by decide) (by decide) (fun h43 => ?_)
  refine sr_chk _ (fun hm => ?_)
  refine sr_put (pc := 190) (t2 := (h43.1, (11, 0, 37, sr_r 39 0) :: h43.2)) fg_11_65 ft_11_37 (by decide +kernel) (sr_mb_ok hm) ⟨_, _, rfl⟩ (fun _ => ⟨rfl, RX11, TX11, rfl, rfl, sr_tb (n := 1420) (by decide +kernel) rfl⟩) (sr_e2_put _ _ _ _ _) ?_
  refine sr_gh _ (fun h44 => ?_)
  refine sr_aloadn (pc := 193) (n := 0) (by decide +kernel) rfl ?_
  refine sr_sipush (pc := 194) (n := 768) (v := 768) (by decide +kernel) (by decide) ?_
  refine sr_newa2 (pc := 197) (k := 40) (n := 768) (i := 0) (at' := .int) (mc := 6) (ms := 2462) rfl (Or.inl ⟨rfl, rfl⟩) ac_int (by decide +kernel) (fun _ => rfl) (by decide) (by decide) (by decide) (fun h45 => ?_)
  refine sr_chk _ (fun hm => ?_)
  refine sr_put (pc := 199) (t2 := (h45.1, (11, 0, 38, sr_r 40 0) :: h45.2)) fg_11_68 ft_11_38 (by decide +kernel) (sr_mb_ok hm) ⟨_, _, rfl⟩ (fun _ => ⟨rfl, RX11, TX11, rfl, rfl, sr_tb (n := 1421) (by decide +kernel) rfl⟩) (sr_e2_put _ _ _ _ _) ?_
  refine sr_gh _ (fun h46 => ?_)
  refine sr_aloadn (pc := 202) (n := 0) (by decide +kernel) rfl ?_
  refine sr_bipush (pc := 203) (n := 14) (v := 14) (by decide +kernel) (by decide) ?_
  refine sr_newa2 (pc := 205) (k := 41) (n := 14) (i := 0) (at' := .int) (mc := 5) (ms := 2448) rfl (Or.inl ⟨rfl, rfl⟩) ac_int (by decide +kernel) (fun _ => rfl) (by decide) (by decide) (by decide) (fun h47 => ?_)
  refine sr_chk _ (fun hm => ?_)
  refine sr_put (pc := 207) (t2 := (h47.1, (11, 0, 39, sr_r 41 0) :: h47.2)) fg_11_71 ft_11_39 (by decide +kernel) (sr_mb_ok hm) ⟨_, _, rfl⟩ (fun _ => ⟨rfl, RX11, TX11, rfl, rfl, sr_tb (n := 1422) (by decide +kernel) rfl⟩) (sr_e2_put _ _ _ _ _) ?_
  refine sr_gh _ (fun h48 => ?_)
  refine sr_aloadn (pc := 210) (n := 0) (by decide +kernel) rfl ?_
  refine sr_bipush (pc := 211) (n := 24) (v := 24) (by decide +kernel) (by decide) ?_
  refine sr_newa2 (pc := 213) (k := 42) (n := 24) (i := 0) (at' := .int) (mc := 4) (ms := 2424) rfl (Or.inl ⟨rfl, rfl⟩) ac_int (by decide +kernel) (fun _ => rfl) (by decide) (by decide) (by decide) (fun h49 => ?_)
  refine sr_chk _ (fun hm => ?_)
  refine sr_put (pc := 215) (t2 := (h49.1, (11, 0, 48, sr_r 42 0) :: h49.2)) fg_11_74 ft_11_48 (by decide +kernel) (sr_mb_ok hm) ⟨_, _, rfl⟩ (fun _ => ⟨rfl, RX11, TX11, rfl, rfl, sr_tb (n := 1431) (by decide +kernel) rfl⟩) (sr_e2_put _ _ _ _ _) ?_
  refine sr_gh _ (fun h50 => ?_)
  refine sr_aloadn (pc := 218) (n := 0) (by decide +kernel) rfl ?_
  refine sr_bipush (pc := 219) (n := 24) (v := 24) (by decide +kernel) (by decide) ?_
  refine sr_newa2 (pc := 221) (k := 43) (n := 24) (i := 0) (at' := .int) (mc := 3) (ms := 2400) rfl (Or.inl ⟨rfl, rfl⟩) ac_int (by decide +kernel) (fun _ => rfl) (by decide) (by decide) (by decide) (fun h51 => ?_)
  refine sr_chk _ (fun hm => ?_)
  refine sr_put (pc := 223) (t2 := (h51.1, (11, 0, 49, sr_r 43 0) :: h51.2)) fg_11_77 ft_11_49 (by decide +kernel) (sr_mb_ok hm) ⟨_, _, rfl⟩ (fun _ => ⟨rfl, RX11, TX11, rfl, rfl, sr_tb (n := 1432) (by decide +kernel) rfl⟩) (sr_e2_put _ _ _ _ _) ?_
  refine sr_gh _ (fun h52 => ?_)
  refine sr_aloadn (pc := 226) (n := 0) (by decide +kernel) rfl ?_
  refine sr_bipush (pc := 227) (n := 48) (v := 48) (by decide +kernel) (by decide) ?_
  refine sr_newa2 (pc := 229) (k := 44) (n := 48) (i := 0) (at' := .int) (mc := 2) (ms := 2352) rfl (Or.inl ⟨rfl, rfl⟩) ac_int (by decide +kernel) (fun _ => rfl) (by decide) (by decide) (by decide) (fun h53 => ?_)
  refine sr_chk _ (fun hm => ?_)
  refine sr_put (pc := 231) (t2 := (h53.1, (11, 0, 50, sr_r 44 0) :: h53.2)) fg_11_80 ft_11_50 (by decide +kernel) (sr_mb_ok hm) ⟨_, _, rfl⟩ (fun _ => ⟨rfl, RX11, TX11, rfl, rfl, sr_tb (n := 1433) (by decide +kernel) rfl⟩) (sr_e2_put _ _ _ _ _) ?_
  refine sr_gh _ (fun h54 => ?_)
  refine sr_aloadn (pc := 234) (n := 0) (by decide +kernel) rfl ?_
  refine sr_sipush (pc := 235) (n := 2304) (v := 2304) (by decide +kernel) (by decide) ?_
  refine sr_newa2 (pc := 238) (k := 45) (n := 2304) (i := 0) (at' := .int) (mc := 1) (ms := 48) rfl (Or.inl ⟨rfl, rfl⟩) ac_int (by decide +kernel) (fun _ => rfl) (by decide) (by decide) (by decide) (fun h55 => ?_)
  refine sr_chk _ (fun hm => ?_)
  refine sr_put (pc := 240) (t2 := (h55.1, (11, 0, 51, sr_r 45 0) :: h55.2)) fg_11_83 ft_11_51 (by decide +kernel) (sr_mb_ok hm) ⟨_, _, rfl⟩ (fun _ => ⟨rfl, RX11, TX11, rfl, rfl, sr_tb (n := 1434) (by decide +kernel) rfl⟩) (sr_e2_put _ _ _ _ _) ?_
  refine sr_gh _ (fun h56 => ?_)
  refine sr_aloadn (pc := 243) (n := 0) (by decide +kernel) rfl ?_
  refine sr_bipush (pc := 244) (n := 48) (v := 48) (by decide +kernel) (by decide) ?_
  refine sr_newa2 (pc := 246) (k := 46) (n := 48) (i := 0) (at' := .int) (mc := 0) (ms := 0) rfl (Or.inl ⟨rfl, rfl⟩) ac_int (by decide +kernel) (fun _ => rfl) (by decide) (by decide) (by decide) (fun h57 => ?_)
  refine sr_chk _ (fun hm => ?_)
  refine sr_put (pc := 248) (t2 := (h57.1, (11, 0, 52, sr_r 46 0) :: h57.2)) fg_11_86 ft_11_52 (by decide +kernel) (sr_mb_ok hm) ⟨_, _, rfl⟩ (fun _ => ⟨rfl, RX11, TX11, rfl, rfl, sr_tb (n := 1435) (by decide +kernel) rfl⟩) (sr_e2_put _ _ _ _ _) ?_
  refine sr_gh _ (fun h58 => ?_)
  refine sr_aloadn (pc := 251) (n := 0) (by decide +kernel) rfl ?_
  refine sr_iconst (pc := 252) (n := 0) (v := 0) (by decide +kernel) rfl ?_
  refine sr_chk _ (fun hm => ?_)
  refine sr_put (pc := 253) (t2 := (h58.1, (11, 0, 22, sr_i 0) :: h58.2)) fg_11_89 ft_11_22 (by decide +kernel) (sr_mb_ok hm) (by first | exact Or.inl rfl | exact Or.inr rfl) (fun hq => nomatch hq) (sr_e2_put _ _ _ _ _) ?_
  refine sr_gh _ (fun h59 => ?_)
  exact sr_ret (pc := 256) (by decide +kernel) rfl
