def sr_m4_init : sr_M := (⟨"ShiftRing$Row", "<init>", "()V"⟩, prog_6_method_1_code, 1, none, [], 1, 20)
def sr_m7_init : sr_M := (⟨"ShiftRing$Table", "<init>", "()V"⟩, prog_9_method_1_code, 1, none, [], 2, 40)
def sr_m2_init : sr_M := (⟨"ShiftRing$Node", "<init>", "(I)V"⟩, prog_4_method_1_code, 2, none, [], 3, 60)
def sr_m3_init : sr_M := (⟨"ShiftRing$Ring", "<init>", "()V"⟩, prog_5_method_1_code, 2, none, [], 4, 81)
def sr_m0_init : sr_M := (⟨"ShiftRing$Entry", "<init>", "()V"⟩, prog_2_method_1_code, 1, none, [], 1, 20)
def sr_m6_init : sr_M := (⟨"ShiftRing$Store", "<init>", "()V"⟩, prog_8_method_1_code, 2, none, [], 2, 40)
def sr_m8_init : sr_M := (⟨"ShiftRing$Trip", "<init>", "(LShiftRing$Ring;)V"⟩, prog_10_method_1_code, 2, none, [], 2, 40)
def sr_m5_init : sr_M := (⟨"ShiftRing$Sample", "<init>", "(LShiftRing$Ring;)V"⟩, prog_7_method_1_code, 2, none, [], 3, 61)
def sr_m1_init : sr_M := (⟨"ShiftRing$Forecast", "<init>", "(LShiftRing$Sample;)V"⟩, prog_3_method_1_code, 2, none, [], 5, 102)
def sr_m9_init : sr_M := (⟨"ShiftRing$Ways", "<init>", "()V"⟩, prog_11_method_1_code, 1, none, [], 1, 20)
def sr_m10_init : sr_M := (⟨"ShiftRing", "<init>", "()V"⟩, prog_1_method_1_code, 1, none, [], 6, 123)
def sr_m11_init : sr_M := (⟨"ShiftRingModel", "<init>", "()V"⟩, prog_13_method_1_code, 1, none, [], 1, 20)
theorem fg_0_9 : sr_FG "ShiftRing$Entry" 9 0 0 4 := ⟨RX0, TX0, tyX0, rfl, by decide, rfl, uw_0, tyX0_ok, nmX0, Or.inl (sr_tb (n := 207) (by decide +kernel) rfl)⟩
theorem fg_2_18 : sr_FG "ShiftRing$Node" 18 2 5 8 := ⟨RX2, TX2, tyX2, rfl, by decide, rfl, uw_2, tyX2_ok, nmX2, Or.inl (sr_tb (n := 114) (by decide +kernel) rfl)⟩
theorem ft_0_2 : sr_FT 0 2 4 2 true := ⟨RX0, TX0, rfl, rfl, fun _ => rfl, Or.inr ⟨_, by decide +kernel⟩⟩
theorem ft_0_3 : sr_FT 0 3 4 2 true := ⟨RX0, TX0, rfl, rfl, fun _ => rfl, Or.inr ⟨_, by decide +kernel⟩⟩
theorem ft_1_0 : sr_FT 1 0 2 2 true := ⟨RX1, TX1, rfl, rfl, fun _ => rfl, Or.inl ⟨"ShiftRing$Ring", by decide +kernel⟩⟩
theorem ft_1_1 : sr_FT 1 1 2 2 true := ⟨RX1, TX1, rfl, rfl, fun _ => rfl, Or.inl ⟨"ShiftRing$Sample", by decide +kernel⟩⟩
theorem ft_2_0 : sr_FT 2 0 8 0 true := ⟨RX2, TX2, rfl, rfl, fun _ => rfl, (show parseFieldDescriptor (TX2 0).2.2.1 = some .int from by decide +kernel)⟩
theorem ft_2_4 : sr_FT 2 4 8 2 true := ⟨RX2, TX2, rfl, rfl, fun _ => rfl, Or.inl ⟨"ShiftRing$Table", by decide +kernel⟩⟩
theorem ft_3_0 : sr_FT 3 0 9 2 true := ⟨RX3, TX3, rfl, rfl, fun _ => rfl, Or.inr ⟨_, by decide +kernel⟩⟩
theorem ft_3_1 : sr_FT 3 1 9 2 true := ⟨RX3, TX3, rfl, rfl, fun _ => rfl, Or.inl ⟨"ShiftRing$Node", by decide +kernel⟩⟩
theorem ft_3_2 : sr_FT 3 2 9 2 true := ⟨RX3, TX3, rfl, rfl, fun _ => rfl, Or.inl ⟨"ShiftRing$Table", by decide +kernel⟩⟩
theorem ft_4_0 : sr_FT 4 0 2 2 true := ⟨RX4, TX4, rfl, rfl, fun _ => rfl, Or.inr ⟨_, by decide +kernel⟩⟩
theorem ft_5_0 : sr_FT 5 0 11 2 true := ⟨RX5, TX5, rfl, rfl, fun _ => rfl, Or.inl ⟨"ShiftRing$Trip", by decide +kernel⟩⟩
theorem ft_5_1 : sr_FT 5 1 11 2 true := ⟨RX5, TX5, rfl, rfl, fun _ => rfl, Or.inr ⟨_, by decide +kernel⟩⟩
theorem ft_5_2 : sr_FT 5 2 11 2 true := ⟨RX5, TX5, rfl, rfl, fun _ => rfl, Or.inr ⟨_, by decide +kernel⟩⟩
theorem ft_6_0 : sr_FT 6 0 5 2 true := ⟨RX6, TX6, rfl, rfl, fun _ => rfl, Or.inr ⟨_, by decide +kernel⟩⟩
theorem ft_6_1 : sr_FT 6 1 5 2 true := ⟨RX6, TX6, rfl, rfl, fun _ => rfl, Or.inl ⟨"ShiftRing$Entry", by decide +kernel⟩⟩
theorem ft_7_1 : sr_FT 7 1 3 2 true := ⟨RX7, TX7, rfl, rfl, fun _ => rfl, Or.inl ⟨"ShiftRing$Row", by decide +kernel⟩⟩
theorem ft_7_2 : sr_FT 7 2 3 2 true := ⟨RX7, TX7, rfl, rfl, fun _ => rfl, Or.inl ⟨"ShiftRing$Row", by decide +kernel⟩⟩
theorem ft_8_15 : sr_FT 8 15 17 2 true := ⟨RX8, TX8, rfl, rfl, fun _ => rfl, Or.inr ⟨_, by decide +kernel⟩⟩
theorem ft_8_16 : sr_FT 8 16 17 2 true := ⟨RX8, TX8, rfl, rfl, fun _ => rfl, Or.inl ⟨"ShiftRing$Row", by decide +kernel⟩⟩
theorem ft_9_0 : sr_FT 9 0 3 2 true := ⟨RX9, TX9, rfl, rfl, fun _ => rfl, Or.inr ⟨_, by decide +kernel⟩⟩
theorem ft_9_1 : sr_FT 9 1 3 2 true := ⟨RX9, TX9, rfl, rfl, fun _ => rfl, Or.inr ⟨_, by decide +kernel⟩⟩
theorem ft_9_2 : sr_FT 9 2 3 2 true := ⟨RX9, TX9, rfl, rfl, fun _ => rfl, Or.inr ⟨_, by decide +kernel⟩⟩
theorem ft_10_0 : sr_FT 10 0 7 2 true := ⟨RX10, TX10, rfl, rfl, fun _ => rfl, Or.inl ⟨"ShiftRing$Ring", by decide +kernel⟩⟩
theorem ft_10_1 : sr_FT 10 1 7 2 true := ⟨RX10, TX10, rfl, rfl, fun _ => rfl, Or.inl ⟨"ShiftRing$Store", by decide +kernel⟩⟩
theorem ft_10_2 : sr_FT 10 2 7 2 true := ⟨RX10, TX10, rfl, rfl, fun _ => rfl, Or.inl ⟨"ShiftRing$Trip", by decide +kernel⟩⟩
theorem ft_10_3 : sr_FT 10 3 7 2 true := ⟨RX10, TX10, rfl, rfl, fun _ => rfl, Or.inl ⟨"ShiftRing$Trip", by decide +kernel⟩⟩
theorem ft_10_4 : sr_FT 10 4 7 2 true := ⟨RX10, TX10, rfl, rfl, fun _ => rfl, Or.inl ⟨"ShiftRing$Sample", by decide +kernel⟩⟩
theorem ft_10_5 : sr_FT 10 5 7 2 true := ⟨RX10, TX10, rfl, rfl, fun _ => rfl, Or.inl ⟨"ShiftRing$Forecast", by decide +kernel⟩⟩
theorem ft_10_6 : sr_FT 10 6 7 2 true := ⟨RX10, TX10, rfl, rfl, fun _ => rfl, Or.inl ⟨"ShiftRing$Ways", by decide +kernel⟩⟩
theorem ft_11_2 : sr_FT 11 2 53 2 true := ⟨RX11, TX11, rfl, rfl, fun _ => rfl, Or.inr ⟨_, by decide +kernel⟩⟩
theorem ft_11_3 : sr_FT 11 3 53 2 true := ⟨RX11, TX11, rfl, rfl, fun _ => rfl, Or.inr ⟨_, by decide +kernel⟩⟩
theorem ft_11_4 : sr_FT 11 4 53 2 true := ⟨RX11, TX11, rfl, rfl, fun _ => rfl, Or.inr ⟨_, by decide +kernel⟩⟩
theorem ft_11_5 : sr_FT 11 5 53 2 true := ⟨RX11, TX11, rfl, rfl, fun _ => rfl, Or.inr ⟨_, by decide +kernel⟩⟩
theorem ft_11_6 : sr_FT 11 6 53 2 true := ⟨RX11, TX11, rfl, rfl, fun _ => rfl, Or.inr ⟨_, by decide +kernel⟩⟩
theorem ft_11_23 : sr_FT 11 23 53 2 true := ⟨RX11, TX11, rfl, rfl, fun _ => rfl, Or.inr ⟨_, by decide +kernel⟩⟩
theorem ft_11_24 : sr_FT 11 24 53 2 true := ⟨RX11, TX11, rfl, rfl, fun _ => rfl, Or.inr ⟨_, by decide +kernel⟩⟩
theorem ft_11_25 : sr_FT 11 25 53 2 true := ⟨RX11, TX11, rfl, rfl, fun _ => rfl, Or.inr ⟨_, by decide +kernel⟩⟩
theorem ft_11_26 : sr_FT 11 26 53 2 true := ⟨RX11, TX11, rfl, rfl, fun _ => rfl, Or.inr ⟨_, by decide +kernel⟩⟩
theorem ft_11_27 : sr_FT 11 27 53 2 true := ⟨RX11, TX11, rfl, rfl, fun _ => rfl, Or.inr ⟨_, by decide +kernel⟩⟩
theorem ft_11_29 : sr_FT 11 29 53 2 true := ⟨RX11, TX11, rfl, rfl, fun _ => rfl, Or.inr ⟨_, by decide +kernel⟩⟩
theorem ft_11_31 : sr_FT 11 31 53 2 true := ⟨RX11, TX11, rfl, rfl, fun _ => rfl, Or.inr ⟨_, by decide +kernel⟩⟩
theorem ft_11_32 : sr_FT 11 32 53 2 true := ⟨RX11, TX11, rfl, rfl, fun _ => rfl, Or.inr ⟨_, by decide +kernel⟩⟩
theorem ft_11_35 : sr_FT 11 35 53 2 true := ⟨RX11, TX11, rfl, rfl, fun _ => rfl, Or.inr ⟨_, by decide +kernel⟩⟩
theorem ft_11_36 : sr_FT 11 36 53 2 true := ⟨RX11, TX11, rfl, rfl, fun _ => rfl, Or.inr ⟨_, by decide +kernel⟩⟩
theorem ft_11_37 : sr_FT 11 37 53 2 true := ⟨RX11, TX11, rfl, rfl, fun _ => rfl, Or.inr ⟨_, by decide +kernel⟩⟩
theorem ft_11_38 : sr_FT 11 38 53 2 true := ⟨RX11, TX11, rfl, rfl, fun _ => rfl, Or.inr ⟨_, by decide +kernel⟩⟩
theorem ft_11_39 : sr_FT 11 39 53 2 true := ⟨RX11, TX11, rfl, rfl, fun _ => rfl, Or.inr ⟨_, by decide +kernel⟩⟩
theorem ft_11_48 : sr_FT 11 48 53 2 true := ⟨RX11, TX11, rfl, rfl, fun _ => rfl, Or.inr ⟨_, by decide +kernel⟩⟩
theorem ft_11_49 : sr_FT 11 49 53 2 true := ⟨RX11, TX11, rfl, rfl, fun _ => rfl, Or.inr ⟨_, by decide +kernel⟩⟩
theorem ft_11_50 : sr_FT 11 50 53 2 true := ⟨RX11, TX11, rfl, rfl, fun _ => rfl, Or.inr ⟨_, by decide +kernel⟩⟩
theorem ft_11_51 : sr_FT 11 51 53 2 true := ⟨RX11, TX11, rfl, rfl, fun _ => rfl, Or.inr ⟨_, by decide +kernel⟩⟩
theorem ft_11_52 : sr_FT 11 52 53 2 true := ⟨RX11, TX11, rfl, rfl, fun _ => rfl, Or.inr ⟨_, by decide +kernel⟩⟩
theorem fl_10_11 : Cond.methodLink "ShiftRing" 11 (sr_My sr_m3_init) ∈ sr_TB := (sr_tb (n := 33) (by decide +kernel) rfl)
theorem fm_10_11 : sr_FI "ShiftRing" 11 sr_m3_init 0 := ⟨⟨rfl, sr_tb (n := 35) (by decide +kernel) rfl, sr_tb (n := 2) (by decide +kernel) rfl, ⟨by decide, by decide, by decide +kernel⟩, Or.inl fl_10_11⟩, sr_tb (n := 34) (by decide +kernel) rfl, rfl, rfl⟩
theorem fl_10_18 : Cond.methodLink "ShiftRing" 18 (sr_My sr_m6_init) ∈ sr_TB := (sr_tb (n := 196) (by decide +kernel) rfl)
theorem fm_10_18 : sr_FI "ShiftRing" 18 sr_m6_init 0 := ⟨⟨rfl, sr_tb (n := 198) (by decide +kernel) rfl, sr_tb (n := 6) (by decide +kernel) rfl, ⟨by decide, by decide, by decide +kernel⟩, Or.inl fl_10_18⟩, sr_tb (n := 197) (by decide +kernel) rfl, rfl, rfl⟩
theorem fl_10_25 : Cond.methodLink "ShiftRing" 25 (sr_My sr_m8_init) ∈ sr_TB := (sr_tb (n := 244) (by decide +kernel) rfl)
theorem fm_10_25 : sr_FI "ShiftRing" 25 sr_m8_init 1 := ⟨⟨rfl, sr_tb (n := 246) (by decide +kernel) rfl, sr_tb (n := 8) (by decide +kernel) rfl, ⟨by decide, by decide, by decide +kernel⟩, Or.inl fl_10_25⟩, sr_tb (n := 245) (by decide +kernel) rfl, rfl, rfl⟩
theorem fl_10_37 : Cond.methodLink "ShiftRing" 37 (sr_My sr_m5_init) ∈ sr_TB := (sr_tb (n := 322) (by decide +kernel) rfl)
theorem fm_10_37 : sr_FI "ShiftRing" 37 sr_m5_init 1 := ⟨⟨rfl, sr_tb (n := 324) (by decide +kernel) rfl, sr_tb (n := 9) (by decide +kernel) rfl, ⟨by decide, by decide, by decide +kernel⟩, Or.inl fl_10_37⟩, sr_tb (n := 323) (by decide +kernel) rfl, rfl, rfl⟩
theorem fl_10_44 : Cond.methodLink "ShiftRing" 44 (sr_My sr_m1_init) ∈ sr_TB := (sr_tb (n := 375) (by decide +kernel) rfl)
theorem fm_10_44 : sr_FI "ShiftRing" 44 sr_m1_init 1 := ⟨⟨rfl, sr_tb (n := 377) (by decide +kernel) rfl, sr_tb (n := 10) (by decide +kernel) rfl, ⟨by decide, by decide, by decide +kernel⟩, Or.inl fl_10_44⟩, sr_tb (n := 376) (by decide +kernel) rfl, rfl, rfl⟩
theorem fl_10_53 : Cond.methodLinkNest "ShiftRing" 53 (sr_My sr_m9_init) "ShiftRing" ∈ sr_NB := (sr_nb (n := 390) (by decide +kernel) rfl)
theorem fm_10_53 : sr_FI "ShiftRing" 53 sr_m9_init 0 := ⟨⟨rfl, sr_tb (n := 392) (by decide +kernel) rfl, sr_tb (n := 11) (by decide +kernel) rfl, ⟨by decide, by decide, by decide +kernel⟩, Or.inr ⟨_, fl_10_53⟩⟩, sr_tb (n := 391) (by decide +kernel) rfl, rfl, rfl⟩
theorem fl_1_11 : Cond.methodLink "ShiftRing$Forecast" 11 (sr_My sr_m3_init) ∈ sr_TB := (sr_tb (n := 380) (by decide +kernel) rfl)
theorem fm_1_11 : sr_FI "ShiftRing$Forecast" 11 sr_m3_init 0 := ⟨⟨rfl, sr_tb (n := 35) (by decide +kernel) rfl, sr_tb (n := 2) (by decide +kernel) rfl, ⟨by decide, by decide, by decide +kernel⟩, Or.inl fl_1_11⟩, sr_tb (n := 34) (by decide +kernel) rfl, rfl, rfl⟩
theorem fl_2_11 : Cond.methodLinkNest "ShiftRing$Node" 11 (sr_My sr_m7_init) "ShiftRing" ∈ sr_NB := (sr_nb (n := 46) (by decide +kernel) rfl)
theorem fm_2_11 : sr_FI "ShiftRing$Node" 11 sr_m7_init 0 := ⟨⟨rfl, sr_tb (n := 48) (by decide +kernel) rfl, sr_tb (n := 4) (by decide +kernel) rfl, ⟨by decide, by decide, by decide +kernel⟩, Or.inr ⟨_, fl_2_11⟩⟩, sr_tb (n := 47) (by decide +kernel) rfl, rfl, rfl⟩
theorem fl_3_17 : Cond.methodLink "ShiftRing$Ring" 17 (sr_My sr_m2_init) ∈ sr_TB := (sr_tb (n := 40) (by decide +kernel) rfl)
theorem fm_3_17 : sr_FI "ShiftRing$Ring" 17 sr_m2_init 1 := ⟨⟨rfl, sr_tb (n := 42) (by decide +kernel) rfl, sr_tb (n := 3) (by decide +kernel) rfl, ⟨by decide, by decide, by decide +kernel⟩, Or.inl fl_3_17⟩, sr_tb (n := 41) (by decide +kernel) rfl, rfl, rfl⟩
theorem fl_3_26 : Cond.methodLinkNest "ShiftRing$Ring" 26 (sr_My sr_m7_init) "ShiftRing" ∈ sr_NB := (sr_nb (n := 143) (by decide +kernel) rfl)
theorem fm_3_26 : sr_FI "ShiftRing$Ring" 26 sr_m7_init 0 := ⟨⟨rfl, sr_tb (n := 48) (by decide +kernel) rfl, sr_tb (n := 4) (by decide +kernel) rfl, ⟨by decide, by decide, by decide +kernel⟩, Or.inr ⟨_, fl_3_26⟩⟩, sr_tb (n := 47) (by decide +kernel) rfl, rfl, rfl⟩
theorem fl_5_20 : Cond.methodLink "ShiftRing$Sample" 20 (sr_My sr_m8_init) ∈ sr_TB := (sr_tb (n := 327) (by decide +kernel) rfl)
theorem fm_5_20 : sr_FI "ShiftRing$Sample" 20 sr_m8_init 1 := ⟨⟨rfl, sr_tb (n := 246) (by decide +kernel) rfl, sr_tb (n := 8) (by decide +kernel) rfl, ⟨by decide, by decide, by decide +kernel⟩, Or.inl fl_5_20⟩, sr_tb (n := 245) (by decide +kernel) rfl, rfl, rfl⟩
theorem fl_6_17 : Cond.methodLinkNest "ShiftRing$Store" 17 (sr_My sr_m0_init) "ShiftRing" ∈ sr_NB := (sr_nb (n := 203) (by decide +kernel) rfl)
theorem fm_6_17 : sr_FI "ShiftRing$Store" 17 sr_m0_init 0 := ⟨⟨rfl, sr_tb (n := 205) (by decide +kernel) rfl, sr_tb (n := 7) (by decide +kernel) rfl, ⟨by decide, by decide, by decide +kernel⟩, Or.inr ⟨_, fl_6_17⟩⟩, sr_tb (n := 204) (by decide +kernel) rfl, rfl, rfl⟩
theorem fl_7_9 : Cond.methodLinkNest "ShiftRing$Table" 9 (sr_My sr_m4_init) "ShiftRing" ∈ sr_NB := (sr_nb (n := 52) (by decide +kernel) rfl)
theorem fm_7_9 : sr_FI "ShiftRing$Table" 9 sr_m4_init 0 := ⟨⟨rfl, sr_tb (n := 54) (by decide +kernel) rfl, sr_tb (n := 5) (by decide +kernel) rfl, ⟨by decide, by decide, by decide +kernel⟩, Or.inr ⟨_, fl_7_9⟩⟩, sr_tb (n := 53) (by decide +kernel) rfl, rfl, rfl⟩
theorem fl_8_21 : Cond.methodLinkNest "ShiftRing$Trip" 21 (sr_My sr_m4_init) "ShiftRing" ∈ sr_NB := (sr_nb (n := 249) (by decide +kernel) rfl)
theorem fm_8_21 : sr_FI "ShiftRing$Trip" 21 sr_m4_init 0 := ⟨⟨rfl, sr_tb (n := 54) (by decide +kernel) rfl, sr_tb (n := 5) (by decide +kernel) rfl, ⟨by decide, by decide, by decide +kernel⟩, Or.inr ⟨_, fl_8_21⟩⟩, sr_tb (n := 53) (by decide +kernel) rfl, rfl, rfl⟩
theorem rm_10_init_1_init : sr_RM sr_m10_init sr_m1_init := ⟨Nat.le_of_ble_eq_true rfl, Nat.le_of_ble_eq_true rfl⟩
theorem rm_10_init_3_init : sr_RM sr_m10_init sr_m3_init := ⟨Nat.le_of_ble_eq_true rfl, Nat.le_of_ble_eq_true rfl⟩
theorem rm_10_init_5_init : sr_RM sr_m10_init sr_m5_init := ⟨Nat.le_of_ble_eq_true rfl, Nat.le_of_ble_eq_true rfl⟩
theorem rm_10_init_6_init : sr_RM sr_m10_init sr_m6_init := ⟨Nat.le_of_ble_eq_true rfl, Nat.le_of_ble_eq_true rfl⟩
theorem rm_10_init_8_init : sr_RM sr_m10_init sr_m8_init := ⟨Nat.le_of_ble_eq_true rfl, Nat.le_of_ble_eq_true rfl⟩
theorem rm_10_init_9_init : sr_RM sr_m10_init sr_m9_init := ⟨Nat.le_of_ble_eq_true rfl, Nat.le_of_ble_eq_true rfl⟩
theorem rm_1_init_3_init : sr_RM sr_m1_init sr_m3_init := ⟨Nat.le_of_ble_eq_true rfl, Nat.le_of_ble_eq_true rfl⟩
theorem rm_2_init_7_init : sr_RM sr_m2_init sr_m7_init := ⟨Nat.le_of_ble_eq_true rfl, Nat.le_of_ble_eq_true rfl⟩
theorem rm_3_init_2_init : sr_RM sr_m3_init sr_m2_init := ⟨Nat.le_of_ble_eq_true rfl, Nat.le_of_ble_eq_true rfl⟩
theorem rm_3_init_3_setBase : sr_RM sr_m3_init sr_m3_setBase := ⟨Nat.le_of_ble_eq_true rfl, Nat.le_of_ble_eq_true rfl⟩
theorem rm_3_init_7_init : sr_RM sr_m3_init sr_m7_init := ⟨Nat.le_of_ble_eq_true rfl, Nat.le_of_ble_eq_true rfl⟩
theorem rm_5_init_8_init : sr_RM sr_m5_init sr_m8_init := ⟨Nat.le_of_ble_eq_true rfl, Nat.le_of_ble_eq_true rfl⟩
theorem rm_6_init_0_init : sr_RM sr_m6_init sr_m0_init := ⟨Nat.le_of_ble_eq_true rfl, Nat.le_of_ble_eq_true rfl⟩
theorem rm_7_init_4_init : sr_RM sr_m7_init sr_m4_init := ⟨Nat.le_of_ble_eq_true rfl, Nat.le_of_ble_eq_true rfl⟩
theorem rm_8_init_4_init : sr_RM sr_m8_init sr_m4_init := ⟨Nat.le_of_ble_eq_true rfl, Nat.le_of_ble_eq_true rfl⟩
theorem fn_10_9 : sr_FN "ShiftRing" 9 3 9 (sr_df 3) := ⟨RX3, TX3, tyX3, rfl, rfl, uw_3, tyX3_ok, sr_tb (n := 31) (by decide +kernel) rfl, sr_tb (n := 32) (by decide +kernel) rfl, sr_tb (n := 2) (by decide +kernel) rfl, fun ad j hj => match j, hj with | 0, _ => rfl | 1, _ => rfl | 2, _ => rfl | 3, _ => rfl | 4, _ => rfl | 5, _ => rfl | 6, _ => rfl | 7, _ => rfl | 8, _ => rfl | _ + 9, hj => absurd hj (by omega)⟩
theorem fn_10_16 : sr_FN "ShiftRing" 16 6 5 (sr_df 6) := ⟨RX6, TX6, tyX6, rfl, rfl, uw_6, tyX6_ok, sr_tb (n := 194) (by decide +kernel) rfl, sr_tb (n := 195) (by decide +kernel) rfl, sr_tb (n := 6) (by decide +kernel) rfl, fun ad j hj => match j, hj with | 0, _ => rfl | 1, _ => rfl | 2, _ => rfl | 3, _ => rfl | 4, _ => rfl | _ + 5, hj => absurd hj (by omega)⟩
theorem fn_10_23 : sr_FN "ShiftRing" 23 8 17 (sr_df 8) := ⟨RX8, TX8, tyX8, rfl, rfl, uw_8, tyX8_ok, sr_tb (n := 242) (by decide +kernel) rfl, sr_tb (n := 243) (by decide +kernel) rfl, sr_tb (n := 8) (by decide +kernel) rfl, fun ad j hj => match j, hj with | 0, _ => rfl | 1, _ => rfl | 2, _ => rfl | 3, _ => rfl | 4, _ => rfl | 5, _ => rfl | 6, _ => rfl | 7, _ => rfl | 8, _ => rfl | 9, _ => rfl | 10, _ => rfl | 11, _ => rfl | 12, _ => rfl | 13, _ => rfl | 14, _ => rfl | 15, _ => rfl | 16, _ => rfl | _ + 17, hj => absurd hj (by omega)⟩
theorem fn_10_35 : sr_FN "ShiftRing" 35 5 11 (sr_df 5) := ⟨RX5, TX5, tyX5, rfl, rfl, uw_5, tyX5_ok, sr_tb (n := 320) (by decide +kernel) rfl, sr_tb (n := 321) (by decide +kernel) rfl, sr_tb (n := 9) (by decide +kernel) rfl, fun ad j hj => match j, hj with | 0, _ => rfl | 1, _ => rfl | 2, _ => rfl | 3, _ => rfl | 4, _ => rfl | 5, _ => rfl | 6, _ => rfl | 7, _ => rfl | 8, _ => rfl | 9, _ => rfl | 10, _ => rfl | _ + 11, hj => absurd hj (by omega)⟩
theorem fn_10_42 : sr_FN "ShiftRing" 42 1 2 (sr_df 1) := ⟨RX1, TX1, tyX1, rfl, rfl, uw_1, tyX1_ok, sr_tb (n := 373) (by decide +kernel) rfl, sr_tb (n := 374) (by decide +kernel) rfl, sr_tb (n := 10) (by decide +kernel) rfl, fun ad j hj => match j, hj with | 0, _ => rfl | 1, _ => rfl | _ + 2, hj => absurd hj (by omega)⟩
theorem fn_10_51 : sr_FN "ShiftRing" 51 9 3 (sr_df 9) := ⟨RX9, TX9, tyX9, rfl, rfl, uw_9, tyX9_ok, sr_tb (n := 388) (by decide +kernel) rfl, sr_tb (n := 389) (by decide +kernel) rfl, sr_tb (n := 11) (by decide +kernel) rfl, fun ad j hj => match j, hj with | 0, _ => rfl | 1, _ => rfl | 2, _ => rfl | _ + 3, hj => absurd hj (by omega)⟩
theorem fn_1_9 : sr_FN "ShiftRing$Forecast" 9 3 9 (sr_df 3) := ⟨RX3, TX3, tyX3, rfl, rfl, uw_3, tyX3_ok, sr_tb (n := 379) (by decide +kernel) rfl, sr_tb (n := 32) (by decide +kernel) rfl, sr_tb (n := 2) (by decide +kernel) rfl, fun ad j hj => match j, hj with | 0, _ => rfl | 1, _ => rfl | 2, _ => rfl | 3, _ => rfl | 4, _ => rfl | 5, _ => rfl | 6, _ => rfl | 7, _ => rfl | 8, _ => rfl | _ + 9, hj => absurd hj (by omega)⟩
theorem fn_2_9 : sr_FN "ShiftRing$Node" 9 7 3 (sr_df 7) := ⟨RX7, TX7, tyX7, rfl, rfl, uw_7, tyX7_ok, sr_tb (n := 44) (by decide +kernel) rfl, sr_tb (n := 45) (by decide +kernel) rfl, sr_tb (n := 4) (by decide +kernel) rfl, fun ad j hj => match j, hj with | 0, _ => rfl | 1, _ => rfl | 2, _ => rfl | _ + 3, hj => absurd hj (by omega)⟩
theorem fn_3_9 : sr_FN "ShiftRing$Ring" 9 2 8 (sr_df 2) := ⟨RX2, TX2, tyX2, rfl, rfl, uw_2, tyX2_ok, sr_tb (n := 37) (by decide +kernel) rfl, sr_tb (n := 39) (by decide +kernel) rfl, sr_tb (n := 3) (by decide +kernel) rfl, fun ad j hj => match j, hj with | 0, _ => rfl | 1, _ => rfl | 2, _ => rfl | 3, _ => rfl | 4, _ => rfl | 5, _ => rfl | 6, _ => rfl | 7, _ => rfl | _ + 8, hj => absurd hj (by omega)⟩
theorem fn_3_24 : sr_FN "ShiftRing$Ring" 24 7 3 (sr_df 7) := ⟨RX7, TX7, tyX7, rfl, rfl, uw_7, tyX7_ok, sr_tb (n := 142) (by decide +kernel) rfl, sr_tb (n := 45) (by decide +kernel) rfl, sr_tb (n := 4) (by decide +kernel) rfl, fun ad j hj => match j, hj with | 0, _ => rfl | 1, _ => rfl | 2, _ => rfl | _ + 3, hj => absurd hj (by omega)⟩
theorem fn_5_18 : sr_FN "ShiftRing$Sample" 18 8 17 (sr_df 8) := ⟨RX8, TX8, tyX8, rfl, rfl, uw_8, tyX8_ok, sr_tb (n := 326) (by decide +kernel) rfl, sr_tb (n := 243) (by decide +kernel) rfl, sr_tb (n := 8) (by decide +kernel) rfl, fun ad j hj => match j, hj with | 0, _ => rfl | 1, _ => rfl | 2, _ => rfl | 3, _ => rfl | 4, _ => rfl | 5, _ => rfl | 6, _ => rfl | 7, _ => rfl | 8, _ => rfl | 9, _ => rfl | 10, _ => rfl | 11, _ => rfl | 12, _ => rfl | 13, _ => rfl | 14, _ => rfl | 15, _ => rfl | 16, _ => rfl | _ + 17, hj => absurd hj (by omega)⟩
theorem fn_6_9 : sr_FN "ShiftRing$Store" 9 0 4 (sr_df 0) := ⟨RX0, TX0, tyX0, rfl, rfl, uw_0, tyX0_ok, sr_tb (n := 200) (by decide +kernel) rfl, sr_tb (n := 202) (by decide +kernel) rfl, sr_tb (n := 7) (by decide +kernel) rfl, fun ad j hj => match j, hj with | 0, _ => rfl | 1, _ => rfl | 2, _ => rfl | 3, _ => rfl | _ + 4, hj => absurd hj (by omega)⟩
theorem fn_7_7 : sr_FN "ShiftRing$Table" 7 4 2 (sr_df 4) := ⟨RX4, TX4, tyX4, rfl, rfl, uw_4, tyX4_ok, sr_tb (n := 50) (by decide +kernel) rfl, sr_tb (n := 51) (by decide +kernel) rfl, sr_tb (n := 5) (by decide +kernel) rfl, fun ad j hj => match j, hj with | 0, _ => rfl | 1, _ => rfl | _ + 2, hj => absurd hj (by omega)⟩
theorem fn_8_19 : sr_FN "ShiftRing$Trip" 19 4 2 (sr_df 4) := ⟨RX4, TX4, tyX4, rfl, rfl, uw_4, tyX4_ok, sr_tb (n := 248) (by decide +kernel) rfl, sr_tb (n := 51) (by decide +kernel) rfl, sr_tb (n := 5) (by decide +kernel) rfl, fun ad j hj => match j, hj with | 0, _ => rfl | 1, _ => rfl | _ + 2, hj => absurd hj (by omega)⟩
def FC4_init (i0 : Nat) (t : sr_c) : sr_R2 := (sr_nw t 12 i0 (fun h1 => (sr_if (sr_mb h1 4 i0) (sr_lh (h1.1, (4, i0, 0, sr_r 12 i0) :: h1.2) (fun h2 => (some (.inl none, h2)))))))
theorem CC4_init (l : Launch) (i0 : Nat) (t : sr_c) : sr_T sr_e2 l sr_m4_init [sr_r 4 i0] t (FC4_init i0 t) 1 8 := by
  refine sr_T_of (L0 := [some (sr_r 4 i0)]) rfl (by decide +kernel) (fun _ => rfl) (fun _ => Nat.le_of_ble_eq_true rfl) ?_
  unfold FC4_init
  refine sr_aloadn (pc := 0) (n := 0) (by decide +kernel) rfl ?_
  refine sr_objI (pc := 1) (idx := 3) (by decide +kernel) (sr_tb (n := 55) (by decide +kernel) rfl) oi_1 oi_2 (by decide) (by decide) rfl ?_
  refine sr_aloadn (pc := 4) (n := 0) (by decide +kernel) rfl ?_
  refine sr_bipush (pc := 5) (n := 8) (v := 8) (by decide +kernel) (by decide) ?_
  refine sr_newa2 (pc := 7) (k := 12) (n := 8) (i := i0) (at' := .int) (mc := 0) (ms := 0) rfl (Or.inl ⟨rfl, rfl⟩) ac_int (by decide +kernel) (fun _ => rfl) (by decide) (by decide) (by decide) (fun h1 => ?_)
  refine sr_chk _ (fun hm => ?_)
  refine sr_put (pc := 9) (t2 := (h1.1, (4, i0, 0, sr_r 12 i0) :: h1.2)) fg_4_9 ft_4_0 (by decide +kernel) (sr_mb_ok hm) ⟨_, _, rfl⟩ (fun _ => ⟨rfl, RX4, TX4, rfl, rfl, sr_tb (n := 56) (by decide +kernel) rfl⟩) (sr_e2_put _ _ _ _ _) ?_
  refine sr_gh _ (fun h2 => ?_)
  exact sr_ret (pc := 12) (by decide +kernel) rfl
def FC7_init (i0 : Nat) (t : sr_c) : sr_R2 := (sr_nw t 4 (2 * i0) (fun h1 => (sr_bd (sr_nt (sr_fk h1 1 (FC4_init (2 * i0) h1))) (sr_dV (fun h2 => (sr_if (sr_mb h2 7 i0) (sr_lh (h2.1, (7, i0, 1, sr_r 4 (2 * i0)) :: h2.2) (fun h3 => (sr_nw h3 4 (2 * i0 + 1) (fun h4 => (sr_bd (sr_nt (sr_fk h4 1 (FC4_init (2 * i0 + 1) h4))) (sr_dV (fun h5 => (sr_if (sr_mb h5 7 i0) (sr_lh (h5.1, (7, i0, 2, sr_r 4 (2 * i0 + 1)) :: h5.2) (fun h6 => (some (.inl none, h6))))))))))))))))))
theorem CC7_init (l : Launch) (i0 : Nat) (t : sr_c) : sr_T sr_e2 l sr_m7_init [sr_r 7 i0] t (FC7_init i0 t) 4 20 := by
  refine sr_T_of (L0 := [some (sr_r 7 i0)]) rfl (by decide +kernel) (fun _ => rfl) (fun _ => Nat.le_of_ble_eq_true rfl) ?_
  unfold FC7_init
  refine sr_aloadn (pc := 0) (n := 0) (by decide +kernel) rfl ?_
  refine sr_objI (pc := 1) (idx := 1) (by decide +kernel) (sr_tb (n := 49) (by decide +kernel) rfl) oi_1 oi_2 (by decide) (by decide) rfl ?_
  refine sr_aloadn (pc := 4) (n := 0) (by decide +kernel) rfl ?_
  refine sr_new2 (pc := 5) (i := (2 * i0)) (mc := 3) (ms := 18) fn_7_7 (by decide +kernel) (fun h1 => ?_)
  refine sr_dup (pc := 8) (by decide +kernel) rfl ?_
  refine sr_callI (pc := 9) (As := []) (mc1 := 1) (ms1 := 8) (mc2 := 2) (ms2 := 10) (fx := sr_fk h1 1 (FC4_init (2 * i0) h1)) fm_7_9 (by decide +kernel) rm_7_init_4_init rfl rfl rfl (sr_fk_ok h1 1 (FC4_init (2 * i0) h1)) (sr_fk_T (CC4_init l (2 * i0) h1)) (sr_kV (fun h2 => ?_))
  refine sr_chk _ (fun hm => ?_)
  refine sr_put (pc := 12) (t2 := (h2.1, (7, i0, 1, sr_r 4 (2 * i0)) :: h2.2)) fg_7_10 ft_7_1 (by decide +kernel) (sr_mb_ok hm) ⟨_, _, rfl⟩ (fun _ => ⟨rfl, RX7, TX7, rfl, rfl, sr_tb (n := 72) (by decide +kernel) rfl⟩) (sr_e2_put _ _ _ _ _) ?_
  refine sr_gh _ (fun h3 => ?_)
  refine sr_aloadn (pc := 15) (n := 0) (by decide +kernel) rfl ?_
  refine sr_new2 (pc := 16) (i := (2 * i0 + 1)) (mc := 1) (ms := 8) fn_7_7 (by decide +kernel) (fun h4 => ?_)
  refine sr_dup (pc := 19) (by decide +kernel) rfl ?_
  refine sr_callI (pc := 20) (As := []) (mc1 := 1) (ms1 := 8) (mc2 := 0) (ms2 := 0) (fx := sr_fk h4 1 (FC4_init (2 * i0 + 1) h4)) fm_7_9 (by decide +kernel) rm_7_init_4_init rfl rfl rfl (sr_fk_ok h4 1 (FC4_init (2 * i0 + 1) h4)) (sr_fk_T (CC4_init l (2 * i0 + 1) h4)) (sr_kV (fun h5 => ?_))
  refine sr_chk _ (fun hm => ?_)
  refine sr_put (pc := 23) (t2 := (h5.1, (7, i0, 2, sr_r 4 (2 * i0 + 1)) :: h5.2)) fg_7_16 ft_7_2 (by decide +kernel) (sr_mb_ok hm) ⟨_, _, rfl⟩ (fun _ => ⟨rfl, RX7, TX7, rfl, rfl, sr_tb (n := 78) (by decide +kernel) rfl⟩) (sr_e2_put _ _ _ _ _) ?_
  refine sr_gh _ (fun h6 => ?_)
  exact sr_ret (pc := 26) (by decide +kernel) rfl
def FC2_init (i0 : Nat) (a0 : Int32) (t : sr_c) : sr_R2 := (sr_nw t 7 i0 (fun h1 => (sr_bd (sr_nt (sr_fk h1 4 (FC7_init i0 h1))) (sr_dV (fun h2 => (sr_if (sr_mb h2 2 i0) (sr_lh (h2.1, (2, i0, 4, sr_r 7 i0) :: h2.2) (fun h3 => (sr_if (sr_mb h3 2 i0) (sr_lh (h3.1, (2, i0, 5, sr_i (-1)) :: h3.2) (fun h4 => (sr_if (sr_mb h4 2 i0) (sr_lh (h4.1, (2, i0, 0, sr_i a0) :: h4.2) (fun h5 => (some (.inl none, h5))))))))))))))))
theorem CC2_init (l : Launch) (i0 : Nat) (a0 : Int32) (t : sr_c) : sr_T sr_e2 l sr_m2_init [sr_r 2 i0, sr_i a0] t (FC2_init i0 a0 t) 5 23 := by
  refine sr_T_of (L0 := [some (sr_r 2 i0), some (sr_i a0)]) rfl (by decide +kernel) (fun _ => rfl) (fun _ => Nat.le_of_ble_eq_true rfl) ?_
  unfold FC2_init
  refine sr_aloadn (pc := 0) (n := 0) (by decide +kernel) rfl ?_
  refine sr_objI (pc := 1) (idx := 3) (by decide +kernel) (sr_tb (n := 43) (by decide +kernel) rfl) oi_1 oi_2 (by decide) (by decide) rfl ?_
  refine sr_aloadn (pc := 4) (n := 0) (by decide +kernel) rfl ?_
  refine sr_new2 (pc := 5) (i := i0) (mc := 4) (ms := 20) fn_2_9 (by decide +kernel) (fun h1 => ?_)
  refine sr_dup (pc := 8) (by decide +kernel) rfl ?_
  refine sr_callI (pc := 9) (As := []) (mc1 := 4) (ms1 := 20) (mc2 := 0) (ms2 := 0) (fx := sr_fk h1 4 (FC7_init i0 h1)) fm_2_11 (by decide +kernel) rm_2_init_7_init rfl rfl rfl (sr_fk_ok h1 4 (FC7_init i0 h1)) (sr_fk_T (CC7_init l i0 h1)) (sr_kV (fun h2 => ?_))
  refine sr_chk _ (fun hm => ?_)
  refine sr_put (pc := 12) (t2 := (h2.1, (2, i0, 4, sr_r 7 i0) :: h2.2)) fg_2_12 ft_2_4 (by decide +kernel) (sr_mb_ok hm) ⟨_, _, rfl⟩ (fun _ => ⟨rfl, RX2, TX2, rfl, rfl, sr_tb (n := 109) (by decide +kernel) rfl⟩) (sr_e2_put _ _ _ _ _) ?_
  refine sr_gh _ (fun h3 => ?_)
  refine sr_aloadn (pc := 15) (n := 0) (by decide +kernel) rfl ?_
  refine sr_iconst (pc := 16) (n := (-1)) (v := (-1)) (by decide +kernel) rfl ?_
  refine sr_chk _ (fun hm => ?_)
  refine sr_put (pc := 17) (t2 := (h3.1, (2, i0, 5, sr_i (-1)) :: h3.2)) fg_2_18 ft_2_5 (by decide +kernel) (sr_mb_ok hm) ⟨_, rfl⟩ (fun hq => nomatch hq) (sr_e2_put _ _ _ _ _) ?_
  refine sr_gh _ (fun h4 => ?_)
  refine sr_aloadn (pc := 20) (n := 0) (by decide +kernel) rfl ?_
  refine sr_iloadn (pc := 21) (n := 1) (by decide +kernel) rfl ?_
  refine sr_chk _ (fun hm => ?_)
  refine sr_put (pc := 22) (t2 := (h4.1, (2, i0, 0, sr_i a0) :: h4.2)) fg_2_22 ft_2_0 (by decide +kernel) (sr_mb_ok hm) ⟨_, rfl⟩ (fun _ => ⟨rfl, RX2, TX2, rfl, rfl, sr_tb (n := 89) (by decide +kernel) rfl⟩) (sr_e2_put _ _ _ _ _) ?_
  refine sr_gh _ (fun h5 => ?_)
  exact sr_ret (pc := 25) (by decide +kernel) rfl
def FC3_setBase (i0 : Nat) (a0 : Int32) (t : sr_c) : sr_R2 := (sr_if (sr_mb t 3 i0) (sr_lh (t.1, (3, i0, 5, sr_i a0) :: t.2) (fun h1 => (sr_bd (sr_nt (sr_fk h1 0 (FC10_bitsOf a0 h1))) (sr_dI (fun w2 h2 => (sr_if (sr_mb h2 3 i0) (sr_lh (h2.1, (3, i0, 6, sr_i w2) :: h2.2) (fun h3 => (sr_if (sr_mb h3 3 i0) (sr_mI (sr_lk h3.2 3 i0 6) (fun w4 => (if w4 ≤ 0 then (sr_if (sr_mb h3 3 i0) (sr_lh (h3.1, (3, i0, 7, sr_i 0) :: h3.2) (fun h5 => (some (.inl none, h5))))) else (sr_if (sr_mb h3 3 i0) (sr_mI (sr_lk h3.2 3 i0 6) (fun w6 => (if w6 = 0 then none else (sr_if (sr_mb h3 3 i0) (sr_lh (h3.1, (3, i0, 7, sr_i (12 / w6)) :: h3.2) (fun h7 => (some (.inl none, h7))))))))))))))))))))))
theorem CC3_setBase (l : Launch) (i0 : Nat) (a0 : Int32) (t : sr_c) : sr_T sr_e2 l sr_m3_setBase [sr_r 3 i0, sr_i a0] t (FC3_setBase i0 a0 t) 0 0 := by
  refine sr_T_of (L0 := [some (sr_r 3 i0), some (sr_i a0)]) rfl (by decide +kernel) (fun _ => rfl) (fun _ => Nat.le_of_ble_eq_true rfl) ?_
  unfold FC3_setBase
  refine sr_aloadn (pc := 0) (n := 0) (by decide +kernel) rfl ?_
  refine sr_iloadn (pc := 1) (n := 1) (by decide +kernel) rfl ?_
  refine sr_chk _ (fun hm => ?_)
  refine sr_put (pc := 2) (t2 := (t.1, (3, i0, 5, sr_i a0) :: t.2)) fg_3_38 ft_3_5 (by decide +kernel) (sr_mb_ok hm) ⟨_, rfl⟩ (fun hq => nomatch hq) (sr_e2_put _ _ _ _ _) ?_
  refine sr_gh _ (fun h1 => ?_)
  refine sr_aloadn (pc := 5) (n := 0) (by decide +kernel) rfl ?_
  refine sr_iloadn (pc := 6) (n := 1) (by decide +kernel) rfl ?_
  refine sr_callSN (pc := 7) (As := [sr_i a0]) (mc1 := 0) (ms1 := 0) (mc2 := 0) (ms2 := 0) (fx := sr_fk h1 0 (FC10_bitsOf a0 h1)) fm_3_41 fl_3_41 (by decide +kernel) rm_3_setBase_10_bitsOf rfl rfl rfl (sr_fk_ok h1 0 (FC10_bitsOf a0 h1)) (sr_fk_T (CC10_bitsOf l a0 h1)) (sr_kI (fun w2 h2 => ?_))
  refine sr_chk _ (fun hm => ?_)
  refine sr_put (pc := 10) (t2 := (h2.1, (3, i0, 6, sr_i w2) :: h2.2)) fg_3_45 ft_3_6 (by decide +kernel) (sr_mb_ok hm) ⟨_, rfl⟩ (fun hq => nomatch hq) (sr_e2_put _ _ _ _ _) ?_
  refine sr_gh _ (fun h3 => ?_)
  refine sr_aloadn (pc := 13) (n := 0) (by decide +kernel) rfl ?_
  refine sr_aloadn (pc := 14) (n := 0) (by decide +kernel) rfl ?_
  refine sr_chk _ (fun hm => ?_)
  refine sr_mi _ (fun w4 hw => ?_)
  refine sr_get (pc := 15) fg_3_45 (by decide +kernel) (sr_mb_ok hm) hw ?_
  refine sr_if_le (pc := 18) (off := 13) (tg := 31) (by decide +kernel) (by decide) (fun _ => ?_) (fun _ => ?_)
  · refine sr_iconst (pc := 31) (n := 0) (v := 0) (by decide +kernel) rfl ?_
    refine sr_chk _ (fun hm => ?_)
    refine sr_put (pc := 32) (t2 := (h3.1, (3, i0, 7, sr_i 0) :: h3.2)) fg_3_48 ft_3_7 (by decide +kernel) (sr_mb_ok hm) ⟨_, rfl⟩ (fun hq => nomatch hq) (sr_e2_put _ _ _ _ _) ?_
    refine sr_gh _ (fun h5 => ?_)
    exact sr_ret (pc := 35) (by decide +kernel) rfl
  · refine sr_bipush (pc := 21) (n := 12) (v := 12) (by decide +kernel) (by decide) ?_
    refine sr_aloadn (pc := 23) (n := 0) (by decide +kernel) rfl ?_
    refine sr_chk _ (fun hm => ?_)
    refine sr_mi _ (fun w6 hw => ?_)
    refine sr_get (pc := 24) fg_3_45 (by decide +kernel) (sr_mb_ok hm) hw ?_
    refine sr_idiv (pc := 27) (by decide +kernel) (fun _ => ?_)
    refine sr_goto (pc := 28) (off := 4) (tg := 32) (by decide +kernel) (by decide) ?_
    refine sr_chk _ (fun hm => ?_)
    refine sr_put (pc := 32) (t2 := (h3.1, (3, i0, 7, sr_i (12 / w6)) :: h3.2)) fg_3_48 ft_3_7 (by decide +kernel) (sr_mb_ok hm) ⟨_, rfl⟩ (fun hq => nomatch hq) (sr_e2_put _ _ _ _ _) ?_
    refine sr_gh _ (fun h7 => ?_)
    exact sr_ret (pc := 35) (by decide +kernel) rfl
def FC3_init (i0 : Nat) (t : sr_c) : sr_R2 := (sr_nw t 13 i0 (fun h1 => (sr_if (sr_mb h1 3 i0) (sr_lh (h1.1, (3, i0, 0, sr_r 13 i0) :: h1.2) (fun h2 => (sr_nw h2 2 (25 * i0 + 24) (fun h3 => (sr_bd (sr_nt (sr_fk h3 5 (FC2_init (25 * i0 + 24) (-1) h3))) (sr_dV (fun h4 => (sr_if (sr_mb h4 3 i0) (sr_lh (h4.1, (3, i0, 1, sr_r 2 (25 * i0 + 24)) :: h4.2) (fun h5 => (sr_nw h5 7 (50 + i0) (fun h6 => (sr_bd (sr_nt (sr_fk h6 4 (FC7_init (50 + i0) h6))) (sr_dV (fun h7 => (sr_if (sr_mb h7 3 i0) (sr_lh (h7.1, (3, i0, 2, sr_r 7 (50 + i0)) :: h7.2) (fun h8 => (sr_if (sr_mb h8 3 i0) (sr_lh (h8.1, (3, i0, 8, sr_i 4) :: h8.2) (fun h9 => (sr_if (sr_mb h9 3 i0 && decide (sr_lk h9.2 3 i0 0 = sr_r 13 i0)) (sr_if (sr_mb h9 13 i0) (if (24 : Int32) ≤ 0 then none else (sr_if (sr_mb h9 3 i0 && decide (sr_lk h9.2 3 i0 0 = sr_r 13 i0)) (sr_nw h9 2 (25 * i0 + 0) (fun h10 => (sr_bd (sr_nt (sr_fk h10 5 (FC2_init (25 * i0 + 0) 0 h10))) (sr_dV (fun h11 => (sr_if (sr_mb h11 13 i0 && sr_mb h11 2 (25 * i0 + 0)) (if (0 : Int32) < 0 ∨ 24 ≤ (0 : Int32).toNatClampNeg then none else sr_lh (h11.1, (13, i0, (0 : Int32).toNatClampNeg, sr_r 2 (25 * i0 + 0)) :: h11.2) (fun h12 => (sr_if (sr_mb h12 3 i0 && decide (sr_lk h12.2 3 i0 0 = sr_r 13 i0)) (sr_if (sr_mb h12 13 i0) (if (24 : Int32) ≤ 1 then none else (sr_if (sr_mb h12 3 i0 && decide (sr_lk h12.2 3 i0 0 = sr_r 13 i0)) (sr_nw h12 2 (25 * i0 + 1) (fun h13 => (sr_bd (sr_nt (sr_fk h13 5 (FC2_init (25 * i0 + 1) 1 h13))) (sr_dV (fun h14 => (sr_if (sr_mb h14 13 i0 && sr_mb h14 2 (25 * i0 + 1)) (if (1 : Int32) < 0 ∨ 24 ≤ (1 : Int32).toNatClampNeg then none else sr_lh (h14.1, (13, i0, (1 : Int32).toNatClampNeg, sr_r 2 (25 * i0 + 1)) :: h14.2) (fun h15 => (sr_if (sr_mb h15 3 i0 && decide (sr_lk h15.2 3 i0 0 = sr_r 13 i0)) (sr_if (sr_mb h15 13 i0) (if (24 : Int32) ≤ 2 then none else (sr_if (sr_mb h15 3 i0 && decide (sr_lk h15.2 3 i0 0 = sr_r 13 i0)) (sr_nw h15 2 (25 * i0 + 2) (fun h16 => (sr_bd (sr_nt (sr_fk h16 5 (FC2_init (25 * i0 + 2) 2 h16))) (sr_dV (fun h17 => (sr_if (sr_mb h17 13 i0 && sr_mb h17 2 (25 * i0 + 2)) (if (2 : Int32) < 0 ∨ 24 ≤ (2 : Int32).toNatClampNeg then none else sr_lh (h17.1, (13, i0, (2 : Int32).toNatClampNeg, sr_r 2 (25 * i0 + 2)) :: h17.2) (fun h18 => (sr_if (sr_mb h18 3 i0 && decide (sr_lk h18.2 3 i0 0 = sr_r 13 i0)) (sr_if (sr_mb h18 13 i0) (if (24 : Int32) ≤ 3 then none else (sr_if (sr_mb h18 3 i0 && decide (sr_lk h18.2 3 i0 0 = sr_r 13 i0)) (sr_nw h18 2 (25 * i0 + 3) (fun h19 => (sr_bd (sr_nt (sr_fk h19 5 (FC2_init (25 * i0 + 3) 3 h19))) (sr_dV (fun h20 => (sr_if (sr_mb h20 13 i0 && sr_mb h20 2 (25 * i0 + 3)) (if (3 : Int32) < 0 ∨ 24 ≤ (3 : Int32).toNatClampNeg then none else sr_lh (h20.1, (13, i0, (3 : Int32).toNatClampNeg, sr_r 2 (25 * i0 + 3)) :: h20.2) (fun h21 => (sr_if (sr_mb h21 3 i0 && decide (sr_lk h21.2 3 i0 0 = sr_r 13 i0)) (sr_if (sr_mb h21 13 i0) (if (24 : Int32) ≤ 4 then none else (sr_if (sr_mb h21 3 i0 && decide (sr_lk h21.2 3 i0 0 = sr_r 13 i0)) (sr_nw h21 2 (25 * i0 + 4) (fun h22 => (sr_bd (sr_nt (sr_fk h22 5 (FC2_init (25 * i0 + 4) 4 h22))) (sr_dV (fun h23 => (sr_if (sr_mb h23 13 i0 && sr_mb h23 2 (25 * i0 + 4)) (if (4 : Int32) < 0 ∨ 24 ≤ (4 : Int32).toNatClampNeg then none else sr_lh (h23.1, (13, i0, (4 : Int32).toNatClampNeg, sr_r 2 (25 * i0 + 4)) :: h23.2) (fun h24 => (sr_if (sr_mb h24 3 i0 && decide (sr_lk h24.2 3 i0 0 = sr_r 13 i0)) (sr_if (sr_mb h24 13 i0) (if (24 : Int32) ≤ 5 then none else (sr_if (sr_mb h24 3 i0 && decide (sr_lk h24.2 3 i0 0 = sr_r 13 i0)) (sr_nw h24 2 (25 * i0 + 5) (fun h25 => (sr_bd (sr_nt (sr_fk h25 5 (FC2_init (25 * i0 + 5) 5 h25))) (sr_dV (fun h26 => (sr_if (sr_mb h26 13 i0 && sr_mb h26 2 (25 * i0 + 5)) (if (5 : Int32) < 0 ∨ 24 ≤ (5 : Int32).toNatClampNeg then none else sr_lh (h26.1, (13, i0, (5 : Int32).toNatClampNeg, sr_r 2 (25 * i0 + 5)) :: h26.2) (fun h27 => (sr_if (sr_mb h27 3 i0 && decide (sr_lk h27.2 3 i0 0 = sr_r 13 i0)) (sr_if (sr_mb h27 13 i0) (if (24 : Int32) ≤ 6 then none else (sr_if (sr_mb h27 3 i0 && decide (sr_lk h27.2 3 i0 0 = sr_r 13 i0)) (sr_nw h27 2 (25 * i0 + 6) (fun h28 => (sr_bd (sr_nt (sr_fk h28 5 (FC2_init (25 * i0 + 6) 6 h28))) (sr_dV (fun h29 => (sr_if (sr_mb h29 13 i0 && sr_mb h29 2 (25 * i0 + 6)) (if (6 : Int32) < 0 ∨ 24 ≤ (6 : Int32).toNatClampNeg then none else sr_lh (h29.1, (13, i0, (6 : Int32).toNatClampNeg, sr_r 2 (25 * i0 + 6)) :: h29.2) (fun h30 => (sr_if (sr_mb h30 3 i0 && decide (sr_lk h30.2 3 i0 0 = sr_r 13 i0)) (sr_if (sr_mb h30 13 i0) (if (24 : Int32) ≤ 7 then none else (sr_if (sr_mb h30 3 i0 && decide (sr_lk h30.2 3 i0 0 = sr_r 13 i0)) (sr_nw h30 2 (25 * i0 + 7) (fun h31 => (sr_bd (sr_nt (sr_fk h31 5 (FC2_init (25 * i0 + 7) 7 h31))) (sr_dV (fun h32 => (sr_if (sr_mb h32 13 i0 && sr_mb h32 2 (25 * i0 + 7)) (if (7 : Int32) < 0 ∨ 24 ≤ (7 : Int32).toNatClampNeg then none else sr_lh (h32.1, (13, i0, (7 : Int32).toNatClampNeg, sr_r 2 (25 * i0 + 7)) :: h32.2) (fun h33 => (sr_if (sr_mb h33 3 i0 && decide (sr_lk h33.2 3 i0 0 = sr_r 13 i0)) (sr_if (sr_mb h33 13 i0) (if (24 : Int32) ≤ 8 then none else (sr_if (sr_mb h33 3 i0 && decide (sr_lk h33.2 3 i0 0 = sr_r 13 i0)) (sr_nw h33 2 (25 * i0 + 8) (fun h34 => (sr_bd (sr_nt (sr_fk h34 5 (FC2_init (25 * i0 + 8) 8 h34))) (sr_dV (fun h35 => (sr_if (sr_mb h35 13 i0 && sr_mb h35 2 (25 * i0 + 8)) (if (8 : Int32) < 0 ∨ 24 ≤ (8 : Int32).toNatClampNeg then none else sr_lh (h35.1, (13, i0, (8 : Int32).toNatClampNeg, sr_r 2 (25 * i0 + 8)) :: h35.2) (fun h36 => (sr_if (sr_mb h36 3 i0 && decide (sr_lk h36.2 3 i0 0 = sr_r 13 i0)) (sr_if (sr_mb h36 13 i0) (if (24 : Int32) ≤ 9 then none else (sr_if (sr_mb h36 3 i0 && decide (sr_lk h36.2 3 i0 0 = sr_r 13 i0)) (sr_nw h36 2 (25 * i0 + 9) (fun h37 => (sr_bd (sr_nt (sr_fk h37 5 (FC2_init (25 * i0 + 9) 9 h37))) (sr_dV (fun h38 => (sr_if (sr_mb h38 13 i0 && sr_mb h38 2 (25 * i0 + 9)) (if (9 : Int32) < 0 ∨ 24 ≤ (9 : Int32).toNatClampNeg then none else sr_lh (h38.1, (13, i0, (9 : Int32).toNatClampNeg, sr_r 2 (25 * i0 + 9)) :: h38.2) (fun h39 => (sr_if (sr_mb h39 3 i0 && decide (sr_lk h39.2 3 i0 0 = sr_r 13 i0)) (sr_if (sr_mb h39 13 i0) (if (24 : Int32) ≤ 10 then none else (sr_if (sr_mb h39 3 i0 && decide (sr_lk h39.2 3 i0 0 = sr_r 13 i0)) (sr_nw h39 2 (25 * i0 + 10) (fun h40 => (sr_bd (sr_nt (sr_fk h40 5 (FC2_init (25 * i0 + 10) 10 h40))) (sr_dV (fun h41 => (sr_if (sr_mb h41 13 i0 && sr_mb h41 2 (25 * i0 + 10)) (if (10 : Int32) < 0 ∨ 24 ≤ (10 : Int32).toNatClampNeg then none else sr_lh (h41.1, (13, i0, (10 : Int32).toNatClampNeg, sr_r 2 (25 * i0 + 10)) :: h41.2) (fun h42 => (sr_if (sr_mb h42 3 i0 && decide (sr_lk h42.2 3 i0 0 = sr_r 13 i0)) (sr_if (sr_mb h42 13 i0) (if (24 : Int32) ≤ 11 then none else (sr_if (sr_mb h42 3 i0 && decide (sr_lk h42.2 3 i0 0 = sr_r 13 i0)) (sr_nw h42 2 (25 * i0 + 11) (fun h43 => (sr_bd (sr_nt (sr_fk h43 5 (FC2_init (25 * i0 + 11) 11 h43))) (sr_dV (fun h44 => (sr_if (sr_mb h44 13 i0 && sr_mb h44 2 (25 * i0 + 11)) (if (11 : Int32) < 0 ∨ 24 ≤ (11 : Int32).toNatClampNeg then none else sr_lh (h44.1, (13, i0, (11 : Int32).toNatClampNeg, sr_r 2 (25 * i0 + 11)) :: h44.2) (fun h45 => (sr_if (sr_mb h45 3 i0 && decide (sr_lk h45.2 3 i0 0 = sr_r 13 i0)) (sr_if (sr_mb h45 13 i0) (if (24 : Int32) ≤ 12 then none else (sr_if (sr_mb h45 3 i0 && decide (sr_lk h45.2 3 i0 0 = sr_r 13 i0)) (sr_nw h45 2 (25 * i0 + 12) (fun h46 => (sr_bd (sr_nt (sr_fk h46 5 (FC2_init (25 * i0 + 12) 12 h46))) (sr_dV (fun h47 => (sr_if (sr_mb h47 13 i0 && sr_mb h47 2 (25 * i0 + 12)) (if (12 : Int32) < 0 ∨ 24 ≤ (12 : Int32).toNatClampNeg then none else sr_lh (h47.1, (13, i0, (12 : Int32).toNatClampNeg, sr_r 2 (25 * i0 + 12)) :: h47.2) (fun h48 => (sr_if (sr_mb h48 3 i0 && decide (sr_lk h48.2 3 i0 0 = sr_r 13 i0)) (sr_if (sr_mb h48 13 i0) (if (24 : Int32) ≤ 13 then none else (sr_if (sr_mb h48 3 i0 && decide (sr_lk h48.2 3 i0 0 = sr_r 13 i0)) (sr_nw h48 2 (25 * i0 + 13) (fun h49 => (sr_bd (sr_nt (sr_fk h49 5 (FC2_init (25 * i0 + 13) 13 h49))) (sr_dV (fun h50 => (sr_if (sr_mb h50 13 i0 && sr_mb h50 2 (25 * i0 + 13)) (if (13 : Int32) < 0 ∨ 24 ≤ (13 : Int32).toNatClampNeg then none else sr_lh (h50.1, (13, i0, (13 : Int32).toNatClampNeg, sr_r 2 (25 * i0 + 13)) :: h50.2) (fun h51 => (sr_if (sr_mb h51 3 i0 && decide (sr_lk h51.2 3 i0 0 = sr_r 13 i0)) (sr_if (sr_mb h51 13 i0) (if (24 : Int32) ≤ 14 then none else (sr_if (sr_mb h51 3 i0 && decide (sr_lk h51.2 3 i0 0 = sr_r 13 i0)) (sr_nw h51 2 (25 * i0 + 14) (fun h52 => (sr_bd (sr_nt (sr_fk h52 5 (FC2_init (25 * i0 + 14) 14 h52))) (sr_dV (fun h53 => (sr_if (sr_mb h53 13 i0 && sr_mb h53 2 (25 * i0 + 14)) (if (14 : Int32) < 0 ∨ 24 ≤ (14 : Int32).toNatClampNeg then none else sr_lh (h53.1, (13, i0, (14 : Int32).toNatClampNeg, sr_r 2 (25 * i0 + 14)) :: h53.2) (fun h54 => (sr_if (sr_mb h54 3 i0 && decide (sr_lk h54.2 3 i0 0 = sr_r 13 i0)) (sr_if (sr_mb h54 13 i0) (if (24 : Int32) ≤ 15 then none else (sr_if (sr_mb h54 3 i0 && decide (sr_lk h54.2 3 i0 0 = sr_r 13 i0)) (sr_nw h54 2 (25 * i0 + 15) (fun h55 => (sr_bd (sr_nt (sr_fk h55 5 (FC2_init (25 * i0 + 15) 15 h55))) (sr_dV (fun h56 => (sr_if (sr_mb h56 13 i0 && sr_mb h56 2 (25 * i0 + 15)) (if (15 : Int32) < 0 ∨ 24 ≤ (15 : Int32).toNatClampNeg then none else sr_lh (h56.1, (13, i0, (15 : Int32).toNatClampNeg, sr_r 2 (25 * i0 + 15)) :: h56.2) (fun h57 => (sr_if (sr_mb h57 3 i0 && decide (sr_lk h57.2 3 i0 0 = sr_r 13 i0)) (sr_if (sr_mb h57 13 i0) (if (24 : Int32) ≤ 16 then none else (sr_if (sr_mb h57 3 i0 && decide (sr_lk h57.2 3 i0 0 = sr_r 13 i0)) (sr_nw h57 2 (25 * i0 + 16) (fun h58 => (sr_bd (sr_nt (sr_fk h58 5 (FC2_init (25 * i0 + 16) 16 h58))) (sr_dV (fun h59 => (sr_if (sr_mb h59 13 i0 && sr_mb h59 2 (25 * i0 + 16)) (if (16 : Int32) < 0 ∨ 24 ≤ (16 : Int32).toNatClampNeg then none else sr_lh (h59.1, (13, i0, (16 : Int32).toNatClampNeg, sr_r 2 (25 * i0 + 16)) :: h59.2) (fun h60 => (sr_if (sr_mb h60 3 i0 && decide (sr_lk h60.2 3 i0 0 = sr_r 13 i0)) (sr_if (sr_mb h60 13 i0) (if (24 : Int32) ≤ 17 then none else (sr_if (sr_mb h60 3 i0 && decide (sr_lk h60.2 3 i0 0 = sr_r 13 i0)) (sr_nw h60 2 (25 * i0 + 17) (fun h61 => (sr_bd (sr_nt (sr_fk h61 5 (FC2_init (25 * i0 + 17) 17 h61))) (sr_dV (fun h62 => (sr_if (sr_mb h62 13 i0 && sr_mb h62 2 (25 * i0 + 17)) (if (17 : Int32) < 0 ∨ 24 ≤ (17 : Int32).toNatClampNeg then none else sr_lh (h62.1, (13, i0, (17 : Int32).toNatClampNeg, sr_r 2 (25 * i0 + 17)) :: h62.2) (fun h63 => (sr_if (sr_mb h63 3 i0 && decide (sr_lk h63.2 3 i0 0 = sr_r 13 i0)) (sr_if (sr_mb h63 13 i0) (if (24 : Int32) ≤ 18 then none else (sr_if (sr_mb h63 3 i0 && decide (sr_lk h63.2 3 i0 0 = sr_r 13 i0)) (sr_nw h63 2 (25 * i0 + 18) (fun h64 => (sr_bd (sr_nt (sr_fk h64 5 (FC2_init (25 * i0 + 18) 18 h64))) (sr_dV (fun h65 => (sr_if (sr_mb h65 13 i0 && sr_mb h65 2 (25 * i0 + 18)) (if (18 : Int32) < 0 ∨ 24 ≤ (18 : Int32).toNatClampNeg then none else sr_lh (h65.1, (13, i0, (18 : Int32).toNatClampNeg, sr_r 2 (25 * i0 + 18)) :: h65.2) (fun h66 => (sr_if (sr_mb h66 3 i0 && decide (sr_lk h66.2 3 i0 0 = sr_r 13 i0)) (sr_if (sr_mb h66 13 i0) (if (24 : Int32) ≤ 19 then none else (sr_if (sr_mb h66 3 i0 && decide (sr_lk h66.2 3 i0 0 = sr_r 13 i0)) (sr_nw h66 2 (25 * i0 + 19) (fun h67 => (sr_bd (sr_nt (sr_fk h67 5 (FC2_init (25 * i0 + 19) 19 h67))) (sr_dV (fun h68 => (sr_if (sr_mb h68 13 i0 && sr_mb h68 2 (25 * i0 + 19)) (if (19 : Int32) < 0 ∨ 24 ≤ (19 : Int32).toNatClampNeg then none else sr_lh (h68.1, (13, i0, (19 : Int32).toNatClampNeg, sr_r 2 (25 * i0 + 19)) :: h68.2) (fun h69 => (sr_if (sr_mb h69 3 i0 && decide (sr_lk h69.2 3 i0 0 = sr_r 13 i0)) (sr_if (sr_mb h69 13 i0) (if (24 : Int32) ≤ 20 then none else (sr_if (sr_mb h69 3 i0 && decide (sr_lk h69.2 3 i0 0 = sr_r 13 i0)) (sr_nw h69 2 (25 * i0 + 20) (fun h70 => (sr_bd (sr_nt (sr_fk h70 5 (FC2_init (25 * i0 + 20) 20 h70))) (sr_dV (fun h71 => (sr_if (sr_mb h71 13 i0 && sr_mb h71 2 (25 * i0 + 20)) (if (20 : Int32) < 0 ∨ 24 ≤ (20 : Int32).toNatClampNeg then none else sr_lh (h71.1, (13, i0, (20 : Int32).toNatClampNeg, sr_r 2 (25 * i0 + 20)) :: h71.2) (fun h72 => (sr_if (sr_mb h72 3 i0 && decide (sr_lk h72.2 3 i0 0 = sr_r 13 i0)) (sr_if (sr_mb h72 13 i0) (if (24 : Int32) ≤ 21 then none else (sr_if (sr_mb h72 3 i0 && decide (sr_lk h72.2 3 i0 0 = sr_r 13 i0)) (sr_nw h72 2 (25 * i0 + 21) (fun h73 => (sr_bd (sr_nt (sr_fk h73 5 (FC2_init (25 * i0 + 21) 21 h73))) (sr_dV (fun h74 => (sr_if (sr_mb h74 13 i0 && sr_mb h74 2 (25 * i0 + 21)) (if (21 : Int32) < 0 ∨ 24 ≤ (21 : Int32).toNatClampNeg then none else sr_lh (h74.1, (13, i0, (21 : Int32).toNatClampNeg, sr_r 2 (25 * i0 + 21)) :: h74.2) (fun h75 => (sr_if (sr_mb h75 3 i0 && decide (sr_lk h75.2 3 i0 0 = sr_r 13 i0)) (sr_if (sr_mb h75 13 i0) (if (24 : Int32) ≤ 22 then none else (sr_if (sr_mb h75 3 i0 && decide (sr_lk h75.2 3 i0 0 = sr_r 13 i0)) (sr_nw h75 2 (25 * i0 + 22) (fun h76 => (sr_bd (sr_nt (sr_fk h76 5 (FC2_init (25 * i0 + 22) 22 h76))) (sr_dV (fun h77 => (sr_if (sr_mb h77 13 i0 && sr_mb h77 2 (25 * i0 + 22)) (if (22 : Int32) < 0 ∨ 24 ≤ (22 : Int32).toNatClampNeg then none else sr_lh (h77.1, (13, i0, (22 : Int32).toNatClampNeg, sr_r 2 (25 * i0 + 22)) :: h77.2) (fun h78 => (sr_if (sr_mb h78 3 i0 && decide (sr_lk h78.2 3 i0 0 = sr_r 13 i0)) (sr_if (sr_mb h78 13 i0) (if (24 : Int32) ≤ 23 then none else (sr_if (sr_mb h78 3 i0 && decide (sr_lk h78.2 3 i0 0 = sr_r 13 i0)) (sr_nw h78 2 (25 * i0 + 23) (fun h79 => (sr_bd (sr_nt (sr_fk h79 5 (FC2_init (25 * i0 + 23) 23 h79))) (sr_dV (fun h80 => (sr_if (sr_mb h80 13 i0 && sr_mb h80 2 (25 * i0 + 23)) (if (23 : Int32) < 0 ∨ 24 ≤ (23 : Int32).toNatClampNeg then none else sr_lh (h80.1, (13, i0, (23 : Int32).toNatClampNeg, sr_r 2 (25 * i0 + 23)) :: h80.2) (fun h81 => (sr_if (sr_mb h81 3 i0 && decide (sr_lk h81.2 3 i0 0 = sr_r 13 i0)) (sr_if (sr_mb h81 13 i0) (if (24 : Int32) ≤ 24 then (sr_if (sr_mb h81 3 i0) (sr_bd (sr_fk h81 0 (FC3_setBase i0 4 h81)) (sr_dV (fun h82 => (some (.inl none, h82)))))) else none)))))))))))))))))))))))))))))))))))))))))))))))))))))))))))))))))))))))))))))))))))))))))))))))))))))))))))))))))))))))))))))))))))))))))))))))))))))))))))))))))))))))))))))))))))))))))))))))))))))))))))))))))))))))))))))))))))))))))))))))))))))))))))))))))))))))))))))))))))))))))))))))))))))))))))))))))))))))))))
theorem CC3_init (l : Launch) (i0 : Nat) (t : sr_c) : sr_T sr_e2 l sr_m3_init [sr_r 3 i0] t (FC3_init i0 t) 156 822 := by
  refine sr_T_of (L0 := [some (sr_r 3 i0), none]) rfl (by decide +kernel) (fun _ => rfl) (fun _ => Nat.le_of_ble_eq_true rfl) ?_
  unfold FC3_init
  refine sr_aloadn (pc := 0) (n := 0) (by decide +kernel) rfl ?_
  refine sr_objI (pc := 1) (idx := 3) (by decide +kernel) (sr_tb (n := 36) (by decide +kernel) rfl) oi_1 oi_2 (by decide) (by decide) rfl ?_
  refine sr_aloadn (pc := 4) (n := 0) (by decide +kernel) rfl ?_
  refine sr_bipush (pc := 5) (n := 24) (v := 24) (by decide +kernel) (by decide) ?_
  refine sr_newq2 (pc := 7) (k := 13) (n := 24) (i := i0) (C9 := RX2) (mc := 155) (ms := 798) rfl (Or.inl ⟨rfl, rfl⟩) (sr_tb (n := 37) (by decide +kernel) rfl) (sr_nb (n := 38) (by decide +kernel) rfl) (by decide +kernel) (fun _ => rfl) (by decide) (by decide) (by decide) (fun h1 => ?_)
  refine sr_chk _ (fun hm => ?_)
  refine sr_put (pc := 10) (t2 := (h1.1, (3, i0, 0, sr_r 13 i0) :: h1.2)) fg_3_11 ft_3_0 (by decide +kernel) (sr_mb_ok hm) ⟨_, _, rfl⟩ (fun _ => ⟨rfl, RX3, TX3, rfl, rfl, sr_tb (n := 151) (by decide +kernel) rfl⟩) (sr_e2_put _ _ _ _ _) ?_
  refine sr_gh _ (fun h2 => ?_)
  refine sr_aloadn (pc := 13) (n := 0) (by decide +kernel) rfl ?_
  refine sr_new2 (pc := 14) (i := (25 * i0 + 24)) (mc := 154) (ms := 790) fn_3_9 (by decide +kernel) (fun h3 => ?_)
  refine sr_dup (pc := 17) (by decide +kernel) rfl ?_
  refine sr_iconst (pc := 18) (n := (-1)) (v := (-1)) (by decide +kernel) rfl ?_
  refine sr_callI (pc := 19) (As := [sr_i (-1)]) (mc1 := 5) (ms1 := 23) (mc2 := 149) (ms2 := 767) (fx := sr_fk h3 5 (FC2_init (25 * i0 + 24) (-1) h3)) fm_3_17 (by decide +kernel) rm_3_init_2_init rfl rfl rfl (sr_fk_ok h3 5 (FC2_init (25 * i0 + 24) (-1) h3)) (sr_fk_T (CC2_init l (25 * i0 + 24) (-1) h3)) (sr_kV (fun h4 => ?_))
  refine sr_chk _ (fun hm => ?_)
  refine sr_put (pc := 22) (t2 := (h4.1, (3, i0, 1, sr_r 2 (25 * i0 + 24)) :: h4.2)) fg_3_20 ft_3_1 (by decide +kernel) (sr_mb_ok hm) ⟨_, _, rfl⟩ (fun _ => ⟨rfl, RX3, TX3, rfl, rfl, sr_tb (n := 152) (by decide +kernel) rfl⟩) (sr_e2_put _ _ _ _ _) ?_
  refine sr_gh _ (fun h5 => ?_)
  refine sr_aloadn (pc := 25) (n := 0) (by decide +kernel) rfl ?_
  refine sr_new2 (pc := 26) (i := (50 + i0)) (mc := 148) (ms := 764) fn_3_24 (by decide +kernel) (fun h6 => ?_)
  refine sr_dup (pc := 29) (by decide +kernel) rfl ?_
  refine sr_callI (pc := 30) (As := []) (mc1 := 4) (ms1 := 20) (mc2 := 144) (ms2 := 744) (fx := sr_fk h6 4 (FC7_init (50 + i0) h6)) fm_3_26 (by decide +kernel) rm_3_init_7_init rfl rfl rfl (sr_fk_ok h6 4 (FC7_init (50 + i0) h6)) (sr_fk_T (CC7_init l (50 + i0) h6)) (sr_kV (fun h7 => ?_))
  refine sr_chk _ (fun hm => ?_)
  refine sr_put (pc := 33) (t2 := (h7.1, (3, i0, 2, sr_r 7 (50 + i0)) :: h7.2)) fg_3_27 ft_3_2 (by decide +kernel) (sr_mb_ok hm) ⟨_, _, rfl⟩ (fun _ => ⟨rfl, RX3, TX3, rfl, rfl, sr_tb (n := 154) (by decide +kernel) rfl⟩) (sr_e2_put _ _ _ _ _) ?_
  refine sr_gh _ (fun h8 => ?_)
  refine sr_aloadn (pc := 36) (n := 0) (by decide +kernel) rfl ?_
  refine sr_iconst (pc := 37) (n := 4) (v := 4) (by decide +kernel) rfl ?_
  refine sr_chk _ (fun hm => ?_)
  refine sr_put (pc := 38) (t2 := (h8.1, (3, i0, 8, sr_i 4) :: h8.2)) fg_3_31 ft_3_8 (by decide +kernel) (sr_mb_ok hm) ⟨_, rfl⟩ (fun hq => nomatch hq) (sr_e2_put _ _ _ _ _) ?_
  refine sr_gh _ (fun h9 => ?_)
  refine sr_iconst (pc := 41) (n := 0) (v := 0) (by decide +kernel) rfl ?_
  refine sr_istoren (pc := 42) (n := 1) (by decide +kernel) (by decide) rfl rfl ?_
  refine sr_iloadn (pc := 43) (n := 1) (by decide +kernel) rfl ?_
  refine sr_aloadn (pc := 44) (n := 0) (by decide +kernel) rfl ?_
  refine sr_chk _ (fun hm => ?_)
  have hm2 := (Bool.and_eq_true _ _).mp hm
  refine sr_get (pc := 45) fg_3_11 (by decide +kernel) (sr_mb_ok hm2.1) (of_decide_eq_true hm2.2) ?_
  refine sr_chk _ (fun hm => ?_)
  refine sr_alen (pc := 48) (ty := 2) (n := 24) (v := 24) rfl (by decide) (by decide +kernel) (sr_mb_ok hm) (by decide) ?_
  refine sr_icmp_ge (pc := 49) (off := 23) (tg := 72) (by decide +kernel) (by decide) (fun hq => absurd hq (by decide)) (fun _ => ?_)
  refine sr_aloadn (pc := 52) (n := 0) (by decide +kernel) rfl ?_
  refine sr_chk _ (fun hm => ?_)
  have hm2 := (Bool.and_eq_true _ _).mp hm
  refine sr_get (pc := 53) fg_3_11 (by decide +kernel) (sr_mb_ok hm2.1) (of_decide_eq_true hm2.2) ?_
  refine sr_iloadn (pc := 56) (n := 1) (by decide +kernel) rfl ?_
  refine sr_new2 (pc := 57) (i := (25 * i0 + 0)) (mc := 143) (ms := 736) fn_3_9 (by decide +kernel) (fun h10 => ?_)
  refine sr_dup (pc := 60) (by decide +kernel) rfl ?_
  refine sr_iloadn (pc := 61) (n := 1) (by decide +kernel) rfl ?_
  refine sr_callI (pc := 62) (As := [sr_i 0]) (mc1 := 5) (ms1 := 23) (mc2 := 138) (ms2 := 713) (fx := sr_fk h10 5 (FC2_init (25 * i0 + 0) 0 h10)) fm_3_17 (by decide +kernel) rm_3_init_2_init rfl rfl rfl (sr_fk_ok h10 5 (FC2_init (25 * i0 + 0) 0 h10)) (sr_fk_T (CC2_init l (25 * i0 + 0) 0 h10)) (sr_kV (fun h11 => ?_))
  refine sr_chk _ (fun hm => ?_)
  refine sr_aast (pc := 65) (t2 := (h11.1, (13, i0, (0 : Int32).toNatClampNeg, sr_r 2 (25 * i0 + 0)) :: h11.2)) (n := 24) (C9 := RX2) (T := TX2) (nn := 8) rfl (Or.inl ⟨rfl, rfl⟩) rfl rfl (by decide +kernel) (sr_mb_ok ((Bool.and_eq_true _ _).mp hm).1) (sr_mb_ok ((Bool.and_eq_true _ _).mp hm).2) (sr_e2_put _ _ _ _ _) (fun _ => ?_)
  refine sr_gh _ (fun h12 => ?_)
  refine sr_iinc (pc := 66) (i := 1) (n := 1) (w := 1) (by decide +kernel) rfl (by decide) (by decide) rfl rfl ?_
  refine sr_goto (pc := 69) (off := (-26)) (tg := 43) (by decide +kernel) (by decide) ?_
  refine sr_iloadn (pc := 43) (n := 1) (by decide +kernel) rfl ?_
  refine sr_aloadn (pc := 44) (n := 0) (by decide +kernel) rfl ?_
  refine sr_chk _ (fun hm => ?_)
  have hm2 := (Bool.and_eq_true _ _).mp hm
  refine sr_get (pc := 45) fg_3_11 (by decide +kernel) (sr_mb_ok hm2.1) (of_decide_eq_true hm2.2) ?_
  refine sr_chk _ (fun hm => ?_)
  refine sr_alen (pc := 48) (ty := 2) (n := 24) (v := 24) rfl (by decide) (by decide +kernel) (sr_mb_ok hm) (by decide) ?_
  refine sr_icmp_ge (pc := 49) (off := 23) (tg := 72) (by decide +kernel) (by decide) (fun hq => absurd hq (by decide)) (fun _ => ?_)
  refine sr_aloadn (pc := 52) (n := 0) (by decide +kernel) rfl ?_
  refine sr_chk _ (fun hm => ?_)
  have hm2 := (Bool.and_eq_true _ _).mp hm
  refine sr_get (pc := 53) fg_3_11 (by decide +kernel) (sr_mb_ok hm2.1) (of_decide_eq_true hm2.2) ?_
  refine sr_iloadn (pc := 56) (n := 1) (by decide +kernel) rfl ?_
  refine sr_new2 (pc := 57) (i := (25 * i0 + 1)) (mc := 137) (ms := 705) fn_3_9 (by decide +kernel) (fun h13 => ?_)
  refine sr_dup (pc := 60) (by decide +kernel) rfl ?_
  refine sr_iloadn (pc := 61) (n := 1) (by decide +kernel) rfl ?_
  refine sr_callI (pc := 62) (As := [sr_i 1]) (mc1 := 5) (ms1 := 23) (mc2 := 132) (ms2 := 682) (fx := sr_fk h13 5 (FC2_init (25 * i0 + 1) 1 h13)) fm_3_17 (by decide +kernel) rm_3_init_2_init rfl rfl rfl (sr_fk_ok h13 5 (FC2_init (25 * i0 + 1) 1 h13)) (sr_fk_T (CC2_init l (25 * i0 + 1) 1 h13)) (sr_kV (fun h14 => ?_))
  refine sr_chk _ (fun hm => ?_)
  refine sr_aast (pc := 65) (t2 := (h14.1, (13, i0, (1 : Int32).toNatClampNeg, sr_r 2 (25 * i0 + 1)) :: h14.2)) (n := 24) (C9 := RX2) (T := TX2) (nn := 8) rfl (Or.inl ⟨rfl, rfl⟩) rfl rfl (by decide +kernel) (sr_mb_ok ((Bool.and_eq_true _ _).mp hm).1) (sr_mb_ok ((Bool.and_eq_true _ _).mp hm).2) (sr_e2_put _ _ _ _ _) (fun _ => ?_)
  refine sr_gh _ (fun h15 => ?_)
  refine sr_iinc (pc := 66) (i := 1) (n := 1) (w := 2) (by decide +kernel) rfl (by decide) (by decide) rfl rfl ?_
  refine sr_goto (pc := 69) (off := (-26)) (tg := 43) (by decide +kernel) (by decide) ?_
  refine sr_iloadn (pc := 43) (n := 1) (by decide +kernel) rfl ?_
  refine sr_aloadn (pc := 44) (n := 0) (by decide +kernel) rfl ?_
  refine sr_chk _ (fun hm => ?_)
  have hm2 := (Bool.and_eq_true _ _).mp hm
  refine sr_get (pc := 45) fg_3_11 (by decide +kernel) (sr_mb_ok hm2.1) (of_decide_eq_true hm2.2) ?_
  refine sr_chk _ (fun hm => ?_)
  refine sr_alen (pc := 48) (ty := 2) (n := 24) (v := 24) rfl (by decide) (by decide +kernel) (sr_mb_ok hm) (by decide) ?_
  refine sr_icmp_ge (pc := 49) (off := 23) (tg := 72) (by decide +kernel) (by decide) (fun hq => absurd hq (by decide)) (fun _ => ?_)
  refine sr_aloadn (pc := 52) (n := 0) (by decide +kernel) rfl ?_
  refine sr_chk _ (fun hm => ?_)
  have hm2 := (Bool.and_eq_true _ _).mp hm
  refine sr_get (pc := 53) fg_3_11 (by decide +kernel) (sr_mb_ok hm2.1) (of_decide_eq_true hm2.2) ?_
  refine sr_iloadn (pc := 56) (n := 1) (by decide +kernel) rfl ?_
  refine sr_new2 (pc := 57) (i := (25 * i0 + 2)) (mc := 131) (ms := 674) fn_3_9 (by decide +kernel) (fun h16 => ?_)
  refine sr_dup (pc := 60) (by decide +kernel) rfl ?_
  refine sr_iloadn (pc := 61) (n := 1) (by decide +kernel) rfl ?_
  refine sr_callI (pc := 62) (As := [sr_i 2]) (mc1 := 5) (ms1 := 23) (mc2 := 126) (ms2 := 651) (fx := sr_fk h16 5 (FC2_init (25 * i0 + 2) 2 h16)) fm_3_17 (by decide +kernel) rm_3_init_2_init rfl rfl rfl (sr_fk_ok h16 5 (FC2_init (25 * i0 + 2) 2 h16)) (sr_fk_T (CC2_init l (25 * i0 + 2) 2 h16)) (sr_kV (fun h17 => ?_))
  refine sr_chk _ (fun hm => ?_)
  refine sr_aast (pc := 65) (t2 := (h17.1, (13, i0, (2 : Int32).toNatClampNeg, sr_r 2 (25 * i0 + 2)) :: h17.2)) (n := 24) (C9 := RX2) (T := TX2) (nn := 8) rfl (Or.inl ⟨rfl, rfl⟩) rfl rfl (by decide +kernel) (sr_mb_ok ((Bool.and_eq_true _ _).mp hm).1) (sr_mb_ok ((Bool.and_eq_true _ _).mp hm).2) (sr_e2_put _ _ _ _ _) (fun _ => ?_)
  refine sr_gh _ (fun h18 => ?_)
  refine sr_iinc (pc := 66) (i := 1) (n := 1) (w := 3) (by decide +kernel) rfl (by decide) (by decide) rfl rfl ?_
  refine sr_goto (pc := 69) (off := (-26)) (tg := 43) (by decide +kernel) (by decide) ?_
  refine sr_iloadn (pc := 43) (n := 1) (by decide +kernel) rfl ?_
  refine sr_aloadn (pc := 44) (n := 0) (by decide +kernel) rfl ?_
  refine sr_chk _ (fun hm => ?_)
  have hm2 := (Bool.and_eq_true _ _).mp hm
  refine sr_get (pc := 45) fg_3_11 (by decide +kernel) (sr_mb_ok hm2.1) (of_decide_eq_true hm2.2) ?_
  refine sr_chk _ (fun hm => ?_)
  refine sr_alen (pc := 48) (ty := 2) (n := 24) (v := 24) rfl (by decide) (by decide +kernel) (sr_mb_ok hm) (by decide) ?_
  refine sr_icmp_ge (pc := 49) (off := 23) (tg := 72) (by decide +kernel) (by decide) (fun hq => absurd hq (by decide)) (fun _ => ?_)
  refine sr_aloadn (pc := 52) (n := 0) (by decide +kernel) rfl ?_
  refine sr_chk _ (fun hm => ?_)
  have hm2 := (Bool.and_eq_true _ _).mp hm
  refine sr_get (pc := 53) fg_3_11 (by decide +kernel) (sr_mb_ok hm2.1) (of_decide_eq_true hm2.2) ?_
  refine sr_iloadn (pc := 56) (n := 1) (by decide +kernel) rfl ?_
  refine sr_new2 (pc := 57) (i := (25 * i0 + 3)) (mc := 125) (ms := 643) fn_3_9 (by decide +kernel) (fun h19 => ?_)
  refine sr_dup (pc := 60) (by decide +kernel) rfl ?_
  refine sr_iloadn (pc := 61) (n := 1) (by decide +kernel) rfl ?_
  refine sr_callI (pc := 62) (As := [sr_i 3]) (mc1 := 5) (ms1 := 23) (mc2 := 120) (ms2 := 620) (fx := sr_fk h19 5 (FC2_init (25 * i0 + 3) 3 h19)) fm_3_17 (by decide +kernel) rm_3_init_2_init rfl rfl rfl (sr_fk_ok h19 5 (FC2_init (25 * i0 + 3) 3 h19)) (sr_fk_T (CC2_init l (25 * i0 + 3) 3 h19)) (sr_kV (fun h20 => ?_))
  refine sr_chk _ (fun hm => ?_)
  refine sr_aast (pc := 65) (t2 := (h20.1, (13, i0, (3 : Int32).toNatClampNeg, sr_r 2 (25 * i0 + 3)) :: h20.2)) (n := 24) (C9 := RX2) (T := TX2) (nn := 8) rfl (Or.inl ⟨rfl, rfl⟩) rfl rfl (by decide +kernel) (sr_mb_ok ((Bool.and_eq_true _ _).mp hm).1) (sr_mb_ok ((Bool.and_eq_true _ _).mp hm).2) (sr_e2_put _ _ _ _ _) (fun _ => ?_)
  refine sr_gh _ (fun h21 => ?_)
  refine sr_iinc (pc := 66) (i := 1) (n := 1) (w := 4) (by decide +kernel) rfl (by decide) (by decide) rfl rfl ?_
  refine sr_goto (pc := 69) (off := (-26)) (tg := 43) (by decide +kernel) (by decide) ?_
  refine sr_iloadn (pc := 43) (n := 1) (by decide +kernel) rfl ?_
  refine sr_aloadn (pc := 44) (n := 0) (by decide +kernel) rfl ?_
  refine sr_chk _ (fun hm => ?_)
  have hm2 := (Bool.and_eq_true _ _).mp hm
  refine sr_get (pc := 45) fg_3_11 (by decide +kernel) (sr_mb_ok hm2.1) (of_decide_eq_true hm2.2) ?_
  refine sr_chk _ (fun hm => ?_)
  refine sr_alen (pc := 48) (ty := 2) (n := 24) (v := 24) rfl (by decide) (by decide +kernel) (sr_mb_ok hm) (by decide) ?_
  refine sr_icmp_ge (pc := 49) (off := 23) (tg := 72) (by decide +kernel) (by decide) (fun hq => absurd hq (by decide)) (fun _ => ?_)
  refine sr_aloadn (pc := 52) (n := 0) (by decide +kernel) rfl ?_
  refine sr_chk _ (fun hm => ?_)
  have hm2 := (Bool.and_eq_true _ _).mp hm
  refine sr_get (pc := 53) fg_3_11 (by decide +kernel) (sr_mb_ok hm2.1) (of_decide_eq_true hm2.2) ?_
  refine sr_iloadn (pc := 56) (n := 1) (by decide +kernel) rfl ?_
  refine sr_new2 (pc := 57) (i := (25 * i0 + 4)) (mc := 119) (ms := 612) fn_3_9 (by decide +kernel) (fun h22 => ?_)
  refine sr_dup (pc := 60) (by decide +kernel) rfl ?_
  refine sr_iloadn (pc := 61) (n := 1) (by decide +kernel) rfl ?_
  refine sr_callI (pc := 62) (As := [sr_i 4]) (mc1 := 5) (ms1 := 23) (mc2 := 114) (ms2 := 589) (fx := sr_fk h22 5 (FC2_init (25 * i0 + 4) 4 h22)) fm_3_17 (by decide +kernel) rm_3_init_2_init rfl rfl rfl (sr_fk_ok h22 5 (FC2_init (25 * i0 + 4) 4 h22)) (sr_fk_T (CC2_init l (25 * i0 + 4) 4 h22)) (sr_kV (fun h23 => ?_))
  refine sr_chk _ (fun hm => ?_)
  refine sr_aast (pc := 65) (t2 := (h23.1, (13, i0, (4 : Int32).toNatClampNeg, sr_r 2 (25 * i0 + 4)) :: h23.2)) (n := 24) (C9 := RX2) (T := TX2) (nn := 8) rfl (Or.inl ⟨rfl, rfl⟩) rfl rfl (by decide +kernel) (sr_mb_ok ((Bool.and_eq_true _ _).mp hm).1) (sr_mb_ok ((Bool.and_eq_true _ _).mp hm).2) (sr_e2_put _ _ _ _ _) (fun _ => ?_)
  refine sr_gh _ (fun h24 => ?_)
  refine sr_iinc (pc := 66) (i := 1) (n := 1) (w := 5) (by decide +kernel) rfl (by decide) (by decide) rfl rfl ?_
  refine sr_goto (pc := 69) (off := (-26)) (tg := 43) (by decide +kernel) (by decide) ?_
  refine sr_iloadn (pc := 43) (n := 1) (by decide +kernel) rfl ?_
  refine sr_aloadn (pc := 44) (n := 0) (by decide +kernel) rfl ?_
  refine sr_chk _ (fun hm => ?_)
  have hm2 := (Bool.and_eq_true _ _).mp hm
  refine sr_get (pc := 45) fg_3_11 (by decide +kernel) (sr_mb_ok hm2.1) (of_decide_eq_true hm2.2) ?_
  refine sr_chk _ (fun hm => ?_)
  refine sr_alen (pc := 48) (ty := 2) (n := 24) (v := 24) rfl (by decide) (by decide +kernel) (sr_mb_ok hm) (by decide) ?_
  refine sr_icmp_ge (pc := 49) (off := 23) (tg := 72) (by decide +kernel) (by decide) (fun hq => absurd hq (by decide)) (fun _ => ?_)
  refine sr_aloadn (pc := 52) (n := 0) (by decide +kernel) rfl ?_
  refine sr_chk _ (fun hm => ?_)
  have hm2 := (Bool.and_eq_true _ _).mp hm
  refine sr_get (pc := 53) fg_3_11 (by decide +kernel) (sr_mb_ok hm2.1) (of_decide_eq_true hm2.2) ?_
  refine sr_iloadn (pc := 56) (n := 1) (by decide +kernel) rfl ?_
  refine sr_new2 (pc := 57) (i := (25 * i0 + 5)) (mc := 113) (ms := 581) fn_3_9 (by decide +kernel) (fun h25 => ?_)
  refine sr_dup (pc := 60) (by decide +kernel) rfl ?_
  refine sr_iloadn (pc := 61) (n := 1) (by decide +kernel) rfl ?_
  refine sr_callI (pc := 62) (As := [sr_i 5]) (mc1 := 5) (ms1 := 23) (mc2 := 108) (ms2 := 558) (fx := sr_fk h25 5 (FC2_init (25 * i0 + 5) 5 h25)) fm_3_17 (by decide +kernel) rm_3_init_2_init rfl rfl rfl (sr_fk_ok h25 5 (FC2_init (25 * i0 + 5) 5 h25)) (sr_fk_T (CC2_init l (25 * i0 + 5) 5 h25)) (sr_kV (fun h26 => ?_))
  refine sr_chk _ (fun hm => ?_)
  refine sr_aast (pc := 65) (t2 := (h26.1, (13, i0, (5 : Int32).toNatClampNeg, sr_r 2 (25 * i0 + 5)) :: h26.2)) (n := 24) (C9 := RX2) (T := TX2) (nn := 8) rfl (Or.inl ⟨rfl, rfl⟩) rfl rfl (by decide +kernel) (sr_mb_ok ((Bool.and_eq_true _ _).mp hm).1) (sr_mb_ok ((Bool.and_eq_true _ _).mp hm).2) (sr_e2_put _ _ _ _ _) (fun _ => ?_)
  refine sr_gh _ (fun h27 => ?_)
  refine sr_iinc (pc := 66) (i := 1) (n := 1) (w := 6) (by decide +kernel) rfl (by decide) (by decide) rfl rfl ?_
  refine sr_goto (pc := 69) (off := (-26)) (tg := 43) (by decide +kernel) (by decide) ?_
  refine sr_iloadn (pc := 43) (n := 1) (by decide +kernel) rfl ?_
  refine sr_aloadn (pc := 44) (n := 0) (by decide +kernel) rfl ?_
  refine sr_chk _ (fun hm => ?_)
  have hm2 := (Bool.and_eq_true _ _).mp hm
  refine sr_get (pc := 45) fg_3_11 (by decide +kernel) (sr_mb_ok hm2.1) (of_decide_eq_true hm2.2) ?_
  refine sr_chk _ (fun hm => ?_)
  refine sr_alen (pc := 48) (ty := 2) (n := 24) (v := 24) rfl (by decide) (by decide +kernel) (sr_mb_ok hm) (by decide) ?_
  refine sr_icmp_ge (pc := 49) (off := 23) (tg := 72) (by decide +kernel) (by decide) (fun hq => absurd hq (by decide)) (fun _ => ?_)
  refine sr_aloadn (pc := 52) (n := 0) (by decide +kernel) rfl ?_
  refine sr_chk _ (fun hm => ?_)
  have hm2 := (Bool.and_eq_true _ _).mp hm
  refine sr_get (pc := 53) fg_3_11 (by decide +kernel) (sr_mb_ok hm2.1) (of_decide_eq_true hm2.2) ?_
  refine sr_iloadn (pc := 56) (n := 1) (by decide +kernel) rfl ?_
  refine sr_new2 (pc := 57) (i := (25 * i0 + 6)) (mc := 107) (ms := 550) fn_3_9 (by decide +kernel) (fun h28 => ?_)
  refine sr_dup (pc := 60) (by decide +kernel) rfl ?_
  refine sr_iloadn (pc := 61) (n := 1) (by decide +kernel) rfl ?_
  refine sr_callI (pc := 62) (As := [sr_i 6]) (mc1 := 5) (ms1 := 23) (mc2 := 102) (ms2 := 527) (fx := sr_fk h28 5 (FC2_init (25 * i0 + 6) 6 h28)) fm_3_17 (by decide +kernel) rm_3_init_2_init rfl rfl rfl (sr_fk_ok h28 5 (FC2_init (25 * i0 + 6) 6 h28)) (sr_fk_T (CC2_init l (25 * i0 + 6) 6 h28)) (sr_kV (fun h29 => ?_))
  refine sr_chk _ (fun hm => ?_)
  refine sr_aast (pc := 65) (t2 := (h29.1, (13, i0, (6 : Int32).toNatClampNeg, sr_r 2 (25 * i0 + 6)) :: h29.2)) (n := 24) (C9 := RX2) (T := TX2) (nn := 8) rfl (Or.inl ⟨rfl, rfl⟩) rfl rfl (by decide +kernel) (sr_mb_ok ((Bool.and_eq_true _ _).mp hm).1) (sr_mb_ok ((Bool.and_eq_true _ _).mp hm).2) (sr_e2_put _ _ _ _ _) (fun _ => ?_)
  refine sr_gh _ (fun h30 => ?_)
  refine sr_iinc (pc := 66) (i := 1) (n := 1) (w := 7) (by decide +kernel) rfl (by decide) (by decide) rfl rfl ?_
  refine sr_goto (pc := 69) (off := (-26)) (tg := 43) (by decide +kernel) (by decide) ?_
  refine sr_iloadn (pc := 43) (n := 1) (by decide +kernel) rfl ?_
  refine sr_aloadn (pc := 44) (n := 0) (by decide +kernel) rfl ?_
  refine sr_chk _ (fun hm => ?_)
  have hm2 := (Bool.and_eq_true _ _).mp hm
  refine sr_get (pc := 45) fg_3_11 (by decide +kernel) (sr_mb_ok hm2.1) (of_decide_eq_true hm2.2) ?_
  refine sr_chk _ (fun hm => ?_)
  refine sr_alen (pc := 48) (ty := 2) (n := 24) (v := 24) rfl (by decide) (by decide +kernel) (sr_mb_ok hm) (by decide) ?_
  refine sr_icmp_ge (pc := 49) (off := 23) (tg := 72) (by decide +kernel) (by decide) (fun hq => absurd hq (by decide)) (fun _ => ?_)
  refine sr_aloadn (pc := 52) (n := 0) (by decide +kernel) rfl ?_
  refine sr_chk _ (fun hm => ?_)
  have hm2 := (Bool.and_eq_true _ _).mp hm
  refine sr_get (pc := 53) fg_3_11 (by decide +kernel) (sr_mb_ok hm2.1) (of_decide_eq_true hm2.2) ?_
  refine sr_iloadn (pc := 56) (n := 1) (by decide +kernel) rfl ?_
  refine sr_new2 (pc := 57) (i := (25 * i0 + 7)) (mc := 101) (ms := 519) fn_3_9 (by decide +kernel) (fun h31 => ?_)
  refine sr_dup (pc := 60) (by decide +kernel) rfl ?_
  refine sr_iloadn (pc := 61) (n := 1) (by decide +kernel) rfl ?_
  refine sr_callI (pc := 62) (As := [sr_i 7]) (mc1 := 5) (ms1 := 23) (mc2 := 96) (ms2 := 496) (fx := sr_fk h31 5 (FC2_init (25 * i0 + 7) 7 h31)) fm_3_17 (by decide +kernel) rm_3_init_2_init rfl rfl rfl (sr_fk_ok h31 5 (FC2_init (25 * i0 + 7) 7 h31)) (sr_fk_T (CC2_init l (25 * i0 + 7) 7 h31)) (sr_kV (fun h32 => ?_))
  refine sr_chk _ (fun hm => ?_)
  refine sr_aast (pc := 65) (t2 := (h32.1, (13, i0, (7 : Int32).toNatClampNeg, sr_r 2 (25 * i0 + 7)) :: h32.2)) (n := 24) (C9 := RX2) (T := TX2) (nn := 8) rfl (Or.inl ⟨rfl, rfl⟩) rfl rfl (by decide +kernel) (sr_mb_ok ((Bool.and_eq_true _ _).mp hm).1) (sr_mb_ok ((Bool.and_eq_true _ _).mp hm).2) (sr_e2_put _ _ _ _ _) (fun _ => ?_)
  refine sr_gh _ (fun h33 => ?_)
  refine sr_iinc (pc := 66) (i := 1) (n := 1) (w := 8) (by decide +kernel) rfl (by decide) (by decide) rfl rfl ?_
  refine sr_goto (pc := 69) (off := (-26)) (tg := 43) (by decide +kernel) (by decide) ?_
  refine sr_iloadn (pc := 43) (n := 1) (by decide +kernel) rfl ?_
  refine sr_aloadn (pc := 44) (n := 0) (by decide +kernel) rfl ?_
  refine sr_chk _ (fun hm => ?_)
  have hm2 := (Bool.and_eq_true _ _).mp hm
  refine sr_get (pc := 45) fg_3_11 (by decide +kernel) (sr_mb_ok hm2.1) (of_decide_eq_true hm2.2) ?_
  refine sr_chk _ (fun hm => ?_)
  refine sr_alen (pc := 48) (ty := 2) (n := 24) (v := 24) rfl (by decide) (by decide +kernel) (sr_mb_ok hm) (by decide) ?_
  refine sr_icmp_ge (pc := 49) (off := 23) (tg := 72) (by decide +kernel) (by decide) (fun hq => absurd hq (by decide)) (fun _ => ?_)
  refine sr_aloadn (pc := 52) (n := 0) (by decide +kernel) rfl ?_
  refine sr_chk _ (fun hm => ?_)
  have hm2 := (Bool.and_eq_true _ _).mp hm
  refine sr_get (pc := 53) fg_3_11 (by decide +kernel) (sr_mb_ok hm2.1) (of_decide_eq_true hm2.2) ?_
  refine sr_iloadn (pc := 56) (n := 1) (by decide +kernel) rfl ?_
  refine sr_new2 (pc := 57) (i := (25 * i0 + 8)) (mc := 95) (ms := 488) fn_3_9 (by decide +kernel) (fun h34 => ?_)
  refine sr_dup (pc := 60) (by decide +kernel) rfl ?_
  refine sr_iloadn (pc := 61) (n := 1) (by decide +kernel) rfl ?_
  refine sr_callI (pc := 62) (As := [sr_i 8]) (mc1 := 5) (ms1 := 23) (mc2 := 90) (ms2 := 465) (fx := sr_fk h34 5 (FC2_init (25 * i0 + 8) 8 h34)) fm_3_17 (by decide +kernel) rm_3_init_2_init rfl rfl rfl (sr_fk_ok h34 5 (FC2_init (25 * i0 + 8) 8 h34)) (sr_fk_T (CC2_init l (25 * i0 + 8) 8 h34)) (sr_kV (fun h35 => ?_))
  refine sr_chk _ (fun hm => ?_)
  refine sr_aast (pc := 65) (t2 := (h35.1, (13, i0, (8 : Int32).toNatClampNeg, sr_r 2 (25 * i0 + 8)) :: h35.2)) (n := 24) (C9 := RX2) (T := TX2) (nn := 8) rfl (Or.inl ⟨rfl, rfl⟩) rfl rfl (by decide +kernel) (sr_mb_ok ((Bool.and_eq_true _ _).mp hm).1) (sr_mb_ok ((Bool.and_eq_true _ _).mp hm).2) (sr_e2_put _ _ _ _ _) (fun _ => ?_)
  refine sr_gh _ (fun h36 => ?_)
  refine sr_iinc (pc := 66) (i := 1) (n := 1) (w := 9) (by decide +kernel) rfl (by decide) (by decide) rfl rfl ?_
  refine sr_goto (pc := 69) (off := (-26)) (tg := 43) (by decide +kernel) (by decide) ?_
  refine sr_iloadn (pc := 43) (n := 1) (by decide +kernel) rfl ?_
  refine sr_aloadn (pc := 44) (n := 0) (by decide +kernel) rfl ?_
  refine sr_chk _ (fun hm => ?_)
  have hm2 := (Bool.and_eq_true _ _).mp hm
  refine sr_get (pc := 45) fg_3_11 (by decide +kernel) (sr_mb_ok hm2.1) (of_decide_eq_true hm2.2) ?_
  refine sr_chk _ (fun hm => ?_)
  refine sr_alen (pc := 48) (ty := 2) (n := 24) (v := 24) rfl (by decide) (by decide +kernel) (sr_mb_ok hm) (by decide) ?_
  refine sr_icmp_ge (pc := 49) (off := 23) (tg := 72) (by decide +kernel) (by decide) (fun hq => absurd hq (by decide)) (fun _ => ?_)
  refine sr_aloadn (pc := 52) (n := 0) (by decide +kernel) rfl ?_
  refine sr_chk _ (fun hm => ?_)
  have hm2 := (Bool.and_eq_true _ _).mp hm
  refine sr_get (pc := 53) fg_3_11 (by decide +kernel) (sr_mb_ok hm2.1) (of_decide_eq_true hm2.2) ?_
  refine sr_iloadn (pc := 56) (n := 1) (by decide +kernel) rfl ?_
  refine sr_new2 (pc := 57) (i := (25 * i0 + 9)) (mc := 89) (ms := 457) fn_3_9 (by decide +kernel) (fun h37 => ?_)
  refine sr_dup (pc := 60) (by decide +kernel) rfl ?_
  refine sr_iloadn (pc := 61) (n := 1) (by decide +kernel) rfl ?_
  refine sr_callI (pc := 62) (As := [sr_i 9]) (mc1 := 5) (ms1 := 23) (mc2 := 84) (ms2 := 434) (fx := sr_fk h37 5 (FC2_init (25 * i0 + 9) 9 h37)) fm_3_17 (by decide +kernel) rm_3_init_2_init rfl rfl rfl (sr_fk_ok h37 5 (FC2_init (25 * i0 + 9) 9 h37)) (sr_fk_T (CC2_init l (25 * i0 + 9) 9 h37)) (sr_kV (fun h38 => ?_))
  refine sr_chk _ (fun hm => ?_)
  refine sr_aast (pc := 65) (t2 := (h38.1, (13, i0, (9 : Int32).toNatClampNeg, sr_r 2 (25 * i0 + 9)) :: h38.2)) (n := 24) (C9 := RX2) (T := TX2) (nn := 8) rfl (Or.inl ⟨rfl, rfl⟩) rfl rfl (by decide +kernel) (sr_mb_ok ((Bool.and_eq_true _ _).mp hm).1) (sr_mb_ok ((Bool.and_eq_true _ _).mp hm).2) (sr_e2_put _ _ _ _ _) (fun _ => ?_)
  refine sr_gh _ (fun h39 => ?_)
  refine sr_iinc (pc := 66) (i := 1) (n := 1) (w := 10) (by decide +kernel) rfl (by decide) (by decide) rfl rfl ?_
  refine sr_goto (pc := 69) (off := (-26)) (tg := 43) (by decide +kernel) (by decide) ?_
  refine sr_iloadn (pc := 43) (n := 1) (by decide +kernel) rfl ?_
  refine sr_aloadn (pc := 44) (n := 0) (by decide +kernel) rfl ?_
  refine sr_chk _ (fun hm => ?_)
  have hm2 := (Bool.and_eq_true _ _).mp hm
  refine sr_get (pc := 45) fg_3_11 (by decide +kernel) (sr_mb_ok hm2.1) (of_decide_eq_true hm2.2) ?_
  refine sr_chk _ (fun hm => ?_)
  refine sr_alen (pc := 48) (ty := 2) (n := 24) (v := 24) rfl (by decide) (by decide +kernel) (sr_mb_ok hm) (by decide) ?_
  refine sr_icmp_ge (pc := 49) (off := 23) (tg := 72) (by decide +kernel) (by decide) (fun hq => absurd hq (by decide)) (fun _ => ?_)
  refine sr_aloadn (pc := 52) (n := 0) (by decide +kernel) rfl ?_
  refine sr_chk _ (fun hm => ?_)
  have hm2 := (Bool.and_eq_true _ _).mp hm
  refine sr_get (pc := 53) fg_3_11 (by decide +kernel) (sr_mb_ok hm2.1) (of_decide_eq_true hm2.2) ?_
  refine sr_iloadn (pc := 56) (n := 1) (by decide +kernel) rfl ?_
  refine sr_new2 (pc := 57) (i := (25 * i0 + 10)) (mc := 83) (ms := 426) fn_3_9 (by decide +kernel) (fun h40 => ?_)
  refine sr_dup (pc := 60) (by decide +kernel) rfl ?_
  refine sr_iloadn (pc := 61) (n := 1) (by decide +kernel) rfl ?_
  refine sr_callI (pc := 62) (As := [sr_i 10]) (mc1 := 5) (ms1 := 23) (mc2 := 78) (ms2 := 403) (fx := sr_fk h40 5 (FC2_init (25 * i0 + 10) 10 h40)) fm_3_17 (by decide +kernel) rm_3_init_2_init rfl rfl rfl (sr_fk_ok h40 5 (FC2_init (25 * i0 + 10) 10 h40)) (sr_fk_T (CC2_init l (25 * i0 + 10) 10 h40)) (sr_kV (fun h41 => ?_))
  refine sr_chk _ (fun hm => ?_)
  refine sr_aast (pc := 65) (t2 := (h41.1, (13, i0, (10 : Int32).toNatClampNeg, sr_r 2 (25 * i0 + 10)) :: h41.2)) (n := 24) (C9 := RX2) (T := TX2) (nn := 8) rfl (Or.inl ⟨rfl, rfl⟩) rfl rfl (by decide +kernel) (sr_mb_ok ((Bool.and_eq_true _ _).mp hm).1) (sr_mb_ok ((Bool.and_eq_true _ _).mp hm).2) (sr_e2_put _ _ _ _ _) (fun _ => ?_)
  refine sr_gh _ (fun h42 => ?_)
  refine sr_iinc (pc := 66) (i := 1) (n := 1) (w := 11) (by decide +kernel) rfl (by decide) (by decide) rfl rfl ?_
  refine sr_goto (pc := 69) (off := (-26)) (tg := 43) (by decide +kernel) (by decide) ?_
  refine sr_iloadn (pc := 43) (n := 1) (by decide +kernel) rfl ?_
  refine sr_aloadn (pc := 44) (n := 0) (by decide +kernel) rfl ?_
  refine sr_chk _ (fun hm => ?_)
  have hm2 := (Bool.and_eq_true _ _).mp hm
  refine sr_get (pc := 45) fg_3_11 (by decide +kernel) (sr_mb_ok hm2.1) (of_decide_eq_true hm2.2) ?_
  refine sr_chk _ (fun hm => ?_)
  refine sr_alen (pc := 48) (ty := 2) (n := 24) (v := 24) rfl (by decide) (by decide +kernel) (sr_mb_ok hm) (by decide) ?_
  refine sr_icmp_ge (pc := 49) (off := 23) (tg := 72) (by decide +kernel) (by decide) (fun hq => absurd hq (by decide)) (fun _ => ?_)
  refine sr_aloadn (pc := 52) (n := 0) (by decide +kernel) rfl ?_
  refine sr_chk _ (fun hm => ?_)
  have hm2 := (Bool.and_eq_true _ _).mp hm
  refine sr_get (pc := 53) fg_3_11 (by decide +kernel) (sr_mb_ok hm2.1) (of_decide_eq_true hm2.2) ?_
  refine sr_iloadn (pc := 56) (n := 1) (by decide +kernel) rfl ?_
  refine sr_new2 (pc := 57) (i := (25 * i0 + 11)) (mc := 77) (ms := 395) fn_3_9 (by decide +kernel) (fun h43 => ?_)
  refine sr_dup (pc := 60) (by decide +kernel) rfl ?_
  refine sr_iloadn (pc := 61) (n := 1) (by decide +kernel) rfl ?_
  refine sr_callI (pc := 62) (As := [sr_i 11]) (mc1 := 5) (ms1 := 23) (mc2 := 72) (ms2 := 372) (fx := sr_fk h43 5 (FC2_init (25 * i0 + 11) 11 h43)) fm_3_17 (by decide +kernel) rm_3_init_2_init rfl rfl rfl (sr_fk_ok h43 5 (FC2_init (25 * i0 + 11) 11 h43)) (sr_fk_T (CC2_init l (25 * i0 + 11) 11 h43)) (sr_kV (fun h44 => ?_))
  refine sr_chk _ (fun hm => ?_)
  refine sr_aast (pc := 65) (t2 := (h44.1, (13, i0, (11 : Int32).toNatClampNeg, sr_r 2 (25 * i0 + 11)) :: h44.2)) (n := 24) (C9 := RX2) (T := TX2) (nn := 8) rfl (Or.inl ⟨rfl, rfl⟩) rfl rfl (by decide +kernel) (sr_mb_ok ((Bool.and_eq_true _ _).mp hm).1) (sr_mb_ok ((Bool.and_eq_true _ _).mp hm).2) (sr_e2_put _ _ _ _ _) (fun _ => ?_)
  refine sr_gh _ (fun h45 => ?_)
  refine sr_iinc (pc := 66) (i := 1) (n := 1) (w := 12) (by decide +kernel) rfl (by decide) (by decide) rfl rfl ?_
  refine sr_goto (pc := 69) (off := (-26)) (tg := 43) (by decide +kernel) (by decide) ?_
  refine sr_iloadn (pc := 43) (n := 1) (by decide +kernel) rfl ?_
  refine sr_aloadn (pc := 44) (n := 0) (by decide +kernel) rfl ?_
  refine sr_chk _ (fun hm => ?_)
  have hm2 := (Bool.and_eq_true _ _).mp hm
  refine sr_get (pc := 45) fg_3_11 (by decide +kernel) (sr_mb_ok hm2.1) (of_decide_eq_true hm2.2) ?_
  refine sr_chk _ (fun hm => ?_)
  refine sr_alen (pc := 48) (ty := 2) (n := 24) (v := 24) rfl (by decide) (by decide +kernel) (sr_mb_ok hm) (by decide) ?_
  refine sr_icmp_ge (pc := 49) (off := 23) (tg := 72) (by decide +kernel) (by decide) (fun hq => absurd hq (by decide)) (fun _ => ?_)
  refine sr_aloadn (pc := 52) (n := 0) (by decide +kernel) rfl ?_
  refine sr_chk _ (fun hm => ?_)
  have hm2 := (Bool.and_eq_true _ _).mp hm
  refine sr_get (pc := 53) fg_3_11 (by decide +kernel) (sr_mb_ok hm2.1) (of_decide_eq_true hm2.2) ?_
  refine sr_iloadn (pc := 56) (n := 1) (by decide +kernel) rfl ?_
  refine sr_new2 (pc := 57) (i := (25 * i0 + 12)) (mc := 71) (ms := 364) fn_3_9 (by decide +kernel) (fun h46 => ?_)
  refine sr_dup (pc := 60) (by decide +kernel) rfl ?_
  refine sr_iloadn (pc := 61) (n := 1) (by decide +kernel) rfl ?_
  refine sr_callI (pc := 62) (As := [sr_i 12]) (mc1 := 5) (ms1 := 23) (mc2 := 66) (ms2 := 341) (fx := sr_fk h46 5 (FC2_init (25 * i0 + 12) 12 h46)) fm_3_17 (by decide +kernel) rm_3_init_2_init rfl rfl rfl (sr_fk_ok h46 5 (FC2_init (25 * i0 + 12) 12 h46)) (sr_fk_T (CC2_init l (25 * i0 + 12) 12 h46)) (sr_kV (fun h47 => ?_))
  refine sr_chk _ (fun hm => ?_)
  refine sr_aast (pc := 65) (t2 := (h47.1, (13, i0, (12 : Int32).toNatClampNeg, sr_r 2 (25 * i0 + 12)) :: h47.2)) (n := 24) (C9 := RX2) (T := TX2) (nn := 8) rfl (Or.inl ⟨rfl, rfl⟩) rfl rfl (by decide +kernel) (sr_mb_ok ((Bool.and_eq_true _ _).mp hm).1) (sr_mb_ok ((Bool.and_eq_true _ _).mp hm).2) (sr_e2_put _ _ _ _ _) (fun _ => ?_)
  refine sr_gh _ (fun h48 => ?_)
  refine sr_iinc (pc := 66) (i := 1) (n := 1) (w := 13) (by decide +kernel) rfl (by decide) (by decide) rfl rfl ?_
  refine sr_goto (pc := 69) (off := (-26)) (tg := 43) (by decide +kernel) (by decide) ?_
  refine sr_iloadn (pc := 43) (n := 1) (by decide +kernel) rfl ?_
  refine sr_aloadn (pc := 44) (n := 0) (by decide +kernel) rfl ?_
  refine sr_chk _ (fun hm => ?_)
  have hm2 := (Bool.and_eq_true _ _).mp hm
  refine sr_get (pc := 45) fg_3_11 (by decide +kernel) (sr_mb_ok hm2.1) (of_decide_eq_true hm2.2) ?_
  refine sr_chk _ (fun hm => ?_)
  refine sr_alen (pc := 48) (ty := 2) (n := 24) (v := 24) rfl (by decide) (by decide +kernel) (sr_mb_ok hm) (by decide) ?_
  refine sr_icmp_ge (pc := 49) (off := 23) (tg := 72) (by decide +kernel) (by decide) (fun hq => absurd hq (by decide)) (fun _ => ?_)
  refine sr_aloadn (pc := 52) (n := 0) (by decide +kernel) rfl ?_
  refine sr_chk _ (fun hm => ?_)
  have hm2 := (Bool.and_eq_true _ _).mp hm
  refine sr_get (pc := 53) fg_3_11 (by decide +kernel) (sr_mb_ok hm2.1) (of_decide_eq_true hm2.2) ?_
  refine sr_iloadn (pc := 56) (n := 1) (by decide +kernel) rfl ?_
  refine sr_new2 (pc := 57) (i := (25 * i0 + 13)) (mc := 65) (ms := 333) fn_3_9 (by decide +kernel) (fun h49 => ?_)
  refine sr_dup (pc := 60) (by decide +kernel) rfl ?_
  refine sr_iloadn (pc := 61) (n := 1) (by decide +kernel) rfl ?_
  refine sr_callI (pc := 62) (As := [sr_i 13]) (mc1 := 5) (ms1 := 23) (mc2 := 60) (ms2 := 310) (fx := sr_fk h49 5 (FC2_init (25 * i0 + 13) 13 h49)) fm_3_17 (by decide +kernel) rm_3_init_2_init rfl rfl rfl (sr_fk_ok h49 5 (FC2_init (25 * i0 + 13) 13 h49)) (sr_fk_T (CC2_init l (25 * i0 + 13) 13 h49)) (sr_kV (fun h50 => ?_))
  refine sr_chk _ (fun hm => ?_)
  refine sr_aast (pc := 65) (t2 := (h50.1, (13, i0, (13 : Int32).toNatClampNeg, sr_r 2 (25 * i0 + 13)) :: h50.2)) (n := 24) (C9 := RX2) (T := TX2) (nn := 8) rfl (Or.inl ⟨rfl, rfl⟩) rfl rfl (by decide +kernel) (sr_mb_ok ((Bool.and_eq_true _ _).mp hm).1) (sr_mb_ok ((Bool.and_eq_true _ _).mp hm).2) (sr_e2_put _ _ _ _ _) (fun _ => ?_)
  refine sr_gh _ (fun h51 => ?_)
  refine sr_iinc (pc := 66) (i := 1) (n := 1) (w := 14) (by decide +kernel) rfl (by decide) (by decide) rfl rfl ?_
  refine sr_goto (pc := 69) (off := (-26)) (tg := 43) (by decide +kernel) (by decide) ?_
  refine sr_iloadn (pc := 43) (n := 1) (by decide +kernel) rfl ?_
  refine sr_aloadn (pc := 44) (n := 0) (by decide +kernel) rfl ?_
  refine sr_chk _ (fun hm => ?_)
  have hm2 := (Bool.and_eq_true _ _).mp hm
  refine sr_get (pc := 45) fg_3_11 (by decide +kernel) (sr_mb_ok hm2.1) (of_decide_eq_true hm2.2) ?_
  refine sr_chk _ (fun hm => ?_)
  refine sr_alen (pc := 48) (ty := 2) (n := 24) (v := 24) rfl (by decide) (by decide +kernel) (sr_mb_ok hm) (by decide) ?_
  refine sr_icmp_ge (pc := 49) (off := 23) (tg := 72) (by decide +kernel) (by decide) (fun hq => absurd hq (by decide)) (fun _ => ?_)
  refine sr_aloadn (pc := 52) (n := 0) (by decide +kernel) rfl ?_
  refine sr_chk _ (fun hm => ?_)
  have hm2 := (Bool.and_eq_true _ _).mp hm
  refine sr_get (pc := 53) fg_3_11 (by decide +kernel) (sr_mb_ok hm2.1) (of_decide_eq_true hm2.2) ?_
  refine sr_iloadn (pc := 56) (n := 1) (by decide +kernel) rfl ?_
  refine sr_new2 (pc := 57) (i := (25 * i0 + 14)) (mc := 59) (ms := 302) fn_3_9 (by decide +kernel) (fun h52 => ?_)
  refine sr_dup (pc := 60) (by decide +kernel) rfl ?_
  refine sr_iloadn (pc := 61) (n := 1) (by decide +kernel) rfl ?_
  refine sr_callI (pc := 62) (As := [sr_i 14]) (mc1 := 5) (ms1 := 23) (mc2 := 54) (ms2 := 279) (fx := sr_fk h52 5 (FC2_init (25 * i0 + 14) 14 h52)) fm_3_17 (by decide +kernel) rm_3_init_2_init rfl rfl rfl (sr_fk_ok h52 5 (FC2_init (25 * i0 + 14) 14 h52)) (sr_fk_T (CC2_init l (25 * i0 + 14) 14 h52)) (sr_kV (fun h53 => ?_))
  refine sr_chk _ (fun hm => ?_)
  refine sr_aast (pc := 65) (t2 := (h53.1, (13, i0, (14 : Int32).toNatClampNeg, sr_r 2 (25 * i0 + 14)) :: h53.2)) (n := 24) (C9 := RX2) (T := TX2) (nn := 8) rfl (Or.inl ⟨rfl, rfl⟩) rfl rfl (by decide +kernel) (sr_mb_ok ((Bool.and_eq_true _ _).mp hm).1) (sr_mb_ok ((Bool.and_eq_true _ _).mp hm).2) (sr_e2_put _ _ _ _ _) (fun _ => ?_)
  refine sr_gh _ (fun h54 => ?_)
  refine sr_iinc (pc := 66) (i := 1) (n := 1) (w := 15) (by decide +kernel) rfl (by decide) (by decide) rfl rfl ?_
  refine sr_goto (pc := 69) (off := (-26)) (tg := 43) (by decide +kernel) (by decide) ?_
  refine sr_iloadn (pc := 43) (n := 1) (by decide +kernel) rfl ?_
  refine sr_aloadn (pc := 44) (n := 0) (by decide +kernel) rfl ?_
  refine sr_chk _ (fun hm => ?_)
  have hm2 := (Bool.and_eq_true _ _).mp hm
  refine sr_get (pc := 45) fg_3_11 (by decide +kernel) (sr_mb_ok hm2.1) (of_decide_eq_true hm2.2) ?_
  refine sr_chk _ (fun hm => ?_)
  refine sr_alen (pc := 48) (ty := 2) (n := 24) (v := 24) rfl (by decide) (by decide +kernel) (sr_mb_ok hm) (by decide) ?_
  refine sr_icmp_ge (pc := 49) (off := 23) (tg := 72) (by decide +kernel) (by decide) (fun hq => absurd hq (by decide)) (fun _ => ?_)
  refine sr_aloadn (pc := 52) (n := 0) (by decide +kernel) rfl ?_
  refine sr_chk _ (fun hm => ?_)
  have hm2 := (Bool.and_eq_true _ _).mp hm
  refine sr_get (pc := 53) fg_3_11 (by decide +kernel) (sr_mb_ok hm2.1) (of_decide_eq_true hm2.2) ?_
  refine sr_iloadn (pc := 56) (n := 1) (by decide +kernel) rfl ?_
  refine sr_new2 (pc := 57) (i := (25 * i0 + 15)) (mc := 53) (ms := 271) fn_3_9 (by decide +kernel) (fun h55 => ?_)
  refine sr_dup (pc := 60) (by decide +kernel) rfl ?_
  refine sr_iloadn (pc := 61) (n := 1) (by decide +kernel) rfl ?_
  refine sr_callI (pc := 62) (As := [sr_i 15]) (mc1 := 5) (ms1 := 23) (mc2 := 48) (ms2 := 248) (fx := sr_fk h55 5 (FC2_init (25 * i0 + 15) 15 h55)) fm_3_17 (by decide +kernel) rm_3_init_2_init rfl rfl rfl (sr_fk_ok h55 5 (FC2_init (25 * i0 + 15) 15 h55)) (sr_fk_T (CC2_init l (25 * i0 + 15) 15 h55)) (sr_kV (fun h56 => ?_))
  refine sr_chk _ (fun hm => ?_)
  refine sr_aast (pc := 65) (t2 := (h56.1, (13, i0, (15 : Int32).toNatClampNeg, sr_r 2 (25 * i0 + 15)) :: h56.2)) (n := 24) (C9 := RX2) (T := TX2) (nn := 8) rfl (Or.inl ⟨rfl, rfl⟩) rfl rfl (by decide +kernel) (sr_mb_ok ((Bool.and_eq_true _ _).mp hm).1) (sr_mb_ok ((Bool.and_eq_true _ _).mp hm).2) (sr_e2_put _ _ _ _ _) (fun _ => ?_)
  refine sr_gh _ (fun h57 => ?_)
  refine sr_iinc (pc := 66) (i := 1) (n := 1) (w := 16) (by decide +kernel) rfl (by decide) (by decide) rfl rfl ?_
  refine sr_goto (pc := 69) (off := (-26)) (tg := 43) (by decide +kernel) (by decide) ?_
  refine sr_iloadn (pc := 43) (n := 1) (by decide +kernel) rfl ?_
  refine sr_aloadn (pc := 44) (n := 0) (by decide +kernel) rfl ?_
  refine sr_chk _ (fun hm => ?_)
  have hm2 := (Bool.and_eq_true _ _).mp hm
  refine sr_get (pc := 45) fg_3_11 (by decide +kernel) (sr_mb_ok hm2.1) (of_decide_eq_true hm2.2) ?_
  refine sr_chk _ (fun hm => ?_)
  refine sr_alen (pc := 48) (ty := 2) (n := 24) (v := 24) rfl (by decide) (by decide +kernel) (sr_mb_ok hm) (by decide) ?_
  refine sr_icmp_ge (pc := 49) (off := 23) (tg := 72) (by decide +kernel) (by decide) (fun hq => absurd hq (by decide)) (fun _ => ?_)
  refine sr_aloadn (pc := 52) (n := 0) (by decide +kernel) rfl ?_
  refine sr_chk _ (fun hm => ?_)
  have hm2 := (Bool.and_eq_true _ _).mp hm
  refine sr_get (pc := 53) fg_3_11 (by decide +kernel) (sr_mb_ok hm2.1) (of_decide_eq_true hm2.2) ?_
  refine sr_iloadn (pc := 56) (n := 1) (by decide +kernel) rfl ?_
  refine sr_new2 (pc := 57) (i := (25 * i0 + 16)) (mc := 47) (ms := 240) fn_3_9 (by decide +kernel) (fun h58 => ?_)
  refine sr_dup (pc := 60) (by decide +kernel) rfl ?_
  refine sr_iloadn (pc := 61) (n := 1) (by decide +kernel) rfl ?_
  refine sr_callI (pc := 62) (As := [sr_i 16]) (mc1 := 5) (ms1 := 23) (mc2 := 42) (ms2 := 217) (fx := sr_fk h58 5 (FC2_init (25 * i0 + 16) 16 h58)) fm_3_17 (by decide +kernel) rm_3_init_2_init rfl rfl rfl (sr_fk_ok h58 5 (FC2_init (25 * i0 + 16) 16 h58)) (sr_fk_T (CC2_init l (25 * i0 + 16) 16 h58)) (sr_kV (fun h59 => ?_))
  refine sr_chk _ (fun hm => ?_)
  refine sr_aast (pc := 65) (t2 := (h59.1, (13, i0, (16 : Int32).toNatClampNeg, sr_r 2 (25 * i0 + 16)) :: h59.2)) (n := 24) (C9 := RX2) (T := TX2) (nn := 8) rfl (Or.inl ⟨rfl, rfl⟩) rfl rfl (by decide +kernel) (sr_mb_ok ((Bool.and_eq_true _ _).mp hm).1) (sr_mb_ok ((Bool.and_eq_true _ _).mp hm).2) (sr_e2_put _ _ _ _ _) (fun _ => ?_)
  refine sr_gh _ (fun h60 => ?_)
  refine sr_iinc (pc := 66) (i := 1) (n := 1) (w := 17) (by decide +kernel) rfl (by decide) (by decide) rfl rfl ?_
  refine sr_goto (pc := 69) (off := (-26)) (tg := 43) (by decide +kernel) (by decide) ?_
  refine sr_iloadn (pc := 43) (n := 1) (by decide +kernel) rfl ?_
  refine sr_aloadn (pc := 44) (n := 0) (by decide +kernel) rfl ?_
  refine sr_chk _ (fun hm => ?_)
  have hm2 := (Bool.and_eq_true _ _).mp hm
  refine sr_get (pc := 45) fg_3_11 (by decide +kernel) (sr_mb_ok hm2.1) (of_decide_eq_true hm2.2) ?_
  refine sr_chk _ (fun hm => ?_)
  refine sr_alen (pc := 48) (ty := 2) (n := 24) (v := 24) rfl (by decide) (by decide +kernel) (sr_mb_ok hm) (by decide) ?_
  refine sr_icmp_ge (pc := 49) (off := 23) (tg := 72) (by decide +kernel) (by decide) (fun hq => absurd hq (by decide)) (fun _ => ?_)
  refine sr_aloadn (pc := 52) (n := 0) (by decide +kernel) rfl ?_
  refine sr_chk _ (fun hm => ?_)
  have hm2 := (Bool.and_eq_true _ _).mp hm
  refine sr_get (pc := 53) fg_3_11 (by decide +kernel) (sr_mb_ok hm2.1) (of_decide_eq_true hm2.2) ?_
  refine sr_iloadn (pc := 56) (n := 1) (by decide +kernel) rfl ?_
  refine sr_new2 (pc := 57) (i := (25 * i0 + 17)) (mc := 41) (ms := 209) fn_3_9 (by decide +kernel) (fun h61 => ?_)
  refine sr_dup (pc := 60) (by decide +kernel) rfl ?_
  refine sr_iloadn (pc := 61) (n := 1) (by decide +kernel) rfl ?_
  refine sr_callI (pc := 62) (As := [sr_i 17]) (mc1 := 5) (ms1 := 23) (mc2 := 36) (ms2 := 186) (fx := sr_fk h61 5 (FC2_init (25 * i0 + 17) 17 h61)) fm_3_17 (by decide +kernel) rm_3_init_2_init rfl rfl rfl (sr_fk_ok h61 5 (FC2_init (25 * i0 + 17) 17 h61)) (sr_fk_T (CC2_init l (25 * i0 + 17) 17 h61)) (sr_kV (fun h62 => ?_))
  refine sr_chk _ (fun hm => ?_)
  refine sr_aast (pc := 65) (t2 := (h62.1, (13, i0, (17 : Int32).toNatClampNeg, sr_r 2 (25 * i0 + 17)) :: h62.2)) (n := 24) (C9 := RX2) (T := TX2) (nn := 8) rfl (Or.inl ⟨rfl, rfl⟩) rfl rfl (by decide +kernel) (sr_mb_ok ((Bool.and_eq_true _ _).mp hm).1) (sr_mb_ok ((Bool.and_eq_true _ _).mp hm).2) (sr_e2_put _ _ _ _ _) (fun _ => ?_)
  refine sr_gh _ (fun h63 => ?_)
  refine sr_iinc (pc := 66) (i := 1) (n := 1) (w := 18) (by decide +kernel) rfl (by decide) (by decide) rfl rfl ?_
  refine sr_goto (pc := 69) (off := (-26)) (tg := 43) (by decide +kernel) (by decide) ?_
  refine sr_iloadn (pc := 43) (n := 1) (by decide +kernel) rfl ?_
  refine sr_aloadn (pc := 44) (n := 0) (by decide +kernel) rfl ?_
  refine sr_chk _ (fun hm => ?_)
  have hm2 := (Bool.and_eq_true _ _).mp hm
  refine sr_get (pc := 45) fg_3_11 (by decide +kernel) (sr_mb_ok hm2.1) (of_decide_eq_true hm2.2) ?_
  refine sr_chk _ (fun hm => ?_)
  refine sr_alen (pc := 48) (ty := 2) (n := 24) (v := 24) rfl (by decide) (by decide +kernel) (sr_mb_ok hm) (by decide) ?_
  refine sr_icmp_ge (pc := 49) (off := 23) (tg := 72) (by decide +kernel) (by decide) (fun hq => absurd hq (by decide)) (fun _ => ?_)
  refine sr_aloadn (pc := 52) (n := 0) (by decide +kernel) rfl ?_
  refine sr_chk _ (fun hm => ?_)
  have hm2 := (Bool.and_eq_true _ _).mp hm
  refine sr_get (pc := 53) fg_3_11 (by decide +kernel) (sr_mb_ok hm2.1) (of_decide_eq_true hm2.2) ?_
  refine sr_iloadn (pc := 56) (n := 1) (by decide +kernel) rfl ?_
  refine sr_new2 (pc := 57) (i := (25 * i0 + 18)) (mc := 35) (ms := 178) fn_3_9 (by decide +kernel) (fun h64 => ?_)
  refine sr_dup (pc := 60) (by decide +kernel) rfl ?_
  refine sr_iloadn (pc := 61) (n := 1) (by decide +kernel) rfl ?_
  refine sr_callI (pc := 62) (As := [sr_i 18]) (mc1 := 5) (ms1 := 23) (mc2 := 30) (ms2 := 155) (fx := sr_fk h64 5 (FC2_init (25 * i0 + 18) 18 h64)) fm_3_17 (by decide +kernel) rm_3_init_2_init rfl rfl rfl (sr_fk_ok h64 5 (FC2_init (25 * i0 + 18) 18 h64)) (sr_fk_T (CC2_init l (25 * i0 + 18) 18 h64)) (sr_kV (fun h65 => ?_))
  refine sr_chk _ (fun hm => ?_)
  refine sr_aast (pc := 65) (t2 := (h65.1, (13, i0, (18 : Int32).toNatClampNeg, sr_r 2 (25 * i0 + 18)) :: h65.2)) (n := 24) (C9 := RX2) (T := TX2) (nn := 8) rfl (Or.inl ⟨rfl, rfl⟩) rfl rfl (by decide +kernel) (sr_mb_ok ((Bool.and_eq_true _ _).mp hm).1) (sr_mb_ok ((Bool.and_eq_true _ _).mp hm).2) (sr_e2_put _ _ _ _ _) (fun _ => ?_)
  refine sr_gh _ (fun h66 => ?_)
  refine sr_iinc (pc := 66) (i := 1) (n := 1) (w := 19) (by decide +kernel) rfl (by decide) (by decide) rfl rfl ?_
  refine sr_goto (pc := 69) (off := (-26)) (tg := 43) (by decide +kernel) (by decide) ?_
  refine sr_iloadn (pc := 43) (n := 1) (by decide +kernel) rfl ?_
  refine sr_aloadn (pc := 44) (n := 0) (by decide +kernel) rfl ?_
  refine sr_chk _ (fun hm => ?_)
  have hm2 := (Bool.and_eq_true _ _).mp hm
  refine sr_get (pc := 45) fg_3_11 (by decide +kernel) (sr_mb_ok hm2.1) (of_decide_eq_true hm2.2) ?_
  refine sr_chk _ (fun hm => ?_)
  refine sr_alen (pc := 48) (ty := 2) (n := 24) (v := 24) rfl (by decide) (by decide +kernel) (sr_mb_ok hm) (by decide) ?_
  refine sr_icmp_ge (pc := 49) (off := 23) (tg := 72) (by decide +kernel) (by decide) (fun hq => absurd hq (by decide)) (fun _ => ?_)
  refine sr_aloadn (pc := 52) (n := 0) (by decide +kernel) rfl ?_
  refine sr_chk _ (fun hm => ?_)
  have hm2 := (Bool.and_eq_true _ _).mp hm
  refine sr_get (pc := 53) fg_3_11 (by decide +kernel) (sr_mb_ok hm2.1) (of_decide_eq_true hm2.2) ?_
  refine sr_iloadn (pc := 56) (n := 1) (by decide +kernel) rfl ?_
  refine sr_new2 (pc := 57) (i := (25 * i0 + 19)) (mc := 29) (ms := 147) fn_3_9 (by decide +kernel) (fun h67 => ?_)
  refine sr_dup (pc := 60) (by decide +kernel) rfl ?_
  refine sr_iloadn (pc := 61) (n := 1) (by decide +kernel) rfl ?_
  refine sr_callI (pc := 62) (As := [sr_i 19]) (mc1 := 5) (ms1 := 23) (mc2 := 24) (ms2 := 124) (fx := sr_fk h67 5 (FC2_init (25 * i0 + 19) 19 h67)) fm_3_17 (by decide +kernel) rm_3_init_2_init rfl rfl rfl (sr_fk_ok h67 5 (FC2_init (25 * i0 + 19) 19 h67)) (sr_fk_T (CC2_init l (25 * i0 + 19) 19 h67)) (sr_kV (fun h68 => ?_))
  refine sr_chk _ (fun hm => ?_)
  refine sr_aast (pc := 65) (t2 := (h68.1, (13, i0, (19 : Int32).toNatClampNeg, sr_r 2 (25 * i0 + 19)) :: h68.2)) (n := 24) (C9 := RX2) (T := TX2) (nn := 8) rfl (Or.inl ⟨rfl, rfl⟩) rfl rfl (by decide +kernel) (sr_mb_ok ((Bool.and_eq_true _ _).mp hm).1) (sr_mb_ok ((Bool.and_eq_true _ _).mp hm).2) (sr_e2_put _ _ _ _ _) (fun _ => ?_)
  refine sr_gh _ (fun h69 => ?_)
  refine sr_iinc (pc := 66) (i := 1) (n := 1) (w := 20) (by decide +kernel) rfl (by decide) (by decide) rfl rfl ?_
  refine sr_goto (pc := 69) (off := (-26)) (tg := 43) (by decide +kernel) (by decide) ?_
  refine sr_iloadn (pc := 43) (n := 1) (by decide +kernel) rfl ?_
  refine sr_aloadn (pc := 44) (n := 0) (by decide +kernel) rfl ?_
  refine sr_chk _ (fun hm => ?_)
  have hm2 := (Bool.and_eq_true _ _).mp hm
  refine sr_get (pc := 45) fg_3_11 (by decide +kernel) (sr_mb_ok hm2.1) (of_decide_eq_true hm2.2) ?_
  refine sr_chk _ (fun hm => ?_)
  refine sr_alen (pc := 48) (ty := 2) (n := 24) (v := 24) rfl (by decide) (by decide +kernel) (sr_mb_ok hm) (by decide) ?_
  refine sr_icmp_ge (pc := 49) (off := 23) (tg := 72) (by decide +kernel) (by decide) (fun hq => absurd hq (by decide)) (fun _ => ?_)
  refine sr_aloadn (pc := 52) (n := 0) (by decide +kernel) rfl ?_
  refine sr_chk _ (fun hm => ?_)
  have hm2 := (Bool.and_eq_true _ _).mp hm
  refine sr_get (pc := 53) fg_3_11 (by decide +kernel) (sr_mb_ok hm2.1) (of_decide_eq_true hm2.2) ?_
  refine sr_iloadn (pc := 56) (n := 1) (by decide +kernel) rfl ?_
  refine sr_new2 (pc := 57) (i := (25 * i0 + 20)) (mc := 23) (ms := 116) fn_3_9 (by decide +kernel) (fun h70 => ?_)
  refine sr_dup (pc := 60) (by decide +kernel) rfl ?_
  refine sr_iloadn (pc := 61) (n := 1) (by decide +kernel) rfl ?_
  refine sr_callI (pc := 62) (As := [sr_i 20]) (mc1 := 5) (ms1 := 23) (mc2 := 18) (ms2 := 93) (fx := sr_fk h70 5 (FC2_init (25 * i0 + 20) 20 h70)) fm_3_17 (by decide +kernel) rm_3_init_2_init rfl rfl rfl (sr_fk_ok h70 5 (FC2_init (25 * i0 + 20) 20 h70)) (sr_fk_T (CC2_init l (25 * i0 + 20) 20 h70)) (sr_kV (fun h71 => ?_))
  refine sr_chk _ (fun hm => ?_)
  refine sr_aast (pc := 65) (t2 := (h71.1, (13, i0, (20 : Int32).toNatClampNeg, sr_r 2 (25 * i0 + 20)) :: h71.2)) (n := 24) (C9 := RX2) (T := TX2) (nn := 8) rfl (Or.inl ⟨rfl, rfl⟩) rfl rfl (by decide +kernel) (sr_mb_ok ((Bool.and_eq_true _ _).mp hm).1) (sr_mb_ok ((Bool.and_eq_true _ _).mp hm).2) (sr_e2_put _ _ _ _ _) (fun _ => ?_)
  refine sr_gh _ (fun h72 => ?_)
  refine sr_iinc (pc := 66) (i := 1) (n := 1) (w := 21) (by decide +kernel) rfl (by decide) (by decide) rfl rfl ?_
  refine sr_goto (pc := 69) (off := (-26)) (tg := 43) (by decide +kernel) (by decide) ?_
  refine sr_iloadn (pc := 43) (n := 1) (by decide +kernel) rfl ?_
  refine sr_aloadn (pc := 44) (n := 0) (by decide +kernel) rfl ?_
  refine sr_chk _ (fun hm => ?_)
  have hm2 := (Bool.and_eq_true _ _).mp hm
  refine sr_get (pc := 45) fg_3_11 (by decide +kernel) (sr_mb_ok hm2.1) (of_decide_eq_true hm2.2) ?_
  refine sr_chk _ (fun hm => ?_)
  refine sr_alen (pc := 48) (ty := 2) (n := 24) (v := 24) rfl (by decide) (by decide +kernel) (sr_mb_ok hm) (by decide) ?_
  refine sr_icmp_ge (pc := 49) (off := 23) (tg := 72) (by decide +kernel) (by decide) (fun hq => absurd hq (by decide)) (fun _ => ?_)
  refine sr_aloadn (pc := 52) (n := 0) (by decide +kernel) rfl ?_
  refine sr_chk _ (fun hm => ?_)
  have hm2 := (Bool.and_eq_true _ _).mp hm
  refine sr_get (pc := 53) fg_3_11 (by decide +kernel) (sr_mb_ok hm2.1) (of_decide_eq_true hm2.2) ?_
  refine sr_iloadn (pc := 56) (n := 1) (by decide +kernel) rfl ?_
  refine sr_new2 (pc := 57) (i := (25 * i0 + 21)) (mc := 17) (ms := 85) fn_3_9 (by decide +kernel) (fun h73 => ?_)
  refine sr_dup (pc := 60) (by decide +kernel) rfl ?_
  refine sr_iloadn (pc := 61) (n := 1) (by decide +kernel) rfl ?_
  refine sr_callI (pc := 62) (As := [sr_i 21]) (mc1 := 5) (ms1 := 23) (mc2 := 12) (ms2 := 62) (fx := sr_fk h73 5 (FC2_init (25 * i0 + 21) 21 h73)) fm_3_17 (by decide +kernel) rm_3_init_2_init rfl rfl rfl (sr_fk_ok h73 5 (FC2_init (25 * i0 + 21) 21 h73)) (sr_fk_T (CC2_init l (25 * i0 + 21) 21 h73)) (sr_kV (fun h74 => ?_))
  refine sr_chk _ (fun hm => ?_)
  refine sr_aast (pc := 65) (t2 := (h74.1, (13, i0, (21 : Int32).toNatClampNeg, sr_r 2 (25 * i0 + 21)) :: h74.2)) (n := 24) (C9 := RX2) (T := TX2) (nn := 8) rfl (Or.inl ⟨rfl, rfl⟩) rfl rfl (by decide +kernel) (sr_mb_ok ((Bool.and_eq_true _ _).mp hm).1) (sr_mb_ok ((Bool.and_eq_true _ _).mp hm).2) (sr_e2_put _ _ _ _ _) (fun _ => ?_)
  refine sr_gh _ (fun h75 => ?_)
  refine sr_iinc (pc := 66) (i := 1) (n := 1) (w := 22) (by decide +kernel) rfl (by decide) (by decide) rfl rfl ?_
  refine sr_goto (pc := 69) (off := (-26)) (tg := 43) (by decide +kernel) (by decide) ?_
  refine sr_iloadn (pc := 43) (n := 1) (by decide +kernel) rfl ?_
  refine sr_aloadn (pc := 44) (n := 0) (by decide +kernel) rfl ?_
  refine sr_chk _ (fun hm => ?_)
  have hm2 := (Bool.and_eq_true _ _).mp hm
  refine sr_get (pc := 45) fg_3_11 (by decide +kernel) (sr_mb_ok hm2.1) (of_decide_eq_true hm2.2) ?_
  refine sr_chk _ (fun hm => ?_)
  refine sr_alen (pc := 48) (ty := 2) (n := 24) (v := 24) rfl (by decide) (by decide +kernel) (sr_mb_ok hm) (by decide) ?_
  refine sr_icmp_ge (pc := 49) (off := 23) (tg := 72) (by decide +kernel) (by decide) (fun hq => absurd hq (by decide)) (fun _ => ?_)
  refine sr_aloadn (pc := 52) (n := 0) (by decide +kernel) rfl ?_
  refine sr_chk _ (fun hm => ?_)
  have hm2 := (Bool.and_eq_true _ _).mp hm
  refine sr_get (pc := 53) fg_3_11 (by decide +kernel) (sr_mb_ok hm2.1) (of_decide_eq_true hm2.2) ?_
  refine sr_iloadn (pc := 56) (n := 1) (by decide +kernel) rfl ?_
  refine sr_new2 (pc := 57) (i := (25 * i0 + 22)) (mc := 11) (ms := 54) fn_3_9 (by decide +kernel) (fun h76 => ?_)
  refine sr_dup (pc := 60) (by decide +kernel) rfl ?_
  refine sr_iloadn (pc := 61) (n := 1) (by decide +kernel) rfl ?_
  refine sr_callI (pc := 62) (As := [sr_i 22]) (mc1 := 5) (ms1 := 23) (mc2 := 6) (ms2 := 31) (fx := sr_fk h76 5 (FC2_init (25 * i0 + 22) 22 h76)) fm_3_17 (by decide +kernel) rm_3_init_2_init rfl rfl rfl (sr_fk_ok h76 5 (FC2_init (25 * i0 + 22) 22 h76)) (sr_fk_T (CC2_init l (25 * i0 + 22) 22 h76)) (sr_kV (fun h77 => ?_))
  refine sr_chk _ (fun hm => ?_)
  refine sr_aast (pc := 65) (t2 := (h77.1, (13, i0, (22 : Int32).toNatClampNeg, sr_r 2 (25 * i0 + 22)) :: h77.2)) (n := 24) (C9 := RX2) (T := TX2) (nn := 8) rfl (Or.inl ⟨rfl, rfl⟩) rfl rfl (by decide +kernel) (sr_mb_ok ((Bool.and_eq_true _ _).mp hm).1) (sr_mb_ok ((Bool.and_eq_true _ _).mp hm).2) (sr_e2_put _ _ _ _ _) (fun _ => ?_)
  refine sr_gh _ (fun h78 => ?_)
  refine sr_iinc (pc := 66) (i := 1) (n := 1) (w := 23) (by decide +kernel) rfl (by decide) (by decide) rfl rfl ?_
  refine sr_goto (pc := 69) (off := (-26)) (tg := 43) (by decide +kernel) (by decide) ?_
  refine sr_iloadn (pc := 43) (n := 1) (by decide +kernel) rfl ?_
  refine sr_aloadn (pc := 44) (n := 0) (by decide +kernel) rfl ?_
  refine sr_chk _ (fun hm => ?_)
  have hm2 := (Bool.and_eq_true _ _).mp hm
  refine sr_get (pc := 45) fg_3_11 (by decide +kernel) (sr_mb_ok hm2.1) (of_decide_eq_true hm2.2) ?_
  refine sr_chk _ (fun hm => ?_)
  refine sr_alen (pc := 48) (ty := 2) (n := 24) (v := 24) rfl (by decide) (by decide +kernel) (sr_mb_ok hm) (by decide) ?_
  refine sr_icmp_ge (pc := 49) (off := 23) (tg := 72) (by decide +kernel) (by decide) (fun hq => absurd hq (by decide)) (fun _ => ?_)
  refine sr_aloadn (pc := 52) (n := 0) (by decide +kernel) rfl ?_
  refine sr_chk _ (fun hm => ?_)
  have hm2 := (Bool.and_eq_true _ _).mp hm
  refine sr_get (pc := 53) fg_3_11 (by decide +kernel) (sr_mb_ok hm2.1) (of_decide_eq_true hm2.2) ?_
  refine sr_iloadn (pc := 56) (n := 1) (by decide +kernel) rfl ?_
  refine sr_new2 (pc := 57) (i := (25 * i0 + 23)) (mc := 5) (ms := 23) fn_3_9 (by decide +kernel) (fun h79 => ?_)
  refine sr_dup (pc := 60) (by decide +kernel) rfl ?_
  refine sr_iloadn (pc := 61) (n := 1) (by decide +kernel) rfl ?_
  refine sr_callI (pc := 62) (As := [sr_i 23]) (mc1 := 5) (ms1 := 23) (mc2 := 0) (ms2 := 0) (fx := sr_fk h79 5 (FC2_init (25 * i0 + 23) 23 h79)) fm_3_17 (by decide +kernel) rm_3_init_2_init rfl rfl rfl (sr_fk_ok h79 5 (FC2_init (25 * i0 + 23) 23 h79)) (sr_fk_T (CC2_init l (25 * i0 + 23) 23 h79)) (sr_kV (fun h80 => ?_))
  refine sr_chk _ (fun hm => ?_)
  refine sr_aast (pc := 65) (t2 := (h80.1, (13, i0, (23 : Int32).toNatClampNeg, sr_r 2 (25 * i0 + 23)) :: h80.2)) (n := 24) (C9 := RX2) (T := TX2) (nn := 8) rfl (Or.inl ⟨rfl, rfl⟩) rfl rfl (by decide +kernel) (sr_mb_ok ((Bool.and_eq_true _ _).mp hm).1) (sr_mb_ok ((Bool.and_eq_true _ _).mp hm).2) (sr_e2_put _ _ _ _ _) (fun _ => ?_)
  refine sr_gh _ (fun h81 => ?_)
  refine sr_iinc (pc := 66) (i := 1) (n := 1) (w := 24) (by decide +kernel) rfl (by decide) (by decide) rfl rfl ?_
  refine sr_goto (pc := 69) (off := (-26)) (tg := 43) (by decide +kernel) (by decide) ?_
  refine sr_iloadn (pc := 43) (n := 1) (by decide +kernel) rfl ?_
  refine sr_aloadn (pc := 44) (n := 0) (by decide +kernel) rfl ?_
  refine sr_chk _ (fun hm => ?_)
  have hm2 := (Bool.and_eq_true _ _).mp hm
  refine sr_get (pc := 45) fg_3_11 (by decide +kernel) (sr_mb_ok hm2.1) (of_decide_eq_true hm2.2) ?_
  refine sr_chk _ (fun hm => ?_)
  refine sr_alen (pc := 48) (ty := 2) (n := 24) (v := 24) rfl (by decide) (by decide +kernel) (sr_mb_ok hm) (by decide) ?_
  refine sr_icmp_ge (pc := 49) (off := 23) (tg := 72) (by decide +kernel) (by decide) (fun _ => ?_) (fun hq => absurd (by decide) hq)
  refine sr_aloadn (pc := 72) (n := 0) (by decide +kernel) rfl ?_
  refine sr_iconst (pc := 73) (n := 4) (v := 4) (by decide +kernel) rfl ?_
  refine sr_chk _ (fun hm => ?_)
  refine sr_callV (pc := 74) (As := [sr_i 4]) (mc1 := 0) (ms1 := 0) (mc2 := 0) (ms2 := 0) (fx := sr_fk h81 0 (FC3_setBase i0 4 h81)) fm_3_35 fl_3_35 (by decide +kernel) (sr_mb_ok hm) rm_3_init_3_setBase rfl rfl rfl (sr_fk_ok2 h81 0 (FC3_setBase i0 4 h81)) (sr_fk_T (CC3_setBase l i0 4 h81)) (sr_kV (fun h82 => ?_))
  exact sr_ret (pc := 77) (by decide +kernel) rfl
def FC0_init (i0 : Nat) (t : sr_c) : sr_R2 := (sr_if (sr_mb t 0 i0) (sr_lh (t.1, (0, i0, 0, sr_i (-1)) :: t.2) (fun h1 => (sr_nw h1 20 i0 (fun h2 => (sr_if (sr_mb h2 0 i0) (sr_lh (h2.1, (0, i0, 2, sr_r 20 i0) :: h2.2) (fun h3 => (sr_nw h3 21 i0 (fun h4 => (sr_if (sr_mb h4 0 i0) (sr_lh (h4.1, (0, i0, 3, sr_r 21 i0) :: h4.2) (fun h5 => (some (.inl none, h5)))))))))))))))
theorem CC0_init (l : Launch) (i0 : Nat) (t : sr_c) : sr_T sr_e2 l sr_m0_init [sr_r 0 i0] t (FC0_init i0 t) 2 48 := by
  refine sr_T_of (L0 := [some (sr_r 0 i0)]) rfl (by decide +kernel) (fun _ => rfl) (fun _ => Nat.le_of_ble_eq_true rfl) ?_
  unfold FC0_init
  refine sr_aloadn (pc := 0) (n := 0) (by decide +kernel) rfl ?_
  refine sr_objI (pc := 1) (idx := 3) (by decide +kernel) (sr_tb (n := 206) (by decide +kernel) rfl) oi_1 oi_2 (by decide) (by decide) rfl ?_
  refine sr_aloadn (pc := 4) (n := 0) (by decide +kernel) rfl ?_
  refine sr_iconst (pc := 5) (n := (-1)) (v := (-1)) (by decide +kernel) rfl ?_
  refine sr_chk _ (fun hm => ?_)
  refine sr_put (pc := 6) (t2 := (t.1, (0, i0, 0, sr_i (-1)) :: t.2)) fg_0_9 ft_0_0 (by decide +kernel) (sr_mb_ok hm) ⟨_, rfl⟩ (fun hq => nomatch hq) (sr_e2_put _ _ _ _ _) ?_
  refine sr_gh _ (fun h1 => ?_)
  refine sr_aloadn (pc := 9) (n := 0) (by decide +kernel) rfl ?_
  refine sr_bipush (pc := 10) (n := 24) (v := 24) (by decide +kernel) (by decide) ?_
  refine sr_newa2 (pc := 12) (k := 20) (n := 24) (i := i0) (at' := .int) (mc := 1) (ms := 24) rfl (Or.inl ⟨rfl, rfl⟩) ac_int (by decide +kernel) (fun _ => rfl) (by decide) (by decide) (by decide) (fun h2 => ?_)
  refine sr_chk _ (fun hm => ?_)
  refine sr_put (pc := 14) (t2 := (h2.1, (0, i0, 2, sr_r 20 i0) :: h2.2)) fg_0_15 ft_0_2 (by decide +kernel) (sr_mb_ok hm) ⟨_, _, rfl⟩ (fun _ => ⟨rfl, RX0, TX0, rfl, rfl, sr_tb (n := 212) (by decide +kernel) rfl⟩) (sr_e2_put _ _ _ _ _) ?_
  refine sr_gh _ (fun h3 => ?_)
  refine sr_aloadn (pc := 17) (n := 0) (by decide +kernel) rfl ?_
  refine sr_bipush (pc := 18) (n := 24) (v := 24) (by decide +kernel) (by decide) ?_
  refine sr_newa2 (pc := 20) (k := 21) (n := 24) (i := i0) (at' := .int) (mc := 0) (ms := 0) rfl (Or.inl ⟨rfl, rfl⟩) ac_int (by decide +kernel) (fun _ => rfl) (by decide) (by decide) (by decide) (fun h4 => ?_)
  refine sr_chk _ (fun hm => ?_)
  refine sr_put (pc := 22) (t2 := (h4.1, (0, i0, 3, sr_r 21 i0) :: h4.2)) fg_0_19 ft_0_3 (by decide +kernel) (sr_mb_ok hm) ⟨_, _, rfl⟩ (fun _ => ⟨rfl, RX0, TX0, rfl, rfl, sr_tb (n := 213) (by decide +kernel) rfl⟩) (sr_e2_put _ _ _ _ _) ?_
  refine sr_gh _ (fun h5 => ?_)
  exact sr_ret (pc := 25) (by decide +kernel) rfl
def FC6_init  (t : sr_c) : sr_R2 := (sr_nw t 22 0 (fun h1 => (sr_if (sr_mb h1 6 0) (sr_lh (h1.1, (6, 0, 0, sr_r 22 0) :: h1.2) (fun h2 => (sr_nw h2 0 32 (fun h3 => (sr_bd (sr_nt (sr_fk h3 2 (FC0_init 32 h3))) (sr_dV (fun h4 => (sr_if (sr_mb h4 6 0) (sr_lh (h4.1, (6, 0, 1, sr_r 0 32) :: h4.2) (fun h5 => (sr_if (sr_mb h5 6 0) (sr_lh (h5.1, (6, 0, 4, sr_i 2) :: h5.2) (fun h6 => (sr_if (sr_mb h6 6 0 && decide (sr_lk h6.2 6 0 0 = sr_r 22 0)) (sr_if (sr_mb h6 22 0) (if (32 : Int32) ≤ 0 then none else (sr_if (sr_mb h6 6 0 && decide (sr_lk h6.2 6 0 0 = sr_r 22 0)) (sr_nw h6 0 0 (fun h7 => (sr_bd (sr_nt (sr_fk h7 2 (FC0_init 0 h7))) (sr_dV (fun h8 => (sr_if (sr_mb h8 22 0 && sr_mb h8 0 0) (if (0 : Int32) < 0 ∨ 32 ≤ (0 : Int32).toNatClampNeg then none else sr_lh (h8.1, (22, 0, (0 : Int32).toNatClampNeg, sr_r 0 0) :: h8.2) (fun h9 => (sr_if (sr_mb h9 6 0 && decide (sr_lk h9.2 6 0 0 = sr_r 22 0)) (sr_if (sr_mb h9 22 0) (if (32 : Int32) ≤ 1 then none else (sr_if (sr_mb h9 6 0 && decide (sr_lk h9.2 6 0 0 = sr_r 22 0)) (sr_nw h9 0 1 (fun h10 => (sr_bd (sr_nt (sr_fk h10 2 (FC0_init 1 h10))) (sr_dV (fun h11 => (sr_if (sr_mb h11 22 0 && sr_mb h11 0 1) (if (1 : Int32) < 0 ∨ 32 ≤ (1 : Int32).toNatClampNeg then none else sr_lh (h11.1, (22, 0, (1 : Int32).toNatClampNeg, sr_r 0 1) :: h11.2) (fun h12 => (sr_if (sr_mb h12 6 0 && decide (sr_lk h12.2 6 0 0 = sr_r 22 0)) (sr_if (sr_mb h12 22 0) (if (32 : Int32) ≤ 2 then none else (sr_if (sr_mb h12 6 0 && decide (sr_lk h12.2 6 0 0 = sr_r 22 0)) (sr_nw h12 0 2 (fun h13 => (sr_bd (sr_nt (sr_fk h13 2 (FC0_init 2 h13))) (sr_dV (fun h14 => (sr_if (sr_mb h14 22 0 && sr_mb h14 0 2) (if (2 : Int32) < 0 ∨ 32 ≤ (2 : Int32).toNatClampNeg then none else sr_lh (h14.1, (22, 0, (2 : Int32).toNatClampNeg, sr_r 0 2) :: h14.2) (fun h15 => (sr_if (sr_mb h15 6 0 && decide (sr_lk h15.2 6 0 0 = sr_r 22 0)) (sr_if (sr_mb h15 22 0) (if (32 : Int32) ≤ 3 then none else (sr_if (sr_mb h15 6 0 && decide (sr_lk h15.2 6 0 0 = sr_r 22 0)) (sr_nw h15 0 3 (fun h16 => (sr_bd (sr_nt (sr_fk h16 2 (FC0_init 3 h16))) (sr_dV (fun h17 => (sr_if (sr_mb h17 22 0 && sr_mb h17 0 3) (if (3 : Int32) < 0 ∨ 32 ≤ (3 : Int32).toNatClampNeg then none else sr_lh (h17.1, (22, 0, (3 : Int32).toNatClampNeg, sr_r 0 3) :: h17.2) (fun h18 => (sr_if (sr_mb h18 6 0 && decide (sr_lk h18.2 6 0 0 = sr_r 22 0)) (sr_if (sr_mb h18 22 0) (if (32 : Int32) ≤ 4 then none else (sr_if (sr_mb h18 6 0 && decide (sr_lk h18.2 6 0 0 = sr_r 22 0)) (sr_nw h18 0 4 (fun h19 => (sr_bd (sr_nt (sr_fk h19 2 (FC0_init 4 h19))) (sr_dV (fun h20 => (sr_if (sr_mb h20 22 0 && sr_mb h20 0 4) (if (4 : Int32) < 0 ∨ 32 ≤ (4 : Int32).toNatClampNeg then none else sr_lh (h20.1, (22, 0, (4 : Int32).toNatClampNeg, sr_r 0 4) :: h20.2) (fun h21 => (sr_if (sr_mb h21 6 0 && decide (sr_lk h21.2 6 0 0 = sr_r 22 0)) (sr_if (sr_mb h21 22 0) (if (32 : Int32) ≤ 5 then none else (sr_if (sr_mb h21 6 0 && decide (sr_lk h21.2 6 0 0 = sr_r 22 0)) (sr_nw h21 0 5 (fun h22 => (sr_bd (sr_nt (sr_fk h22 2 (FC0_init 5 h22))) (sr_dV (fun h23 => (sr_if (sr_mb h23 22 0 && sr_mb h23 0 5) (if (5 : Int32) < 0 ∨ 32 ≤ (5 : Int32).toNatClampNeg then none else sr_lh (h23.1, (22, 0, (5 : Int32).toNatClampNeg, sr_r 0 5) :: h23.2) (fun h24 => (sr_if (sr_mb h24 6 0 && decide (sr_lk h24.2 6 0 0 = sr_r 22 0)) (sr_if (sr_mb h24 22 0) (if (32 : Int32) ≤ 6 then none else (sr_if (sr_mb h24 6 0 && decide (sr_lk h24.2 6 0 0 = sr_r 22 0)) (sr_nw h24 0 6 (fun h25 => (sr_bd (sr_nt (sr_fk h25 2 (FC0_init 6 h25))) (sr_dV (fun h26 => (sr_if (sr_mb h26 22 0 && sr_mb h26 0 6) (if (6 : Int32) < 0 ∨ 32 ≤ (6 : Int32).toNatClampNeg then none else sr_lh (h26.1, (22, 0, (6 : Int32).toNatClampNeg, sr_r 0 6) :: h26.2) (fun h27 => (sr_if (sr_mb h27 6 0 && decide (sr_lk h27.2 6 0 0 = sr_r 22 0)) (sr_if (sr_mb h27 22 0) (if (32 : Int32) ≤ 7 then none else (sr_if (sr_mb h27 6 0 && decide (sr_lk h27.2 6 0 0 = sr_r 22 0)) (sr_nw h27 0 7 (fun h28 => (sr_bd (sr_nt (sr_fk h28 2 (FC0_init 7 h28))) (sr_dV (fun h29 => (sr_if (sr_mb h29 22 0 && sr_mb h29 0 7) (if (7 : Int32) < 0 ∨ 32 ≤ (7 : Int32).toNatClampNeg then none else sr_lh (h29.1, (22, 0, (7 : Int32).toNatClampNeg, sr_r 0 7) :: h29.2) (fun h30 => (sr_if (sr_mb h30 6 0 && decide (sr_lk h30.2 6 0 0 = sr_r 22 0)) (sr_if (sr_mb h30 22 0) (if (32 : Int32) ≤ 8 then none else (sr_if (sr_mb h30 6 0 && decide (sr_lk h30.2 6 0 0 = sr_r 22 0)) (sr_nw h30 0 8 (fun h31 => (sr_bd (sr_nt (sr_fk h31 2 (FC0_init 8 h31))) (sr_dV (fun h32 => (sr_if (sr_mb h32 22 0 && sr_mb h32 0 8) (if (8 : Int32) < 0 ∨ 32 ≤ (8 : Int32).toNatClampNeg then none else sr_lh (h32.1, (22, 0, (8 : Int32).toNatClampNeg, sr_r 0 8) :: h32.2) (fun h33 => (sr_if (sr_mb h33 6 0 && decide (sr_lk h33.2 6 0 0 = sr_r 22 0)) (sr_if (sr_mb h33 22 0) (if (32 : Int32) ≤ 9 then none else (sr_if (sr_mb h33 6 0 && decide (sr_lk h33.2 6 0 0 = sr_r 22 0)) (sr_nw h33 0 9 (fun h34 => (sr_bd (sr_nt (sr_fk h34 2 (FC0_init 9 h34))) (sr_dV (fun h35 => (sr_if (sr_mb h35 22 0 && sr_mb h35 0 9) (if (9 : Int32) < 0 ∨ 32 ≤ (9 : Int32).toNatClampNeg then none else sr_lh (h35.1, (22, 0, (9 : Int32).toNatClampNeg, sr_r 0 9) :: h35.2) (fun h36 => (sr_if (sr_mb h36 6 0 && decide (sr_lk h36.2 6 0 0 = sr_r 22 0)) (sr_if (sr_mb h36 22 0) (if (32 : Int32) ≤ 10 then none else (sr_if (sr_mb h36 6 0 && decide (sr_lk h36.2 6 0 0 = sr_r 22 0)) (sr_nw h36 0 10 (fun h37 => (sr_bd (sr_nt (sr_fk h37 2 (FC0_init 10 h37))) (sr_dV (fun h38 => (sr_if (sr_mb h38 22 0 && sr_mb h38 0 10) (if (10 : Int32) < 0 ∨ 32 ≤ (10 : Int32).toNatClampNeg then none else sr_lh (h38.1, (22, 0, (10 : Int32).toNatClampNeg, sr_r 0 10) :: h38.2) (fun h39 => (sr_if (sr_mb h39 6 0 && decide (sr_lk h39.2 6 0 0 = sr_r 22 0)) (sr_if (sr_mb h39 22 0) (if (32 : Int32) ≤ 11 then none else (sr_if (sr_mb h39 6 0 && decide (sr_lk h39.2 6 0 0 = sr_r 22 0)) (sr_nw h39 0 11 (fun h40 => (sr_bd (sr_nt (sr_fk h40 2 (FC0_init 11 h40))) (sr_dV (fun h41 => (sr_if (sr_mb h41 22 0 && sr_mb h41 0 11) (if (11 : Int32) < 0 ∨ 32 ≤ (11 : Int32).toNatClampNeg then none else sr_lh (h41.1, (22, 0, (11 : Int32).toNatClampNeg, sr_r 0 11) :: h41.2) (fun h42 => (sr_if (sr_mb h42 6 0 && decide (sr_lk h42.2 6 0 0 = sr_r 22 0)) (sr_if (sr_mb h42 22 0) (if (32 : Int32) ≤ 12 then none else (sr_if (sr_mb h42 6 0 && decide (sr_lk h42.2 6 0 0 = sr_r 22 0)) (sr_nw h42 0 12 (fun h43 => (sr_bd (sr_nt (sr_fk h43 2 (FC0_init 12 h43))) (sr_dV (fun h44 => (sr_if (sr_mb h44 22 0 && sr_mb h44 0 12) (if (12 : Int32) < 0 ∨ 32 ≤ (12 : Int32).toNatClampNeg then none else sr_lh (h44.1, (22, 0, (12 : Int32).toNatClampNeg, sr_r 0 12) :: h44.2) (fun h45 => (sr_if (sr_mb h45 6 0 && decide (sr_lk h45.2 6 0 0 = sr_r 22 0)) (sr_if (sr_mb h45 22 0) (if (32 : Int32) ≤ 13 then none else (sr_if (sr_mb h45 6 0 && decide (sr_lk h45.2 6 0 0 = sr_r 22 0)) (sr_nw h45 0 13 (fun h46 => (sr_bd (sr_nt (sr_fk h46 2 (FC0_init 13 h46))) (sr_dV (fun h47 => (sr_if (sr_mb h47 22 0 && sr_mb h47 0 13) (if (13 : Int32) < 0 ∨ 32 ≤ (13 : Int32).toNatClampNeg then none else sr_lh (h47.1, (22, 0, (13 : Int32).toNatClampNeg, sr_r 0 13) :: h47.2) (fun h48 => (sr_if (sr_mb h48 6 0 && decide (sr_lk h48.2 6 0 0 = sr_r 22 0)) (sr_if (sr_mb h48 22 0) (if (32 : Int32) ≤ 14 then none else (sr_if (sr_mb h48 6 0 && decide (sr_lk h48.2 6 0 0 = sr_r 22 0)) (sr_nw h48 0 14 (fun h49 => (sr_bd (sr_nt (sr_fk h49 2 (FC0_init 14 h49))) (sr_dV (fun h50 => (sr_if (sr_mb h50 22 0 && sr_mb h50 0 14) (if (14 : Int32) < 0 ∨ 32 ≤ (14 : Int32).toNatClampNeg then none else sr_lh (h50.1, (22, 0, (14 : Int32).toNatClampNeg, sr_r 0 14) :: h50.2) (fun h51 => (sr_if (sr_mb h51 6 0 && decide (sr_lk h51.2 6 0 0 = sr_r 22 0)) (sr_if (sr_mb h51 22 0) (if (32 : Int32) ≤ 15 then none else (sr_if (sr_mb h51 6 0 && decide (sr_lk h51.2 6 0 0 = sr_r 22 0)) (sr_nw h51 0 15 (fun h52 => (sr_bd (sr_nt (sr_fk h52 2 (FC0_init 15 h52))) (sr_dV (fun h53 => (sr_if (sr_mb h53 22 0 && sr_mb h53 0 15) (if (15 : Int32) < 0 ∨ 32 ≤ (15 : Int32).toNatClampNeg then none else sr_lh (h53.1, (22, 0, (15 : Int32).toNatClampNeg, sr_r 0 15) :: h53.2) (fun h54 => (sr_if (sr_mb h54 6 0 && decide (sr_lk h54.2 6 0 0 = sr_r 22 0)) (sr_if (sr_mb h54 22 0) (if (32 : Int32) ≤ 16 then none else (sr_if (sr_mb h54 6 0 && decide (sr_lk h54.2 6 0 0 = sr_r 22 0)) (sr_nw h54 0 16 (fun h55 => (sr_bd (sr_nt (sr_fk h55 2 (FC0_init 16 h55))) (sr_dV (fun h56 => (sr_if (sr_mb h56 22 0 && sr_mb h56 0 16) (if (16 : Int32) < 0 ∨ 32 ≤ (16 : Int32).toNatClampNeg then none else sr_lh (h56.1, (22, 0, (16 : Int32).toNatClampNeg, sr_r 0 16) :: h56.2) (fun h57 => (sr_if (sr_mb h57 6 0 && decide (sr_lk h57.2 6 0 0 = sr_r 22 0)) (sr_if (sr_mb h57 22 0) (if (32 : Int32) ≤ 17 then none else (sr_if (sr_mb h57 6 0 && decide (sr_lk h57.2 6 0 0 = sr_r 22 0)) (sr_nw h57 0 17 (fun h58 => (sr_bd (sr_nt (sr_fk h58 2 (FC0_init 17 h58))) (sr_dV (fun h59 => (sr_if (sr_mb h59 22 0 && sr_mb h59 0 17) (if (17 : Int32) < 0 ∨ 32 ≤ (17 : Int32).toNatClampNeg then none else sr_lh (h59.1, (22, 0, (17 : Int32).toNatClampNeg, sr_r 0 17) :: h59.2) (fun h60 => (sr_if (sr_mb h60 6 0 && decide (sr_lk h60.2 6 0 0 = sr_r 22 0)) (sr_if (sr_mb h60 22 0) (if (32 : Int32) ≤ 18 then none else (sr_if (sr_mb h60 6 0 && decide (sr_lk h60.2 6 0 0 = sr_r 22 0)) (sr_nw h60 0 18 (fun h61 => (sr_bd (sr_nt (sr_fk h61 2 (FC0_init 18 h61))) (sr_dV (fun h62 => (sr_if (sr_mb h62 22 0 && sr_mb h62 0 18) (if (18 : Int32) < 0 ∨ 32 ≤ (18 : Int32).toNatClampNeg then none else sr_lh (h62.1, (22, 0, (18 : Int32).toNatClampNeg, sr_r 0 18) :: h62.2) (fun h63 => (sr_if (sr_mb h63 6 0 && decide (sr_lk h63.2 6 0 0 = sr_r 22 0)) (sr_if (sr_mb h63 22 0) (if (32 : Int32) ≤ 19 then none else (sr_if (sr_mb h63 6 0 && decide (sr_lk h63.2 6 0 0 = sr_r 22 0)) (sr_nw h63 0 19 (fun h64 => (sr_bd (sr_nt (sr_fk h64 2 (FC0_init 19 h64))) (sr_dV (fun h65 => (sr_if (sr_mb h65 22 0 && sr_mb h65 0 19) (if (19 : Int32) < 0 ∨ 32 ≤ (19 : Int32).toNatClampNeg then none else sr_lh (h65.1, (22, 0, (19 : Int32).toNatClampNeg, sr_r 0 19) :: h65.2) (fun h66 => (sr_if (sr_mb h66 6 0 && decide (sr_lk h66.2 6 0 0 = sr_r 22 0)) (sr_if (sr_mb h66 22 0) (if (32 : Int32) ≤ 20 then none else (sr_if (sr_mb h66 6 0 && decide (sr_lk h66.2 6 0 0 = sr_r 22 0)) (sr_nw h66 0 20 (fun h67 => (sr_bd (sr_nt (sr_fk h67 2 (FC0_init 20 h67))) (sr_dV (fun h68 => (sr_if (sr_mb h68 22 0 && sr_mb h68 0 20) (if (20 : Int32) < 0 ∨ 32 ≤ (20 : Int32).toNatClampNeg then none else sr_lh (h68.1, (22, 0, (20 : Int32).toNatClampNeg, sr_r 0 20) :: h68.2) (fun h69 => (sr_if (sr_mb h69 6 0 && decide (sr_lk h69.2 6 0 0 = sr_r 22 0)) (sr_if (sr_mb h69 22 0) (if (32 : Int32) ≤ 21 then none else (sr_if (sr_mb h69 6 0 && decide (sr_lk h69.2 6 0 0 = sr_r 22 0)) (sr_nw h69 0 21 (fun h70 => (sr_bd (sr_nt (sr_fk h70 2 (FC0_init 21 h70))) (sr_dV (fun h71 => (sr_if (sr_mb h71 22 0 && sr_mb h71 0 21) (if (21 : Int32) < 0 ∨ 32 ≤ (21 : Int32).toNatClampNeg then none else sr_lh (h71.1, (22, 0, (21 : Int32).toNatClampNeg, sr_r 0 21) :: h71.2) (fun h72 => (sr_if (sr_mb h72 6 0 && decide (sr_lk h72.2 6 0 0 = sr_r 22 0)) (sr_if (sr_mb h72 22 0) (if (32 : Int32) ≤ 22 then none else (sr_if (sr_mb h72 6 0 && decide (sr_lk h72.2 6 0 0 = sr_r 22 0)) (sr_nw h72 0 22 (fun h73 => (sr_bd (sr_nt (sr_fk h73 2 (FC0_init 22 h73))) (sr_dV (fun h74 => (sr_if (sr_mb h74 22 0 && sr_mb h74 0 22) (if (22 : Int32) < 0 ∨ 32 ≤ (22 : Int32).toNatClampNeg then none else sr_lh (h74.1, (22, 0, (22 : Int32).toNatClampNeg, sr_r 0 22) :: h74.2) (fun h75 => (sr_if (sr_mb h75 6 0 && decide (sr_lk h75.2 6 0 0 = sr_r 22 0)) (sr_if (sr_mb h75 22 0) (if (32 : Int32) ≤ 23 then none else (sr_if (sr_mb h75 6 0 && decide (sr_lk h75.2 6 0 0 = sr_r 22 0)) (sr_nw h75 0 23 (fun h76 => (sr_bd (sr_nt (sr_fk h76 2 (FC0_init 23 h76))) (sr_dV (fun h77 => (sr_if (sr_mb h77 22 0 && sr_mb h77 0 23) (if (23 : Int32) < 0 ∨ 32 ≤ (23 : Int32).toNatClampNeg then none else sr_lh (h77.1, (22, 0, (23 : Int32).toNatClampNeg, sr_r 0 23) :: h77.2) (fun h78 => (sr_if (sr_mb h78 6 0 && decide (sr_lk h78.2 6 0 0 = sr_r 22 0)) (sr_if (sr_mb h78 22 0) (if (32 : Int32) ≤ 24 then none else (sr_if (sr_mb h78 6 0 && decide (sr_lk h78.2 6 0 0 = sr_r 22 0)) (sr_nw h78 0 24 (fun h79 => (sr_bd (sr_nt (sr_fk h79 2 (FC0_init 24 h79))) (sr_dV (fun h80 => (sr_if (sr_mb h80 22 0 && sr_mb h80 0 24) (if (24 : Int32) < 0 ∨ 32 ≤ (24 : Int32).toNatClampNeg then none else sr_lh (h80.1, (22, 0, (24 : Int32).toNatClampNeg, sr_r 0 24) :: h80.2) (fun h81 => (sr_if (sr_mb h81 6 0 && decide (sr_lk h81.2 6 0 0 = sr_r 22 0)) (sr_if (sr_mb h81 22 0) (if (32 : Int32) ≤ 25 then none else (sr_if (sr_mb h81 6 0 && decide (sr_lk h81.2 6 0 0 = sr_r 22 0)) (sr_nw h81 0 25 (fun h82 => (sr_bd (sr_nt (sr_fk h82 2 (FC0_init 25 h82))) (sr_dV (fun h83 => (sr_if (sr_mb h83 22 0 && sr_mb h83 0 25) (if (25 : Int32) < 0 ∨ 32 ≤ (25 : Int32).toNatClampNeg then none else sr_lh (h83.1, (22, 0, (25 : Int32).toNatClampNeg, sr_r 0 25) :: h83.2) (fun h84 => (sr_if (sr_mb h84 6 0 && decide (sr_lk h84.2 6 0 0 = sr_r 22 0)) (sr_if (sr_mb h84 22 0) (if (32 : Int32) ≤ 26 then none else (sr_if (sr_mb h84 6 0 && decide (sr_lk h84.2 6 0 0 = sr_r 22 0)) (sr_nw h84 0 26 (fun h85 => (sr_bd (sr_nt (sr_fk h85 2 (FC0_init 26 h85))) (sr_dV (fun h86 => (sr_if (sr_mb h86 22 0 && sr_mb h86 0 26) (if (26 : Int32) < 0 ∨ 32 ≤ (26 : Int32).toNatClampNeg then none else sr_lh (h86.1, (22, 0, (26 : Int32).toNatClampNeg, sr_r 0 26) :: h86.2) (fun h87 => (sr_if (sr_mb h87 6 0 && decide (sr_lk h87.2 6 0 0 = sr_r 22 0)) (sr_if (sr_mb h87 22 0) (if (32 : Int32) ≤ 27 then none else (sr_if (sr_mb h87 6 0 && decide (sr_lk h87.2 6 0 0 = sr_r 22 0)) (sr_nw h87 0 27 (fun h88 => (sr_bd (sr_nt (sr_fk h88 2 (FC0_init 27 h88))) (sr_dV (fun h89 => (sr_if (sr_mb h89 22 0 && sr_mb h89 0 27) (if (27 : Int32) < 0 ∨ 32 ≤ (27 : Int32).toNatClampNeg then none else sr_lh (h89.1, (22, 0, (27 : Int32).toNatClampNeg, sr_r 0 27) :: h89.2) (fun h90 => (sr_if (sr_mb h90 6 0 && decide (sr_lk h90.2 6 0 0 = sr_r 22 0)) (sr_if (sr_mb h90 22 0) (if (32 : Int32) ≤ 28 then none else (sr_if (sr_mb h90 6 0 && decide (sr_lk h90.2 6 0 0 = sr_r 22 0)) (sr_nw h90 0 28 (fun h91 => (sr_bd (sr_nt (sr_fk h91 2 (FC0_init 28 h91))) (sr_dV (fun h92 => (sr_if (sr_mb h92 22 0 && sr_mb h92 0 28) (if (28 : Int32) < 0 ∨ 32 ≤ (28 : Int32).toNatClampNeg then none else sr_lh (h92.1, (22, 0, (28 : Int32).toNatClampNeg, sr_r 0 28) :: h92.2) (fun h93 => (sr_if (sr_mb h93 6 0 && decide (sr_lk h93.2 6 0 0 = sr_r 22 0)) (sr_if (sr_mb h93 22 0) (if (32 : Int32) ≤ 29 then none else (sr_if (sr_mb h93 6 0 && decide (sr_lk h93.2 6 0 0 = sr_r 22 0)) (sr_nw h93 0 29 (fun h94 => (sr_bd (sr_nt (sr_fk h94 2 (FC0_init 29 h94))) (sr_dV (fun h95 => (sr_if (sr_mb h95 22 0 && sr_mb h95 0 29) (if (29 : Int32) < 0 ∨ 32 ≤ (29 : Int32).toNatClampNeg then none else sr_lh (h95.1, (22, 0, (29 : Int32).toNatClampNeg, sr_r 0 29) :: h95.2) (fun h96 => (sr_if (sr_mb h96 6 0 && decide (sr_lk h96.2 6 0 0 = sr_r 22 0)) (sr_if (sr_mb h96 22 0) (if (32 : Int32) ≤ 30 then none else (sr_if (sr_mb h96 6 0 && decide (sr_lk h96.2 6 0 0 = sr_r 22 0)) (sr_nw h96 0 30 (fun h97 => (sr_bd (sr_nt (sr_fk h97 2 (FC0_init 30 h97))) (sr_dV (fun h98 => (sr_if (sr_mb h98 22 0 && sr_mb h98 0 30) (if (30 : Int32) < 0 ∨ 32 ≤ (30 : Int32).toNatClampNeg then none else sr_lh (h98.1, (22, 0, (30 : Int32).toNatClampNeg, sr_r 0 30) :: h98.2) (fun h99 => (sr_if (sr_mb h99 6 0 && decide (sr_lk h99.2 6 0 0 = sr_r 22 0)) (sr_if (sr_mb h99 22 0) (if (32 : Int32) ≤ 31 then none else (sr_if (sr_mb h99 6 0 && decide (sr_lk h99.2 6 0 0 = sr_r 22 0)) (sr_nw h99 0 31 (fun h100 => (sr_bd (sr_nt (sr_fk h100 2 (FC0_init 31 h100))) (sr_dV (fun h101 => (sr_if (sr_mb h101 22 0 && sr_mb h101 0 31) (if (31 : Int32) < 0 ∨ 32 ≤ (31 : Int32).toNatClampNeg then none else sr_lh (h101.1, (22, 0, (31 : Int32).toNatClampNeg, sr_r 0 31) :: h101.2) (fun h102 => (sr_if (sr_mb h102 6 0 && decide (sr_lk h102.2 6 0 0 = sr_r 22 0)) (sr_if (sr_mb h102 22 0) (if (32 : Int32) ≤ 32 then (some (.inl none, h102)) else none)))))))))))))))))))))))))))))))))))))))))))))))))))))))))))))))))))))))))))))))))))))))))))))))))))))))))))))))))))))))))))))))))))))))))))))))))))))))))))))))))))))))))))))))))))))))))))))))))))))))))))))))))))))))))))))))))))))))))))))))))))))))))))))))))))))))))))))))))))))))))))))))))))))))))))))))))))))))))))))))))))))))))))))))))))))))))))))))))))))))))))))))))))))))))))))))))))))))))))))))))))
theorem CC6_init (l : Launch)  (t : sr_c) : sr_T sr_e2 l sr_m6_init [sr_r 6 0] t (FC6_init  t) 100 1748 := by
  refine sr_T_of (L0 := [some (sr_r 6 0), none]) rfl (by decide +kernel) (fun _ => rfl) (fun _ => Nat.le_of_ble_eq_true rfl) ?_
  unfold FC6_init
  refine sr_aloadn (pc := 0) (n := 0) (by decide +kernel) rfl ?_
  refine sr_objI (pc := 1) (idx := 3) (by decide +kernel) (sr_tb (n := 199) (by decide +kernel) rfl) oi_1 oi_2 (by decide) (by decide) rfl ?_
  refine sr_aloadn (pc := 4) (n := 0) (by decide +kernel) rfl ?_
  refine sr_bipush (pc := 5) (n := 32) (v := 32) (by decide +kernel) (by decide) ?_
  refine sr_newq2 (pc := 7) (k := 22) (n := 32) (i := 0) (C9 := RX0) (mc := 99) (ms := 1716) rfl (Or.inr ⟨rfl, rfl⟩) (sr_tb (n := 200) (by decide +kernel) rfl) (sr_nb (n := 201) (by decide +kernel) rfl) (by decide +kernel) (fun _ => rfl) (by decide) (by decide) (by decide) (fun h1 => ?_)
  refine sr_chk _ (fun hm => ?_)
  refine sr_put (pc := 10) (t2 := (h1.1, (6, 0, 0, sr_r 22 0) :: h1.2)) fg_6_11 ft_6_0 (by decide +kernel) (sr_mb_ok hm) ⟨_, _, rfl⟩ (fun _ => ⟨rfl, RX6, TX6, rfl, rfl, sr_tb (n := 223) (by decide +kernel) rfl⟩) (sr_e2_put _ _ _ _ _) ?_
  refine sr_gh _ (fun h2 => ?_)
  refine sr_aloadn (pc := 13) (n := 0) (by decide +kernel) rfl ?_
  refine sr_new2 (pc := 14) (i := 32) (mc := 98) (ms := 1712) fn_6_9 (by decide +kernel) (fun h3 => ?_)
  refine sr_dup (pc := 17) (by decide +kernel) rfl ?_
  refine sr_callI (pc := 18) (As := []) (mc1 := 2) (ms1 := 48) (mc2 := 96) (ms2 := 1664) (fx := sr_fk h3 2 (FC0_init 32 h3)) fm_6_17 (by decide +kernel) rm_6_init_0_init rfl rfl rfl (sr_fk_ok h3 2 (FC0_init 32 h3)) (sr_fk_T (CC0_init l 32 h3)) (sr_kV (fun h4 => ?_))
  refine sr_chk _ (fun hm => ?_)
  refine sr_put (pc := 21) (t2 := (h4.1, (6, 0, 1, sr_r 0 32) :: h4.2)) fg_6_18 ft_6_1 (by decide +kernel) (sr_mb_ok hm) ⟨_, _, rfl⟩ (fun _ => ⟨rfl, RX6, TX6, rfl, rfl, sr_tb (n := 224) (by decide +kernel) rfl⟩) (sr_e2_put _ _ _ _ _) ?_
  refine sr_gh _ (fun h5 => ?_)
  refine sr_aloadn (pc := 24) (n := 0) (by decide +kernel) rfl ?_
  refine sr_iconst (pc := 25) (n := 2) (v := 2) (by decide +kernel) rfl ?_
  refine sr_chk _ (fun hm => ?_)
  refine sr_put (pc := 26) (t2 := (h5.1, (6, 0, 4, sr_i 2) :: h5.2)) fg_6_22 ft_6_4 (by decide +kernel) (sr_mb_ok hm) ⟨_, rfl⟩ (fun hq => nomatch hq) (sr_e2_put _ _ _ _ _) ?_
  refine sr_gh _ (fun h6 => ?_)
  refine sr_iconst (pc := 29) (n := 0) (v := 0) (by decide +kernel) rfl ?_
  refine sr_istoren (pc := 30) (n := 1) (by decide +kernel) (by decide) rfl rfl ?_
  refine sr_iloadn (pc := 31) (n := 1) (by decide +kernel) rfl ?_
  refine sr_aloadn (pc := 32) (n := 0) (by decide +kernel) rfl ?_
  refine sr_chk _ (fun hm => ?_)
  have hm2 := (Bool.and_eq_true _ _).mp hm
  refine sr_get (pc := 33) fg_6_11 (by decide +kernel) (sr_mb_ok hm2.1) (of_decide_eq_true hm2.2) ?_
  refine sr_chk _ (fun hm => ?_)
  refine sr_alen (pc := 36) (ty := 3) (n := 32) (v := 32) rfl (by decide) (by decide +kernel) (sr_mb_ok hm) (by decide) ?_
  refine sr_icmp_ge (pc := 37) (off := 22) (tg := 59) (by decide +kernel) (by decide) (fun hq => absurd hq (by decide)) (fun _ => ?_)
  refine sr_aloadn (pc := 40) (n := 0) (by decide +kernel) rfl ?_
  refine sr_chk _ (fun hm => ?_)
  have hm2 := (Bool.and_eq_true _ _).mp hm
  refine sr_get (pc := 41) fg_6_11 (by decide +kernel) (sr_mb_ok hm2.1) (of_decide_eq_true hm2.2) ?_
  refine sr_iloadn (pc := 44) (n := 1) (by decide +kernel) rfl ?_
  refine sr_new2 (pc := 45) (i := 0) (mc := 95) (ms := 1660) fn_6_9 (by decide +kernel) (fun h7 => ?_)
  refine sr_dup (pc := 48) (by decide +kernel) rfl ?_
  refine sr_callI (pc := 49) (As := []) (mc1 := 2) (ms1 := 48) (mc2 := 93) (ms2 := 1612) (fx := sr_fk h7 2 (FC0_init 0 h7)) fm_6_17 (by decide +kernel) rm_6_init_0_init rfl rfl rfl (sr_fk_ok h7 2 (FC0_init 0 h7)) (sr_fk_T (CC0_init l 0 h7)) (sr_kV (fun h8 => ?_))
  refine sr_chk _ (fun hm => ?_)
  refine sr_aast (pc := 52) (t2 := (h8.1, (22, 0, (0 : Int32).toNatClampNeg, sr_r 0 0) :: h8.2)) (n := 32) (C9 := RX0) (T := TX0) (nn := 4) rfl (Or.inr ⟨rfl, rfl⟩) rfl rfl (by decide +kernel) (sr_mb_ok ((Bool.and_eq_true _ _).mp hm).1) (sr_mb_ok ((Bool.and_eq_true _ _).mp hm).2) (sr_e2_put _ _ _ _ _) (fun _ => ?_)
  refine sr_gh _ (fun h9 => ?_)
  refine sr_iinc (pc := 53) (i := 1) (n := 1) (w := 1) (by decide +kernel) rfl (by decide) (by decide) rfl rfl ?_
  refine sr_goto (pc := 56) (off := (-25)) (tg := 31) (by decide +kernel) (by decide) ?_
  refine sr_iloadn (pc := 31) (n := 1) (by decide +kernel) rfl ?_
  refine sr_aloadn (pc := 32) (n := 0) (by decide +kernel) rfl ?_
  refine sr_chk _ (fun hm => ?_)
  have hm2 := (Bool.and_eq_true _ _).mp hm
  refine sr_get (pc := 33) fg_6_11 (by decide +kernel) (sr_mb_ok hm2.1) (of_decide_eq_true hm2.2) ?_
  refine sr_chk _ (fun hm => ?_)
  refine sr_alen (pc := 36) (ty := 3) (n := 32) (v := 32) rfl (by decide) (by decide +kernel) (sr_mb_ok hm) (by decide) ?_
  refine sr_icmp_ge (pc := 37) (off := 22) (tg := 59) (by decide +kernel) (by decide) (fun hq => absurd hq (by decide)) (fun _ => ?_)
  refine sr_aloadn (pc := 40) (n := 0) (by decide +kernel) rfl ?_
  refine sr_chk _ (fun hm => ?_)
  have hm2 := (Bool.and_eq_true _ _).mp hm
  refine sr_get (pc := 41) fg_6_11 (by decide +kernel) (sr_mb_ok hm2.1) (of_decide_eq_true hm2.2) ?_
  refine sr_iloadn (pc := 44) (n := 1) (by decide +kernel) rfl ?_
  refine sr_new2 (pc := 45) (i := 1) (mc := 92) (ms := 1608) fn_6_9 (by decide +kernel) (fun h10 => ?_)
  refine sr_dup (pc := 48) (by decide +kernel) rfl ?_
  refine sr_callI (pc := 49) (As := []) (mc1 := 2) (ms1 := 48) (mc2 := 90) (ms2 := 1560) (fx := sr_fk h10 2 (FC0_init 1 h10)) fm_6_17 (by decide +kernel) rm_6_init_0_init rfl rfl rfl (sr_fk_ok h10 2 (FC0_init 1 h10)) (sr_fk_T (CC0_init l 1 h10)) (sr_kV (fun h11 => ?_))
  refine sr_chk _ (fun hm => ?_)
  refine sr_aast (pc := 52) (t2 := (h11.1, (22, 0, (1 : Int32).toNatClampNeg, sr_r 0 1) :: h11.2)) (n := 32) (C9 := RX0) (T := TX0) (nn := 4) rfl (Or.inr ⟨rfl, rfl⟩) rfl rfl (by decide +kernel) (sr_mb_ok ((Bool.and_eq_true _ _).mp hm).1) (sr_mb_ok ((Bool.and_eq_true _ _).mp hm).2) (sr_e2_put _ _ _ _ _) (fun _ => ?_)
  refine sr_gh _ (fun h12 => ?_)
  refine sr_iinc (pc := 53) (i := 1) (n := 1) (w := 2) (by decide +kernel) rfl (by decide) (by decide) rfl rfl ?_
  refine sr_goto (pc := 56) (off := (-25)) (tg := 31) (by decide +kernel) (by decide) ?_
  refine sr_iloadn (pc := 31) (n := 1) (by decide +kernel) rfl ?_
  refine sr_aloadn (pc := 32) (n := 0) (by decide +kernel) rfl ?_
  refine sr_chk _ (fun hm => ?_)
  have hm2 := (Bool.and_eq_true _ _).mp hm
  refine sr_get (pc := 33) fg_6_11 (by decide +kernel) (sr_mb_ok hm2.1) (of_decide_eq_true hm2.2) ?_
  refine sr_chk _ (fun hm => ?_)
  refine sr_alen (pc := 36) (ty := 3) (n := 32) (v := 32) rfl (by decide) (by decide +kernel) (sr_mb_ok hm) (by decide) ?_
  refine sr_icmp_ge (pc := 37) (off := 22) (tg := 59) (by decide +kernel) (by decide) (fun hq => absurd hq (by decide)) (fun _ => ?_)
  refine sr_aloadn (pc := 40) (n := 0) (by decide +kernel) rfl ?_
  refine sr_chk _ (fun hm => ?_)
  have hm2 := (Bool.and_eq_true _ _).mp hm
  refine sr_get (pc := 41) fg_6_11 (by decide +kernel) (sr_mb_ok hm2.1) (of_decide_eq_true hm2.2) ?_
  refine sr_iloadn (pc := 44) (n := 1) (by decide +kernel) rfl ?_
  refine sr_new2 (pc := 45) (i := 2) (mc := 89) (ms := 1556) fn_6_9 (by decide +kernel) (fun h13 => ?_)
  refine sr_dup (pc := 48) (by decide +kernel) rfl ?_
  refine sr_callI (pc := 49) (As := []) (mc1 := 2) (ms1 := 48) (mc2 := 87) (ms2 := 1508) (fx := sr_fk h13 2 (FC0_init 2 h13)) fm_6_17 (by decide +kernel) rm_6_init_0_init rfl rfl rfl (sr_fk_ok h13 2 (FC0_init 2 h13)) (sr_fk_T (CC0_init l 2 h13)) (sr_kV (fun h14 => ?_))
  refine sr_chk _ (fun hm => ?_)
  refine sr_aast (pc := 52) (t2 := (h14.1, (22, 0, (2 : Int32).toNatClampNeg, sr_r 0 2) :: h14.2)) (n := 32) (C9 := RX0) (T := TX0) (nn := 4) rfl (Or.inr ⟨rfl, rfl⟩) rfl rfl (by decide +kernel) (sr_mb_ok ((Bool.and_eq_true _ _).mp hm).1) (sr_mb_ok ((Bool.and_eq_true _ _).mp hm).2) (sr_e2_put _ _ _ _ _) (fun _ => ?_)
  refine sr_gh _ (fun h15 => ?_)
  refine sr_iinc (pc := 53) (i := 1) (n := 1) (w := 3) (by decide +kernel) rfl (by decide) (by decide) rfl rfl ?_
  refine sr_goto (pc := 56) (off := (-25)) (tg := 31) (by decide +kernel) (by decide) ?_
  refine sr_iloadn (pc := 31) (n := 1) (by decide +kernel) rfl ?_
  refine sr_aloadn (pc := 32) (n := 0) (by decide +kernel) rfl ?_
  refine sr_chk _ (fun hm => ?_)
  have hm2 := (Bool.and_eq_true _ _).mp hm
  refine sr_get (pc := 33) fg_6_11 (by decide +kernel) (sr_mb_ok hm2.1) (of_decide_eq_true hm2.2) ?_
  refine sr_chk _ (fun hm => ?_)
  refine sr_alen (pc := 36) (ty := 3) (n := 32) (v := 32) rfl (by decide) (by decide +kernel) (sr_mb_ok hm) (by decide) ?_
  refine sr_icmp_ge (pc := 37) (off := 22) (tg := 59) (by decide +kernel) (by decide) (fun hq => absurd hq (by decide)) (fun _ => ?_)
  refine sr_aloadn (pc := 40) (n := 0) (by decide +kernel) rfl ?_
  refine sr_chk _ (fun hm => ?_)
  have hm2 := (Bool.and_eq_true _ _).mp hm
  refine sr_get (pc := 41) fg_6_11 (by decide +kernel) (sr_mb_ok hm2.1) (of_decide_eq_true hm2.2) ?_
  refine sr_iloadn (pc := 44) (n := 1) (by decide +kernel) rfl ?_
  refine sr_new2 (pc := 45) (i := 3) (mc := 86) (ms := 1504) fn_6_9 (by decide +kernel) (fun h16 => ?_)
  refine sr_dup (pc := 48) (by decide +kernel) rfl ?_
  refine sr_callI (pc := 49) (As := []) (mc1 := 2) (ms1 := 48) (mc2 := 84) (ms2 := 1456) (fx := sr_fk h16 2 (FC0_init 3 h16)) fm_6_17 (by decide +kernel) rm_6_init_0_init rfl rfl rfl (sr_fk_ok h16 2 (FC0_init 3 h16)) (sr_fk_T (CC0_init l 3 h16)) (sr_kV (fun h17 => ?_))
  refine sr_chk _ (fun hm => ?_)
  refine sr_aast (pc := 52) (t2 := (h17.1, (22, 0, (3 : Int32).toNatClampNeg, sr_r 0 3) :: h17.2)) (n := 32) (C9 := RX0) (T := TX0) (nn := 4) rfl (Or.inr ⟨rfl, rfl⟩) rfl rfl (by decide +kernel) (sr_mb_ok ((Bool.and_eq_true _ _).mp hm).1) (sr_mb_ok ((Bool.and_eq_true _ _).mp hm).2) (sr_e2_put _ _ _ _ _) (fun _ => ?_)
  refine sr_gh _ (fun h18 => ?_)
  refine sr_iinc (pc := 53) (i := 1) (n := 1) (w := 4) (by decide +kernel) rfl (by decide) (by decide) rfl rfl ?_
  refine sr_goto (pc := 56) (off := (-25)) (tg := 31) (by decide +kernel) (by decide) ?_
  refine sr_iloadn (pc := 31) (n := 1) (by decide +kernel) rfl ?_
  refine sr_aloadn (pc := 32) (n := 0) (by decide +kernel) rfl ?_
  refine sr_chk _ (fun hm => ?_)
  have hm2 := (Bool.and_eq_true _ _).mp hm
  refine sr_get (pc := 33) fg_6_11 (by decide +kernel) (sr_mb_ok hm2.1) (of_decide_eq_true hm2.2) ?_
  refine sr_chk _ (fun hm => ?_)
  refine sr_alen (pc := 36) (ty := 3) (n := 32) (v := 32) rfl (by decide) (by decide +kernel) (sr_mb_ok hm) (by decide) ?_
  refine sr_icmp_ge (pc := 37) (off := 22) (tg := 59) (by decide +kernel) (by decide) (fun hq => absurd hq (by decide)) (fun _ => ?_)
  refine sr_aloadn (pc := 40) (n := 0) (by decide +kernel) rfl ?_
  refine sr_chk _ (fun hm => ?_)
  have hm2 := (Bool.and_eq_true _ _).mp hm
  refine sr_get (pc := 41) fg_6_11 (by decide +kernel) (sr_mb_ok hm2.1) (of_decide_eq_true hm2.2) ?_
  refine sr_iloadn (pc := 44) (n := 1) (by decide +kernel) rfl ?_
  refine sr_new2 (pc := 45) (i := 4) (mc := 83) (ms := 1452) fn_6_9 (by decide +kernel) (fun h19 => ?_)
  refine sr_dup (pc := 48) (by decide +kernel) rfl ?_
  refine sr_callI (pc := 49) (As := []) (mc1 := 2) (ms1 := 48) (mc2 := 81) (ms2 := 1404) (fx := sr_fk h19 2 (FC0_init 4 h19)) fm_6_17 (by decide +kernel) rm_6_init_0_init rfl rfl rfl (sr_fk_ok h19 2 (FC0_init 4 h19)) (sr_fk_T (CC0_init l 4 h19)) (sr_kV (fun h20 => ?_))
  refine sr_chk _ (fun hm => ?_)
  refine sr_aast (pc := 52) (t2 := (h20.1, (22, 0, (4 : Int32).toNatClampNeg, sr_r 0 4) :: h20.2)) (n := 32) (C9 := RX0) (T := TX0) (nn := 4) rfl (Or.inr ⟨rfl, rfl⟩) rfl rfl (by decide +kernel) (sr_mb_ok ((Bool.and_eq_true _ _).mp hm).1) (sr_mb_ok ((Bool.and_eq_true _ _).mp hm).2) (sr_e2_put _ _ _ _ _) (fun _ => ?_)
  refine sr_gh _ (fun h21 => ?_)
  refine sr_iinc (pc := 53) (i := 1) (n := 1) (w := 5) (by decide +kernel) rfl (by decide) (by decide) rfl rfl ?_
  refine sr_goto (pc := 56) (off := (-25)) (tg := 31) (by decide +kernel) (by decide) ?_
  refine sr_iloadn (pc := 31) (n := 1) (by decide +kernel) rfl ?_
  refine sr_aloadn (pc := 32) (n := 0) (by decide +kernel) rfl ?_
  refine sr_chk _ (fun hm => ?_)
  have hm2 := (Bool.and_eq_true _ _).mp hm
  refine sr_get (pc := 33) fg_6_11 (by decide +kernel) (sr_mb_ok hm2.1) (of_decide_eq_true hm2.2) ?_
  refine sr_chk _ (fun hm => ?_)
  refine sr_alen (pc := 36) (ty := 3) (n := 32) (v := 32) rfl (by decide) (by decide +kernel) (sr_mb_ok hm) (by decide) ?_
  refine sr_icmp_ge (pc := 37) (off := 22) (tg := 59) (by decide +kernel) (by decide) (fun hq => absurd hq (by decide)) (fun _ => ?_)
  refine sr_aloadn (pc := 40) (n := 0) (by decide +kernel) rfl ?_
  refine sr_chk _ (fun hm => ?_)
  have hm2 := (Bool.and_eq_true _ _).mp hm
  refine sr_get (pc := 41) fg_6_11 (by decide +kernel) (sr_mb_ok hm2.1) (of_decide_eq_true hm2.2) ?_
  refine sr_iloadn (pc := 44) (n := 1) (by decide +kernel) rfl ?_
  refine sr_new2 (pc := 45) (i := 5) (mc := 80) (ms := 1400) fn_6_9 (by decide +kernel) (fun h22 => ?_)
  refine sr_dup (pc := 48) (by decide +kernel) rfl ?_
  refine sr_callI (pc := 49) (As := []) (mc1 := 2) (ms1 := 48) (mc2 := 78) (ms2 := 1352) (fx := sr_fk h22 2 (FC0_init 5 h22)) fm_6_17 (by decide +kernel) rm_6_init_0_init rfl rfl rfl (sr_fk_ok h22 2 (FC0_init 5 h22)) (sr_fk_T (CC0_init l 5 h22)) (sr_kV (fun h23 => ?_))
  refine sr_chk _ (fun hm => ?_)
  refine sr_aast (pc := 52) (t2 := (h23.1, (22, 0, (5 : Int32).toNatClampNeg, sr_r 0 5) :: h23.2)) (n := 32) (C9 := RX0) (T := TX0) (nn := 4) rfl (Or.inr ⟨rfl, rfl⟩) rfl rfl (by decide +kernel) (sr_mb_ok ((Bool.and_eq_true _ _).mp hm).1) (sr_mb_ok ((Bool.and_eq_true _ _).mp hm).2) (sr_e2_put _ _ _ _ _) (fun _ => ?_)
  refine sr_gh _ (fun h24 => ?_)
  refine sr_iinc (pc := 53) (i := 1) (n := 1) (w := 6) (by decide +kernel) rfl (by decide) (by decide) rfl rfl ?_
  refine sr_goto (pc := 56) (off := (-25)) (tg := 31) (by decide +kernel) (by decide) ?_
  refine sr_iloadn (pc := 31) (n := 1) (by decide +kernel) rfl ?_
  refine sr_aloadn (pc := 32) (n := 0) (by decide +kernel) rfl ?_
  refine sr_chk _ (fun hm => ?_)
  have hm2 := (Bool.and_eq_true _ _).mp hm
  refine sr_get (pc := 33) fg_6_11 (by decide +kernel) (sr_mb_ok hm2.1) (of_decide_eq_true hm2.2) ?_
  refine sr_chk _ (fun hm => ?_)
  refine sr_alen (pc := 36) (ty := 3) (n := 32) (v := 32) rfl (by decide) (by decide +kernel) (sr_mb_ok hm) (by decide) ?_
  refine sr_icmp_ge (pc := 37) (off := 22) (tg := 59) (by decide +kernel) (by decide) (fun hq => absurd hq (by decide)) (fun _ => ?_)
  refine sr_aloadn (pc := 40) (n := 0) (by decide +kernel) rfl ?_
  refine sr_chk _ (fun hm => ?_)
  have hm2 := (Bool.and_eq_true _ _).mp hm
  refine sr_get (pc := 41) fg_6_11 (by decide +kernel) (sr_mb_ok hm2.1) (of_decide_eq_true hm2.2) ?_
  refine sr_iloadn (pc := 44) (n := 1) (by decide +kernel) rfl ?_
  refine sr_new2 (pc := 45) (i := 6) (mc := 77) (ms := 1348) fn_6_9 (by decide +kernel) (fun h25 => ?_)
  refine sr_dup (pc := 48) (by decide +kernel) rfl ?_
  refine sr_callI (pc := 49) (As := []) (mc1 := 2) (ms1 := 48) (mc2 := 75) (ms2 := 1300) (fx := sr_fk h25 2 (FC0_init 6 h25)) fm_6_17 (by decide +kernel) rm_6_init_0_init rfl rfl rfl (sr_fk_ok h25 2 (FC0_init 6 h25)) (sr_fk_T (CC0_init l 6 h25)) (sr_kV (fun h26 => ?_))
  refine sr_chk _ (fun hm => ?_)
  refine sr_aast (pc := 52) (t2 := (h26.1, (22, 0, (6 : Int32).toNatClampNeg, sr_r 0 6) :: h26.2)) (n := 32) (C9 := RX0) (T := TX0) (nn := 4) rfl (Or.inr ⟨rfl, rfl⟩) rfl rfl (by decide +kernel) (sr_mb_ok ((Bool.and_eq_true _ _).mp hm).1) (sr_mb_ok ((Bool.and_eq_true _ _).mp hm).2) (sr_e2_put _ _ _ _ _) (fun _ => ?_)
  refine sr_gh _ (fun h27 => ?_)
  refine sr_iinc (pc := 53) (i := 1) (n := 1) (w := 7) (by decide +kernel) rfl (by decide) (by decide) rfl rfl ?_
  refine sr_goto (pc := 56) (off := (-25)) (tg := 31) (by decide +kernel) (by decide) ?_
  refine sr_iloadn (pc := 31) (n := 1) (by decide +kernel) rfl ?_
  refine sr_aloadn (pc := 32) (n := 0) (by decide +kernel) rfl ?_
  refine sr_chk _ (fun hm => ?_)
  have hm2 := (Bool.and_eq_true _ _).mp hm
  refine sr_get (pc := 33) fg_6_11 (by decide +kernel) (sr_mb_ok hm2.1) (of_decide_eq_true hm2.2) ?_
  refine sr_chk _ (fun hm => ?_)
  refine sr_alen (pc := 36) (ty := 3) (n := 32) (v := 32) rfl (by decide) (by decide +kernel) (sr_mb_ok hm) (by decide) ?_
  refine sr_icmp_ge (pc := 37) (off := 22) (tg := 59) (by decide +kernel) (by decide) (fun hq => absurd hq (by decide)) (fun _ => ?_)
  refine sr_aloadn (pc := 40) (n := 0) (by decide +kernel) rfl ?_
  refine sr_chk _ (fun hm => ?_)
  have hm2 := (Bool.and_eq_true _ _).mp hm
  refine sr_get (pc := 41) fg_6_11 (by decide +kernel) (sr_mb_ok hm2.1) (of_decide_eq_true hm2.2) ?_
  refine sr_iloadn (pc := 44) (n := 1) (by decide +kernel) rfl ?_
  refine sr_new2 (pc := 45) (i := 7) (mc := 74) (ms := 1296) fn_6_9 (by decide +kernel) (fun h28 => ?_)
  refine sr_dup (pc := 48) (by decide +kernel) rfl ?_
  refine sr_callI (pc := 49) (As := []) (mc1 := 2) (ms1 := 48) (mc2 := 72) (ms2 := 1248) (fx := sr_fk h28 2 (FC0_init 7 h28)) fm_6_17 (by decide +kernel) rm_6_init_0_init rfl rfl rfl (sr_fk_ok h28 2 (FC0_init 7 h28)) (sr_fk_T (CC0_init l 7 h28)) (sr_kV (fun h29 => ?_))
  refine sr_chk _ (fun hm => ?_)
  refine sr_aast (pc := 52) (t2 := (h29.1, (22, 0, (7 : Int32).toNatClampNeg, sr_r 0 7) :: h29.2)) (n := 32) (C9 := RX0) (T := TX0) (nn := 4) rfl (Or.inr ⟨rfl, rfl⟩) rfl rfl (by decide +kernel) (sr_mb_ok ((Bool.and_eq_true _ _).mp hm).1) (sr_mb_ok ((Bool.and_eq_true _ _).mp hm).2) (sr_e2_put _ _ _ _ _) (fun _ => ?_)
  refine sr_gh _ (fun h30 => ?_)
  refine sr_iinc (pc := 53) (i := 1) (n := 1) (w := 8) (by decide +kernel) rfl (by decide) (by decide) rfl rfl ?_
  refine sr_goto (pc := 56) (off := (-25)) (tg := 31) (by decide +kernel) (by decide) ?_
  refine sr_iloadn (pc := 31) (n := 1) (by decide +kernel) rfl ?_
  refine sr_aloadn (pc := 32) (n := 0) (by decide +kernel) rfl ?_
  refine sr_chk _ (fun hm => ?_)
  have hm2 := (Bool.and_eq_true _ _).mp hm
  refine sr_get (pc := 33) fg_6_11 (by decide +kernel) (sr_mb_ok hm2.1) (of_decide_eq_true hm2.2) ?_
  refine sr_chk _ (fun hm => ?_)
  refine sr_alen (pc := 36) (ty := 3) (n := 32) (v := 32) rfl (by decide) (by decide +kernel) (sr_mb_ok hm) (by decide) ?_
  refine sr_icmp_ge (pc := 37) (off := 22) (tg := 59) (by decide +kernel) (by decide) (fun hq => absurd hq (by decide)) (fun _ => ?_)
  refine sr_aloadn (pc := 40) (n := 0) (by decide +kernel) rfl ?_
  refine sr_chk _ (fun hm => ?_)
  have hm2 := (Bool.and_eq_true _ _).mp hm
  refine sr_get (pc := 41) fg_6_11 (by decide +kernel) (sr_mb_ok hm2.1) (of_decide_eq_true hm2.2) ?_
  refine sr_iloadn (pc := 44) (n := 1) (by decide +kernel) rfl ?_
  refine sr_new2 (pc := 45) (i := 8) (mc := 71) (ms := 1244) fn_6_9 (by decide +kernel) (fun h31 => ?_)
  refine sr_dup (pc := 48) (by decide +kernel) rfl ?_
  refine sr_callI (pc := 49) (As := []) (mc1 := 2) (ms1 := 48) (mc2 := 69) (ms2 := 1196) (fx := sr_fk h31 2 (FC0_init 8 h31)) fm_6_17 (by decide +kernel) rm_6_init_0_init rfl rfl rfl (sr_fk_ok h31 2 (FC0_init 8 h31)) (sr_fk_T (CC0_init l 8 h31)) (sr_kV (fun h32 => ?_))
  refine sr_chk _ (fun hm => ?_)
  refine sr_aast (pc := 52) (t2 := (h32.1, (22, 0, (8 : Int32).toNatClampNeg, sr_r 0 8) :: h32.2)) (n := 32) (C9 := RX0) (T := TX0) (nn := 4) rfl (Or.inr ⟨rfl, rfl⟩) rfl rfl (by decide +kernel) (sr_mb_ok ((Bool.and_eq_true _ _).mp hm).1) (sr_mb_ok ((Bool.and_eq_true _ _).mp hm).2) (sr_e2_put _ _ _ _ _) (fun _ => ?_)
  refine sr_gh _ (fun h33 => ?_)
  refine sr_iinc (pc := 53) (i := 1) (n := 1) (w := 9) (by decide +kernel) rfl (by decide) (by decide) rfl rfl ?_
  refine sr_goto (pc := 56) (off := (-25)) (tg := 31) (by decide +kernel) (by decide) ?_
  refine sr_iloadn (pc := 31) (n := 1) (by decide +kernel) rfl ?_
  refine sr_aloadn (pc := 32) (n := 0) (by decide +kernel) rfl ?_
  refine sr_chk _ (fun hm => ?_)
  have hm2 := (Bool.and_eq_true _ _).mp hm
  refine sr_get (pc := 33) fg_6_11 (by decide +kernel) (sr_mb_ok hm2.1) (of_decide_eq_true hm2.2) ?_
  refine sr_chk _ (fun hm => ?_)
  refine sr_alen (pc := 36) (ty := 3) (n := 32) (v := 32) rfl (by decide) (by decide +kernel) (sr_mb_ok hm) (by decide) ?_
  refine sr_icmp_ge (pc := 37) (off := 22) (tg := 59) (by decide +kernel) (by decide) (fun hq => absurd hq (by decide)) (fun _ => ?_)
  refine sr_aloadn (pc := 40) (n := 0) (by decide +kernel) rfl ?_
  refine sr_chk _ (fun hm => ?_)
  have hm2 := (Bool.and_eq_true _ _).mp hm
  refine sr_get (pc := 41) fg_6_11 (by decide +kernel) (sr_mb_ok hm2.1) (of_decide_eq_true hm2.2) ?_
  refine sr_iloadn (pc := 44) (n := 1) (by decide +kernel) rfl ?_
  refine sr_new2 (pc := 45) (i := 9) (mc := 68) (ms := 1192) fn_6_9 (by decide +kernel) (fun h34 => ?_)
  refine sr_dup (pc := 48) (by decide +kernel) rfl ?_
  refine sr_callI (pc := 49) (As := []) (mc1 := 2) (ms1 := 48) (mc2 := 66) (ms2 := 1144) (fx := sr_fk h34 2 (FC0_init 9 h34)) fm_6_17 (by decide +kernel) rm_6_init_0_init rfl rfl rfl (sr_fk_ok h34 2 (FC0_init 9 h34)) (sr_fk_T (CC0_init l 9 h34)) (sr_kV (fun h35 => ?_))
  refine sr_chk _ (fun hm => ?_)
  refine sr_aast (pc := 52) (t2 := (h35.1, (22, 0, (9 : Int32).toNatClampNeg, sr_r 0 9) :: h35.2)) (n := 32) (C9 := RX0) (T := TX0) (nn := 4) rfl (Or.inr ⟨rfl, rfl⟩) rfl rfl (by decide +kernel) (sr_mb_ok ((Bool.and_eq_true _ _).mp hm).1) (sr_mb_ok ((Bool.and_eq_true _ _).mp hm).2) (sr_e2_put _ _ _ _ _) (fun _ => ?_)
  refine sr_gh _ (fun h36 => ?_)
  refine sr_iinc (pc := 53) (i := 1) (n := 1) (w := 10) (by decide +kernel) rfl (by decide) (by decide) rfl rfl ?_
  refine sr_goto (pc := 56) (off := (-25)) (tg := 31) (by decide +kernel) (by decide) ?_
  refine sr_iloadn (pc := 31) (n := 1) (by decide +kernel) rfl ?_
  refine sr_aloadn (pc := 32) (n := 0) (by decide +kernel) rfl ?_
  refine sr_chk _ (fun hm => ?_)
  have hm2 := (Bool.and_eq_true _ _).mp hm
  refine sr_get (pc := 33) fg_6_11 (by decide +kernel) (sr_mb_ok hm2.1) (of_decide_eq_true hm2.2) ?_
  refine sr_chk _ (fun hm => ?_)
  refine sr_alen (pc := 36) (ty := 3) (n := 32) (v := 32) rfl (by decide) (by decide +kernel) (sr_mb_ok hm) (by decide) ?_
  refine sr_icmp_ge (pc := 37) (off := 22) (tg := 59) (by decide +kernel) (by decide) (fun hq => absurd hq (by decide)) (fun _ => ?_)
  refine sr_aloadn (pc := 40) (n := 0) (by decide +kernel) rfl ?_
  refine sr_chk _ (fun hm => ?_)
  have hm2 := (Bool.and_eq_true _ _).mp hm
  refine sr_get (pc := 41) fg_6_11 (by decide +kernel) (sr_mb_ok hm2.1) (of_decide_eq_true hm2.2) ?_
  refine sr_iloadn (pc := 44) (n := 1) (by decide +kernel) rfl ?_
  refine sr_new2 (pc := 45) (i := 10) (mc := 65) (ms := 1140) fn_6_9 (by decide +kernel) (fun h37 => ?_)
  refine sr_dup (pc := 48) (by decide +kernel) rfl ?_
  refine sr_callI (pc := 49) (As := []) (mc1 := 2) (ms1 := 48) (mc2 := 63) (ms2 := 1092) (fx := sr_fk h37 2 (FC0_init 10 h37)) fm_6_17 (by decide +kernel) rm_6_init_0_init rfl rfl rfl (sr_fk_ok h37 2 (FC0_init 10 h37)) (sr_fk_T (CC0_init l 10 h37)) (sr_kV (fun h38 => ?_))
  refine sr_chk _ (fun hm => ?_)
  refine sr_aast (pc := 52) (t2 := (h38.1, (22, 0, (10 : Int32).toNatClampNeg, sr_r 0 10) :: h38.2)) (n := 32) (C9 := RX0) (T := TX0) (nn := 4) rfl (Or.inr ⟨rfl, rfl⟩) rfl rfl (by decide +kernel) (sr_mb_ok ((Bool.and_eq_true _ _).mp hm).1) (sr_mb_ok ((Bool.and_eq_true _ _).mp hm).2) (sr_e2_put _ _ _ _ _) (fun _ => ?_)
  refine sr_gh _ (fun h39 => ?_)
  refine sr_iinc (pc := 53) (i := 1) (n := 1) (w := 11) (by decide +kernel) rfl (by decide) (by decide) rfl rfl ?_
  refine sr_goto (pc := 56) (off := (-25)) (tg := 31) (by decide +kernel) (by decide) ?_
  refine sr_iloadn (pc := 31) (n := 1) (by decide +kernel) rfl ?_
  refine sr_aloadn (pc := 32) (n := 0) (by decide +kernel) rfl ?_
  refine sr_chk _ (fun hm => ?_)
  have hm2 := (Bool.and_eq_true _ _).mp hm
  refine sr_get (pc := 33) fg_6_11 (by decide +kernel) (sr_mb_ok hm2.1) (of_decide_eq_true hm2.2) ?_
  refine sr_chk _ (fun hm => ?_)
  refine sr_alen (pc := 36) (ty := 3) (n := 32) (v := 32) rfl (by decide) (by decide +kernel) (sr_mb_ok hm) (by decide) ?_
  refine sr_icmp_ge (pc := 37) (off := 22) (tg := 59) (by decide +kernel) (by decide) (fun hq => absurd hq (by decide)) (fun _ => ?_)
  refine sr_aloadn (pc := 40) (n := 0) (by decide +kernel) rfl ?_
  refine sr_chk _ (fun hm => ?_)
  have hm2 := (Bool.and_eq_true _ _).mp hm
  refine sr_get (pc := 41) fg_6_11 (by decide +kernel) (sr_mb_ok hm2.1) (of_decide_eq_true hm2.2) ?_
  refine sr_iloadn (pc := 44) (n := 1) (by decide +kernel) rfl ?_
  refine sr_new2 (pc := 45) (i := 11) (mc := 62) (ms := 1088) fn_6_9 (by decide +kernel) (fun h40 => ?_)
  refine sr_dup (pc := 48) (by decide +kernel) rfl ?_
  refine sr_callI (pc := 49) (As := []) (mc1 := 2) (ms1 := 48) (mc2 := 60) (ms2 := 1040) (fx := sr_fk h40 2 (FC0_init 11 h40)) fm_6_17 (by decide +kernel) rm_6_init_0_init rfl rfl rfl (sr_fk_ok h40 2 (FC0_init 11 h40)) (sr_fk_T (CC0_init l 11 h40)) (sr_kV (fun h41 => ?_))
  refine sr_chk _ (fun hm => ?_)
  refine sr_aast (pc := 52) (t2 := (h41.1, (22, 0, (11 : Int32).toNatClampNeg, sr_r 0 11) :: h41.2)) (n := 32) (C9 := RX0) (T := TX0) (nn := 4) rfl (Or.inr ⟨rfl, rfl⟩) rfl rfl (by decide +kernel) (sr_mb_ok ((Bool.and_eq_true _ _).mp hm).1) (sr_mb_ok ((Bool.and_eq_true _ _).mp hm).2) (sr_e2_put _ _ _ _ _) (fun _ => ?_)
  refine sr_gh _ (fun h42 => ?_)
  refine sr_iinc (pc := 53) (i := 1) (n := 1) (w := 12) (by decide +kernel) rfl (by decide) (by decide) rfl rfl ?_
  refine sr_goto (pc := 56) (off := (-25)) (tg := 31) (by decide +kernel) (by decide) ?_
  refine sr_iloadn (pc := 31) (n := 1) (by decide +kernel) rfl ?_
  refine sr_aloadn (pc := 32) (n := 0) (by decide +kernel) rfl ?_
  refine sr_chk _ (fun hm => ?_)
  have hm2 := (Bool.and_eq_true _ _).mp hm
  refine sr_get (pc := 33) fg_6_11 (by decide +kernel) (sr_mb_ok hm2.1) (of_decide_eq_true hm2.2) ?_
  refine sr_chk _ (fun hm => ?_)
  refine sr_alen (pc := 36) (ty := 3) (n := 32) (v := 32) rfl (by decide) (by decide +kernel) (sr_mb_ok hm) (by decide) ?_
  refine sr_icmp_ge (pc := 37) (off := 22) (tg := 59) (by decide +kernel) (by decide) (fun hq => absurd hq (by decide)) (fun _ => ?_)
  refine sr_aloadn (pc := 40) (n := 0) (by decide +kernel) rfl ?_
  refine sr_chk _ (fun hm => ?_)
  have hm2 := (Bool.and_eq_true _ _).mp hm
  refine sr_get (pc := 41) fg_6_11 (by decide +kernel) (sr_mb_ok hm2.1) (of_decide_eq_true hm2.2) ?_
  refine sr_iloadn (pc := 44) (n := 1) (by decide +kernel) rfl ?_
  refine sr_new2 (pc := 45) (i := 12) (mc := 59) (ms := 1036) fn_6_9 (by decide +kernel) (fun h43 => ?_)
  refine sr_dup (pc := 48) (by decide +kernel) rfl ?_
  refine sr_callI (pc := 49) (As := []) (mc1 := 2) (ms1 := 48) (mc2 := 57) (ms2 := 988) (fx := sr_fk h43 2 (FC0_init 12 h43)) fm_6_17 (by decide +kernel) rm_6_init_0_init rfl rfl rfl (sr_fk_ok h43 2 (FC0_init 12 h43)) (sr_fk_T (CC0_init l 12 h43)) (sr_kV (fun h44 => ?_))
  refine sr_chk _ (fun hm => ?_)
  refine sr_aast (pc := 52) (t2 := (h44.1, (22, 0, (12 : Int32).toNatClampNeg, sr_r 0 12) :: h44.2)) (n := 32) (C9 := RX0) (T := TX0) (nn := 4) rfl (Or.inr ⟨rfl, rfl⟩) rfl rfl (by decide +kernel) (sr_mb_ok ((Bool.and_eq_true _ _).mp hm).1) (sr_mb_ok ((Bool.and_eq_true _ _).mp hm).2) (sr_e2_put _ _ _ _ _) (fun _ => ?_)
  refine sr_gh _ (fun h45 => ?_)
  refine sr_iinc (pc := 53) (i := 1) (n := 1) (w := 13) (by decide +kernel) rfl (by decide) (by decide) rfl rfl ?_
  refine sr_goto (pc := 56) (off := (-25)) (tg := 31) (by decide +kernel) (by decide) ?_
  refine sr_iloadn (pc := 31) (n := 1) (by decide +kernel) rfl ?_
  refine sr_aloadn (pc := 32) (n := 0) (by decide +kernel) rfl ?_
  refine sr_chk _ (fun hm => ?_)
  have hm2 := (Bool.and_eq_true _ _).mp hm
  refine sr_get (pc := 33) fg_6_11 (by decide +kernel) (sr_mb_ok hm2.1) (of_decide_eq_true hm2.2) ?_
  refine sr_chk _ (fun hm => ?_)
  refine sr_alen (pc := 36) (ty := 3) (n := 32) (v := 32) rfl (by decide) (by decide +kernel) (sr_mb_ok hm) (by decide) ?_
  refine sr_icmp_ge (pc := 37) (off := 22) (tg := 59) (by decide +kernel) (by decide) (fun hq => absurd hq (by decide)) (fun _ => ?_)
  refine sr_aloadn (pc := 40) (n := 0) (by decide +kernel) rfl ?_
  refine sr_chk _ (fun hm => ?_)
  have hm2 := (Bool.and_eq_true _ _).mp hm
  refine sr_get (pc := 41) fg_6_11 (by decide +kernel) (sr_mb_ok hm2.1) (of_decide_eq_true hm2.2) ?_
  refine sr_iloadn (pc := 44) (n := 1) (by decide +kernel) rfl ?_
  refine sr_new2 (pc := 45) (i := 13) (mc := 56) (ms := 984) fn_6_9 (by decide +kernel) (fun h46 => ?_)
  refine sr_dup (pc := 48) (by decide +kernel) rfl ?_
  refine sr_callI (pc := 49) (As := []) (mc1 := 2) (ms1 := 48) (mc2 := 54) (ms2 := 936) (fx := sr_fk h46 2 (FC0_init 13 h46)) fm_6_17 (by decide +kernel) rm_6_init_0_init rfl rfl rfl (sr_fk_ok h46 2 (FC0_init 13 h46)) (sr_fk_T (CC0_init l 13 h46)) (sr_kV (fun h47 => ?_))
  refine sr_chk _ (fun hm => ?_)
  refine sr_aast (pc := 52) (t2 := (h47.1, (22, 0, (13 : Int32).toNatClampNeg, sr_r 0 13) :: h47.2)) (n := 32) (C9 := RX0) (T := TX0) (nn := 4) rfl (Or.inr ⟨rfl, rfl⟩) rfl rfl (by decide +kernel) (sr_mb_ok ((Bool.and_eq_true _ _).mp hm).1) (sr_mb_ok ((Bool.and_eq_true _ _).mp hm).2) (sr_e2_put _ _ _ _ _) (fun _ => ?_)
  refine sr_gh _ (fun h48 => ?_)
  refine sr_iinc (pc := 53) (i := 1) (n := 1) (w := 14) (by decide +kernel) rfl (by decide) (by decide) rfl rfl ?_
  refine sr_goto (pc := 56) (off := (-25)) (tg := 31) (by decide +kernel) (by decide) ?_
  refine sr_iloadn (pc := 31) (n := 1) (by decide +kernel) rfl ?_
  refine sr_aloadn (pc := 32) (n := 0) (by decide +kernel) rfl ?_
  refine sr_chk _ (fun hm => ?_)
  have hm2 := (Bool.and_eq_true _ _).mp hm
  refine sr_get (pc := 33) fg_6_11 (by decide +kernel) (sr_mb_ok hm2.1) (of_decide_eq_true hm2.2) ?_
  refine sr_chk _ (fun hm => ?_)
  refine sr_alen (pc := 36) (ty := 3) (n := 32) (v := 32) rfl (by decide) (by decide +kernel) (sr_mb_ok hm) (by decide) ?_
  refine sr_icmp_ge (pc := 37) (off := 22) (tg := 59) (by decide +kernel) (by decide) (fun hq => absurd hq (by decide)) (fun _ => ?_)
  refine sr_aloadn (pc := 40) (n := 0) (by decide +kernel) rfl ?_
  refine sr_chk _ (fun hm => ?_)
  have hm2 := (Bool.and_eq_true _ _).mp hm
  refine sr_get (pc := 41) fg_6_11 (by decide +kernel) (sr_mb_ok hm2.1) (of_decide_eq_true hm2.2) ?_
  refine sr_iloadn (pc := 44) (n := 1) (by decide +kernel) rfl ?_
  refine sr_new2 (pc := 45) (i := 14) (mc := 53) (ms := 932) fn_6_9 (by decide +kernel) (fun h49 => ?_)
  refine sr_dup (pc := 48) (by decide +kernel) rfl ?_
  refine sr_callI (pc := 49) (As := []) (mc1 := 2) (ms1 := 48) (mc2 := 51) (ms2 := 884) (fx := sr_fk h49 2 (FC0_init 14 h49)) fm_6_17 (by decide +kernel) rm_6_init_0_init rfl rfl rfl (sr_fk_ok h49 2 (FC0_init 14 h49)) (sr_fk_T (CC0_init l 14 h49)) (sr_kV (fun h50 => ?_))
  refine sr_chk _ (fun hm => ?_)
  refine sr_aast (pc := 52) (t2 := (h50.1, (22, 0, (14 : Int32).toNatClampNeg, sr_r 0 14) :: h50.2)) (n := 32) (C9 := RX0) (T := TX0) (nn := 4) rfl (Or.inr ⟨rfl, rfl⟩) rfl rfl (by decide +kernel) (sr_mb_ok ((Bool.and_eq_true _ _).mp hm).1) (sr_mb_ok ((Bool.and_eq_true _ _).mp hm).2) (sr_e2_put _ _ _ _ _) (fun _ => ?_)
  refine sr_gh _ (fun h51 => ?_)
  refine sr_iinc (pc := 53) (i := 1) (n := 1) (w := 15) (by decide +kernel) rfl (by decide) (by decide) rfl rfl ?_
  refine sr_goto (pc := 56) (off := (-25)) (tg := 31) (by decide +kernel) (by decide) ?_
  refine sr_iloadn (pc := 31) (n := 1) (by decide +kernel) rfl ?_
  refine sr_aloadn (pc := 32) (n := 0) (by decide +kernel) rfl ?_
  refine sr_chk _ (fun hm => ?_)
  have hm2 := (Bool.and_eq_true _ _).mp hm
  refine sr_get (pc := 33) fg_6_11 (by decide +kernel) (sr_mb_ok hm2.1) (of_decide_eq_true hm2.2) ?_
  refine sr_chk _ (fun hm => ?_)
  refine sr_alen (pc := 36) (ty := 3) (n := 32) (v := 32) rfl (by decide) (by decide +kernel) (sr_mb_ok hm) (by decide) ?_
  refine sr_icmp_ge (pc := 37) (off := 22) (tg := 59) (by decide +kernel) (by decide) (fun hq => absurd hq (by decide)) (fun _ => ?_)
  refine sr_aloadn (pc := 40) (n := 0) (by decide +kernel) rfl ?_
  refine sr_chk _ (fun hm => ?_)
  have hm2 := (Bool.and_eq_true _ _).mp hm
  refine sr_get (pc := 41) fg_6_11 (by decide +kernel) (sr_mb_ok hm2.1) (of_decide_eq_true hm2.2) ?_
  refine sr_iloadn (pc := 44) (n := 1) (by decide +kernel) rfl ?_
  refine sr_new2 (pc := 45) (i := 15) (mc := 50) (ms := 880) fn_6_9 (by decide +kernel) (fun h52 => ?_)
  refine sr_dup (pc := 48) (by decide +kernel) rfl ?_
  refine sr_callI (pc := 49) (As := []) (mc1 := 2) (ms1 := 48) (mc2 := 48) (ms2 := 832) (fx := sr_fk h52 2 (FC0_init 15 h52)) fm_6_17 (by decide +kernel) rm_6_init_0_init rfl rfl rfl (sr_fk_ok h52 2 (FC0_init 15 h52)) (sr_fk_T (CC0_init l 15 h52)) (sr_kV (fun h53 => ?_))
  refine sr_chk _ (fun hm => ?_)
  refine sr_aast (pc := 52) (t2 := (h53.1, (22, 0, (15 : Int32).toNatClampNeg, sr_r 0 15) :: h53.2)) (n := 32) (C9 := RX0) (T := TX0) (nn := 4) rfl (Or.inr ⟨rfl, rfl⟩) rfl rfl (by decide +kernel) (sr_mb_ok ((Bool.and_eq_true _ _).mp hm).1) (sr_mb_ok ((Bool.and_eq_true _ _).mp hm).2) (sr_e2_put _ _ _ _ _) (fun _ => ?_)
  refine sr_gh _ (fun h54 => ?_)
  refine sr_iinc (pc := 53) (i := 1) (n := 1) (w := 16) (by decide +kernel) rfl (by decide) (by decide) rfl rfl ?_
  refine sr_goto (pc := 56) (off := (-25)) (tg := 31) (by decide +kernel) (by decide) ?_
  refine sr_iloadn (pc := 31) (n := 1) (by decide +kernel) rfl ?_
  refine sr_aloadn (pc := 32) (n := 0) (by decide +kernel) rfl ?_
  refine sr_chk _ (fun hm => ?_)
  have hm2 := (Bool.and_eq_true _ _).mp hm
  refine sr_get (pc := 33) fg_6_11 (by decide +kernel) (sr_mb_ok hm2.1) (of_decide_eq_true hm2.2) ?_
  refine sr_chk _ (fun hm => ?_)
  refine sr_alen (pc := 36) (ty := 3) (n := 32) (v := 32) rfl (by decide) (by decide +kernel) (sr_mb_ok hm) (by decide) ?_
  refine sr_icmp_ge (pc := 37) (off := 22) (tg := 59) (by decide +kernel) (by decide) (fun hq => absurd hq (by decide)) (fun _ => ?_)
  refine sr_aloadn (pc := 40) (n := 0) (by decide +kernel) rfl ?_
  refine sr_chk _ (fun hm => ?_)
  have hm2 := (Bool.and_eq_true _ _).mp hm
  refine sr_get (pc := 41) fg_6_11 (by decide +kernel) (sr_mb_ok hm2.1) (of_decide_eq_true hm2.2) ?_
  refine sr_iloadn (pc := 44) (n := 1) (by decide +kernel) rfl ?_
  refine sr_new2 (pc := 45) (i := 16) (mc := 47) (ms := 828) fn_6_9 (by decide +kernel) (fun h55 => ?_)
  refine sr_dup (pc := 48) (by decide +kernel) rfl ?_
  refine sr_callI (pc := 49) (As := []) (mc1 := 2) (ms1 := 48) (mc2 := 45) (ms2 := 780) (fx := sr_fk h55 2 (FC0_init 16 h55)) fm_6_17 (by decide +kernel) rm_6_init_0_init rfl rfl rfl (sr_fk_ok h55 2 (FC0_init 16 h55)) (sr_fk_T (CC0_init l 16 h55)) (sr_kV (fun h56 => ?_))
  refine sr_chk _ (fun hm => ?_)
  refine sr_aast (pc := 52) (t2 := (h56.1, (22, 0, (16 : Int32).toNatClampNeg, sr_r 0 16) :: h56.2)) (n := 32) (C9 := RX0) (T := TX0) (nn := 4) rfl (Or.inr ⟨rfl, rfl⟩) rfl rfl (by decide +kernel) (sr_mb_ok ((Bool.and_eq_true _ _).mp hm).1) (sr_mb_ok ((Bool.and_eq_true _ _).mp hm).2) (sr_e2_put _ _ _ _ _) (fun _ => ?_)
  refine sr_gh _ (fun h57 => ?_)
  refine sr_iinc (pc := 53) (i := 1) (n := 1) (w := 17) (by decide +kernel) rfl (by decide) (by decide) rfl rfl ?_
  refine sr_goto (pc := 56) (off := (-25)) (tg := 31) (by decide +kernel) (by decide) ?_
  refine sr_iloadn (pc := 31) (n := 1) (by decide +kernel) rfl ?_
  refine sr_aloadn (pc := 32) (n := 0) (by decide +kernel) rfl ?_
  refine sr_chk _ (fun hm => ?_)
  have hm2 := (Bool.and_eq_true _ _).mp hm
  refine sr_get (pc := 33) fg_6_11 (by decide +kernel) (sr_mb_ok hm2.1) (of_decide_eq_true hm2.2) ?_
  refine sr_chk _ (fun hm => ?_)
  refine sr_alen (pc := 36) (ty := 3) (n := 32) (v := 32) rfl (by decide) (by decide +kernel) (sr_mb_ok hm) (by decide) ?_
  refine sr_icmp_ge (pc := 37) (off := 22) (tg := 59) (by decide +kernel) (by decide) (fun hq => absurd hq (by decide)) (fun _ => ?_)
  refine sr_aloadn (pc := 40) (n := 0) (by decide +kernel) rfl ?_
  refine sr_chk _ (fun hm => ?_)
  have hm2 := (Bool.and_eq_true _ _).mp hm
  refine sr_get (pc := 41) fg_6_11 (by decide +kernel) (sr_mb_ok hm2.1) (of_decide_eq_true hm2.2) ?_
  refine sr_iloadn (pc := 44) (n := 1) (by decide +kernel) rfl ?_
  refine sr_new2 (pc := 45) (i := 17) (mc := 44) (ms := 776) fn_6_9 (by decide +kernel) (fun h58 => ?_)
  refine sr_dup (pc := 48) (by decide +kernel) rfl ?_
  refine sr_callI (pc := 49) (As := []) (mc1 := 2) (ms1 := 48) (mc2 := 42) (ms2 := 728) (fx := sr_fk h58 2 (FC0_init 17 h58)) fm_6_17 (by decide +kernel) rm_6_init_0_init rfl rfl rfl (sr_fk_ok h58 2 (FC0_init 17 h58)) (sr_fk_T (CC0_init l 17 h58)) (sr_kV (fun h59 => ?_))
  refine sr_chk _ (fun hm => ?_)
  refine sr_aast (pc := 52) (t2 := (h59.1, (22, 0, (17 : Int32).toNatClampNeg, sr_r 0 17) :: h59.2)) (n := 32) (C9 := RX0) (T := TX0) (nn := 4) rfl (Or.inr ⟨rfl, rfl⟩) rfl rfl (by decide +kernel) (sr_mb_ok ((Bool.and_eq_true _ _).mp hm).1) (sr_mb_ok ((Bool.and_eq_true _ _).mp hm).2) (sr_e2_put _ _ _ _ _) (fun _ => ?_)
  refine sr_gh _ (fun h60 => ?_)
  refine sr_iinc (pc := 53) (i := 1) (n := 1) (w := 18) (by decide +kernel) rfl (by decide) (by decide) rfl rfl ?_
  refine sr_goto (pc := 56) (off := (-25)) (tg := 31) (by decide +kernel) (by decide) ?_
  refine sr_iloadn (pc := 31) (n := 1) (by decide +kernel) rfl ?_
  refine sr_aloadn (pc := 32) (n := 0) (by decide +kernel) rfl ?_
  refine sr_chk _ (fun hm => ?_)
  have hm2 := (Bool.and_eq_true _ _).mp hm
  refine sr_get (pc := 33) fg_6_11 (by decide +kernel) (sr_mb_ok hm2.1) (of_decide_eq_true hm2.2) ?_
  refine sr_chk _ (fun hm => ?_)
  refine sr_alen (pc := 36) (ty := 3) (n := 32) (v := 32) rfl (by decide) (by decide +kernel) (sr_mb_ok hm) (by decide) ?_
  refine sr_icmp_ge (pc := 37) (off := 22) (tg := 59) (by decide +kernel) (by decide) (fun hq => absurd hq (by decide)) (fun _ => ?_)
  refine sr_aloadn (pc := 40) (n := 0) (by decide +kernel) rfl ?_
  refine sr_chk _ (fun hm => ?_)
  have hm2 := (Bool.and_eq_true _ _).mp hm
  refine sr_get (pc := 41) fg_6_11 (by decide +kernel) (sr_mb_ok hm2.1) (of_decide_eq_true hm2.2) ?_
  refine sr_iloadn (pc := 44) (n := 1) (by decide +kernel) rfl ?_
  refine sr_new2 (pc := 45) (i := 18) (mc := 41) (ms := 724) fn_6_9 (by decide +kernel) (fun h61 => ?_)
  refine sr_dup (pc := 48) (by decide +kernel) rfl ?_
  refine sr_callI (pc := 49) (As := []) (mc1 := 2) (ms1 := 48) (mc2 := 39) (ms2 := 676) (fx := sr_fk h61 2 (FC0_init 18 h61)) fm_6_17 (by decide +kernel) rm_6_init_0_init rfl rfl rfl (sr_fk_ok h61 2 (FC0_init 18 h61)) (sr_fk_T (CC0_init l 18 h61)) (sr_kV (fun h62 => ?_))
  refine sr_chk _ (fun hm => ?_)
  refine sr_aast (pc := 52) (t2 := (h62.1, (22, 0, (18 : Int32).toNatClampNeg, sr_r 0 18) :: h62.2)) (n := 32) (C9 := RX0) (T := TX0) (nn := 4) rfl (Or.inr ⟨rfl, rfl⟩) rfl rfl (by decide +kernel) (sr_mb_ok ((Bool.and_eq_true _ _).mp hm).1) (sr_mb_ok ((Bool.and_eq_true _ _).mp hm).2) (sr_e2_put _ _ _ _ _) (fun _ => ?_)
  refine sr_gh _ (fun h63 => ?_)
  refine sr_iinc (pc := 53) (i := 1) (n := 1) (w := 19) (by decide +kernel) rfl (by decide) (by decide) rfl rfl ?_
  refine sr_goto (pc := 56) (off := (-25)) (tg := 31) (by decide +kernel) (by decide) ?_
  refine sr_iloadn (pc := 31) (n := 1) (by decide +kernel) rfl ?_
  refine sr_aloadn (pc := 32) (n := 0) (by decide +kernel) rfl ?_
  refine sr_chk _ (fun hm => ?_)
  have hm2 := (Bool.and_eq_true _ _).mp hm
  refine sr_get (pc := 33) fg_6_11 (by decide +kernel) (sr_mb_ok hm2.1) (of_decide_eq_true hm2.2) ?_
  refine sr_chk _ (fun hm => ?_)
  refine sr_alen (pc := 36) (ty := 3) (n := 32) (v := 32) rfl (by decide) (by decide +kernel) (sr_mb_ok hm) (by decide) ?_
  refine sr_icmp_ge (pc := 37) (off := 22) (tg := 59) (by decide +kernel) (by decide) (fun hq => absurd hq (by decide)) (fun _ => ?_)
  refine sr_aloadn (pc := 40) (n := 0) (by decide +kernel) rfl ?_
  refine sr_chk _ (fun hm => ?_)
  have hm2 := (Bool.and_eq_true _ _).mp hm
  refine sr_get (pc := 41) fg_6_11 (by decide +kernel) (sr_mb_ok hm2.1) (of_decide_eq_true hm2.2) ?_
  refine sr_iloadn (pc := 44) (n := 1) (by decide +kernel) rfl ?_
  refine sr_new2 (pc := 45) (i := 19) (mc := 38) (ms := 672) fn_6_9 (by decide +kernel) (fun h64 => ?_)
  refine sr_dup (pc := 48) (by decide +kernel) rfl ?_
  refine sr_callI (pc := 49) (As := []) (mc1 := 2) (ms1 := 48) (mc2 := 36) (ms2 := 624) (fx := sr_fk h64 2 (FC0_init 19 h64)) fm_6_17 (by decide +kernel) rm_6_init_0_init rfl rfl rfl (sr_fk_ok h64 2 (FC0_init 19 h64)) (sr_fk_T (CC0_init l 19 h64)) (sr_kV (fun h65 => ?_))
  refine sr_chk _ (fun hm => ?_)
  refine sr_aast (pc := 52) (t2 := (h65.1, (22, 0, (19 : Int32).toNatClampNeg, sr_r 0 19) :: h65.2)) (n := 32) (C9 := RX0) (T := TX0) (nn := 4) rfl (Or.inr ⟨rfl, rfl⟩) rfl rfl (by decide +kernel) (sr_mb_ok ((Bool.and_eq_true _ _).mp hm).1) (sr_mb_ok ((Bool.and_eq_true _ _).mp hm).2) (sr_e2_put _ _ _ _ _) (fun _ => ?_)
  refine sr_gh _ (fun h66 => ?_)
  refine sr_iinc (pc := 53) (i := 1) (n := 1) (w := 20) (by decide +kernel) rfl (by decide) (by decide) rfl rfl ?_
  refine sr_goto (pc := 56) (off := (-25)) (tg := 31) (by decide +kernel) (by decide) ?_
  refine sr_iloadn (pc := 31) (n := 1) (by decide +kernel) rfl ?_
  refine sr_aloadn (pc := 32) (n := 0) (by decide +kernel) rfl ?_
  refine sr_chk _ (fun hm => ?_)
  have hm2 := (Bool.and_eq_true _ _).mp hm
  refine sr_get (pc := 33) fg_6_11 (by decide +kernel) (sr_mb_ok hm2.1) (of_decide_eq_true hm2.2) ?_
  refine sr_chk _ (fun hm => ?_)
  refine sr_alen (pc := 36) (ty := 3) (n := 32) (v := 32) rfl (by decide) (by decide +kernel) (sr_mb_ok hm) (by decide) ?_
  refine sr_icmp_ge (pc := 37) (off := 22) (tg := 59) (by decide +kernel) (by decide) (fun hq => absurd hq (by decide)) (fun _ => ?_)
  refine sr_aloadn (pc := 40) (n := 0) (by decide +kernel) rfl ?_
  refine sr_chk _ (fun hm => ?_)
  have hm2 := (Bool.and_eq_true _ _).mp hm
  refine sr_get (pc := 41) fg_6_11 (by decide +kernel) (sr_mb_ok hm2.1) (of_decide_eq_true hm2.2) ?_
  refine sr_iloadn (pc := 44) (n := 1) (by decide +kernel) rfl ?_
  refine sr_new2 (pc := 45) (i := 20) (mc := 35) (ms := 620) fn_6_9 (by decide +kernel) (fun h67 => ?_)
  refine sr_dup (pc := 48) (by decide +kernel) rfl ?_
  refine sr_callI (pc := 49) (As := []) (mc1 := 2) (ms1 := 48) (mc2 := 33) (ms2 := 572) (fx := sr_fk h67 2 (FC0_init 20 h67)) fm_6_17 (by decide +kernel) rm_6_init_0_init rfl rfl rfl (sr_fk_ok h67 2 (FC0_init 20 h67)) (sr_fk_T (CC0_init l 20 h67)) (sr_kV (fun h68 => ?_))
  refine sr_chk _ (fun hm => ?_)
  refine sr_aast (pc := 52) (t2 := (h68.1, (22, 0, (20 : Int32).toNatClampNeg, sr_r 0 20) :: h68.2)) (n := 32) (C9 := RX0) (T := TX0) (nn := 4) rfl (Or.inr ⟨rfl, rfl⟩) rfl rfl (by decide +kernel) (sr_mb_ok ((Bool.and_eq_true _ _).mp hm).1) (sr_mb_ok ((Bool.and_eq_true _ _).mp hm).2) (sr_e2_put _ _ _ _ _) (fun _ => ?_)
  refine sr_gh _ (fun h69 => ?_)
  refine sr_iinc (pc := 53) (i := 1) (n := 1) (w := 21) (by decide +kernel) rfl (by decide) (by decide) rfl rfl ?_
  refine sr_goto (pc := 56) (off := (-25)) (tg := 31) (by decide +kernel) (by decide) ?_
  refine sr_iloadn (pc := 31) (n := 1) (by decide +kernel) rfl ?_
  refine sr_aloadn (pc := 32) (n := 0) (by decide +kernel) rfl ?_
  refine sr_chk _ (fun hm => ?_)
  have hm2 := (Bool.and_eq_true _ _).mp hm
  refine sr_get (pc := 33) fg_6_11 (by decide +kernel) (sr_mb_ok hm2.1) (of_decide_eq_true hm2.2) ?_
  refine sr_chk _ (fun hm => ?_)
  refine sr_alen (pc := 36) (ty := 3) (n := 32) (v := 32) rfl (by decide) (by decide +kernel) (sr_mb_ok hm) (by decide) ?_
  refine sr_icmp_ge (pc := 37) (off := 22) (tg := 59) (by decide +kernel) (by decide) (fun hq => absurd hq (by decide)) (fun _ => ?_)
  refine sr_aloadn (pc := 40) (n := 0) (by decide +kernel) rfl ?_
  refine sr_chk _ (fun hm => ?_)
  have hm2 := (Bool.and_eq_true _ _).mp hm
  refine sr_get (pc := 41) fg_6_11 (by decide +kernel) (sr_mb_ok hm2.1) (of_decide_eq_true hm2.2) ?_
  refine sr_iloadn (pc := 44) (n := 1) (by decide +kernel) rfl ?_
  refine sr_new2 (pc := 45) (i := 21) (mc := 32) (ms := 568) fn_6_9 (by decide +kernel) (fun h70 => ?_)
  refine sr_dup (pc := 48) (by decide +kernel) rfl ?_
  refine sr_callI (pc := 49) (As := []) (mc1 := 2) (ms1 := 48) (mc2 := 30) (ms2 := 520) (fx := sr_fk h70 2 (FC0_init 21 h70)) fm_6_17 (by decide +kernel) rm_6_init_0_init rfl rfl rfl (sr_fk_ok h70 2 (FC0_init 21 h70)) (sr_fk_T (CC0_init l 21 h70)) (sr_kV (fun h71 => ?_))
  refine sr_chk _ (fun hm => ?_)
  refine sr_aast (pc := 52) (t2 := (h71.1, (22, 0, (21 : Int32).toNatClampNeg, sr_r 0 21) :: h71.2)) (n := 32) (C9 := RX0) (T := TX0) (nn := 4) rfl (Or.inr ⟨rfl, rfl⟩) rfl rfl (by decide +kernel) (sr_mb_ok ((Bool.and_eq_true _ _).mp hm).1) (sr_mb_ok ((Bool.and_eq_true _ _).mp hm).2) (sr_e2_put _ _ _ _ _) (fun _ => ?_)
  refine sr_gh _ (fun h72 => ?_)
  refine sr_iinc (pc := 53) (i := 1) (n := 1) (w := 22) (by decide +kernel) rfl (by decide) (by decide) rfl rfl ?_
  refine sr_goto (pc := 56) (off := (-25)) (tg := 31) (by decide +kernel) (by decide) ?_
  refine sr_iloadn (pc := 31) (n := 1) (by decide +kernel) rfl ?_
  refine sr_aloadn (pc := 32) (n := 0) (by decide +kernel) rfl ?_
  refine sr_chk _ (fun hm => ?_)
  have hm2 := (Bool.and_eq_true _ _).mp hm
  refine sr_get (pc := 33) fg_6_11 (by decide +kernel) (sr_mb_ok hm2.1) (of_decide_eq_true hm2.2) ?_
  refine sr_chk _ (fun hm => ?_)
  refine sr_alen (pc := 36) (ty := 3) (n := 32) (v := 32) rfl (by decide) (by decide +kernel) (sr_mb_ok hm) (by decide) ?_
  refine sr_icmp_ge (pc := 37) (off := 22) (tg := 59) (by decide +kernel) (by decide) (fun hq => absurd hq (by decide)) (fun _ => ?_)
  refine sr_aloadn (pc := 40) (n := 0) (by decide +kernel) rfl ?_
  refine sr_chk _ (fun hm => ?_)
  have hm2 := (Bool.and_eq_true _ _).mp hm
  refine sr_get (pc := 41) fg_6_11 (by decide +kernel) (sr_mb_ok hm2.1) (of_decide_eq_true hm2.2) ?_
  refine sr_iloadn (pc := 44) (n := 1) (by decide +kernel) rfl ?_
  refine sr_new2 (pc := 45) (i := 22) (mc := 29) (ms := 516) fn_6_9 (by decide +kernel) (fun h73 => ?_)
  refine sr_dup (pc := 48) (by decide +kernel) rfl ?_
  refine sr_callI (pc := 49) (As := []) (mc1 := 2) (ms1 := 48) (mc2 := 27) (ms2 := 468) (fx := sr_fk h73 2 (FC0_init 22 h73)) fm_6_17 (by decide +kernel) rm_6_init_0_init rfl rfl rfl (sr_fk_ok h73 2 (FC0_init 22 h73)) (sr_fk_T (CC0_init l 22 h73)) (sr_kV (fun h74 => ?_))
  refine sr_chk _ (fun hm => ?_)
  refine sr_aast (pc := 52) (t2 := (h74.1, (22, 0, (22 : Int32).toNatClampNeg, sr_r 0 22) :: h74.2)) (n := 32) (C9 := RX0) (T := TX0) (nn := 4) rfl (Or.inr ⟨rfl, rfl⟩) rfl rfl (by decide +kernel) (sr_mb_ok ((Bool.and_eq_true _ _).mp hm).1) (sr_mb_ok ((Bool.and_eq_true _ _).mp hm).2) (sr_e2_put _ _ _ _ _) (fun _ => ?_)
  refine sr_gh _ (fun h75 => ?_)
  refine sr_iinc (pc := 53) (i := 1) (n := 1) (w := 23) (by decide +kernel) rfl (by decide) (by decide) rfl rfl ?_
  refine sr_goto (pc := 56) (off := (-25)) (tg := 31) (by decide +kernel) (by decide) ?_
  refine sr_iloadn (pc := 31) (n := 1) (by decide +kernel) rfl ?_
  refine sr_aloadn (pc := 32) (n := 0) (by decide +kernel) rfl ?_
  refine sr_chk _ (fun hm => ?_)
  have hm2 := (Bool.and_eq_true _ _).mp hm
  refine sr_get (pc := 33) fg_6_11 (by decide +kernel) (sr_mb_ok hm2.1) (of_decide_eq_true hm2.2) ?_
  refine sr_chk _ (fun hm => ?_)
  refine sr_alen (pc := 36) (ty := 3) (n := 32) (v := 32) rfl (by decide) (by decide +kernel) (sr_mb_ok hm) (by decide) ?_
  refine sr_icmp_ge (pc := 37) (off := 22) (tg := 59) (by decide +kernel) (by decide) (fun hq => absurd hq (by decide)) (fun _ => ?_)
  refine sr_aloadn (pc := 40) (n := 0) (by decide +kernel) rfl ?_
  refine sr_chk _ (fun hm => ?_)
  have hm2 := (Bool.and_eq_true _ _).mp hm
  refine sr_get (pc := 41) fg_6_11 (by decide +kernel) (sr_mb_ok hm2.1) (of_decide_eq_true hm2.2) ?_
  refine sr_iloadn (pc := 44) (n := 1) (by decide +kernel) rfl ?_
  refine sr_new2 (pc := 45) (i := 23) (mc := 26) (ms := 464) fn_6_9 (by decide +kernel) (fun h76 => ?_)
  refine sr_dup (pc := 48) (by decide +kernel) rfl ?_
  refine sr_callI (pc := 49) (As := []) (mc1 := 2) (ms1 := 48) (mc2 := 24) (ms2 := 416) (fx := sr_fk h76 2 (FC0_init 23 h76)) fm_6_17 (by decide +kernel) rm_6_init_0_init rfl rfl rfl (sr_fk_ok h76 2 (FC0_init 23 h76)) (sr_fk_T (CC0_init l 23 h76)) (sr_kV (fun h77 => ?_))
  refine sr_chk _ (fun hm => ?_)
  refine sr_aast (pc := 52) (t2 := (h77.1, (22, 0, (23 : Int32).toNatClampNeg, sr_r 0 23) :: h77.2)) (n := 32) (C9 := RX0) (T := TX0) (nn := 4) rfl (Or.inr ⟨rfl, rfl⟩) rfl rfl (by decide +kernel) (sr_mb_ok ((Bool.and_eq_true _ _).mp hm).1) (sr_mb_ok ((Bool.and_eq_true _ _).mp hm).2) (sr_e2_put _ _ _ _ _) (fun _ => ?_)
  refine sr_gh _ (fun h78 => ?_)
  refine sr_iinc (pc := 53) (i := 1) (n := 1) (w := 24) (by decide +kernel) rfl (by decide) (by decide) rfl rfl ?_
  refine sr_goto (pc := 56) (off := (-25)) (tg := 31) (by decide +kernel) (by decide) ?_
  refine sr_iloadn (pc := 31) (n := 1) (by decide +kernel) rfl ?_
  refine sr_aloadn (pc := 32) (n := 0) (by decide +kernel) rfl ?_
  refine sr_chk _ (fun hm => ?_)
  have hm2 := (Bool.and_eq_true _ _).mp hm
  refine sr_get (pc := 33) fg_6_11 (by decide +kernel) (sr_mb_ok hm2.1) (of_decide_eq_true hm2.2) ?_
  refine sr_chk _ (fun hm => ?_)
  refine sr_alen (pc := 36) (ty := 3) (n := 32) (v := 32) rfl (by decide) (by decide +kernel) (sr_mb_ok hm) (by decide) ?_
  refine sr_icmp_ge (pc := 37) (off := 22) (tg := 59) (by decide +kernel) (by decide) (fun hq => absurd hq (by decide)) (fun _ => ?_)
  refine sr_aloadn (pc := 40) (n := 0) (by decide +kernel) rfl ?_
  refine sr_chk _ (fun hm => ?_)
  have hm2 := (Bool.and_eq_true _ _).mp hm
  refine sr_get (pc := 41) fg_6_11 (by decide +kernel) (sr_mb_ok hm2.1) (of_decide_eq_true hm2.2) ?_
  refine sr_iloadn (pc := 44) (n := 1) (by decide +kernel) rfl ?_
  refine sr_new2 (pc := 45) (i := 24) (mc := 23) (ms := 412) fn_6_9 (by decide +kernel) (fun h79 => ?_)
  refine sr_dup (pc := 48) (by decide +kernel) rfl ?_
  refine sr_callI (pc := 49) (As := []) (mc1 := 2) (ms1 := 48) (mc2 := 21) (ms2 := 364) (fx := sr_fk h79 2 (FC0_init 24 h79)) fm_6_17 (by decide +kernel) rm_6_init_0_init rfl rfl rfl (sr_fk_ok h79 2 (FC0_init 24 h79)) (sr_fk_T (CC0_init l 24 h79)) (sr_kV (fun h80 => ?_))
  refine sr_chk _ (fun hm => ?_)
  refine sr_aast (pc := 52) (t2 := (h80.1, (22, 0, (24 : Int32).toNatClampNeg, sr_r 0 24) :: h80.2)) (n := 32) (C9 := RX0) (T := TX0) (nn := 4) rfl (Or.inr ⟨rfl, rfl⟩) rfl rfl (by decide +kernel) (sr_mb_ok ((Bool.and_eq_true _ _).mp hm).1) (sr_mb_ok ((Bool.and_eq_true _ _).mp hm).2) (sr_e2_put _ _ _ _ _) (fun _ => ?_)
  refine sr_gh _ (fun h81 => ?_)
  refine sr_iinc (pc := 53) (i := 1) (n := 1) (w := 25) (by decide +kernel) rfl (by decide) (by decide) rfl rfl ?_
  refine sr_goto (pc := 56) (off := (-25)) (tg := 31) (by decide +kernel) (by decide) ?_
  refine sr_iloadn (pc := 31) (n := 1) (by decide +kernel) rfl ?_
  refine sr_aloadn (pc := 32) (n := 0) (by decide +kernel) rfl ?_
  refine sr_chk _ (fun hm => ?_)
  have hm2 := (Bool.and_eq_true _ _).mp hm
  refine sr_get (pc := 33) fg_6_11 (by decide +kernel) (sr_mb_ok hm2.1) (of_decide_eq_true hm2.2) ?_
  refine sr_chk _ (fun hm => ?_)
  refine sr_alen (pc := 36) (ty := 3) (n := 32) (v := 32) rfl (by decide) (by decide +kernel) (sr_mb_ok hm) (by decide) ?_
  refine sr_icmp_ge (pc := 37) (off := 22) (tg := 59) (by decide +kernel) (by decide) (fun hq => absurd hq (by decide)) (fun _ => ?_)
  refine sr_aloadn (pc := 40) (n := 0) (by decide +kernel) rfl ?_
  refine sr_chk _ (fun hm => ?_)
  have hm2 := (Bool.and_eq_true _ _).mp hm
  refine sr_get (pc := 41) fg_6_11 (by decide +kernel) (sr_mb_ok hm2.1) (of_decide_eq_true hm2.2) ?_
  refine sr_iloadn (pc := 44) (n := 1) (by decide +kernel) rfl ?_
  refine sr_new2 (pc := 45) (i := 25) (mc := 20) (ms := 360) fn_6_9 (by decide +kernel) (fun h82 => ?_)
  refine sr_dup (pc := 48) (by decide +kernel) rfl ?_
  refine sr_callI (pc := 49) (As := []) (mc1 := 2) (ms1 := 48) (mc2 := 18) (ms2 := 312) (fx := sr_fk h82 2 (FC0_init 25 h82)) fm_6_17 (by decide +kernel) rm_6_init_0_init rfl rfl rfl (sr_fk_ok h82 2 (FC0_init 25 h82)) (sr_fk_T (CC0_init l 25 h82)) (sr_kV (fun h83 => ?_))
  refine sr_chk _ (fun hm => ?_)
  refine sr_aast (pc := 52) (t2 := (h83.1, (22, 0, (25 : Int32).toNatClampNeg, sr_r 0 25) :: h83.2)) (n := 32) (C9 := RX0) (T := TX0) (nn := 4) rfl (Or.inr ⟨rfl, rfl⟩) rfl rfl (by decide +kernel) (sr_mb_ok ((Bool.and_eq_true _ _).mp hm).1) (sr_mb_ok ((Bool.and_eq_true _ _).mp hm).2) (sr_e2_put _ _ _ _ _) (fun _ => ?_)
  refine sr_gh _ (fun h84 => ?_)
  refine sr_iinc (pc := 53) (i := 1) (n := 1) (w := 26) (by decide +kernel) rfl (by decide) (by decide) rfl rfl ?_
  refine sr_goto (pc := 56) (off := (-25)) (tg := 31) (by decide +kernel) (by decide) ?_
  refine sr_iloadn (pc := 31) (n := 1) (by decide +kernel) rfl ?_
  refine sr_aloadn (pc := 32) (n := 0) (by decide +kernel) rfl ?_
  refine sr_chk _ (fun hm => ?_)
  have hm2 := (Bool.and_eq_true _ _).mp hm
  refine sr_get (pc := 33) fg_6_11 (by decide +kernel) (sr_mb_ok hm2.1) (of_decide_eq_true hm2.2) ?_
  refine sr_chk _ (fun hm => ?_)
  refine sr_alen (pc := 36) (ty := 3) (n := 32) (v := 32) rfl (by decide) (by decide +kernel) (sr_mb_ok hm) (by decide) ?_
  refine sr_icmp_ge (pc := 37) (off := 22) (tg := 59) (by decide +kernel) (by decide) (fun hq => absurd hq (by decide)) (fun _ => ?_)
  refine sr_aloadn (pc := 40) (n := 0) (by decide +kernel) rfl ?_
  refine sr_chk _ (fun hm => ?_)
  have hm2 := (Bool.and_eq_true _ _).mp hm
  refine sr_get (pc := 41) fg_6_11 (by decide +kernel) (sr_mb_ok hm2.1) (of_decide_eq_true hm2.2) ?_
  refine sr_iloadn (pc := 44) (n := 1) (by decide +kernel) rfl ?_
  refine sr_new2 (pc := 45) (i := 26) (mc := 17) (ms := 308) fn_6_9 (by decide +kernel) (fun h85 => ?_)
  refine sr_dup (pc := 48) (by decide +kernel) rfl ?_
  refine sr_callI (pc := 49) (As := []) (mc1 := 2) (ms1 := 48) (mc2 := 15) (ms2 := 260) (fx := sr_fk h85 2 (FC0_init 26 h85)) fm_6_17 (by decide +kernel) rm_6_init_0_init rfl rfl rfl (sr_fk_ok h85 2 (FC0_init 26 h85)) (sr_fk_T (CC0_init l 26 h85)) (sr_kV (fun h86 => ?_))
  refine sr_chk _ (fun hm => ?_)
  refine sr_aast (pc := 52) (t2 := (h86.1, (22, 0, (26 : Int32).toNatClampNeg, sr_r 0 26) :: h86.2)) (n := 32) (C9 := RX0) (T := TX0) (nn := 4) rfl (Or.inr ⟨rfl, rfl⟩) rfl rfl (by decide +kernel) (sr_mb_ok ((Bool.and_eq_true _ _).mp hm).1) (sr_mb_ok ((Bool.and_eq_true _ _).mp hm).2) (sr_e2_put _ _ _ _ _) (fun _ => ?_)
  refine sr_gh _ (fun h87 => ?_)
  refine sr_iinc (pc := 53) (i := 1) (n := 1) (w := 27) (by decide +kernel) rfl (by decide) (by decide) rfl rfl ?_
  refine sr_goto (pc := 56) (off := (-25)) (tg := 31) (by decide +kernel) (by decide) ?_
  refine sr_iloadn (pc := 31) (n := 1) (by decide +kernel) rfl ?_
  refine sr_aloadn (pc := 32) (n := 0) (by decide +kernel) rfl ?_
  refine sr_chk _ (fun hm => ?_)
  have hm2 := (Bool.and_eq_true _ _).mp hm
  refine sr_get (pc := 33) fg_6_11 (by decide +kernel) (sr_mb_ok hm2.1) (of_decide_eq_true hm2.2) ?_
  refine sr_chk _ (fun hm => ?_)
  refine sr_alen (pc := 36) (ty := 3) (n := 32) (v := 32) rfl (by decide) (by decide +kernel) (sr_mb_ok hm) (by decide) ?_
  refine sr_icmp_ge (pc := 37) (off := 22) (tg := 59) (by decide +kernel) (by decide) (fun hq => absurd hq (by decide)) (fun _ => ?_)
  refine sr_aloadn (pc := 40) (n := 0) (by decide +kernel) rfl ?_
  refine sr_chk _ (fun hm => ?_)
  have hm2 := (Bool.and_eq_true _ _).mp hm
  refine sr_get (pc := 41) fg_6_11 (by decide +kernel) (sr_mb_ok hm2.1) (of_decide_eq_true hm2.2) ?_
  refine sr_iloadn (pc := 44) (n := 1) (by decide +kernel) rfl ?_
  refine sr_new2 (pc := 45) (i := 27) (mc := 14) (ms := 256) fn_6_9 (by decide +kernel) (fun h88 => ?_)
  refine sr_dup (pc := 48) (by decide +kernel) rfl ?_
  refine sr_callI (pc := 49) (As := []) (mc1 := 2) (ms1 := 48) (mc2 := 12) (ms2 := 208) (fx := sr_fk h88 2 (FC0_init 27 h88)) fm_6_17 (by decide +kernel) rm_6_init_0_init rfl rfl rfl (sr_fk_ok h88 2 (FC0_init 27 h88)) (sr_fk_T (CC0_init l 27 h88)) (sr_kV (fun h89 => ?_))
  refine sr_chk _ (fun hm => ?_)
  refine sr_aast (pc := 52) (t2 := (h89.1, (22, 0, (27 : Int32).toNatClampNeg, sr_r 0 27) :: h89.2)) (n := 32) (C9 := RX0) (T := TX0) (nn := 4) rfl (Or.inr ⟨rfl, rfl⟩) rfl rfl (by decide +kernel) (sr_mb_ok ((Bool.and_eq_true _ _).mp hm).1) (sr_mb_ok ((Bool.and_eq_true _ _).mp hm).2) (sr_e2_put _ _ _ _ _) (fun _ => ?_)
  refine sr_gh _ (fun h90 => ?_)
  refine sr_iinc (pc := 53) (i := 1) (n := 1) (w := 28) (by decide +kernel) rfl (by decide) (by decide) rfl rfl ?_
  refine sr_goto (pc := 56) (off := (-25)) (tg := 31) (by decide +kernel) (by decide) ?_
  refine sr_iloadn (pc := 31) (n := 1) (by decide +kernel) rfl ?_
  refine sr_aloadn (pc := 32) (n := 0) (by decide +kernel) rfl ?_
  refine sr_chk _ (fun hm => ?_)
  have hm2 := (Bool.and_eq_true _ _).mp hm
  refine sr_get (pc := 33) fg_6_11 (by decide +kernel) (sr_mb_ok hm2.1) (of_decide_eq_true hm2.2) ?_
  refine sr_chk _ (fun hm => ?_)
  refine sr_alen (pc := 36) (ty := 3) (n := 32) (v := 32) rfl (by decide) (by decide +kernel) (sr_mb_ok hm) (by decide) ?_
  refine sr_icmp_ge (pc := 37) (off := 22) (tg := 59) (by decide +kernel) (by decide) (fun hq => absurd hq (by decide)) (fun _ => ?_)
  refine sr_aloadn (pc := 40) (n := 0) (by decide +kernel) rfl ?_
  refine sr_chk _ (fun hm => ?_)
  have hm2 := (Bool.and_eq_true _ _).mp hm
  refine sr_get (pc := 41) fg_6_11 (by decide +kernel) (sr_mb_ok hm2.1) (of_decide_eq_true hm2.2) ?_
  refine sr_iloadn (pc := 44) (n := 1) (by decide +kernel) rfl ?_
  refine sr_new2 (pc := 45) (i := 28) (mc := 11) (ms := 204) fn_6_9 (by decide +kernel) (fun h91 => ?_)
  refine sr_dup (pc := 48) (by decide +kernel) rfl ?_
  refine sr_callI (pc := 49) (As := []) (mc1 := 2) (ms1 := 48) (mc2 := 9) (ms2 := 156) (fx := sr_fk h91 2 (FC0_init 28 h91)) fm_6_17 (by decide +kernel) rm_6_init_0_init rfl rfl rfl (sr_fk_ok h91 2 (FC0_init 28 h91)) (sr_fk_T (CC0_init l 28 h91)) (sr_kV (fun h92 => ?_))
  refine sr_chk _ (fun hm => ?_)
  refine sr_aast (pc := 52) (t2 := (h92.1, (22, 0, (28 : Int32).toNatClampNeg, sr_r 0 28) :: h92.2)) (n := 32) (C9 := RX0) (T := TX0) (nn := 4) rfl (Or.inr ⟨rfl, rfl⟩) rfl rfl (by decide +kernel) (sr_mb_ok ((Bool.and_eq_true _ _).mp hm).1) (sr_mb_ok ((Bool.and_eq_true _ _).mp hm).2) (sr_e2_put _ _ _ _ _) (fun _ => ?_)
  refine sr_gh _ (fun h93 => ?_)
  refine sr_iinc (pc := 53) (i := 1) (n := 1) (w := 29) (by decide +kernel) rfl (by decide) (by decide) rfl rfl ?_
  refine sr_goto (pc := 56) (off := (-25)) (tg := 31) (by decide +kernel) (by decide) ?_
  refine sr_iloadn (pc := 31) (n := 1) (by decide +kernel) rfl ?_
  refine sr_aloadn (pc := 32) (n := 0) (by decide +kernel) rfl ?_
  refine sr_chk _ (fun hm => ?_)
  have hm2 := (Bool.and_eq_true _ _).mp hm
  refine sr_get (pc := 33) fg_6_11 (by decide +kernel) (sr_mb_ok hm2.1) (of_decide_eq_true hm2.2) ?_
  refine sr_chk _ (fun hm => ?_)
  refine sr_alen (pc := 36) (ty := 3) (n := 32) (v := 32) rfl (by decide) (by decide +kernel) (sr_mb_ok hm) (by decide) ?_
  refine sr_icmp_ge (pc := 37) (off := 22) (tg := 59) (by decide +kernel) (by decide) (fun hq => absurd hq (by decide)) (fun _ => ?_)
  refine sr_aloadn (pc := 40) (n := 0) (by decide +kernel) rfl ?_
  refine sr_chk _ (fun hm => ?_)
  have hm2 := (Bool.and_eq_true _ _).mp hm
  refine sr_get (pc := 41) fg_6_11 (by decide +kernel) (sr_mb_ok hm2.1) (of_decide_eq_true hm2.2) ?_
  refine sr_iloadn (pc := 44) (n := 1) (by decide +kernel) rfl ?_
  refine sr_new2 (pc := 45) (i := 29) (mc := 8) (ms := 152) fn_6_9 (by decide +kernel) (fun h94 => ?_)
  refine sr_dup (pc := 48) (by decide +kernel) rfl ?_
  refine sr_callI (pc := 49) (As := []) (mc1 := 2) (ms1 := 48) (mc2 := 6) (ms2 := 104) (fx := sr_fk h94 2 (FC0_init 29 h94)) fm_6_17 (by decide +kernel) rm_6_init_0_init rfl rfl rfl (sr_fk_ok h94 2 (FC0_init 29 h94)) (sr_fk_T (CC0_init l 29 h94)) (sr_kV (fun h95 => ?_))
  refine sr_chk _ (fun hm => ?_)
  refine sr_aast (pc := 52) (t2 := (h95.1, (22, 0, (29 : Int32).toNatClampNeg, sr_r 0 29) :: h95.2)) (n := 32) (C9 := RX0) (T := TX0) (nn := 4) rfl (Or.inr ⟨rfl, rfl⟩) rfl rfl (by decide +kernel) (sr_mb_ok ((Bool.and_eq_true _ _).mp hm).1) (sr_mb_ok ((Bool.and_eq_true _ _).mp hm).2) (sr_e2_put _ _ _ _ _) (fun _ => ?_)
  refine sr_gh _ (fun h96 => ?_)
  refine sr_iinc (pc := 53) (i := 1) (n := 1) (w := 30) (by decide +kernel) rfl (by decide) (by decide) rfl rfl ?_
  refine sr_goto (pc := 56) (off := (-25)) (tg := 31) (by decide +kernel) (by decide) ?_
  refine sr_iloadn (pc := 31) (n := 1) (by decide +kernel) rfl ?_
  refine sr_aloadn (pc := 32) (n := 0) (by decide +kernel) rfl ?_
  refine sr_chk _ (fun hm => ?_)
  have hm2 := (Bool.and_eq_true _ _).mp hm
  refine sr_get (pc := 33) fg_6_11 (by decide +kernel) (sr_mb_ok hm2.1) (of_decide_eq_true hm2.2) ?_
  refine sr_chk _ (fun hm => ?_)
  refine sr_alen (pc := 36) (ty := 3) (n := 32) (v := 32) rfl (by decide) (by decide +kernel) (sr_mb_ok hm) (by decide) ?_
  refine sr_icmp_ge (pc := 37) (off := 22) (tg := 59) (by decide +kernel) (by decide) (fun hq => absurd hq (by decide)) (fun _ => ?_)
  refine sr_aloadn (pc := 40) (n := 0) (by decide +kernel) rfl ?_
  refine sr_chk _ (fun hm => ?_)
  have hm2 := (Bool.and_eq_true _ _).mp hm
  refine sr_get (pc := 41) fg_6_11 (by decide +kernel) (sr_mb_ok hm2.1) (of_decide_eq_true hm2.2) ?_
  refine sr_iloadn (pc := 44) (n := 1) (by decide +kernel) rfl ?_
  refine sr_new2 (pc := 45) (i := 30) (mc := 5) (ms := 100) fn_6_9 (by decide +kernel) (fun h97 => ?_)
  refine sr_dup (pc := 48) (by decide +kernel) rfl ?_
  refine sr_callI (pc := 49) (As := []) (mc1 := 2) (ms1 := 48) (mc2 := 3) (ms2 := 52) (fx := sr_fk h97 2 (FC0_init 30 h97)) fm_6_17 (by decide +kernel) rm_6_init_0_init rfl rfl rfl (sr_fk_ok h97 2 (FC0_init 30 h97)) (sr_fk_T (CC0_init l 30 h97)) (sr_kV (fun h98 => ?_))
  refine sr_chk _ (fun hm => ?_)
  refine sr_aast (pc := 52) (t2 := (h98.1, (22, 0, (30 : Int32).toNatClampNeg, sr_r 0 30) :: h98.2)) (n := 32) (C9 := RX0) (T := TX0) (nn := 4) rfl (Or.inr ⟨rfl, rfl⟩) rfl rfl (by decide +kernel) (sr_mb_ok ((Bool.and_eq_true _ _).mp hm).1) (sr_mb_ok ((Bool.and_eq_true _ _).mp hm).2) (sr_e2_put _ _ _ _ _) (fun _ => ?_)
  refine sr_gh _ (fun h99 => ?_)
  refine sr_iinc (pc := 53) (i := 1) (n := 1) (w := 31) (by decide +kernel) rfl (by decide) (by decide) rfl rfl ?_
  refine sr_goto (pc := 56) (off := (-25)) (tg := 31) (by decide +kernel) (by decide) ?_
  refine sr_iloadn (pc := 31) (n := 1) (by decide +kernel) rfl ?_
  refine sr_aloadn (pc := 32) (n := 0) (by decide +kernel) rfl ?_
  refine sr_chk _ (fun hm => ?_)
  have hm2 := (Bool.and_eq_true _ _).mp hm
  refine sr_get (pc := 33) fg_6_11 (by decide +kernel) (sr_mb_ok hm2.1) (of_decide_eq_true hm2.2) ?_
  refine sr_chk _ (fun hm => ?_)
  refine sr_alen (pc := 36) (ty := 3) (n := 32) (v := 32) rfl (by decide) (by decide +kernel) (sr_mb_ok hm) (by decide) ?_
  refine sr_icmp_ge (pc := 37) (off := 22) (tg := 59) (by decide +kernel) (by decide) (fun hq => absurd hq (by decide)) (fun _ => ?_)
  refine sr_aloadn (pc := 40) (n := 0) (by decide +kernel) rfl ?_
  refine sr_chk _ (fun hm => ?_)
  have hm2 := (Bool.and_eq_true _ _).mp hm
  refine sr_get (pc := 41) fg_6_11 (by decide +kernel) (sr_mb_ok hm2.1) (of_decide_eq_true hm2.2) ?_
  refine sr_iloadn (pc := 44) (n := 1) (by decide +kernel) rfl ?_
  refine sr_new2 (pc := 45) (i := 31) (mc := 2) (ms := 48) fn_6_9 (by decide +kernel) (fun h100 => ?_)
  refine sr_dup (pc := 48) (by decide +kernel) rfl ?_
  refine sr_callI (pc := 49) (As := []) (mc1 := 2) (ms1 := 48) (mc2 := 0) (ms2 := 0) (fx := sr_fk h100 2 (FC0_init 31 h100)) fm_6_17 (by decide +kernel) rm_6_init_0_init rfl rfl rfl (sr_fk_ok h100 2 (FC0_init 31 h100)) (sr_fk_T (CC0_init l 31 h100)) (sr_kV (fun h101 => ?_))
  refine sr_chk _ (fun hm => ?_)
  refine sr_aast (pc := 52) (t2 := (h101.1, (22, 0, (31 : Int32).toNatClampNeg, sr_r 0 31) :: h101.2)) (n := 32) (C9 := RX0) (T := TX0) (nn := 4) rfl (Or.inr ⟨rfl, rfl⟩) rfl rfl (by decide +kernel) (sr_mb_ok ((Bool.and_eq_true _ _).mp hm).1) (sr_mb_ok ((Bool.and_eq_true _ _).mp hm).2) (sr_e2_put _ _ _ _ _) (fun _ => ?_)
  refine sr_gh _ (fun h102 => ?_)
  refine sr_iinc (pc := 53) (i := 1) (n := 1) (w := 32) (by decide +kernel) rfl (by decide) (by decide) rfl rfl ?_
  refine sr_goto (pc := 56) (off := (-25)) (tg := 31) (by decide +kernel) (by decide) ?_
  refine sr_iloadn (pc := 31) (n := 1) (by decide +kernel) rfl ?_
  refine sr_aloadn (pc := 32) (n := 0) (by decide +kernel) rfl ?_
  refine sr_chk _ (fun hm => ?_)
  have hm2 := (Bool.and_eq_true _ _).mp hm
  refine sr_get (pc := 33) fg_6_11 (by decide +kernel) (sr_mb_ok hm2.1) (of_decide_eq_true hm2.2) ?_
  refine sr_chk _ (fun hm => ?_)
  refine sr_alen (pc := 36) (ty := 3) (n := 32) (v := 32) rfl (by decide) (by decide +kernel) (sr_mb_ok hm) (by decide) ?_
  refine sr_icmp_ge (pc := 37) (off := 22) (tg := 59) (by decide +kernel) (by decide) (fun _ => ?_) (fun hq => absurd (by decide) hq)
  exact sr_ret (pc := 59) (by decide +kernel) rfl
def FC8_init (i0 : Nat) (i1 : Nat) (t : sr_c) : sr_R2 := (sr_if (sr_mb t 8 i0) (sr_lh (t.1, (8, i0, 6, sr_i (-4)) :: t.2) (fun h1 => (sr_nw h1 14 i0 (fun h2 => (sr_if (sr_mb h2 8 i0) (sr_lh (h2.1, (8, i0, 15, sr_r 14 i0) :: h2.2) (fun h3 => (sr_nw h3 4 (104 + i0) (fun h4 => (sr_bd (sr_nt (sr_fk h4 1 (FC4_init (104 + i0) h4))) (sr_dV (fun h5 => (sr_if (sr_mb h5 8 i0) (sr_lh (h5.1, (8, i0, 16, sr_r 4 (104 + i0)) :: h5.2) (fun h6 => (sr_if (sr_mb h6 8 i0) (sr_lh (h6.1, (8, i0, 0, sr_r 3 i1) :: h6.2) (fun h7 => (sr_if (sr_mb h7 3 i1 && decide (sr_lk h7.2 3 i1 1 = sr_r 2 (25 * i1 + 24))) (sr_if (sr_mb h7 8 i0) (sr_lh (h7.1, (8, i0, 3, sr_r 2 (25 * i1 + 24)) :: h7.2) (fun h8 => (some (.inl none, h8)))))))))))))))))))))))))
theorem CC8_init (l : Launch) (i0 : Nat) (i1 : Nat) (t : sr_c) : sr_T sr_e2 l sr_m8_init [sr_r 8 i0, sr_r 3 i1] t (FC8_init i0 i1 t) 3 810 := by
  refine sr_T_of (L0 := [some (sr_r 8 i0), some (sr_r 3 i1)]) rfl (by decide +kernel) (fun _ => rfl) (fun _ => Nat.le_of_ble_eq_true rfl) ?_
  unfold FC8_init
  refine sr_aloadn (pc := 0) (n := 0) (by decide +kernel) rfl ?_
  refine sr_objI (pc := 1) (idx := 3) (by decide +kernel) (sr_tb (n := 247) (by decide +kernel) rfl) oi_1 oi_2 (by decide) (by decide) rfl ?_
  refine sr_aloadn (pc := 4) (n := 0) (by decide +kernel) rfl ?_
  refine sr_bipush (pc := 5) (n := (-4)) (v := (-4)) (by decide +kernel) (by decide) ?_
  refine sr_chk _ (fun hm => ?_)
  refine sr_put (pc := 7) (t2 := (t.1, (8, i0, 6, sr_i (-4)) :: t.2)) fg_8_9 ft_8_6 (by decide +kernel) (sr_mb_ok hm) ⟨_, rfl⟩ (fun hq => nomatch hq) (sr_e2_put _ _ _ _ _) ?_
  refine sr_gh _ (fun h1 => ?_)
  refine sr_aloadn (pc := 10) (n := 0) (by decide +kernel) rfl ?_
  refine sr_sipush (pc := 11) (n := 800) (v := 800) (by decide +kernel) (by decide) ?_
  refine sr_newa2 (pc := 14) (k := 14) (n := 800) (i := i0) (at' := .int) (mc := 2) (ms := 10) rfl (Or.inl ⟨rfl, rfl⟩) ac_int (by decide +kernel) (fun _ => rfl) (by decide) (by decide) (by decide) (fun h2 => ?_)
  refine sr_chk _ (fun hm => ?_)
  refine sr_put (pc := 16) (t2 := (h2.1, (8, i0, 15, sr_r 14 i0) :: h2.2)) fg_8_15 ft_8_15 (by decide +kernel) (sr_mb_ok hm) ⟨_, _, rfl⟩ (fun _ => ⟨rfl, RX8, TX8, rfl, rfl, sr_tb (n := 282) (by decide +kernel) rfl⟩) (sr_e2_put _ _ _ _ _) ?_
  refine sr_gh _ (fun h3 => ?_)
  refine sr_aloadn (pc := 19) (n := 0) (by decide +kernel) rfl ?_
  refine sr_new2 (pc := 20) (i := (104 + i0)) (mc := 1) (ms := 8) fn_8_19 (by decide +kernel) (fun h4 => ?_)
  refine sr_dup (pc := 23) (by decide +kernel) rfl ?_
  refine sr_callI (pc := 24) (As := []) (mc1 := 1) (ms1 := 8) (mc2 := 0) (ms2 := 0) (fx := sr_fk h4 1 (FC4_init (104 + i0) h4)) fm_8_21 (by decide +kernel) rm_8_init_4_init rfl rfl rfl (sr_fk_ok h4 1 (FC4_init (104 + i0) h4)) (sr_fk_T (CC4_init l (104 + i0) h4)) (sr_kV (fun h5 => ?_))
  refine sr_chk _ (fun hm => ?_)
  refine sr_put (pc := 27) (t2 := (h5.1, (8, i0, 16, sr_r 4 (104 + i0)) :: h5.2)) fg_8_22 ft_8_16 (by decide +kernel) (sr_mb_ok hm) ⟨_, _, rfl⟩ (fun _ => ⟨rfl, RX8, TX8, rfl, rfl, sr_tb (n := 283) (by decide +kernel) rfl⟩) (sr_e2_put _ _ _ _ _) ?_
  refine sr_gh _ (fun h6 => ?_)
  refine sr_aloadn (pc := 30) (n := 0) (by decide +kernel) rfl ?_
  refine sr_aloadn (pc := 31) (n := 1) (by decide +kernel) rfl ?_
  refine sr_chk _ (fun hm => ?_)
  refine sr_put (pc := 32) (t2 := (h6.1, (8, i0, 0, sr_r 3 i1) :: h6.2)) fg_8_26 ft_8_0 (by decide +kernel) (sr_mb_ok hm) ⟨_, _, rfl⟩ (fun hq => nomatch hq) (sr_e2_put _ _ _ _ _) ?_
  refine sr_gh _ (fun h7 => ?_)
  refine sr_aloadn (pc := 35) (n := 0) (by decide +kernel) rfl ?_
  refine sr_aloadn (pc := 36) (n := 1) (by decide +kernel) rfl ?_
  refine sr_chk _ (fun hm => ?_)
  have hm2 := (Bool.and_eq_true _ _).mp hm
  refine sr_get (pc := 37) fg_8_30 (by decide +kernel) (sr_mb_ok hm2.1) (of_decide_eq_true hm2.2) ?_
  refine sr_chk _ (fun hm => ?_)
  refine sr_put (pc := 40) (t2 := (h7.1, (8, i0, 3, sr_r 2 (25 * i1 + 24)) :: h7.2)) fg_8_36 ft_8_3 (by decide +kernel) (sr_mb_ok hm) ⟨_, _, rfl⟩ (fun hq => nomatch hq) (sr_e2_put _ _ _ _ _) ?_
  refine sr_gh _ (fun h8 => ?_)
  exact sr_ret (pc := 43) (by decide +kernel) rfl
def FC5_init (i1 : Nat) (t : sr_c) : sr_R2 := (sr_nw t 15 0 (fun h1 => (sr_if (sr_mb h1 5 0) (sr_lh (h1.1, (5, 0, 1, sr_r 15 0) :: h1.2) (fun h2 => (sr_nw h2 16 0 (fun h3 => (sr_if (sr_mb h3 5 0) (sr_lh (h3.1, (5, 0, 2, sr_r 16 0) :: h3.2) (fun h4 => (sr_nw h4 8 2 (fun h5 => (sr_bd (sr_nt (sr_fk h5 3 (FC8_init 2 i1 h5))) (sr_dV (fun h6 => (sr_if (sr_mb h6 5 0) (sr_lh (h6.1, (5, 0, 0, sr_r 8 2) :: h6.2) (fun h7 => (some (.inl none, h7))))))))))))))))))))
theorem CC5_init (l : Launch) (i1 : Nat) (t : sr_c) : sr_T sr_e2 l sr_m5_init [sr_r 5 0, sr_r 3 i1] t (FC5_init i1 t) 6 1427 := by
  refine sr_T_of (L0 := [some (sr_r 5 0), some (sr_r 3 i1)]) rfl (by decide +kernel) (fun _ => rfl) (fun _ => Nat.le_of_ble_eq_true rfl) ?_
  unfold FC5_init
  refine sr_aloadn (pc := 0) (n := 0) (by decide +kernel) rfl ?_
  refine sr_objI (pc := 1) (idx := 3) (by decide +kernel) (sr_tb (n := 325) (by decide +kernel) rfl) oi_1 oi_2 (by decide) (by decide) rfl ?_
  refine sr_aloadn (pc := 4) (n := 0) (by decide +kernel) rfl ?_
  refine sr_bipush (pc := 5) (n := 24) (v := 24) (by decide +kernel) (by decide) ?_
  refine sr_newa2 (pc := 7) (k := 15) (n := 24) (i := 0) (at' := .int) (mc := 5) (ms := 1403) rfl (Or.inl ⟨rfl, rfl⟩) ac_int (by decide +kernel) (fun _ => rfl) (by decide) (by decide) (by decide) (fun h1 => ?_)
  refine sr_chk _ (fun hm => ?_)
  refine sr_put (pc := 9) (t2 := (h1.1, (5, 0, 1, sr_r 15 0) :: h1.2)) fg_5_9 ft_5_1 (by decide +kernel) (sr_mb_ok hm) ⟨_, _, rfl⟩ (fun _ => ⟨rfl, RX5, TX5, rfl, rfl, sr_tb (n := 329) (by decide +kernel) rfl⟩) (sr_e2_put _ _ _ _ _) ?_
  refine sr_gh _ (fun h2 => ?_)
  refine sr_aloadn (pc := 12) (n := 0) (by decide +kernel) rfl ?_
  refine sr_sipush (pc := 13) (n := 576) (v := 576) (by decide +kernel) (by decide) ?_
  refine sr_newa2 (pc := 16) (k := 16) (n := 576) (i := 0) (at' := .int) (mc := 4) (ms := 827) rfl (Or.inl ⟨rfl, rfl⟩) ac_int (by decide +kernel) (fun _ => rfl) (by decide) (by decide) (by decide) (fun h3 => ?_)
  refine sr_chk _ (fun hm => ?_)
  refine sr_put (pc := 18) (t2 := (h3.1, (5, 0, 2, sr_r 16 0) :: h3.2)) fg_5_15 ft_5_2 (by decide +kernel) (sr_mb_ok hm) ⟨_, _, rfl⟩ (fun _ => ⟨rfl, RX5, TX5, rfl, rfl, sr_tb (n := 330) (by decide +kernel) rfl⟩) (sr_e2_put _ _ _ _ _) ?_
  refine sr_gh _ (fun h4 => ?_)
  refine sr_aloadn (pc := 21) (n := 0) (by decide +kernel) rfl ?_
  refine sr_new2 (pc := 22) (i := 2) (mc := 3) (ms := 810) fn_5_18 (by decide +kernel) (fun h5 => ?_)
  refine sr_dup (pc := 25) (by decide +kernel) rfl ?_
  refine sr_aloadn (pc := 26) (n := 1) (by decide +kernel) rfl ?_
  refine sr_callI (pc := 27) (As := [sr_r 3 i1]) (mc1 := 3) (ms1 := 810) (mc2 := 0) (ms2 := 0) (fx := sr_fk h5 3 (FC8_init 2 i1 h5)) fm_5_20 (by decide +kernel) rm_5_init_8_init rfl rfl rfl (sr_fk_ok h5 3 (FC8_init 2 i1 h5)) (sr_fk_T (CC8_init l 2 i1 h5)) (sr_kV (fun h6 => ?_))
  refine sr_chk _ (fun hm => ?_)
  refine sr_put (pc := 30) (t2 := (h6.1, (5, 0, 0, sr_r 8 2) :: h6.2)) fg_5_23 ft_5_0 (by decide +kernel) (sr_mb_ok hm) ⟨_, _, rfl⟩ (fun _ => ⟨rfl, RX5, TX5, rfl, rfl, sr_tb (n := 328) (by decide +kernel) rfl⟩) (sr_e2_put _ _ _ _ _) ?_
  refine sr_gh _ (fun h7 => ?_)
  exact sr_ret (pc := 33) (by decide +kernel) rfl
def FC1_init  (t : sr_c) : sr_R2 := (sr_nw t 3 1 (fun h1 => (sr_bd (sr_nt (sr_fk h1 156 (FC3_init 1 h1))) (sr_dV (fun h2 => (sr_if (sr_mb h2 1 0) (sr_lh (h2.1, (1, 0, 0, sr_r 3 1) :: h2.2) (fun h3 => (sr_if (sr_mb h3 1 0) (sr_lh (h3.1, (1, 0, 1, sr_r 5 0) :: h3.2) (fun h4 => (some (.inl none, h4)))))))))))))
theorem CC1_init (l : Launch)  (t : sr_c) : sr_T sr_e2 l sr_m1_init [sr_r 1 0, sr_r 5 0] t (FC1_init  t) 157 831 := by
  refine sr_T_of (L0 := [some (sr_r 1 0), some (sr_r 5 0)]) rfl (by decide +kernel) (fun _ => rfl) (fun _ => Nat.le_of_ble_eq_true rfl) ?_
  unfold FC1_init
  refine sr_aloadn (pc := 0) (n := 0) (by decide +kernel) rfl ?_
  refine sr_objI (pc := 1) (idx := 3) (by decide +kernel) (sr_tb (n := 378) (by decide +kernel) rfl) oi_1 oi_2 (by decide) (by decide) rfl ?_
  refine sr_aloadn (pc := 4) (n := 0) (by decide +kernel) rfl ?_
  refine sr_new2 (pc := 5) (i := 1) (mc := 156) (ms := 822) fn_1_9 (by decide +kernel) (fun h1 => ?_)
  refine sr_dup (pc := 8) (by decide +kernel) rfl ?_
  refine sr_callI (pc := 9) (As := []) (mc1 := 156) (ms1 := 822) (mc2 := 0) (ms2 := 0) (fx := sr_fk h1 156 (FC3_init 1 h1)) fm_1_11 (by decide +kernel) rm_1_init_3_init rfl rfl rfl (sr_fk_ok h1 156 (FC3_init 1 h1)) (sr_fk_T (CC3_init l 1 h1)) (sr_kV (fun h2 => ?_))
  refine sr_chk _ (fun hm => ?_)
  refine sr_put (pc := 12) (t2 := (h2.1, (1, 0, 0, sr_r 3 1) :: h2.2)) fg_1_12 ft_1_0 (by decide +kernel) (sr_mb_ok hm) ⟨_, _, rfl⟩ (fun _ => ⟨rfl, RX1, TX1, rfl, rfl, sr_tb (n := 381) (by decide +kernel) rfl⟩) (sr_e2_put _ _ _ _ _) ?_
  refine sr_gh _ (fun h3 => ?_)
  refine sr_aloadn (pc := 15) (n := 0) (by decide +kernel) rfl ?_
  refine sr_aloadn (pc := 16) (n := 1) (by decide +kernel) rfl ?_
  refine sr_chk _ (fun hm => ?_)
  refine sr_put (pc := 17) (t2 := (h3.1, (1, 0, 1, sr_r 5 0) :: h3.2)) fg_1_18 ft_1_1 (by decide +kernel) (sr_mb_ok hm) ⟨_, _, rfl⟩ (fun _ => ⟨rfl, RX1, TX1, rfl, rfl, sr_tb (n := 382) (by decide +kernel) rfl⟩) (sr_e2_put _ _ _ _ _) ?_
  refine sr_gh _ (fun h4 => ?_)
  exact sr_ret (pc := 20) (by decide +kernel) rfl
def FC9_init  (t : sr_c) : sr_R2 := (sr_nw t 17 0 (fun h1 => (sr_if (sr_mb h1 9 0) (sr_lh (h1.1, (9, 0, 0, sr_r 17 0) :: h1.2) (fun h2 => (sr_nw h2 18 0 (fun h3 => (sr_if (sr_mb h3 9 0) (sr_lh (h3.1, (9, 0, 1, sr_r 18 0) :: h3.2) (fun h4 => (sr_nw h4 19 0 (fun h5 => (sr_if (sr_mb h5 9 0) (sr_lh (h5.1, (9, 0, 2, sr_r 19 0) :: h5.2) (fun h6 => (some (.inl none, h6)))))))))))))))))
theorem CC9_init (l : Launch)  (t : sr_c) : sr_T sr_e2 l sr_m9_init [sr_r 9 0] t (FC9_init  t) 3 120 := by
  refine sr_T_of (L0 := [some (sr_r 9 0)]) rfl (by decide +kernel) (fun _ => rfl) (fun _ => Nat.le_of_ble_eq_true rfl) ?_
  unfold FC9_init
  refine sr_aloadn (pc := 0) (n := 0) (by decide +kernel) rfl ?_
  refine sr_objI (pc := 1) (idx := 3) (by decide +kernel) (sr_tb (n := 393) (by decide +kernel) rfl) oi_1 oi_2 (by decide) (by decide) rfl ?_
  refine sr_aloadn (pc := 4) (n := 0) (by decide +kernel) rfl ?_
  refine sr_bipush (pc := 5) (n := 24) (v := 24) (by decide +kernel) (by decide) ?_
  refine sr_newa2 (pc := 7) (k := 17) (n := 24) (i := 0) (at' := .int) (mc := 2) (ms := 96) rfl (Or.inl ⟨rfl, rfl⟩) ac_int (by decide +kernel) (fun _ => rfl) (by decide) (by decide) (by decide) (fun h1 => ?_)
  refine sr_chk _ (fun hm => ?_)
  refine sr_put (pc := 9) (t2 := (h1.1, (9, 0, 0, sr_r 17 0) :: h1.2)) fg_9_9 ft_9_0 (by decide +kernel) (sr_mb_ok hm) ⟨_, _, rfl⟩ (fun _ => ⟨rfl, RX9, TX9, rfl, rfl, sr_tb (n := 394) (by decide +kernel) rfl⟩) (sr_e2_put _ _ _ _ _) ?_
  refine sr_gh _ (fun h2 => ?_)
  refine sr_aloadn (pc := 12) (n := 0) (by decide +kernel) rfl ?_
  refine sr_bipush (pc := 13) (n := 48) (v := 48) (by decide +kernel) (by decide) ?_
  refine sr_newa2 (pc := 15) (k := 18) (n := 48) (i := 0) (at' := .long) (mc := 1) (ms := 48) rfl (Or.inr ⟨rfl, rfl⟩) ac_long (by decide +kernel) (fun _ => rfl) (by decide) (by decide) (by decide) (fun h3 => ?_)
  refine sr_chk _ (fun hm => ?_)
  refine sr_put (pc := 17) (t2 := (h3.1, (9, 0, 1, sr_r 18 0) :: h3.2)) fg_9_15 ft_9_1 (by decide +kernel) (sr_mb_ok hm) ⟨_, _, rfl⟩ (fun _ => ⟨rfl, RX9, TX9, rfl, rfl, sr_tb (n := 395) (by decide +kernel) rfl⟩) (sr_e2_put _ _ _ _ _) ?_
  refine sr_gh _ (fun h4 => ?_)
  refine sr_aloadn (pc := 20) (n := 0) (by decide +kernel) rfl ?_
  refine sr_bipush (pc := 21) (n := 48) (v := 48) (by decide +kernel) (by decide) ?_
  refine sr_newa2 (pc := 23) (k := 19) (n := 48) (i := 0) (at' := .int) (mc := 0) (ms := 0) rfl (Or.inl ⟨rfl, rfl⟩) ac_int (by decide +kernel) (fun _ => rfl) (by decide) (by decide) (by decide) (fun h5 => ?_)
  refine sr_chk _ (fun hm => ?_)
  refine sr_put (pc := 25) (t2 := (h5.1, (9, 0, 2, sr_r 19 0) :: h5.2)) fg_9_19 ft_9_2 (by decide +kernel) (sr_mb_ok hm) ⟨_, _, rfl⟩ (fun _ => ⟨rfl, RX9, TX9, rfl, rfl, sr_tb (n := 396) (by decide +kernel) rfl⟩) (sr_e2_put _ _ _ _ _) ?_
  refine sr_gh _ (fun h6 => ?_)
  exact sr_ret (pc := 28) (by decide +kernel) rfl
def FC10_init  (t : sr_c) : sr_R2 := (sr_nw t 3 0 (fun h1 => (sr_bd (sr_nt (sr_fk h1 156 (FC3_init 0 h1))) (sr_dV (fun h2 => (sr_if (sr_mb h2 10 0) (sr_lh (h2.1, (10, 0, 0, sr_r 3 0) :: h2.2) (fun h3 => (sr_nw h3 6 0 (fun h4 => (sr_bd (sr_nt (sr_fk h4 100 (FC6_init h4))) (sr_dV (fun h5 => (sr_if (sr_mb h5 10 0) (sr_lh (h5.1, (10, 0, 1, sr_r 6 0) :: h5.2) (fun h6 => (sr_nw h6 8 0 (fun h7 => (sr_if (sr_mb h7 10 0 && decide (sr_lk h7.2 10 0 0 = sr_r 3 0)) (sr_bd (sr_nt (sr_fk h7 3 (FC8_init 0 0 h7))) (sr_dV (fun h8 => (sr_if (sr_mb h8 10 0) (sr_lh (h8.1, (10, 0, 2, sr_r 8 0) :: h8.2) (fun h9 => (sr_nw h9 8 1 (fun h10 => (sr_if (sr_mb h10 10 0 && decide (sr_lk h10.2 10 0 0 = sr_r 3 0)) (sr_bd (sr_nt (sr_fk h10 3 (FC8_init 1 0 h10))) (sr_dV (fun h11 => (sr_if (sr_mb h11 10 0) (sr_lh (h11.1, (10, 0, 3, sr_r 8 1) :: h11.2) (fun h12 => (sr_nw h12 5 0 (fun h13 => (sr_if (sr_mb h13 10 0 && decide (sr_lk h13.2 10 0 0 = sr_r 3 0)) (sr_bd (sr_nt (sr_fk h13 6 (FC5_init 0 h13))) (sr_dV (fun h14 => (sr_if (sr_mb h14 10 0) (sr_lh (h14.1, (10, 0, 4, sr_r 5 0) :: h14.2) (fun h15 => (sr_nw h15 1 0 (fun h16 => (sr_if (sr_mb h16 10 0 && decide (sr_lk h16.2 10 0 4 = sr_r 5 0)) (sr_bd (sr_nt (sr_fk h16 157 (FC1_init h16))) (sr_dV (fun h17 => (sr_if (sr_mb h17 10 0) (sr_lh (h17.1, (10, 0, 5, sr_r 1 0) :: h17.2) (fun h18 => (sr_nw h18 9 0 (fun h19 => (sr_bd (sr_nt (sr_fk h19 3 (FC9_init h19))) (sr_dV (fun h20 => (sr_if (sr_mb h20 10 0) (sr_lh (h20.1, (10, 0, 6, sr_r 9 0) :: h20.2) (fun h21 => (some (.inl none, h21))))))))))))))))))))))))))))))))))))))))))))))))))))))))))))))
theorem CC10_init (l : Launch)  (t : sr_c) : sr_T sr_e2 l sr_m10_init [sr_r 10 0] t (FC10_init  t) 435 6632 := by
  refine sr_T_of (L0 := [some (sr_r 10 0)]) rfl (by decide +kernel) (fun _ => rfl) (fun _ => Nat.le_of_ble_eq_true rfl) ?_
  unfold FC10_init
  refine sr_aloadn (pc := 0) (n := 0) (by decide +kernel) rfl ?_
  refine sr_objI (pc := 1) (idx := 3) (by decide +kernel) (sr_tb (n := 28) (by decide +kernel) rfl) oi_1 oi_2 (by decide) (by decide) rfl ?_
  refine sr_aloadn (pc := 4) (n := 0) (by decide +kernel) rfl ?_
  refine sr_new2 (pc := 5) (i := 0) (mc := 434) (ms := 6623) fn_10_9 (by decide +kernel) (fun h1 => ?_)
  refine sr_dup (pc := 8) (by decide +kernel) rfl ?_
  refine sr_callI (pc := 9) (As := []) (mc1 := 156) (ms1 := 822) (mc2 := 278) (ms2 := 5801) (fx := sr_fk h1 156 (FC3_init 0 h1)) fm_10_11 (by decide +kernel) rm_10_init_3_init rfl rfl rfl (sr_fk_ok h1 156 (FC3_init 0 h1)) (sr_fk_T (CC3_init l 0 h1)) (sr_kV (fun h2 => ?_))
  refine sr_chk _ (fun hm => ?_)
  refine sr_put (pc := 12) (t2 := (h2.1, (10, 0, 0, sr_r 3 0) :: h2.2)) fg_10_12 ft_10_0 (by decide +kernel) (sr_mb_ok hm) ⟨_, _, rfl⟩ (fun _ => ⟨rfl, RX10, TX10, rfl, rfl, sr_tb (n := 405) (by decide +kernel) rfl⟩) (sr_e2_put _ _ _ _ _) ?_
  refine sr_gh _ (fun h3 => ?_)
  refine sr_aloadn (pc := 15) (n := 0) (by decide +kernel) rfl ?_
  refine sr_new2 (pc := 16) (i := 0) (mc := 277) (ms := 5796) fn_10_16 (by decide +kernel) (fun h4 => ?_)
  refine sr_dup (pc := 19) (by decide +kernel) rfl ?_
  refine sr_callI (pc := 20) (As := []) (mc1 := 100) (ms1 := 1748) (mc2 := 177) (ms2 := 4048) (fx := sr_fk h4 100 (FC6_init h4)) fm_10_18 (by decide +kernel) rm_10_init_6_init rfl rfl rfl (sr_fk_ok h4 100 (FC6_init h4)) (sr_fk_T (CC6_init l h4)) (sr_kV (fun h5 => ?_))
  refine sr_chk _ (fun hm => ?_)
  refine sr_put (pc := 23) (t2 := (h5.1, (10, 0, 1, sr_r 6 0) :: h5.2)) fg_10_19 ft_10_1 (by decide +kernel) (sr_mb_ok hm) ⟨_, _, rfl⟩ (fun _ => ⟨rfl, RX10, TX10, rfl, rfl, sr_tb (n := 406) (by decide +kernel) rfl⟩) (sr_e2_put _ _ _ _ _) ?_
  refine sr_gh _ (fun h6 => ?_)
  refine sr_aloadn (pc := 26) (n := 0) (by decide +kernel) rfl ?_
  refine sr_new2 (pc := 27) (i := 0) (mc := 176) (ms := 4031) fn_10_23 (by decide +kernel) (fun h7 => ?_)
  refine sr_dup (pc := 30) (by decide +kernel) rfl ?_
  refine sr_aloadn (pc := 31) (n := 0) (by decide +kernel) rfl ?_
  refine sr_chk _ (fun hm => ?_)
  have hm2 := (Bool.and_eq_true _ _).mp hm
  refine sr_get (pc := 32) fg_10_12 (by decide +kernel) (sr_mb_ok hm2.1) (of_decide_eq_true hm2.2) ?_
  refine sr_callI (pc := 35) (As := [sr_r 3 0]) (mc1 := 3) (ms1 := 810) (mc2 := 173) (ms2 := 3221) (fx := sr_fk h7 3 (FC8_init 0 0 h7)) fm_10_25 (by decide +kernel) rm_10_init_8_init rfl rfl rfl (sr_fk_ok h7 3 (FC8_init 0 0 h7)) (sr_fk_T (CC8_init l 0 0 h7)) (sr_kV (fun h8 => ?_))
  refine sr_chk _ (fun hm => ?_)
  refine sr_put (pc := 38) (t2 := (h8.1, (10, 0, 2, sr_r 8 0) :: h8.2)) fg_10_28 ft_10_2 (by decide +kernel) (sr_mb_ok hm) ⟨_, _, rfl⟩ (fun _ => ⟨rfl, RX10, TX10, rfl, rfl, sr_tb (n := 407) (by decide +kernel) rfl⟩) (sr_e2_put _ _ _ _ _) ?_
  refine sr_gh _ (fun h9 => ?_)
  refine sr_aloadn (pc := 41) (n := 0) (by decide +kernel) rfl ?_
  refine sr_new2 (pc := 42) (i := 1) (mc := 172) (ms := 3204) fn_10_23 (by decide +kernel) (fun h10 => ?_)
  refine sr_dup (pc := 45) (by decide +kernel) rfl ?_
  refine sr_aloadn (pc := 46) (n := 0) (by decide +kernel) rfl ?_
  refine sr_chk _ (fun hm => ?_)
  have hm2 := (Bool.and_eq_true _ _).mp hm
  refine sr_get (pc := 47) fg_10_12 (by decide +kernel) (sr_mb_ok hm2.1) (of_decide_eq_true hm2.2) ?_
  refine sr_callI (pc := 50) (As := [sr_r 3 0]) (mc1 := 3) (ms1 := 810) (mc2 := 169) (ms2 := 2394) (fx := sr_fk h10 3 (FC8_init 1 0 h10)) fm_10_25 (by decide +kernel) rm_10_init_8_init rfl rfl rfl (sr_fk_ok h10 3 (FC8_init 1 0 h10)) (sr_fk_T (CC8_init l 1 0 h10)) (sr_kV (fun h11 => ?_))
  refine sr_chk _ (fun hm => ?_)
  refine sr_put (pc := 53) (t2 := (h11.1, (10, 0, 3, sr_r 8 1) :: h11.2)) fg_10_32 ft_10_3 (by decide +kernel) (sr_mb_ok hm) ⟨_, _, rfl⟩ (fun _ => ⟨rfl, RX10, TX10, rfl, rfl, sr_tb (n := 408) (by decide +kernel) rfl⟩) (sr_e2_put _ _ _ _ _) ?_
  refine sr_gh _ (fun h12 => ?_)
  refine sr_aloadn (pc := 56) (n := 0) (by decide +kernel) rfl ?_
  refine sr_new2 (pc := 57) (i := 0) (mc := 168) (ms := 2383) fn_10_35 (by decide +kernel) (fun h13 => ?_)
  refine sr_dup (pc := 60) (by decide +kernel) rfl ?_
  refine sr_aloadn (pc := 61) (n := 0) (by decide +kernel) rfl ?_
  refine sr_chk _ (fun hm => ?_)
  have hm2 := (Bool.and_eq_true _ _).mp hm
  refine sr_get (pc := 62) fg_10_12 (by decide +kernel) (sr_mb_ok hm2.1) (of_decide_eq_true hm2.2) ?_
  refine sr_callI (pc := 65) (As := [sr_r 3 0]) (mc1 := 6) (ms1 := 1427) (mc2 := 162) (ms2 := 956) (fx := sr_fk h13 6 (FC5_init 0 h13)) fm_10_37 (by decide +kernel) rm_10_init_5_init rfl rfl rfl (sr_fk_ok h13 6 (FC5_init 0 h13)) (sr_fk_T (CC5_init l 0 h13)) (sr_kV (fun h14 => ?_))
  refine sr_chk _ (fun hm => ?_)
  refine sr_put (pc := 68) (t2 := (h14.1, (10, 0, 4, sr_r 5 0) :: h14.2)) fg_10_38 ft_10_4 (by decide +kernel) (sr_mb_ok hm) ⟨_, _, rfl⟩ (fun _ => ⟨rfl, RX10, TX10, rfl, rfl, sr_tb (n := 409) (by decide +kernel) rfl⟩) (sr_e2_put _ _ _ _ _) ?_
  refine sr_gh _ (fun h15 => ?_)
  refine sr_aloadn (pc := 71) (n := 0) (by decide +kernel) rfl ?_
  refine sr_new2 (pc := 72) (i := 0) (mc := 161) (ms := 954) fn_10_42 (by decide +kernel) (fun h16 => ?_)
  refine sr_dup (pc := 75) (by decide +kernel) rfl ?_
  refine sr_aloadn (pc := 76) (n := 0) (by decide +kernel) rfl ?_
  refine sr_chk _ (fun hm => ?_)
  have hm2 := (Bool.and_eq_true _ _).mp hm
  refine sr_get (pc := 77) fg_10_38 (by decide +kernel) (sr_mb_ok hm2.1) (of_decide_eq_true hm2.2) ?_
  refine sr_callI (pc := 80) (As := [sr_r 5 0]) (mc1 := 157) (ms1 := 831) (mc2 := 4) (ms2 := 123) (fx := sr_fk h16 157 (FC1_init h16)) fm_10_44 (by decide +kernel) rm_10_init_1_init rfl rfl rfl (sr_fk_ok h16 157 (FC1_init h16)) (sr_fk_T (CC1_init l h16)) (sr_kV (fun h17 => ?_))
  refine sr_chk _ (fun hm => ?_)
  refine sr_put (pc := 83) (t2 := (h17.1, (10, 0, 5, sr_r 1 0) :: h17.2)) fg_10_47 ft_10_5 (by decide +kernel) (sr_mb_ok hm) ⟨_, _, rfl⟩ (fun _ => ⟨rfl, RX10, TX10, rfl, rfl, sr_tb (n := 410) (by decide +kernel) rfl⟩) (sr_e2_put _ _ _ _ _) ?_
  refine sr_gh _ (fun h18 => ?_)
  refine sr_aloadn (pc := 86) (n := 0) (by decide +kernel) rfl ?_
  refine sr_new2 (pc := 87) (i := 0) (mc := 3) (ms := 120) fn_10_51 (by decide +kernel) (fun h19 => ?_)
  refine sr_dup (pc := 90) (by decide +kernel) rfl ?_
  refine sr_callI (pc := 91) (As := []) (mc1 := 3) (ms1 := 120) (mc2 := 0) (ms2 := 0) (fx := sr_fk h19 3 (FC9_init h19)) fm_10_53 (by decide +kernel) rm_10_init_9_init rfl rfl rfl (sr_fk_ok h19 3 (FC9_init h19)) (sr_fk_T (CC9_init l h19)) (sr_kV (fun h20 => ?_))
  refine sr_chk _ (fun hm => ?_)
  refine sr_put (pc := 94) (t2 := (h20.1, (10, 0, 6, sr_r 9 0) :: h20.2)) fg_10_54 ft_10_6 (by decide +kernel) (sr_mb_ok hm) ⟨_, _, rfl⟩ (fun _ => ⟨rfl, RX10, TX10, rfl, rfl, sr_tb (n := 411) (by decide +kernel) rfl⟩) (sr_e2_put _ _ _ _ _) ?_
  refine sr_gh _ (fun h21 => ?_)
  exact sr_ret (pc := 97) (by decide +kernel) rfl
def FC11_init  (t : sr_c) : sr_R2 := (sr_nw t 24 0 (fun h1 => (sr_if (sr_mb h1 11 0) (sr_lh (h1.1, (11, 0, 2, sr_r 24 0) :: h1.2) (fun h2 => (sr_nw h2 25 0 (fun h3 => (sr_if (sr_mb h3 11 0) (sr_lh (h3.1, (11, 0, 3, sr_r 25 0) :: h3.2) (fun h4 => (sr_nw h4 26 0 (fun h5 => (sr_if (sr_mb h5 11 0) (sr_lh (h5.1, (11, 0, 4, sr_r 26 0) :: h5.2) (fun h6 => (sr_nw h6 27 0 (fun h7 => (sr_if (sr_mb h7 11 0) (sr_lh (h7.1, (11, 0, 5, sr_r 27 0) :: h7.2) (fun h8 => (sr_nw h8 28 0 (fun h9 => (sr_if (sr_mb h9 11 0) (sr_lh (h9.1, (11, 0, 6, sr_r 28 0) :: h9.2) (fun h10 => (sr_if (sr_mb h10 11 0) (sr_lh (h10.1, (11, 0, 7, sr_i 4) :: h10.2) (fun h11 => (sr_if (sr_mb h11 11 0) (sr_lh (h11.1, (11, 0, 8, sr_i 4) :: h11.2) (fun h12 => (sr_if (sr_mb h12 11 0) (sr_lh (h12.1, (11, 0, 9, sr_i 2) :: h12.2) (fun h13 => (sr_nw h13 29 0 (fun h14 => (sr_if (sr_mb h14 11 0) (sr_lh (h14.1, (11, 0, 23, sr_r 29 0) :: h14.2) (fun h15 => (sr_nw h15 30 0 (fun h16 => (sr_if (sr_mb h16 11 0) (sr_lh (h16.1, (11, 0, 24, sr_r 30 0) :: h16.2) (fun h17 => (sr_nw h17 31 0 (fun h18 => (sr_if (sr_mb h18 11 0) (sr_lh (h18.1, (11, 0, 25, sr_r 31 0) :: h18.2) (fun h19 => (sr_nw h19 32 0 (fun h20 => (sr_if (sr_mb h20 11 0) (sr_lh (h20.1, (11, 0, 26, sr_r 32 0) :: h20.2) (fun h21 => (sr_nw h21 33 0 (fun h22 => (sr_if (sr_mb h22 33 0) (if (0 : Int32) < 0 ∨ 9 ≤ (0 : Int32).toNatClampNeg then none else sr_lh (h22.1, (33, 0, (0 : Int32).toNatClampNeg, sr_i 0) :: h22.2) (fun h23 => (sr_if (sr_mb h23 33 0) (if (1 : Int32) < 0 ∨ 9 ≤ (1 : Int32).toNatClampNeg then none else sr_lh (h23.1, (33, 0, (1 : Int32).toNatClampNeg, sr_i 0) :: h23.2) (fun h24 => (sr_if (sr_mb h24 33 0) (if (2 : Int32) < 0 ∨ 9 ≤ (2 : Int32).toNatClampNeg then none else sr_lh (h24.1, (33, 0, (2 : Int32).toNatClampNeg, sr_i 0) :: h24.2) (fun h25 => (sr_if (sr_mb h25 33 0) (if (3 : Int32) < 0 ∨ 9 ≤ (3 : Int32).toNatClampNeg then none else sr_lh (h25.1, (33, 0, (3 : Int32).toNatClampNeg, sr_i 0) :: h25.2) (fun h26 => (sr_if (sr_mb h26 33 0) (if (4 : Int32) < 0 ∨ 9 ≤ (4 : Int32).toNatClampNeg then none else sr_lh (h26.1, (33, 0, (4 : Int32).toNatClampNeg, sr_i 0) :: h26.2) (fun h27 => (sr_if (sr_mb h27 33 0) (if (5 : Int32) < 0 ∨ 9 ≤ (5 : Int32).toNatClampNeg then none else sr_lh (h27.1, (33, 0, (5 : Int32).toNatClampNeg, sr_i 0) :: h27.2) (fun h28 => (sr_if (sr_mb h28 33 0) (if (6 : Int32) < 0 ∨ 9 ≤ (6 : Int32).toNatClampNeg then none else sr_lh (h28.1, (33, 0, (6 : Int32).toNatClampNeg, sr_i 0) :: h28.2) (fun h29 => (sr_if (sr_mb h29 33 0) (if (7 : Int32) < 0 ∨ 9 ≤ (7 : Int32).toNatClampNeg then none else sr_lh (h29.1, (33, 0, (7 : Int32).toNatClampNeg, sr_i (-1)) :: h29.2) (fun h30 => (sr_if (sr_mb h30 33 0) (if (8 : Int32) < 0 ∨ 9 ≤ (8 : Int32).toNatClampNeg then none else sr_lh (h30.1, (33, 0, (8 : Int32).toNatClampNeg, sr_i 0) :: h30.2) (fun h31 => (sr_if (sr_mb h31 11 0) (sr_lh (h31.1, (11, 0, 27, sr_r 33 0) :: h31.2) (fun h32 => (sr_nw h32 34 0 (fun h33 => (sr_if (sr_mb h33 11 0) (sr_lh (h33.1, (11, 0, 29, sr_r 34 0) :: h33.2) (fun h34 => (sr_nw h34 35 0 (fun h35 => (sr_if (sr_mb h35 11 0) (sr_lh (h35.1, (11, 0, 31, sr_r 35 0) :: h35.2) (fun h36 => (sr_nw h36 36 0 (fun h37 => (sr_if (sr_mb h37 11 0) (sr_lh (h37.1, (11, 0, 32, sr_r 36 0) :: h37.2) (fun h38 => (sr_nw h38 37 0 (fun h39 => (sr_if (sr_mb h39 11 0) (sr_lh (h39.1, (11, 0, 35, sr_r 37 0) :: h39.2) (fun h40 => (sr_nw h40 38 0 (fun h41 => (sr_if (sr_mb h41 11 0) (sr_lh (h41.1, (11, 0, 36, sr_r 38 0) :: h41.2) (fun h42 => (sr_nw h42 39 0 (fun h43 => (sr_if (sr_mb h43 11 0) (sr_lh (h43.1, (11, 0, 37, sr_r 39 0) :: h43.2) (fun h44 => (sr_nw h44 40 0 (fun h45 => (sr_if (sr_mb h45 11 0) (sr_lh (h45.1, (11, 0, 38, sr_r 40 0) :: h45.2) (fun h46 => (sr_nw h46 41 0 (fun h47 => (sr_if (sr_mb h47 11 0) (sr_lh (h47.1, (11, 0, 39, sr_r 41 0) :: h47.2) (fun h48 => (sr_nw h48 42 0 (fun h49 => (sr_if (sr_mb h49 11 0) (sr_lh (h49.1, (11, 0, 48, sr_r 42 0) :: h49.2) (fun h50 => (sr_nw h50 43 0 (fun h51 => (sr_if (sr_mb h51 11 0) (sr_lh (h51.1, (11, 0, 49, sr_r 43 0) :: h51.2) (fun h52 => (sr_nw h52 44 0 (fun h53 => (sr_if (sr_mb h53 11 0) (sr_lh (h53.1, (11, 0, 50, sr_r 44 0) :: h53.2) (fun h54 => (sr_nw h54 45 0 (fun h55 => (sr_if (sr_mb h55 11 0) (sr_lh (h55.1, (11, 0, 51, sr_r 45 0) :: h55.2) (fun h56 => (sr_nw h56 46 0 (fun h57 => (sr_if (sr_mb h57 11 0) (sr_lh (h57.1, (11, 0, 52, sr_r 46 0) :: h57.2) (fun h58 => (sr_if (sr_mb h58 11 0) (sr_lh (h58.1, (11, 0, 22, sr_i 0) :: h58.2) (fun h59 => (some (.inl none, h59))))))))))))))))))))))))))))))))))))))))))))))))))))))))))))))))))))))))))))))))))))))))))))))))))))))))))))))))))))))))))))))))))))))))))))))))))))))))))))
theorem CC11_init (l : Launch)  (t : sr_c) : sr_T sr_e2 l sr_m11_init [sr_r 11 0] t (FC11_init  t) 23 6219 := by
  refine sr_T_of (L0 := [some (sr_r 11 0)]) rfl (by decide +kernel) (fun _ => rfl) (fun _ => Nat.le_of_ble_eq_true rfl) ?_
  unfold FC11_init
  refine sr_aloadn (pc := 0) (n := 0) (by decide +kernel) rfl ?_
  refine sr_objI (pc := 1) (idx := 1) (by decide +kernel) (sr_tb (n := 1384) (by decide +kernel) rfl) oi_1 oi_2 (by decide) (by decide) rfl ?_
  refine sr_aloadn (pc := 4) (n := 0) (by decide +kernel) rfl ?_
  refine sr_bipush (pc := 5) (n := 24) (v := 24) (by decide +kernel) (by decide) ?_
  refine sr_newa2 (pc := 7) (k := 24) (n := 24) (i := 0) (at' := .int) (mc := 22) (ms := 6195) rfl (Or.inl ⟨rfl, rfl⟩) ac_int (by decide +kernel) (fun _ => rfl) (by decide) (by decide) (by decide) (fun h1 => ?_)
  refine sr_chk _ (fun hm => ?_)
  refine sr_put (pc := 9) (t2 := (h1.1, (11, 0, 2, sr_r 24 0) :: h1.2)) fg_11_7 ft_11_2 (by decide +kernel) (sr_mb_ok hm) ⟨_, _, rfl⟩ (fun _ => ⟨rfl, RX11, TX11, rfl, rfl, sr_tb (n := 1387) (by decide +kernel) rfl⟩) (sr_e2_put _ _ _ _ _) ?_
  refine sr_gh _ (fun h2 => ?_)
  refine sr_aloadn (pc := 12) (n := 0) (by decide +kernel) rfl ?_
  refine sr_bipush (pc := 13) (n := 24) (v := 24) (by decide +kernel) (by decide) ?_
  refine sr_newa2 (pc := 15) (k := 25) (n := 24) (i := 0) (at' := .int) (mc := 21) (ms := 6171) rfl (Or.inl ⟨rfl, rfl⟩) ac_int (by decide +kernel) (fun _ => rfl) (by decide) (by decide) (by decide) (fun h3 => ?_)
  refine sr_chk _ (fun hm => ?_)
  refine sr_put (pc := 17) (t2 := (h3.1, (11, 0, 3, sr_r 25 0) :: h3.2)) fg_11_13 ft_11_3 (by decide +kernel) (sr_mb_ok hm) ⟨_, _, rfl⟩ (fun _ => ⟨rfl, RX11, TX11, rfl, rfl, sr_tb (n := 1388) (by decide +kernel) rfl⟩) (sr_e2_put _ _ _ _ _) ?_
  refine sr_gh _ (fun h4 => ?_)
  refine sr_aloadn (pc := 20) (n := 0) (by decide +kernel) rfl ?_
  refine sr_bipush (pc := 21) (n := 24) (v := 24) (by decide +kernel) (by decide) ?_
  refine sr_newa2 (pc := 23) (k := 26) (n := 24) (i := 0) (at' := .int) (mc := 20) (ms := 6147) rfl (Or.inl ⟨rfl, rfl⟩) ac_int (by decide +kernel) (fun _ => rfl) (by decide) (by decide) (by decide) (fun h5 => ?_)
  refine sr_chk _ (fun hm => ?_)
  refine sr_put (pc := 25) (t2 := (h5.1, (11, 0, 4, sr_r 26 0) :: h5.2)) fg_11_16 ft_11_4 (by decide +kernel) (sr_mb_ok hm) ⟨_, _, rfl⟩ (fun _ => ⟨rfl, RX11, TX11, rfl, rfl, sr_tb (n := 1389) (by decide +kernel) rfl⟩) (sr_e2_put _ _ _ _ _) ?_
  refine sr_gh _ (fun h6 => ?_)
  refine sr_aloadn (pc := 28) (n := 0) (by decide +kernel) rfl ?_
  refine sr_sipush (pc := 29) (n := 336) (v := 336) (by decide +kernel) (by decide) ?_
  refine sr_newa2 (pc := 32) (k := 27) (n := 336) (i := 0) (at' := .int) (mc := 19) (ms := 5811) rfl (Or.inl ⟨rfl, rfl⟩) ac_int (by decide +kernel) (fun _ => rfl) (by decide) (by decide) (by decide) (fun h7 => ?_)
  refine sr_chk _ (fun hm => ?_)
  refine sr_put (pc := 34) (t2 := (h7.1, (11, 0, 5, sr_r 27 0) :: h7.2)) fg_11_19 ft_11_5 (by decide +kernel) (sr_mb_ok hm) ⟨_, _, rfl⟩ (fun _ => ⟨rfl, RX11, TX11, rfl, rfl, sr_tb (n := 1390) (by decide +kernel) rfl⟩) (sr_e2_put _ _ _ _ _) ?_
  refine sr_gh _ (fun h8 => ?_)
  refine sr_aloadn (pc := 37) (n := 0) (by decide +kernel) rfl ?_
  refine sr_sipush (pc := 38) (n := 336) (v := 336) (by decide +kernel) (by decide) ?_
  refine sr_newa2 (pc := 41) (k := 28) (n := 336) (i := 0) (at' := .int) (mc := 18) (ms := 5475) rfl (Or.inl ⟨rfl, rfl⟩) ac_int (by decide +kernel) (fun _ => rfl) (by decide) (by decide) (by decide) (fun h9 => ?_)
  refine sr_chk _ (fun hm => ?_)
  refine sr_put (pc := 43) (t2 := (h9.1, (11, 0, 6, sr_r 28 0) :: h9.2)) fg_11_22 ft_11_6 (by decide +kernel) (sr_mb_ok hm) ⟨_, _, rfl⟩ (fun _ => ⟨rfl, RX11, TX11, rfl, rfl, sr_tb (n := 1391) (by decide +kernel) rfl⟩) (sr_e2_put _ _ _ _ _) ?_
  refine sr_gh _ (fun h10 => ?_)
  refine sr_aloadn (pc := 46) (n := 0) (by decide +kernel) rfl ?_
  refine sr_iconst (pc := 47) (n := 4) (v := 4) (by decide +kernel) rfl ?_
  refine sr_chk _ (fun hm => ?_)
  refine sr_put (pc := 48) (t2 := (h10.1, (11, 0, 7, sr_i 4) :: h10.2)) fg_11_25 ft_11_7 (by decide +kernel) (sr_mb_ok hm) ⟨_, rfl⟩ (fun hq => nomatch hq) (sr_e2_put _ _ _ _ _) ?_
  refine sr_gh _ (fun h11 => ?_)
  refine sr_aloadn (pc := 51) (n := 0) (by decide +kernel) rfl ?_
  refine sr_iconst (pc := 52) (n := 4) (v := 4) (by decide +kernel) rfl ?_
  refine sr_chk _ (fun hm => ?_)
  refine sr_put (pc := 53) (t2 := (h11.1, (11, 0, 8, sr_i 4) :: h11.2)) fg_11_29 ft_11_8 (by decide +kernel) (sr_mb_ok hm) ⟨_, rfl⟩ (fun hq => nomatch hq) (sr_e2_put _ _ _ _ _) ?_
  refine sr_gh _ (fun h12 => ?_)
  refine sr_aloadn (pc := 56) (n := 0) (by decide +kernel) rfl ?_
  refine sr_iconst (pc := 57) (n := 2) (v := 2) (by decide +kernel) rfl ?_
  refine sr_chk _ (fun hm => ?_)
  refine sr_put (pc := 58) (t2 := (h12.1, (11, 0, 9, sr_i 2) :: h12.2)) fg_11_32 ft_11_9 (by decide +kernel) (sr_mb_ok hm) ⟨_, rfl⟩ (fun hq => nomatch hq) (sr_e2_put _ _ _ _ _) ?_
  refine sr_gh _ (fun h13 => ?_)
  refine sr_aloadn (pc := 61) (n := 0) (by decide +kernel) rfl ?_
  refine sr_sipush (pc := 62) (n := 200) (v := 200) (by decide +kernel) (by decide) ?_
  refine sr_newa2 (pc := 65) (k := 29) (n := 200) (i := 0) (at' := .int) (mc := 17) (ms := 5275) rfl (Or.inl ⟨rfl, rfl⟩) ac_int (by decide +kernel) (fun _ => rfl) (by decide) (by decide) (by decide) (fun h14 => ?_)
  refine sr_chk _ (fun hm => ?_)
  refine sr_put (pc := 67) (t2 := (h14.1, (11, 0, 23, sr_r 29 0) :: h14.2)) fg_11_35 ft_11_23 (by decide +kernel) (sr_mb_ok hm) ⟨_, _, rfl⟩ (fun _ => ⟨rfl, RX11, TX11, rfl, rfl, sr_tb (n := 1406) (by decide +kernel) rfl⟩) (sr_e2_put _ _ _ _ _) ?_
  refine sr_gh _ (fun h15 => ?_)
  refine sr_aloadn (pc := 70) (n := 0) (by decide +kernel) rfl ?_
  refine sr_sipush (pc := 71) (n := 200) (v := 200) (by decide +kernel) (by decide) ?_
  refine sr_newa2 (pc := 74) (k := 30) (n := 200) (i := 0) (at' := .int) (mc := 16) (ms := 5075) rfl (Or.inl ⟨rfl, rfl⟩) ac_int (by decide +kernel) (fun _ => rfl) (by decide) (by decide) (by decide) (fun h16 => ?_)
  refine sr_chk _ (fun hm => ?_)
  refine sr_put (pc := 76) (t2 := (h16.1, (11, 0, 24, sr_r 30 0) :: h16.2)) fg_11_38 ft_11_24 (by decide +kernel) (sr_mb_ok hm) ⟨_, _, rfl⟩ (fun _ => ⟨rfl, RX11, TX11, rfl, rfl, sr_tb (n := 1407) (by decide +kernel) rfl⟩) (sr_e2_put _ _ _ _ _) ?_
  refine sr_gh _ (fun h17 => ?_)
  refine sr_aloadn (pc := 79) (n := 0) (by decide +kernel) rfl ?_
  refine sr_sipush (pc := 80) (n := 200) (v := 200) (by decide +kernel) (by decide) ?_
  refine sr_newa2 (pc := 83) (k := 31) (n := 200) (i := 0) (at' := .int) (mc := 15) (ms := 4875) rfl (Or.inl ⟨rfl, rfl⟩) ac_int (by decide +kernel) (fun _ => rfl) (by decide) (by decide) (by decide) (fun h18 => ?_)
  refine sr_chk _ (fun hm => ?_)
  refine sr_put (pc := 85) (t2 := (h18.1, (11, 0, 25, sr_r 31 0) :: h18.2)) fg_11_41 ft_11_25 (by decide +kernel) (sr_mb_ok hm) ⟨_, _, rfl⟩ (fun _ => ⟨rfl, RX11, TX11, rfl, rfl, sr_tb (n := 1408) (by decide +kernel) rfl⟩) (sr_e2_put _ _ _ _ _) ?_
  refine sr_gh _ (fun h19 => ?_)
  refine sr_aloadn (pc := 88) (n := 0) (by decide +kernel) rfl ?_
  refine sr_sipush (pc := 89) (n := 200) (v := 200) (by decide +kernel) (by decide) ?_
  refine sr_newa2 (pc := 92) (k := 32) (n := 200) (i := 0) (at' := .int) (mc := 14) (ms := 4675) rfl (Or.inl ⟨rfl, rfl⟩) ac_int (by decide +kernel) (fun _ => rfl) (by decide) (by decide) (by decide) (fun h20 => ?_)
  refine sr_chk _ (fun hm => ?_)
  refine sr_put (pc := 94) (t2 := (h20.1, (11, 0, 26, sr_r 32 0) :: h20.2)) fg_11_44 ft_11_26 (by decide +kernel) (sr_mb_ok hm) ⟨_, _, rfl⟩ (fun _ => ⟨rfl, RX11, TX11, rfl, rfl, sr_tb (n := 1409) (by decide +kernel) rfl⟩) (sr_e2_put _ _ _ _ _) ?_
  refine sr_gh _ (fun h21 => ?_)
  refine sr_aloadn (pc := 97) (n := 0) (by decide +kernel) rfl ?_
  refine sr_bipush (pc := 98) (n := 9) (v := 9) (by decide +kernel) (by decide) ?_
  refine sr_newa2 (pc := 100) (k := 33) (n := 9) (i := 0) (at' := .int) (mc := 13) (ms := 4666) rfl (Or.inl ⟨rfl, rfl⟩) ac_int (by decide +kernel) (fun _ => rfl) (by decide) (by decide) (by decide) (fun h22 => ?_)
  refine sr_dup (pc := 102) (by decide +kernel) rfl ?_
  refine sr_iconst (pc := 103) (n := 0) (v := 0) (by decide +kernel) rfl ?_
  refine sr_iconst (pc := 104) (n := 0) (v := 0) (by decide +kernel) rfl ?_
  refine sr_chk _ (fun hm => ?_)
  refine sr_iast (pc := 105) (t2 := (h22.1, (33, 0, (0 : Int32).toNatClampNeg, sr_i 0) :: h22.2)) (n := 9) rfl (by decide +kernel) (sr_mb_ok hm) (sr_e2_put _ _ _ _ _) (fun _ => ?_)
  refine sr_gh _ (fun h23 => ?_)
  refine sr_dup (pc := 106) (by decide +kernel) rfl ?_
  refine sr_iconst (pc := 107) (n := 1) (v := 1) (by decide +kernel) rfl ?_
  refine sr_iconst (pc := 108) (n := 0) (v := 0) (by decide +kernel) rfl ?_
  refine sr_chk _ (fun hm => ?_)
  refine sr_iast (pc := 109) (t2 := (h23.1, (33, 0, (1 : Int32).toNatClampNeg, sr_i 0) :: h23.2)) (n := 9) rfl (by decide +kernel) (sr_mb_ok hm) (sr_e2_put _ _ _ _ _) (fun _ => ?_)
  refine sr_gh _ (fun h24 => ?_)
  refine sr_dup (pc := 110) (by decide +kernel) rfl ?_
  refine sr_iconst (pc := 111) (n := 2) (v := 2) (by decide +kernel) rfl ?_
  refine sr_iconst (pc := 112) (n := 0) (v := 0) (by decide +kernel) rfl ?_
  refine sr_chk _ (fun hm => ?_)
  refine sr_iast (pc := 113) (t2 := (h24.1, (33, 0, (2 : Int32).toNatClampNeg, sr_i 0) :: h24.2)) (n := 9) rfl (by decide +kernel) (sr_mb_ok hm) (sr_e2_put _ _ _ _ _) (fun _ => ?_)
  refine sr_gh _ (fun h25 => ?_)
  refine sr_dup (pc := 114) (by decide +kernel) rfl ?_
  refine sr_iconst (pc := 115) (n := 3) (v := 3) (by decide +kernel) rfl ?_
  refine sr_iconst (pc := 116) (n := 0) (v := 0) (by decide +kernel) rfl ?_
  refine sr_chk _ (fun hm => ?_)
  refine sr_iast (pc := 117) (t2 := (h25.1, (33, 0, (3 : Int32).toNatClampNeg, sr_i 0) :: h25.2)) (n := 9) rfl (by decide +kernel) (sr_mb_ok hm) (sr_e2_put _ _ _ _ _) (fun _ => ?_)
  refine sr_gh _ (fun h26 => ?_)
  refine sr_dup (pc := 118) (by decide +kernel) rfl ?_
  refine sr_iconst (pc := 119) (n := 4) (v := 4) (by decide +kernel) rfl ?_
  refine sr_iconst (pc := 120) (n := 0) (v := 0) (by decide +kernel) rfl ?_
  refine sr_chk _ (fun hm => ?_)
  refine sr_iast (pc := 121) (t2 := (h26.1, (33, 0, (4 : Int32).toNatClampNeg, sr_i 0) :: h26.2)) (n := 9) rfl (by decide +kernel) (sr_mb_ok hm) (sr_e2_put _ _ _ _ _) (fun _ => ?_)
  refine sr_gh _ (fun h27 => ?_)
  refine sr_dup (pc := 122) (by decide +kernel) rfl ?_
  refine sr_iconst (pc := 123) (n := 5) (v := 5) (by decide +kernel) rfl ?_
  refine sr_iconst (pc := 124) (n := 0) (v := 0) (by decide +kernel) rfl ?_
  refine sr_chk _ (fun hm => ?_)
  refine sr_iast (pc := 125) (t2 := (h27.1, (33, 0, (5 : Int32).toNatClampNeg, sr_i 0) :: h27.2)) (n := 9) rfl (by decide +kernel) (sr_mb_ok hm) (sr_e2_put _ _ _ _ _) (fun _ => ?_)
  refine sr_gh _ (fun h28 => ?_)
  refine sr_dup (pc := 126) (by decide +kernel) rfl ?_
  refine sr_bipush (pc := 127) (n := 6) (v := 6) (by decide +kernel) (by decide) ?_
  refine sr_iconst (pc := 129) (n := 0) (v := 0) (by decide +kernel) rfl ?_
  refine sr_chk _ (fun hm => ?_)
  refine sr_iast (pc := 130) (t2 := (h28.1, (33, 0, (6 : Int32).toNatClampNeg, sr_i 0) :: h28.2)) (n := 9) rfl (by decide +kernel) (sr_mb_ok hm) (sr_e2_put _ _ _ _ _) (fun _ => ?_)
  refine sr_gh _ (fun h29 => ?_)
  refine sr_dup (pc := 131) (by decide +kernel) rfl ?_
  refine sr_bipush (pc := 132) (n := 7) (v := 7) (by decide +kernel) (by decide) ?_
  refine sr_iconst (pc := 134) (n := (-1)) (v := (-1)) (by decide +kernel) rfl ?_
  refine sr_chk _ (fun hm => ?_)
  refine sr_iast (pc := 135) (t2 := (h29.1, (33, 0, (7 : Int32).toNatClampNeg, sr_i (-1)) :: h29.2)) (n := 9) rfl (by decide +kernel) (sr_mb_ok hm) (sr_e2_put _ _ _ _ _) (fun _ => ?_)
  refine sr_gh _ (fun h30 => ?_)
  refine sr_dup (pc := 136) (by decide +kernel) rfl ?_
  refine sr_bipush (pc := 137) (n := 8) (v := 8) (by decide +kernel) (by decide) ?_
  refine sr_iconst (pc := 139) (n := 0) (v := 0) (by decide +kernel) rfl ?_
  refine sr_chk _ (fun hm => ?_)
  refine sr_iast (pc := 140) (t2 := (h30.1, (33, 0, (8 : Int32).toNatClampNeg, sr_i 0) :: h30.2)) (n := 9) rfl (by decide +kernel) (sr_mb_ok hm) (sr_e2_put _ _ _ _ _) (fun _ => ?_)
  refine sr_gh _ (fun h31 => ?_)
  refine sr_chk _ (fun hm => ?_)
  refine sr_put (pc := 141) (t2 := (h31.1, (11, 0, 27, sr_r 33 0) :: h31.2)) fg_11_47 ft_11_27 (by decide +kernel) (sr_mb_ok hm) ⟨_, _, rfl⟩ (fun _ => ⟨rfl, RX11, TX11, rfl, rfl, sr_tb (n := 1410) (by decide +kernel) rfl⟩) (sr_e2_put _ _ _ _ _) ?_
  refine sr_gh _ (fun h32 => ?_)
  refine sr_aloadn (pc := 144) (n := 0) (by decide +kernel) rfl ?_
  refine sr_iconst (pc := 145) (n := 4) (v := 4) (by decide +kernel) rfl ?_
  refine sr_newa2 (pc := 146) (k := 34) (n := 4) (i := 0) (at' := .int) (mc := 12) (ms := 4662) rfl (Or.inl ⟨rfl, rfl⟩) ac_int (by decide +kernel) (fun _ => rfl) (by decide) (by decide) (by decide) (fun h33 => ?_)
  refine sr_chk _ (fun hm => ?_)
  refine sr_put (pc := 148) (t2 := (h33.1, (11, 0, 29, sr_r 34 0) :: h33.2)) fg_11_50 ft_11_29 (by decide +kernel) (sr_mb_ok hm) ⟨_, _, rfl⟩ (fun _ => ⟨rfl, RX11, TX11, rfl, rfl, sr_tb (n := 1412) (by decide +kernel) rfl⟩) (sr_e2_put _ _ _ _ _) ?_
  refine sr_gh _ (fun h34 => ?_)
  refine sr_aloadn (pc := 151) (n := 0) (by decide +kernel) rfl ?_
  refine sr_bipush (pc := 152) (n := 24) (v := 24) (by decide +kernel) (by decide) ?_
  refine sr_newa2 (pc := 154) (k := 35) (n := 24) (i := 0) (at' := .int) (mc := 11) (ms := 4638) rfl (Or.inl ⟨rfl, rfl⟩) ac_int (by decide +kernel) (fun _ => rfl) (by decide) (by decide) (by decide) (fun h35 => ?_)
  refine sr_chk _ (fun hm => ?_)
  refine sr_put (pc := 156) (t2 := (h35.1, (11, 0, 31, sr_r 35 0) :: h35.2)) fg_11_53 ft_11_31 (by decide +kernel) (sr_mb_ok hm) ⟨_, _, rfl⟩ (fun _ => ⟨rfl, RX11, TX11, rfl, rfl, sr_tb (n := 1414) (by decide +kernel) rfl⟩) (sr_e2_put _ _ _ _ _) ?_
  refine sr_gh _ (fun h36 => ?_)
  refine sr_aloadn (pc := 159) (n := 0) (by decide +kernel) rfl ?_
  refine sr_sipush (pc := 160) (n := 576) (v := 576) (by decide +kernel) (by decide) ?_
  refine sr_newa2 (pc := 163) (k := 36) (n := 576) (i := 0) (at' := .int) (mc := 10) (ms := 4062) rfl (Or.inl ⟨rfl, rfl⟩) ac_int (by decide +kernel) (fun _ => rfl) (by decide) (by decide) (by decide) (fun h37 => ?_)
  refine sr_chk _ (fun hm => ?_)
  refine sr_put (pc := 165) (t2 := (h37.1, (11, 0, 32, sr_r 36 0) :: h37.2)) fg_11_56 ft_11_32 (by decide +kernel) (sr_mb_ok hm) ⟨_, _, rfl⟩ (fun _ => ⟨rfl, RX11, TX11, rfl, rfl, sr_tb (n := 1415) (by decide +kernel) rfl⟩) (sr_e2_put _ _ _ _ _) ?_
  refine sr_gh _ (fun h38 => ?_)
  refine sr_aloadn (pc := 168) (n := 0) (by decide +kernel) rfl ?_
  refine sr_bipush (pc := 169) (n := 32) (v := 32) (by decide +kernel) (by decide) ?_
  refine sr_newa2 (pc := 171) (k := 37) (n := 32) (i := 0) (at' := .int) (mc := 9) (ms := 4030) rfl (Or.inl ⟨rfl, rfl⟩) ac_int (by decide +kernel) (fun _ => rfl) (by decide) (by decide) (by decide) (fun h39 => ?_)
  refine sr_chk _ (fun hm => ?_)
  refine sr_put (pc := 173) (t2 := (h39.1, (11, 0, 35, sr_r 37 0) :: h39.2)) fg_11_59 ft_11_35 (by decide +kernel) (sr_mb_ok hm) ⟨_, _, rfl⟩ (fun _ => ⟨rfl, RX11, TX11, rfl, rfl, sr_tb (n := 1418) (by decide +kernel) rfl⟩) (sr_e2_put _ _ _ _ _) ?_
  refine sr_gh _ (fun h40 => ?_)
  refine sr_aloadn (pc := 176) (n := 0) (by decide +kernel) rfl ?_
  refine sr_bipush (pc := 177) (n := 32) (v := 32) (by decide +kernel) (by decide) ?_
  refine sr_newa2 (pc := 179) (k := 38) (n := 32) (i := 0) (at' := .int) (mc := 8) (ms := 3998) rfl (Or.inl ⟨rfl, rfl⟩) ac_int (by decide +kernel) (fun _ => rfl) (by decide) (by decide) (by decide) (fun h41 => ?_)
  refine sr_chk _ (fun hm => ?_)
  refine sr_put (pc := 181) (t2 := (h41.1, (11, 0, 36, sr_r 38 0) :: h41.2)) fg_11_62 ft_11_36 (by decide +kernel) (sr_mb_ok hm) ⟨_, _, rfl⟩ (fun _ => ⟨rfl, RX11, TX11, rfl, rfl, sr_tb (n := 1419) (by decide +kernel) rfl⟩) (sr_e2_put _ _ _ _ _) ?_
  refine sr_gh _ (fun h42 => ?_)
  refine sr_aloadn (pc := 184) (n := 0) (by decide +kernel) rfl ?_
  refine sr_sipush (pc := 185) (n := 768) (v := 768) (by decide +kernel) (by decide) ?_
  refine sr_newa2 (pc := 188) (k := 39) (n := 768) (i := 0) (at' := .int) (mc := 7) (ms := 3230) rfl (Or.inl ⟨rfl, rfl⟩) ac_int (by decide +kernel) (fun _ => rfl) (by decide) (by decide) (by decide) (fun h43 => ?_)
  refine sr_chk _ (fun hm => ?_)
  refine sr_put (pc := 190) (t2 := (h43.1, (11, 0, 37, sr_r 39 0) :: h43.2)) fg_11_65 ft_11_37 (by decide +kernel) (sr_mb_ok hm) ⟨_, _, rfl⟩ (fun _ => ⟨rfl, RX11, TX11, rfl, rfl, sr_tb (n := 1420) (by decide +kernel) rfl⟩) (sr_e2_put _ _ _ _ _) ?_
  refine sr_gh _ (fun h44 => ?_)
  refine sr_aloadn (pc := 193) (n := 0) (by decide +kernel) rfl ?_
  refine sr_sipush (pc := 194) (n := 768) (v := 768) (by decide +kernel) (by decide) ?_
  refine sr_newa2 (pc := 197) (k := 40) (n := 768) (i := 0) (at' := .int) (mc := 6) (ms := 2462) rfl (Or.inl ⟨rfl, rfl⟩) ac_int (by decide +kernel) (fun _ => rfl) (by decide) (by decide) (by decide) (fun h45 => ?_)
  refine sr_chk _ (fun hm => ?_)
  refine sr_put (pc := 199) (t2 := (h45.1, (11, 0, 38, sr_r 40 0) :: h45.2)) fg_11_68 ft_11_38 (by decide +kernel) (sr_mb_ok hm) ⟨_, _, rfl⟩ (fun _ => ⟨rfl, RX11, TX11, rfl, rfl, sr_tb (n := 1421) (by decide +kernel) rfl⟩) (sr_e2_put _ _ _ _ _) ?_
  refine sr_gh _ (fun h46 => ?_)
  refine sr_aloadn (pc := 202) (n := 0) (by decide +kernel) rfl ?_
  refine sr_bipush (pc := 203) (n := 14) (v := 14) (by decide +kernel) (by decide) ?_
  refine sr_newa2 (pc := 205) (k := 41) (n := 14) (i := 0) (at' := .int) (mc := 5) (ms := 2448) rfl (Or.inl ⟨rfl, rfl⟩) ac_int (by decide +kernel) (fun _ => rfl) (by decide) (by decide) (by decide) (fun h47 => ?_)
  refine sr_chk _ (fun hm => ?_)
  refine sr_put (pc := 207) (t2 := (h47.1, (11, 0, 39, sr_r 41 0) :: h47.2)) fg_11_71 ft_11_39 (by decide +kernel) (sr_mb_ok hm) ⟨_, _, rfl⟩ (fun _ => ⟨rfl, RX11, TX11, rfl, rfl, sr_tb (n := 1422) (by decide +kernel) rfl⟩) (sr_e2_put _ _ _ _ _) ?_
  refine sr_gh _ (fun h48 => ?_)
  refine sr_aloadn (pc := 210) (n := 0) (by decide +kernel) rfl ?_
  refine sr_bipush (pc := 211) (n := 24) (v := 24) (by decide +kernel) (by decide) ?_
  refine sr_newa2 (pc := 213) (k := 42) (n := 24) (i := 0) (at' := .int) (mc := 4) (ms := 2424) rfl (Or.inl ⟨rfl, rfl⟩) ac_int (by decide +kernel) (fun _ => rfl) (by decide) (by decide) (by decide) (fun h49 => ?_)
  refine sr_chk _ (fun hm => ?_)
  refine sr_put (pc := 215) (t2 := (h49.1, (11, 0, 48, sr_r 42 0) :: h49.2)) fg_11_74 ft_11_48 (by decide +kernel) (sr_mb_ok hm) ⟨_, _, rfl⟩ (fun _ => ⟨rfl, RX11, TX11, rfl, rfl, sr_tb (n := 1431) (by decide +kernel) rfl⟩) (sr_e2_put _ _ _ _ _) ?_
  refine sr_gh _ (fun h50 => ?_)
  refine sr_aloadn (pc := 218) (n := 0) (by decide +kernel) rfl ?_
  refine sr_bipush (pc := 219) (n := 24) (v := 24) (by decide +kernel) (by decide) ?_
  refine sr_newa2 (pc := 221) (k := 43) (n := 24) (i := 0) (at' := .int) (mc := 3) (ms := 2400) rfl (Or.inl ⟨rfl, rfl⟩) ac_int (by decide +kernel) (fun _ => rfl) (by decide) (by decide) (by decide) (fun h51 => ?_)
  refine sr_chk _ (fun hm => ?_)
  refine sr_put (pc := 223) (t2 := (h51.1, (11, 0, 49, sr_r 43 0) :: h51.2)) fg_11_77 ft_11_49 (by decide +kernel) (sr_mb_ok hm) ⟨_, _, rfl⟩ (fun _ => ⟨rfl, RX11, TX11, rfl, rfl, sr_tb (n := 1432) (by decide +kernel) rfl⟩) (sr_e2_put _ _ _ _ _) ?_
  refine sr_gh _ (fun h52 => ?_)
  refine sr_aloadn (pc := 226) (n := 0) (by decide +kernel) rfl ?_
  refine sr_bipush (pc := 227) (n := 48) (v := 48) (by decide +kernel) (by decide) ?_
  refine sr_newa2 (pc := 229) (k := 44) (n := 48) (i := 0) (at' := .int) (mc := 2) (ms := 2352) rfl (Or.inl ⟨rfl, rfl⟩) ac_int (by decide +kernel) (fun _ => rfl) (by decide) (by decide) (by decide) (fun h53 => ?_)
  refine sr_chk _ (fun hm => ?_)
  refine sr_put (pc := 231) (t2 := (h53.1, (11, 0, 50, sr_r 44 0) :: h53.2)) fg_11_80 ft_11_50 (by decide +kernel) (sr_mb_ok hm) ⟨_, _, rfl⟩ (fun _ => ⟨rfl, RX11, TX11, rfl, rfl, sr_tb (n := 1433) (by decide +kernel) rfl⟩) (sr_e2_put _ _ _ _ _) ?_
  refine sr_gh _ (fun h54 => ?_)
  refine sr_aloadn (pc := 234) (n := 0) (by decide +kernel) rfl ?_
  refine sr_sipush (pc := 235) (n := 2304) (v := 2304) (by decide +kernel) (by decide) ?_
  refine sr_newa2 (pc := 238) (k := 45) (n := 2304) (i := 0) (at' := .int) (mc := 1) (ms := 48) rfl (Or.inl ⟨rfl, rfl⟩) ac_int (by decide +kernel) (fun _ => rfl) (by decide) (by decide) (by decide) (fun h55 => ?_)
  refine sr_chk _ (fun hm => ?_)
  refine sr_put (pc := 240) (t2 := (h55.1, (11, 0, 51, sr_r 45 0) :: h55.2)) fg_11_83 ft_11_51 (by decide +kernel) (sr_mb_ok hm) ⟨_, _, rfl⟩ (fun _ => ⟨rfl, RX11, TX11, rfl, rfl, sr_tb (n := 1434) (by decide +kernel) rfl⟩) (sr_e2_put _ _ _ _ _) ?_
  refine sr_gh _ (fun h56 => ?_)
  refine sr_aloadn (pc := 243) (n := 0) (by decide +kernel) rfl ?_
  refine sr_bipush (pc := 244) (n := 48) (v := 48) (by decide +kernel) (by decide) ?_
  refine sr_newa2 (pc := 246) (k := 46) (n := 48) (i := 0) (at' := .int) (mc := 0) (ms := 0) rfl (Or.inl ⟨rfl, rfl⟩) ac_int (by decide +kernel) (fun _ => rfl) (by decide) (by decide) (by decide) (fun h57 => ?_)
  refine sr_chk _ (fun hm => ?_)
  refine sr_put (pc := 248) (t2 := (h57.1, (11, 0, 52, sr_r 46 0) :: h57.2)) fg_11_86 ft_11_52 (by decide +kernel) (sr_mb_ok hm) ⟨_, _, rfl⟩ (fun _ => ⟨rfl, RX11, TX11, rfl, rfl, sr_tb (n := 1435) (by decide +kernel) rfl⟩) (sr_e2_put _ _ _ _ _) ?_
  refine sr_gh _ (fun h58 => ?_)
  refine sr_aloadn (pc := 251) (n := 0) (by decide +kernel) rfl ?_
  refine sr_iconst (pc := 252) (n := 0) (v := 0) (by decide +kernel) rfl ?_
  refine sr_chk _ (fun hm => ?_)
  refine sr_put (pc := 253) (t2 := (h58.1, (11, 0, 22, sr_i 0) :: h58.2)) fg_11_89 ft_11_22 (by decide +kernel) (sr_mb_ok hm) (by first | exact Or.inl rfl | exact Or.inr rfl) (fun hq => nomatch hq) (sr_e2_put _ _ _ _ _) ?_
  refine sr_gh _ (fun h59 => ?_)
  exact sr_ret (pc := 256) (by decide +kernel) rfl
