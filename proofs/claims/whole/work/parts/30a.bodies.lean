def sr_m11_thrown : sr_M := (⟨"ShiftRingModel", "thrown", "()I"⟩, prog_13_method_2_code, 1, (some .int), [], 0, 0)
theorem fg_11_93 : sr_FG "ShiftRingModel" 93 11 0 53 := ⟨RX11, TX11, tyX11, rfl, by decide, rfl, uw_11, tyX11_ok, nmX11, Or.inl (sr_tb (n := 1385) (by decide +kernel) rfl)⟩
def F11_thrown  (t : sr_t) : sr_Rs := (some (.inl (some (sr_i (t.1 11 0 0))), t))
theorem C11_thrown (l : Launch)   (t : sr_t) : sr_ct' l sr_m11_thrown [sr_r 11 0] t (F11_thrown  t) 0 0 := by
  refine sr_T_of (L0 := [some (sr_r 11 0)]) rfl (by decide +kernel) (fun _ => rfl) (fun _ => Nat.le_of_ble_eq_true rfl) ?_
  unfold F11_thrown
  refine sr_aloadn (pc := 0) (n := 0) (by decide +kernel) rfl ?_
  refine sr_gI (pc := 1) fg_11_93 (by decide +kernel) (sr_in11 _ (by omega)) (fun _ => rfl) ?_
  exact sr_iret (pc := 4) (by decide +kernel) rfl
def sr_m11_isIn : sr_M := (⟨"ShiftRingModel", "isIn", "(III)Z"⟩, prog_13_method_3_code, 3, (some .boolean), [], 0, 0)
def sr_m11_isPlace : sr_M := (⟨"ShiftRingModel", "isPlace", "(I)Z"⟩, prog_13_method_4_code, 1, (some .boolean), [], 1, 22)
def sr_m11_from : sr_M := (⟨"ShiftRingModel", "from", "(II)I"⟩, prog_13_method_7_code, 2, (some .int), [], 0, 0)
def sr_m11_upFrom : sr_M := (⟨"ShiftRingModel", "upFrom", "(IZ)I"⟩, prog_13_method_9_code, 5, (some .int), [], 1, 21)
def sr_m11_hostOf : sr_M := (⟨"ShiftRingModel", "hostOf", "(I)I"⟩, prog_13_method_10_code, 4, (some .int), [], 1, 21)
def sr_m11_ups : sr_M := (⟨"ShiftRingModel", "ups", "()I"⟩, prog_13_method_8_code, 3, (some .int), [], 0, 0)
def sr_m11_lays : sr_M := (⟨"ShiftRingModel", "lays", "(III[II)V"⟩, prog_13_method_12_code, 9, none, [], 2, 45)
def sr_m11_laysNow : sr_M := (⟨"ShiftRingModel", "laysNow", "(I)V"⟩, prog_13_method_13_code, 2, none, [], 3, 73)
def sr_m11_join : sr_M := (⟨"ShiftRingModel", "join", "(I)I"⟩, prog_13_method_19_code, 4, (some .int), [], 4, 94)
theorem fg_11_7 : sr_FG "ShiftRingModel" 7 11 2 53 := ⟨RX11, TX11, tyX11, rfl, by decide, rfl, uw_11, tyX11_ok, nmX11, Or.inl (sr_tb (n := 1387) (by decide +kernel) rfl)⟩
theorem fg_11_13 : sr_FG "ShiftRingModel" 13 11 3 53 := ⟨RX11, TX11, tyX11, rfl, by decide, rfl, uw_11, tyX11_ok, nmX11, Or.inl (sr_tb (n := 1388) (by decide +kernel) rfl)⟩
theorem fg_11_16 : sr_FG "ShiftRingModel" 16 11 4 53 := ⟨RX11, TX11, tyX11, rfl, by decide, rfl, uw_11, tyX11_ok, nmX11, Or.inl (sr_tb (n := 1389) (by decide +kernel) rfl)⟩
theorem fg_11_19 : sr_FG "ShiftRingModel" 19 11 5 53 := ⟨RX11, TX11, tyX11, rfl, by decide, rfl, uw_11, tyX11_ok, nmX11, Or.inl (sr_tb (n := 1390) (by decide +kernel) rfl)⟩
theorem fg_11_25 : sr_FG "ShiftRingModel" 25 11 7 53 := ⟨RX11, TX11, tyX11, rfl, by decide, rfl, uw_11, tyX11_ok, nmX11, Or.inl (sr_tb (n := 1392) (by decide +kernel) rfl)⟩
theorem fg_11_29 : sr_FG "ShiftRingModel" 29 11 8 53 := ⟨RX11, TX11, tyX11, rfl, by decide, rfl, uw_11, tyX11_ok, nmX11, Or.inl (sr_tb (n := 1393) (by decide +kernel) rfl)⟩
theorem fg_11_100 : sr_FG "ShiftRingModel" 100 11 1 53 := ⟨RX11, TX11, tyX11, rfl, by decide, rfl, uw_11, tyX11_ok, nmX11, Or.inl (sr_tb (n := 1386) (by decide +kernel) rfl)⟩
theorem ft_11_0 : sr_FT 11 0 53 0 false := ⟨RX11, TX11, rfl, rfl, (fun h => nomatch h), (show parseFieldDescriptor (TX11 0).2.2.1 = some .int from by decide +kernel)⟩
theorem ft_11_1 : sr_FT 11 1 53 0 false := ⟨RX11, TX11, rfl, rfl, (fun h => nomatch h), (show parseFieldDescriptor (TX11 1).2.2.1 = some .int from by decide +kernel)⟩
theorem fl_11_96 : Cond.methodLink "ShiftRingModel" 96 (sr_My sr_m11_isIn) ∈ sr_TB := (sr_tb (n := 1554) (by decide +kernel) rfl)
theorem fm_11_96 : sr_FS "ShiftRingModel" 96 sr_m11_isIn 3 := ⟨⟨rfl, sr_tb (n := 1556) (by decide +kernel) rfl, sr_tb (n := 12) (by decide +kernel) rfl, ⟨by decide, by decide, by decide +kernel⟩, Or.inl fl_11_96⟩, sr_tb (n := 1555) (by decide +kernel) rfl⟩
theorem fl_11_103 : Cond.methodLink "ShiftRingModel" 103 (sr_My sr_m11_from) ∈ sr_TB := (sr_tb (n := 1569) (by decide +kernel) rfl)
theorem fm_11_103 : sr_FS "ShiftRingModel" 103 sr_m11_from 2 := ⟨⟨rfl, sr_tb (n := 1571) (by decide +kernel) rfl, sr_tb (n := 12) (by decide +kernel) rfl, ⟨by decide, by decide, by decide +kernel⟩, Or.inl fl_11_103⟩, sr_tb (n := 1570) (by decide +kernel) rfl⟩
theorem fl_11_107 : Cond.methodLink "ShiftRingModel" 107 (sr_My sr_m11_upFrom) ∈ sr_TB := (sr_tb (n := 1565) (by decide +kernel) rfl)
theorem fm_11_107 : sr_FV "ShiftRingModel" 107 sr_m11_upFrom 11 2 := ⟨⟨rfl, sr_tb (n := 1568) (by decide +kernel) rfl, sr_tb (n := 12) (by decide +kernel) rfl, ⟨by decide, by decide, by decide +kernel⟩, Or.inl fl_11_107⟩, ⟨TX11, 53, rfl, rfl⟩, sr_tb (n := 1567) (by decide +kernel) rfl, sr_ts (n := 42) (by decide +kernel) rfl⟩
theorem fl_11_111 : Cond.methodLink "ShiftRingModel" 111 (sr_My sr_m11_hostOf) ∈ sr_TB := (sr_tb (n := 1572) (by decide +kernel) rfl)
theorem fm_11_111 : sr_FV "ShiftRingModel" 111 sr_m11_hostOf 11 1 := ⟨⟨rfl, sr_tb (n := 1575) (by decide +kernel) rfl, sr_tb (n := 12) (by decide +kernel) rfl, ⟨by decide, by decide, by decide +kernel⟩, Or.inl fl_11_111⟩, ⟨TX11, 53, rfl, rfl⟩, sr_tb (n := 1574) (by decide +kernel) rfl, sr_ts (n := 43) (by decide +kernel) rfl⟩
theorem fl_11_115 : Cond.methodLink "ShiftRingModel" 115 (sr_My sr_m11_ups) ∈ sr_TB := (sr_tb (n := 1576) (by decide +kernel) rfl)
theorem fm_11_115 : sr_FV "ShiftRingModel" 115 sr_m11_ups 11 0 := ⟨⟨rfl, sr_tb (n := 1579) (by decide +kernel) rfl, sr_tb (n := 12) (by decide +kernel) rfl, ⟨by decide, by decide, by decide +kernel⟩, Or.inl fl_11_115⟩, ⟨TX11, 53, rfl, rfl⟩, sr_tb (n := 1578) (by decide +kernel) rfl, sr_ts (n := 44) (by decide +kernel) rfl⟩
theorem fl_11_119 : Cond.methodLink "ShiftRingModel" 119 (sr_My sr_m11_lays) ∈ sr_TB := (sr_tb (n := 1561) (by decide +kernel) rfl)
theorem fm_11_119 : sr_FV "ShiftRingModel" 119 sr_m11_lays 11 5 := ⟨⟨rfl, sr_tb (n := 1564) (by decide +kernel) rfl, sr_tb (n := 12) (by decide +kernel) rfl, ⟨by decide, by decide, by decide +kernel⟩, Or.inl fl_11_119⟩, ⟨TX11, 53, rfl, rfl⟩, sr_tb (n := 1563) (by decide +kernel) rfl, sr_ts (n := 41) (by decide +kernel) rfl⟩
theorem fl_11_133 : Cond.methodLink "ShiftRingModel" 133 (sr_My sr_m11_isPlace) ∈ sr_TB := (sr_tb (n := 1551) (by decide +kernel) rfl)
theorem fm_11_133 : sr_FS "ShiftRingModel" 133 sr_m11_isPlace 1 := ⟨⟨rfl, sr_tb (n := 1553) (by decide +kernel) rfl, sr_tb (n := 12) (by decide +kernel) rfl, ⟨by decide, by decide, by decide +kernel⟩, Or.inl fl_11_133⟩, sr_tb (n := 1552) (by decide +kernel) rfl⟩
theorem fl_11_137 : Cond.methodLink "ShiftRingModel" 137 (sr_My sr_m11_laysNow) ∈ sr_TB := (sr_tb (n := 1557) (by decide +kernel) rfl)
theorem fm_11_137 : sr_FV "ShiftRingModel" 137 sr_m11_laysNow 11 1 := ⟨⟨rfl, sr_tb (n := 1560) (by decide +kernel) rfl, sr_tb (n := 12) (by decide +kernel) rfl, ⟨by decide, by decide, by decide +kernel⟩, Or.inl fl_11_137⟩, ⟨TX11, 53, rfl, rfl⟩, sr_tb (n := 1559) (by decide +kernel) rfl, sr_ts (n := 40) (by decide +kernel) rfl⟩
theorem rm_11_hostOf_11_from : sr_RM sr_m11_hostOf sr_m11_from := ⟨Nat.le_of_ble_eq_true rfl, Nat.le_of_ble_eq_true rfl⟩
theorem rm_11_isPlace_11_isIn : sr_RM sr_m11_isPlace sr_m11_isIn := ⟨Nat.le_of_ble_eq_true rfl, Nat.le_of_ble_eq_true rfl⟩
theorem rm_11_join_11_isPlace : sr_RM sr_m11_join sr_m11_isPlace := ⟨Nat.le_of_ble_eq_true rfl, Nat.le_of_ble_eq_true rfl⟩
theorem rm_11_join_11_laysNow : sr_RM sr_m11_join sr_m11_laysNow := ⟨Nat.le_of_ble_eq_true rfl, Nat.le_of_ble_eq_true rfl⟩
theorem rm_11_lays_11_hostOf : sr_RM sr_m11_lays sr_m11_hostOf := ⟨Nat.le_of_ble_eq_true rfl, Nat.le_of_ble_eq_true rfl⟩
theorem rm_11_lays_11_upFrom : sr_RM sr_m11_lays sr_m11_upFrom := ⟨Nat.le_of_ble_eq_true rfl, Nat.le_of_ble_eq_true rfl⟩
theorem rm_11_lays_11_ups : sr_RM sr_m11_lays sr_m11_ups := ⟨Nat.le_of_ble_eq_true rfl, Nat.le_of_ble_eq_true rfl⟩
theorem rm_11_laysNow_11_lays : sr_RM sr_m11_laysNow sr_m11_lays := ⟨Nat.le_of_ble_eq_true rfl, Nat.le_of_ble_eq_true rfl⟩
theorem rm_11_upFrom_11_from : sr_RM sr_m11_upFrom sr_m11_from := ⟨Nat.le_of_ble_eq_true rfl, Nat.le_of_ble_eq_true rfl⟩
def f11_isIn_15 (a0 : Int32) (a1 : Int32) (a2 : Int32)  : Int32 → sr_t → sr_Rs := fun xs0 t => (if xs0 = 0 ∨ xs0 = 1 then some (.inl (some (sr_i xs0)), t) else none)
theorem g11_isIn_15 (l : Launch) (a0 : Int32) (a1 : Int32) (a2 : Int32)    : ∀ (xs0 : Int32), ∀ (t : sr_t), sr_g l sr_m11_isIn 15 [some (sr_i a0), some (sr_i a1), some (sr_i a2)] [sr_i xs0] t (f11_isIn_15 a0 a1 a2  xs0 t) 0 0 := by
  intro xs0  t
  unfold f11_isIn_15
  exact sr_zr (pc := 15) (by decide +kernel) rfl
def f11_isIn_14 (a0 : Int32) (a1 : Int32) (a2 : Int32)  : sr_t → sr_Rs := fun  t => f11_isIn_15 a0 a1 a2 0 t
theorem g11_isIn_14 (l : Launch) (a0 : Int32) (a1 : Int32) (a2 : Int32)    : ∀ (t : sr_t), sr_g l sr_m11_isIn 14 [some (sr_i a0), some (sr_i a1), some (sr_i a2)] [] t (f11_isIn_14 a0 a1 a2   t) 0 0 := by
  intro t
  unfold f11_isIn_14
  refine sr_iconst (pc := 14) (n := 0) (v := 0) (by decide +kernel) rfl ?_
  exact sr_wk (sr_mono (mc := 0) (ms := 0) (by omega) (by omega) (g11_isIn_15 l a0 a1 a2 0 t)) ⟨rfl, ⟨rfl, ⟨rfl, trivial⟩⟩⟩
def F11_isIn (a0 : Int32) (a1 : Int32) (a2 : Int32) (t : sr_t) : sr_Rs := (if a0 < a1 then f11_isIn_14 a0 a1 a2 t else (if a2 < a0 then f11_isIn_14 a0 a1 a2 t else f11_isIn_15 a0 a1 a2 1 t))
theorem C11_isIn (l : Launch) (a0 : Int32) (a1 : Int32) (a2 : Int32)  (t : sr_t) : sr_ct' l sr_m11_isIn [sr_i a0, sr_i a1, sr_i a2] t (F11_isIn a0 a1 a2 t) 0 0 := by
  refine sr_T_of (L0 := [some (sr_i a0), some (sr_i a1), some (sr_i a2)]) rfl (by decide +kernel) (fun _ => rfl) (fun _ => Nat.le_of_ble_eq_true rfl) ?_
  unfold F11_isIn
  refine sr_iloadn (pc := 0) (n := 0) (by decide +kernel) rfl ?_
  refine sr_iloadn (pc := 1) (n := 1) (by decide +kernel) rfl ?_
  refine sr_icmp_lt (pc := 2) (off := 12) (tg := 14) (by decide +kernel) (by decide) (fun _ => ?_) (fun _ => ?_)
  · exact sr_wk (sr_mono (mc := 0) (ms := 0) (by omega) (by omega) (g11_isIn_14 l a0 a1 a2 t)) ⟨rfl, ⟨rfl, ⟨rfl, trivial⟩⟩⟩
  · refine sr_iloadn (pc := 5) (n := 0) (by decide +kernel) rfl ?_
    refine sr_iloadn (pc := 6) (n := 2) (by decide +kernel) rfl ?_
    refine sr_icmp_gt (pc := 7) (off := 7) (tg := 14) (by decide +kernel) (by decide) (fun _ => ?_) (fun _ => ?_)
    · exact sr_wk (sr_mono (mc := 0) (ms := 0) (by omega) (by omega) (g11_isIn_14 l a0 a1 a2 t)) ⟨rfl, ⟨rfl, ⟨rfl, trivial⟩⟩⟩
    · refine sr_iconst (pc := 10) (n := 1) (v := 1) (by decide +kernel) rfl ?_
      refine sr_goto (pc := 11) (off := 4) (tg := 15) (by decide +kernel) (by decide) ?_
      exact sr_wk (sr_mono (mc := 0) (ms := 0) (by omega) (by omega) (g11_isIn_15 l a0 a1 a2 1 t)) ⟨rfl, ⟨rfl, ⟨rfl, trivial⟩⟩⟩
def F11_isPlace (a0 : Int32) (t : sr_t) : sr_Rs := (sr_bI (F11_isIn a0 0 4095 t) (fun v1 t1 => (if v1 = 0 ∨ v1 = 1 then some (.inl (some (sr_i v1)), t1) else none)))
theorem C11_isPlace (l : Launch) (a0 : Int32)  (t : sr_t) : sr_ct' l sr_m11_isPlace [sr_i a0] t (F11_isPlace a0 t) 0 0 := by
  refine sr_T_of (L0 := [some (sr_i a0)]) rfl (by decide +kernel) (fun _ => rfl) (fun _ => Nat.le_of_ble_eq_true rfl) ?_
  unfold F11_isPlace
  refine sr_iloadn (pc := 0) (n := 0) (by decide +kernel) rfl ?_
  refine sr_iconst (pc := 1) (n := 0) (v := 0) (by decide +kernel) rfl ?_
  refine sr_sipush (pc := 2) (n := 4095) (v := 4095) (by decide +kernel) (by decide) ?_
  refine sr_cS (pc := 5) (As := [sr_i a0, sr_i 0, sr_i 4095]) (mc1 := 0) (ms1 := 0) (mc2 := 0) (ms2 := 0) fm_11_96 fl_11_96 (by decide +kernel) (rm_11_isPlace_11_isIn) rfl rfl rfl (C11_isIn l a0 0 4095 t) ?_
  refine sr_kI (fun v1 t1 => ?_)
  exact sr_zr (pc := 8) (by decide +kernel) rfl
def F11_from (a0 : Int32) (a1 : Int32) (t : sr_t) : sr_Rs := (some (.inl (some (sr_i (((a1 - a0) + 4096) &&& 4095))), t))
theorem C11_from (l : Launch) (a0 : Int32) (a1 : Int32)  (t : sr_t) : sr_ct' l sr_m11_from [sr_i a0, sr_i a1] t (F11_from a0 a1 t) 0 0 := by
  refine sr_T_of (L0 := [some (sr_i a0), some (sr_i a1)]) rfl (by decide +kernel) (fun _ => rfl) (fun _ => Nat.le_of_ble_eq_true rfl) ?_
  unfold F11_from
  refine sr_iloadn (pc := 0) (n := 1) (by decide +kernel) rfl ?_
  refine sr_iloadn (pc := 1) (n := 0) (by decide +kernel) rfl ?_
  refine sr_isub (pc := 2) (by decide +kernel) ?_
  refine sr_sipush (pc := 3) (n := 4096) (v := 4096) (by decide +kernel) (by decide) ?_
  refine sr_iadd (pc := 6) (by decide +kernel) ?_
  refine sr_sipush (pc := 7) (n := 4095) (v := 4095) (by decide +kernel) (by decide) ?_
  refine sr_iand (pc := 10) (by decide +kernel) ?_
  exact sr_iret (pc := 11) (by decide +kernel) rfl
def f11_upFrom_74 (a0 : Int32) (a1 : Int32) (k5 : Int32 → Int32 → sr_t → sr_Rs) (k80 : Int32 → sr_t → sr_Rs) : Int32 → Int32 → sr_t → sr_Rs := fun x3 x4 t => k5 x3 (x4 + 1) t
theorem g11_upFrom_74 (l : Launch) (a0 : Int32) (a1 : Int32)  (k5 : Int32 → Int32 → sr_t → sr_Rs) (k80 : Int32 → sr_t → sr_Rs) (hk5 : ∀ (x3 : Int32) (x4 : Int32), ∀ (t : sr_t), sr_g l sr_m11_upFrom 5 [some (sr_r 11 0), some (sr_i a0), some (sr_i a1), some (sr_i x3), some (sr_i x4)] [] t (k5 x3 x4 t) 0 0) (hk80 : ∀ (x3 : Int32), ∀ (t : sr_t), sr_g l sr_m11_upFrom 80 [some (sr_r 11 0), some (sr_i a0), some (sr_i a1), some (sr_i x3), none] [] t (k80 x3 t) 0 0) : ∀ (x3 : Int32) (x4 : Int32), ∀ (t : sr_t), sr_g l sr_m11_upFrom 74 [some (sr_r 11 0), some (sr_i a0), some (sr_i a1), some (sr_i x3), some (sr_i x4)] [] t (f11_upFrom_74 a0 a1 k5 k80 x3 x4 t) 0 0 := by
  intro x3 x4  t
  unfold f11_upFrom_74
  refine sr_iinc (pc := 74) (i := 4) (n := 1) (w := x4 + 1) (by decide +kernel) rfl rfl (by decide) rfl rfl ?_
  refine sr_goto (pc := 77) (off := (-72)) (tg := 5) (by decide +kernel) (by decide) ?_
  exact sr_wk (sr_mono (mc := 0) (ms := 0) (by omega) (by omega) (hk5 x3 (x4 + 1) t)) ⟨rfl, ⟨rfl, ⟨rfl, ⟨rfl, ⟨rfl, trivial⟩⟩⟩⟩⟩
def f11_upFrom_71 (a0 : Int32) (a1 : Int32) (k5 : Int32 → Int32 → sr_t → sr_Rs) (k80 : Int32 → sr_t → sr_Rs) : Int32 → sr_t → sr_Rs := fun x4 t => f11_upFrom_74 a0 a1 k5 k80 x4 x4 t
theorem g11_upFrom_71 (l : Launch) (a0 : Int32) (a1 : Int32)  (k5 : Int32 → Int32 → sr_t → sr_Rs) (k80 : Int32 → sr_t → sr_Rs) (hk5 : ∀ (x3 : Int32) (x4 : Int32), ∀ (t : sr_t), sr_g l sr_m11_upFrom 5 [some (sr_r 11 0), some (sr_i a0), some (sr_i a1), some (sr_i x3), some (sr_i x4)] [] t (k5 x3 x4 t) 0 0) (hk80 : ∀ (x3 : Int32), ∀ (t : sr_t), sr_g l sr_m11_upFrom 80 [some (sr_r 11 0), some (sr_i a0), some (sr_i a1), some (sr_i x3), none] [] t (k80 x3 t) 0 0) : ∀ (x4 : Int32), ∀ (t : sr_t), sr_g l sr_m11_upFrom 71 [some (sr_r 11 0), some (sr_i a0), some (sr_i a1), none, some (sr_i x4)] [] t (f11_upFrom_71 a0 a1 k5 k80 x4 t) 0 0 := by
  intro x4  t
  unfold f11_upFrom_71
  refine sr_iload (pc := 71) (i := 4) (by decide +kernel) rfl ?_
  refine sr_istoren (pc := 73) (n := 3) (by decide +kernel) (by decide) rfl rfl ?_
  exact sr_wk (sr_mono (mc := 0) (ms := 0) (by omega) (by omega) (g11_upFrom_74 l a0 a1 k5 k80 hk5 hk80 x4 x4 t)) ⟨rfl, ⟨rfl, ⟨rfl, ⟨rfl, ⟨rfl, trivial⟩⟩⟩⟩⟩
def f11_upFrom_42 (a0 : Int32) (a1 : Int32) (k5 : Int32 → Int32 → sr_t → sr_Rs) (k80 : Int32 → sr_t → sr_Rs) : Int32 → Int32 → sr_t → sr_Rs := fun x3 x4 t => (if x3 = ((-1)) then f11_upFrom_71 a0 a1 k5 k80 x4 t else (if x4 < 0 ∨ 24 ≤ x4.toNatClampNeg then none else (sr_bI (F11_from a0 (t.1 24 0 x4.toNatClampNeg) t) (fun v1 t1 => (if x3 < 0 ∨ 24 ≤ x3.toNatClampNeg then none else (sr_bI (F11_from a0 (t1.1 24 0 x3.toNatClampNeg) t1) (fun v2 t2 => (if v2 ≤ v1 then f11_upFrom_74 a0 a1 k5 k80 x3 x4 t2 else f11_upFrom_71 a0 a1 k5 k80 x4 t2))))))))
theorem g11_upFrom_42 (l : Launch) (a0 : Int32) (a1 : Int32)  (k5 : Int32 → Int32 → sr_t → sr_Rs) (k80 : Int32 → sr_t → sr_Rs) (hk5 : ∀ (x3 : Int32) (x4 : Int32), ∀ (t : sr_t), sr_g l sr_m11_upFrom 5 [some (sr_r 11 0), some (sr_i a0), some (sr_i a1), some (sr_i x3), some (sr_i x4)] [] t (k5 x3 x4 t) 0 0) (hk80 : ∀ (x3 : Int32), ∀ (t : sr_t), sr_g l sr_m11_upFrom 80 [some (sr_r 11 0), some (sr_i a0), some (sr_i a1), some (sr_i x3), none] [] t (k80 x3 t) 0 0) : ∀ (x3 : Int32) (x4 : Int32), ∀ (t : sr_t), sr_g l sr_m11_upFrom 42 [some (sr_r 11 0), some (sr_i a0), some (sr_i a1), some (sr_i x3), some (sr_i x4)] [] t (f11_upFrom_42 a0 a1 k5 k80 x3 x4 t) 0 0 := by
  intro x3 x4  t
  unfold f11_upFrom_42
  refine sr_iloadn (pc := 42) (n := 3) (by decide +kernel) rfl ?_
  refine sr_iconst (pc := 43) (n := (-1)) (v := (-1)) (by decide +kernel) rfl ?_
  refine sr_icmp_eq (pc := 44) (off := 27) (tg := 71) (by decide +kernel) (by decide) (fun _ => ?_) (fun _ => ?_)
  · exact sr_wk (sr_mono (mc := 0) (ms := 0) (by omega) (by omega) (g11_upFrom_71 l a0 a1 k5 k80 hk5 hk80 x4 t)) ⟨rfl, ⟨rfl, ⟨rfl, ⟨rfl, trivial⟩⟩⟩⟩
  · refine sr_iloadn (pc := 47) (n := 1) (by decide +kernel) rfl ?_
    refine sr_aloadn (pc := 48) (n := 0) (by decide +kernel) rfl ?_
    refine sr_gC (pc := 49) (i2 := 0) fg_11_7 (by decide +kernel) (sr_in11 _ (by omega)) (fun _ => rfl) ?_
    refine sr_iload (pc := 52) (i := 4) (by decide +kernel) rfl ?_
    refine sr_aI (pc := 54) (n := 24) rfl (by decide +kernel) (sr_in24 _ (by omega)) (fun _ _ => rfl) ?_
    refine sr_cS (pc := 55) (As := [sr_i a0, sr_i (t.1 24 0 x4.toNatClampNeg)]) (mc1 := 0) (ms1 := 0) (mc2 := 0) (ms2 := 0) fm_11_103 fl_11_103 (by decide +kernel) (rm_11_upFrom_11_from) rfl rfl rfl (C11_from l a0 (t.1 24 0 x4.toNatClampNeg) t) ?_
    refine sr_kI (fun v1 t1 => ?_)
    refine sr_iloadn (pc := 58) (n := 1) (by decide +kernel) rfl ?_
    refine sr_aloadn (pc := 59) (n := 0) (by decide +kernel) rfl ?_
    refine sr_gC (pc := 60) (i2 := 0) fg_11_7 (by decide +kernel) (sr_in11 _ (by omega)) (fun _ => rfl) ?_
    refine sr_iloadn (pc := 63) (n := 3) (by decide +kernel) rfl ?_
    refine sr_aI (pc := 64) (n := 24) rfl (by decide +kernel) (sr_in24 _ (by omega)) (fun _ _ => rfl) ?_
    refine sr_cS (pc := 65) (As := [sr_i a0, sr_i (t1.1 24 0 x3.toNatClampNeg)]) (mc1 := 0) (ms1 := 0) (mc2 := 0) (ms2 := 0) fm_11_103 fl_11_103 (by decide +kernel) (rm_11_upFrom_11_from) rfl rfl rfl (C11_from l a0 (t1.1 24 0 x3.toNatClampNeg) t1) ?_
    refine sr_kI (fun v2 t2 => ?_)
    refine sr_icmp_ge (pc := 68) (off := 6) (tg := 74) (by decide +kernel) (by decide) (fun _ => ?_) (fun _ => ?_)
    · exact sr_wk (sr_mono (mc := 0) (ms := 0) (by omega) (by omega) (g11_upFrom_74 l a0 a1 k5 k80 hk5 hk80 x3 x4 t2)) ⟨rfl, ⟨rfl, ⟨rfl, ⟨rfl, ⟨rfl, trivial⟩⟩⟩⟩⟩
    · exact sr_wk (sr_mono (mc := 0) (ms := 0) (by omega) (by omega) (g11_upFrom_71 l a0 a1 k5 k80 hk5 hk80 x4 t2)) ⟨rfl, ⟨rfl, ⟨rfl, ⟨rfl, trivial⟩⟩⟩⟩
def f11_upFrom_5 (a0 : Int32) (a1 : Int32) (k80 : Int32 → sr_t → sr_Rs) : Nat → Int32 → Int32 → sr_t → sr_Rs
  | 0 => fun _ _ _ => none
  | n + 1 => fun x3 x4 t => (if (t.1 11 0 1) ≤ x4 then k80 x3 t else (if x4 < 0 ∨ 24 ≤ x4.toNatClampNeg then none else (if (t.1 25 0 x4.toNatClampNeg) = 0 then f11_upFrom_74 a0 a1 (f11_upFrom_5 a0 a1 k80 n) k80 x3 x4 t else (if a1 = 0 then (if x4 < 0 ∨ 24 ≤ x4.toNatClampNeg then none else (if (t.1 24 0 x4.toNatClampNeg) = a0 then f11_upFrom_74 a0 a1 (f11_upFrom_5 a0 a1 k80 n) k80 x3 x4 t else f11_upFrom_42 a0 a1 (f11_upFrom_5 a0 a1 k80 n) k80 x3 x4 t)) else f11_upFrom_42 a0 a1 (f11_upFrom_5 a0 a1 k80 n) k80 x3 x4 t))))
theorem g11_upFrom_5 (l : Launch) (a0 : Int32) (a1 : Int32)  (k80 : Int32 → sr_t → sr_Rs) (hk80 : ∀ (x3 : Int32), ∀ (t : sr_t), sr_g l sr_m11_upFrom 80 [some (sr_r 11 0), some (sr_i a0), some (sr_i a1), some (sr_i x3), none] [] t (k80 x3 t) 0 0) : ∀ (n : Nat) (x3 : Int32) (x4 : Int32), ∀ (t : sr_t), sr_g l sr_m11_upFrom 5 [some (sr_r 11 0), some (sr_i a0), some (sr_i a1), some (sr_i x3), some (sr_i x4)] [] t (f11_upFrom_5 a0 a1 k80 n x3 x4 t) 0 0 := by
  intro n
  induction n with
  | zero => intros; exact sr_Gn
  | succ n ih =>
    intro x3 x4  t
    unfold f11_upFrom_5
    refine sr_iload (pc := 5) (i := 4) (by decide +kernel) rfl ?_
    refine sr_aloadn (pc := 7) (n := 0) (by decide +kernel) rfl ?_
    refine sr_gI (pc := 8) fg_11_100 (by decide +kernel) (sr_in11 _ (by omega)) (fun _ => rfl) ?_
    refine sr_icmp_ge (pc := 11) (off := 69) (tg := 80) (by decide +kernel) (by decide) (fun _ => ?_) (fun _ => ?_)
    · exact sr_wk (sr_mono (mc := 0) (ms := 0) (by omega) (by omega) (hk80 x3 t)) ⟨rfl, ⟨rfl, ⟨rfl, ⟨rfl, trivial⟩⟩⟩⟩
    · refine sr_aloadn (pc := 14) (n := 0) (by decide +kernel) rfl ?_
      refine sr_gC (pc := 15) (i2 := 0) fg_11_13 (by decide +kernel) (sr_in11 _ (by omega)) (fun _ => rfl) ?_
      refine sr_iload (pc := 18) (i := 4) (by decide +kernel) rfl ?_
      refine sr_aI (pc := 20) (n := 24) rfl (by decide +kernel) (sr_in25 _ (by omega)) (fun _ _ => rfl) ?_
      refine sr_if_eq (pc := 21) (off := 53) (tg := 74) (by decide +kernel) (by decide) (fun _ => ?_) (fun _ => ?_)
      · exact sr_wk (sr_mono (mc := 0) (ms := 0) (by omega) (by omega) (g11_upFrom_74 l a0 a1 (f11_upFrom_5 a0 a1 k80 n) k80 ih hk80 x3 x4 t)) ⟨rfl, ⟨rfl, ⟨rfl, ⟨rfl, ⟨rfl, trivial⟩⟩⟩⟩⟩
      · refine sr_iloadn (pc := 24) (n := 2) (by decide +kernel) rfl ?_
        refine sr_if_ne (pc := 25) (off := 17) (tg := 42) (by decide +kernel) (by decide) (fun _ => ?_) (fun _ => ?_)
        · exact sr_wk (sr_mono (mc := 0) (ms := 0) (by omega) (by omega) (g11_upFrom_42 l a0 a1 (f11_upFrom_5 a0 a1 k80 n) k80 ih hk80 x3 x4 t)) ⟨rfl, ⟨rfl, ⟨rfl, ⟨rfl, ⟨rfl, trivial⟩⟩⟩⟩⟩
        · refine sr_aloadn (pc := 28) (n := 0) (by decide +kernel) rfl ?_
          refine sr_gC (pc := 29) (i2 := 0) fg_11_7 (by decide +kernel) (sr_in11 _ (by omega)) (fun _ => rfl) ?_
          refine sr_iload (pc := 32) (i := 4) (by decide +kernel) rfl ?_
          refine sr_aI (pc := 34) (n := 24) rfl (by decide +kernel) (sr_in24 _ (by omega)) (fun _ _ => rfl) ?_
          refine sr_iloadn (pc := 35) (n := 1) (by decide +kernel) rfl ?_
          refine sr_icmp_ne (pc := 36) (off := 6) (tg := 42) (by decide +kernel) (by decide) (fun _ => ?_) (fun _ => ?_)
          · exact sr_wk (sr_mono (mc := 0) (ms := 0) (by omega) (by omega) (g11_upFrom_42 l a0 a1 (f11_upFrom_5 a0 a1 k80 n) k80 ih hk80 x3 x4 t)) ⟨rfl, ⟨rfl, ⟨rfl, ⟨rfl, ⟨rfl, trivial⟩⟩⟩⟩⟩
          · refine sr_goto (pc := 39) (off := 35) (tg := 74) (by decide +kernel) (by decide) ?_
            exact sr_wk (sr_mono (mc := 0) (ms := 0) (by omega) (by omega) (g11_upFrom_74 l a0 a1 (f11_upFrom_5 a0 a1 k80 n) k80 ih hk80 x3 x4 t)) ⟨rfl, ⟨rfl, ⟨rfl, ⟨rfl, ⟨rfl, trivial⟩⟩⟩⟩⟩
def f11_upFrom_80 (a0 : Int32) (a1 : Int32)  : Int32 → sr_t → sr_Rs := fun x3 t => (some (.inl (some (sr_i x3)), t))
theorem g11_upFrom_80 (l : Launch) (a0 : Int32) (a1 : Int32)    : ∀ (x3 : Int32), ∀ (t : sr_t), sr_g l sr_m11_upFrom 80 [some (sr_r 11 0), some (sr_i a0), some (sr_i a1), some (sr_i x3), none] [] t (f11_upFrom_80 a0 a1  x3 t) 0 0 := by
  intro x3  t
  unfold f11_upFrom_80
  refine sr_iloadn (pc := 80) (n := 3) (by decide +kernel) rfl ?_
  exact sr_iret (pc := 81) (by decide +kernel) rfl
def F11_upFrom (a0 : Int32) (a1 : Int32) (t : sr_t) : sr_Rs := f11_upFrom_5 a0 a1 (f11_upFrom_80 a0 a1) sr_fu ((-1)) 0 t
theorem C11_upFrom (l : Launch) (a0 : Int32) (a1 : Int32)  (t : sr_t) : sr_ct' l sr_m11_upFrom [sr_r 11 0, sr_i a0, sr_i a1] t (F11_upFrom a0 a1 t) 0 0 := by
  refine sr_T_of (L0 := [some (sr_r 11 0), some (sr_i a0), some (sr_i a1), none, none]) rfl (by decide +kernel) (fun _ => rfl) (fun _ => Nat.le_of_ble_eq_true rfl) ?_
  unfold F11_upFrom
  refine sr_iconst (pc := 0) (n := (-1)) (v := (-1)) (by decide +kernel) rfl ?_
  refine sr_istoren (pc := 1) (n := 3) (by decide +kernel) (by decide) rfl rfl ?_
  refine sr_iconst (pc := 2) (n := 0) (v := 0) (by decide +kernel) rfl ?_
  refine sr_istore (pc := 3) (i := 4) (by decide +kernel) (by decide) rfl rfl ?_
  exact sr_wk (sr_mono (mc := 0) (ms := 0) (by omega) (by omega) (g11_upFrom_5 l a0 a1 (f11_upFrom_80 a0 a1) (g11_upFrom_80 l a0 a1) sr_fu ((-1)) 0 t)) ⟨rfl, ⟨rfl, ⟨rfl, ⟨rfl, ⟨rfl, trivial⟩⟩⟩⟩⟩
def f11_hostOf_52 (a0 : Int32) (k4 : Int32 → Int32 → sr_t → sr_Rs) (k58 : Int32 → sr_t → sr_Rs) : Int32 → Int32 → sr_t → sr_Rs := fun x2 x3 t => k4 x2 (x3 + 1) t
theorem g11_hostOf_52 (l : Launch) (a0 : Int32)  (k4 : Int32 → Int32 → sr_t → sr_Rs) (k58 : Int32 → sr_t → sr_Rs) (hk4 : ∀ (x2 : Int32) (x3 : Int32), ∀ (t : sr_t), sr_g l sr_m11_hostOf 4 [some (sr_r 11 0), some (sr_i a0), some (sr_i x2), some (sr_i x3)] [] t (k4 x2 x3 t) 0 0) (hk58 : ∀ (x2 : Int32), ∀ (t : sr_t), sr_g l sr_m11_hostOf 58 [some (sr_r 11 0), some (sr_i a0), some (sr_i x2), none] [] t (k58 x2 t) 0 0) : ∀ (x2 : Int32) (x3 : Int32), ∀ (t : sr_t), sr_g l sr_m11_hostOf 52 [some (sr_r 11 0), some (sr_i a0), some (sr_i x2), some (sr_i x3)] [] t (f11_hostOf_52 a0 k4 k58 x2 x3 t) 0 0 := by
  intro x2 x3  t
  unfold f11_hostOf_52
  refine sr_iinc (pc := 52) (i := 3) (n := 1) (w := x3 + 1) (by decide +kernel) rfl rfl (by decide) rfl rfl ?_
  refine sr_goto (pc := 55) (off := (-51)) (tg := 4) (by decide +kernel) (by decide) ?_
  exact sr_wk (sr_mono (mc := 0) (ms := 0) (by omega) (by omega) (hk4 x2 (x3 + 1) t)) ⟨rfl, ⟨rfl, ⟨rfl, ⟨rfl, trivial⟩⟩⟩⟩
def f11_hostOf_50 (a0 : Int32) (k4 : Int32 → Int32 → sr_t → sr_Rs) (k58 : Int32 → sr_t → sr_Rs) : Int32 → sr_t → sr_Rs := fun x3 t => f11_hostOf_52 a0 k4 k58 x3 x3 t
theorem g11_hostOf_50 (l : Launch) (a0 : Int32)  (k4 : Int32 → Int32 → sr_t → sr_Rs) (k58 : Int32 → sr_t → sr_Rs) (hk4 : ∀ (x2 : Int32) (x3 : Int32), ∀ (t : sr_t), sr_g l sr_m11_hostOf 4 [some (sr_r 11 0), some (sr_i a0), some (sr_i x2), some (sr_i x3)] [] t (k4 x2 x3 t) 0 0) (hk58 : ∀ (x2 : Int32), ∀ (t : sr_t), sr_g l sr_m11_hostOf 58 [some (sr_r 11 0), some (sr_i a0), some (sr_i x2), none] [] t (k58 x2 t) 0 0) : ∀ (x3 : Int32), ∀ (t : sr_t), sr_g l sr_m11_hostOf 50 [some (sr_r 11 0), some (sr_i a0), none, some (sr_i x3)] [] t (f11_hostOf_50 a0 k4 k58 x3 t) 0 0 := by
  intro x3  t
  unfold f11_hostOf_50
  refine sr_iloadn (pc := 50) (n := 3) (by decide +kernel) rfl ?_
  refine sr_istoren (pc := 51) (n := 2) (by decide +kernel) (by decide) rfl rfl ?_
  exact sr_wk (sr_mono (mc := 0) (ms := 0) (by omega) (by omega) (g11_hostOf_52 l a0 k4 k58 hk4 hk58 x3 x3 t)) ⟨rfl, ⟨rfl, ⟨rfl, ⟨rfl, trivial⟩⟩⟩⟩
def f11_hostOf_4 (a0 : Int32) (k58 : Int32 → sr_t → sr_Rs) : Nat → Int32 → Int32 → sr_t → sr_Rs
  | 0 => fun _ _ _ => none
  | n + 1 => fun x2 x3 t => (if (t.1 11 0 1) ≤ x3 then k58 x2 t else (if x3 < 0 ∨ 24 ≤ x3.toNatClampNeg then none else (if (t.1 25 0 x3.toNatClampNeg) = 1 then (if x2 = ((-1)) then f11_hostOf_50 a0 (f11_hostOf_4 a0 k58 n) k58 x3 t else (if x3 < 0 ∨ 24 ≤ x3.toNatClampNeg then none else (sr_bI (F11_from (t.1 24 0 x3.toNatClampNeg) a0 t) (fun v1 t1 => (if x2 < 0 ∨ 24 ≤ x2.toNatClampNeg then none else (sr_bI (F11_from (t1.1 24 0 x2.toNatClampNeg) a0 t1) (fun v2 t2 => (if v2 ≤ v1 then f11_hostOf_52 a0 (f11_hostOf_4 a0 k58 n) k58 x2 x3 t2 else f11_hostOf_50 a0 (f11_hostOf_4 a0 k58 n) k58 x3 t2)))))))) else f11_hostOf_52 a0 (f11_hostOf_4 a0 k58 n) k58 x2 x3 t)))
theorem g11_hostOf_4 (l : Launch) (a0 : Int32)  (k58 : Int32 → sr_t → sr_Rs) (hk58 : ∀ (x2 : Int32), ∀ (t : sr_t), sr_g l sr_m11_hostOf 58 [some (sr_r 11 0), some (sr_i a0), some (sr_i x2), none] [] t (k58 x2 t) 0 0) : ∀ (n : Nat) (x2 : Int32) (x3 : Int32), ∀ (t : sr_t), sr_g l sr_m11_hostOf 4 [some (sr_r 11 0), some (sr_i a0), some (sr_i x2), some (sr_i x3)] [] t (f11_hostOf_4 a0 k58 n x2 x3 t) 0 0 := by
  intro n
  induction n with
  | zero => intros; exact sr_Gn
  | succ n ih =>
    intro x2 x3  t
    unfold f11_hostOf_4
    refine sr_iloadn (pc := 4) (n := 3) (by decide +kernel) rfl ?_
    refine sr_aloadn (pc := 5) (n := 0) (by decide +kernel) rfl ?_
    refine sr_gI (pc := 6) fg_11_100 (by decide +kernel) (sr_in11 _ (by omega)) (fun _ => rfl) ?_
    refine sr_icmp_ge (pc := 9) (off := 49) (tg := 58) (by decide +kernel) (by decide) (fun _ => ?_) (fun _ => ?_)
    · exact sr_wk (sr_mono (mc := 0) (ms := 0) (by omega) (by omega) (hk58 x2 t)) ⟨rfl, ⟨rfl, ⟨rfl, trivial⟩⟩⟩
    · refine sr_aloadn (pc := 12) (n := 0) (by decide +kernel) rfl ?_
      refine sr_gC (pc := 13) (i2 := 0) fg_11_13 (by decide +kernel) (sr_in11 _ (by omega)) (fun _ => rfl) ?_
      refine sr_iloadn (pc := 16) (n := 3) (by decide +kernel) rfl ?_
      refine sr_aI (pc := 17) (n := 24) rfl (by decide +kernel) (sr_in25 _ (by omega)) (fun _ _ => rfl) ?_
      refine sr_iconst (pc := 18) (n := 1) (v := 1) (by decide +kernel) rfl ?_
      refine sr_icmp_ne (pc := 19) (off := 33) (tg := 52) (by decide +kernel) (by decide) (fun _ => ?_) (fun _ => ?_)
      · exact sr_wk (sr_mono (mc := 0) (ms := 0) (by omega) (by omega) (g11_hostOf_52 l a0 (f11_hostOf_4 a0 k58 n) k58 ih hk58 x2 x3 t)) ⟨rfl, ⟨rfl, ⟨rfl, ⟨rfl, trivial⟩⟩⟩⟩
      · refine sr_iloadn (pc := 22) (n := 2) (by decide +kernel) rfl ?_
        refine sr_iconst (pc := 23) (n := (-1)) (v := (-1)) (by decide +kernel) rfl ?_
        refine sr_icmp_eq (pc := 24) (off := 26) (tg := 50) (by decide +kernel) (by decide) (fun _ => ?_) (fun _ => ?_)
        · exact sr_wk (sr_mono (mc := 0) (ms := 0) (by omega) (by omega) (g11_hostOf_50 l a0 (f11_hostOf_4 a0 k58 n) k58 ih hk58 x3 t)) ⟨rfl, ⟨rfl, ⟨rfl, trivial⟩⟩⟩
        · refine sr_aloadn (pc := 27) (n := 0) (by decide +kernel) rfl ?_
          refine sr_gC (pc := 28) (i2 := 0) fg_11_7 (by decide +kernel) (sr_in11 _ (by omega)) (fun _ => rfl) ?_
          refine sr_iloadn (pc := 31) (n := 3) (by decide +kernel) rfl ?_
          refine sr_aI (pc := 32) (n := 24) rfl (by decide +kernel) (sr_in24 _ (by omega)) (fun _ _ => rfl) ?_
          refine sr_iloadn (pc := 33) (n := 1) (by decide +kernel) rfl ?_
          refine sr_cS (pc := 34) (As := [sr_i (t.1 24 0 x3.toNatClampNeg), sr_i a0]) (mc1 := 0) (ms1 := 0) (mc2 := 0) (ms2 := 0) fm_11_103 fl_11_103 (by decide +kernel) (rm_11_hostOf_11_from) rfl rfl rfl (C11_from l (t.1 24 0 x3.toNatClampNeg) a0 t) ?_
          refine sr_kI (fun v1 t1 => ?_)
          refine sr_aloadn (pc := 37) (n := 0) (by decide +kernel) rfl ?_
          refine sr_gC (pc := 38) (i2 := 0) fg_11_7 (by decide +kernel) (sr_in11 _ (by omega)) (fun _ => rfl) ?_
          refine sr_iloadn (pc := 41) (n := 2) (by decide +kernel) rfl ?_
          refine sr_aI (pc := 42) (n := 24) rfl (by decide +kernel) (sr_in24 _ (by omega)) (fun _ _ => rfl) ?_
          refine sr_iloadn (pc := 43) (n := 1) (by decide +kernel) rfl ?_
          refine sr_cS (pc := 44) (As := [sr_i (t1.1 24 0 x2.toNatClampNeg), sr_i a0]) (mc1 := 0) (ms1 := 0) (mc2 := 0) (ms2 := 0) fm_11_103 fl_11_103 (by decide +kernel) (rm_11_hostOf_11_from) rfl rfl rfl (C11_from l (t1.1 24 0 x2.toNatClampNeg) a0 t1) ?_
          refine sr_kI (fun v2 t2 => ?_)
          refine sr_icmp_ge (pc := 47) (off := 5) (tg := 52) (by decide +kernel) (by decide) (fun _ => ?_) (fun _ => ?_)
          · exact sr_wk (sr_mono (mc := 0) (ms := 0) (by omega) (by omega) (g11_hostOf_52 l a0 (f11_hostOf_4 a0 k58 n) k58 ih hk58 x2 x3 t2)) ⟨rfl, ⟨rfl, ⟨rfl, ⟨rfl, trivial⟩⟩⟩⟩
          · exact sr_wk (sr_mono (mc := 0) (ms := 0) (by omega) (by omega) (g11_hostOf_50 l a0 (f11_hostOf_4 a0 k58 n) k58 ih hk58 x3 t2)) ⟨rfl, ⟨rfl, ⟨rfl, trivial⟩⟩⟩
def f11_hostOf_58 (a0 : Int32)  : Int32 → sr_t → sr_Rs := fun x2 t => (some (.inl (some (sr_i x2)), t))
theorem g11_hostOf_58 (l : Launch) (a0 : Int32)    : ∀ (x2 : Int32), ∀ (t : sr_t), sr_g l sr_m11_hostOf 58 [some (sr_r 11 0), some (sr_i a0), some (sr_i x2), none] [] t (f11_hostOf_58 a0  x2 t) 0 0 := by
  intro x2  t
  unfold f11_hostOf_58
  refine sr_iloadn (pc := 58) (n := 2) (by decide +kernel) rfl ?_
  exact sr_iret (pc := 59) (by decide +kernel) rfl
def F11_hostOf (a0 : Int32) (t : sr_t) : sr_Rs := f11_hostOf_4 a0 (f11_hostOf_58 a0) sr_fu ((-1)) 0 t
theorem C11_hostOf (l : Launch) (a0 : Int32)  (t : sr_t) : sr_ct' l sr_m11_hostOf [sr_r 11 0, sr_i a0] t (F11_hostOf a0 t) 0 0 := by
  refine sr_T_of (L0 := [some (sr_r 11 0), some (sr_i a0), none, none]) rfl (by decide +kernel) (fun _ => rfl) (fun _ => Nat.le_of_ble_eq_true rfl) ?_
  unfold F11_hostOf
  refine sr_iconst (pc := 0) (n := (-1)) (v := (-1)) (by decide +kernel) rfl ?_
  refine sr_istoren (pc := 1) (n := 2) (by decide +kernel) (by decide) rfl rfl ?_
  refine sr_iconst (pc := 2) (n := 0) (v := 0) (by decide +kernel) rfl ?_
  refine sr_istoren (pc := 3) (n := 3) (by decide +kernel) (by decide) rfl rfl ?_
  exact sr_wk (sr_mono (mc := 0) (ms := 0) (by omega) (by omega) (g11_hostOf_4 l a0 (f11_hostOf_58 a0) (g11_hostOf_58 l a0) sr_fu ((-1)) 0 t)) ⟨rfl, ⟨rfl, ⟨rfl, ⟨rfl, trivial⟩⟩⟩⟩
def f11_ups_4  (k27 : Int32 → sr_t → sr_Rs) : Nat → Int32 → Int32 → sr_t → sr_Rs
  | 0 => fun _ _ _ => none
  | n + 1 => fun x1 x2 t => (if (t.1 11 0 1) ≤ x2 then k27 x1 t else (if x2 < 0 ∨ 24 ≤ x2.toNatClampNeg then none else (f11_ups_4 k27 n) (x1 + (t.1 25 0 x2.toNatClampNeg)) (x2 + 1) t))
theorem g11_ups_4 (l : Launch)   (k27 : Int32 → sr_t → sr_Rs) (hk27 : ∀ (x1 : Int32), ∀ (t : sr_t), sr_g l sr_m11_ups 27 [some (sr_r 11 0), some (sr_i x1), none] [] t (k27 x1 t) 0 0) : ∀ (n : Nat) (x1 : Int32) (x2 : Int32), ∀ (t : sr_t), sr_g l sr_m11_ups 4 [some (sr_r 11 0), some (sr_i x1), some (sr_i x2)] [] t (f11_ups_4  k27 n x1 x2 t) 0 0 := by
  intro n
  induction n with
  | zero => intros; exact sr_Gn
  | succ n ih =>
    intro x1 x2  t
    unfold f11_ups_4
    refine sr_iloadn (pc := 4) (n := 2) (by decide +kernel) rfl ?_
    refine sr_aloadn (pc := 5) (n := 0) (by decide +kernel) rfl ?_
    refine sr_gI (pc := 6) fg_11_100 (by decide +kernel) (sr_in11 _ (by omega)) (fun _ => rfl) ?_
    refine sr_icmp_ge (pc := 9) (off := 18) (tg := 27) (by decide +kernel) (by decide) (fun _ => ?_) (fun _ => ?_)
    · exact sr_wk (sr_mono (mc := 0) (ms := 0) (by omega) (by omega) (hk27 x1 t)) ⟨rfl, ⟨rfl, trivial⟩⟩
    · refine sr_iloadn (pc := 12) (n := 1) (by decide +kernel) rfl ?_
      refine sr_aloadn (pc := 13) (n := 0) (by decide +kernel) rfl ?_
      refine sr_gC (pc := 14) (i2 := 0) fg_11_13 (by decide +kernel) (sr_in11 _ (by omega)) (fun _ => rfl) ?_
      refine sr_iloadn (pc := 17) (n := 2) (by decide +kernel) rfl ?_
      refine sr_aI (pc := 18) (n := 24) rfl (by decide +kernel) (sr_in25 _ (by omega)) (fun _ _ => rfl) ?_
      refine sr_iadd (pc := 19) (by decide +kernel) ?_
      refine sr_istoren (pc := 20) (n := 1) (by decide +kernel) (by decide) rfl rfl ?_
      refine sr_iinc (pc := 21) (i := 2) (n := 1) (w := x2 + 1) (by decide +kernel) rfl rfl (by decide) rfl rfl ?_
      refine sr_goto (pc := 24) (off := (-20)) (tg := 4) (by decide +kernel) (by decide) ?_
      exact sr_wk (sr_mono (mc := 0) (ms := 0) (by omega) (by omega) (ih (x1 + (t.1 25 0 x2.toNatClampNeg)) (x2 + 1) t)) ⟨rfl, ⟨rfl, ⟨rfl, trivial⟩⟩⟩
def f11_ups_27   : Int32 → sr_t → sr_Rs := fun x1 t => (some (.inl (some (sr_i x1)), t))
theorem g11_ups_27 (l : Launch)     : ∀ (x1 : Int32), ∀ (t : sr_t), sr_g l sr_m11_ups 27 [some (sr_r 11 0), some (sr_i x1), none] [] t (f11_ups_27   x1 t) 0 0 := by
  intro x1  t
  unfold f11_ups_27
  refine sr_iloadn (pc := 27) (n := 1) (by decide +kernel) rfl ?_
  exact sr_iret (pc := 28) (by decide +kernel) rfl
def F11_ups  (t : sr_t) : sr_Rs := f11_ups_4 f11_ups_27 sr_fu 0 0 t
theorem C11_ups (l : Launch)   (t : sr_t) : sr_ct' l sr_m11_ups [sr_r 11 0] t (F11_ups  t) 0 0 := by
  refine sr_T_of (L0 := [some (sr_r 11 0), none, none]) rfl (by decide +kernel) (fun _ => rfl) (fun _ => Nat.le_of_ble_eq_true rfl) ?_
  unfold F11_ups
  refine sr_iconst (pc := 0) (n := 0) (v := 0) (by decide +kernel) rfl ?_
  refine sr_istoren (pc := 1) (n := 1) (by decide +kernel) (by decide) rfl rfl ?_
  refine sr_iconst (pc := 2) (n := 0) (v := 0) (by decide +kernel) rfl ?_
  refine sr_istoren (pc := 3) (n := 2) (by decide +kernel) (by decide) rfl rfl ?_
  exact sr_wk (sr_mono (mc := 0) (ms := 0) (by omega) (by omega) (g11_ups_4 l f11_ups_27 (g11_ups_27 l) sr_fu 0 0 t)) ⟨rfl, ⟨rfl, ⟨rfl, trivial⟩⟩⟩
def f11_lays_27_3 (a0 : Int32) (a1 : Int32) (a2 : Int32) (a4 : Int32) (k25 : sr_t → sr_Rs) : Nat → Int32 → sr_t → sr_Rs
  | 0 => fun _ _ => none
  | n + 1 => fun x6 t => (if 14 ≤ x6 then k25 t else (if a4 + x6 < 0 ∨ 336 ≤ (a4 + x6).toNatClampNeg then none else sr_lt (sr_u t 27 0 (a4 + x6).toNatClampNeg ((-1))) (fun t1 => (f11_lays_27_3 a0 a1 a2 a4 k25 n) (x6 + 1) t1)))
theorem g11_lays_27_3 (l : Launch) (a0 : Int32) (a1 : Int32) (a2 : Int32) (a4 : Int32)  (k25 : sr_t → sr_Rs) (hk25 : ∀ (t : sr_t), sr_g l sr_m11_lays 25 [some (sr_r 11 0), some (sr_i a0), some (sr_i a1), some (sr_i a2), some (sr_r 27 0), some (sr_i a4), none, none, none] [] t (k25 t) 0 0) : ∀ (n : Nat) (x6 : Int32), ∀ (t : sr_t), sr_g l sr_m11_lays 3 [some (sr_r 11 0), some (sr_i a0), some (sr_i a1), some (sr_i a2), some (sr_r 27 0), some (sr_i a4), some (sr_i x6), none, none] [] t (f11_lays_27_3 a0 a1 a2 a4 k25 n x6 t) 0 0 := by
  intro n
  induction n with
  | zero => intros; exact sr_Gn
  | succ n ih =>
    intro x6  t
    unfold f11_lays_27_3
    refine sr_iload (pc := 3) (i := 6) (by decide +kernel) rfl ?_
    refine sr_bipush (pc := 5) (n := 14) (v := 14) (by decide +kernel) (by decide) ?_
    refine sr_icmp_ge (pc := 7) (off := 18) (tg := 25) (by decide +kernel) (by decide) (fun _ => ?_) (fun _ => ?_)
    · exact sr_wk (sr_mono (mc := 0) (ms := 0) (by omega) (by omega) (hk25 t)) ⟨rfl, ⟨rfl, ⟨rfl, ⟨rfl, ⟨rfl, ⟨rfl, trivial⟩⟩⟩⟩⟩⟩
    · refine sr_aload (pc := 10) (i := 4) (by decide +kernel) rfl ?_
      refine sr_iload (pc := 12) (i := 5) (by decide +kernel) rfl ?_
      refine sr_iload (pc := 14) (i := 6) (by decide +kernel) rfl ?_
      refine sr_iadd (pc := 16) (by decide +kernel) ?_
      refine sr_iconst (pc := 17) (n := (-1)) (v := (-1)) (by decide +kernel) rfl ?_
      refine sr_sI (pc := 18) (n := 336) rfl (by decide +kernel) (sr_in27 _ (by omega)) (fun _ _ => rfl) (fun t1 => ?_)
      refine sr_iinc (pc := 19) (i := 6) (n := 1) (w := x6 + 1) (by decide +kernel) rfl rfl (by decide) rfl rfl ?_
      refine sr_goto (pc := 22) (off := (-19)) (tg := 3) (by decide +kernel) (by decide) ?_
      exact sr_wk (sr_mono (mc := 0) (ms := 0) (by omega) (by omega) (ih (x6 + 1) t1)) ⟨rfl, ⟨rfl, ⟨rfl, ⟨rfl, ⟨rfl, ⟨rfl, ⟨rfl, trivial⟩⟩⟩⟩⟩⟩⟩
def f11_lays_27_49 (a0 : Int32) (a1 : Int32) (a2 : Int32) (a4 : Int32) (k119 : Int32 → sr_t → sr_Rs) : Nat → Int32 → Int32 → sr_t → sr_Rs
  | 0 => fun _ _ _ => none
  | n + 1 => fun x6 x7 t => (if 3 ≤ x6 then k119 x6 t else (if x7 = ((-1)) then k119 x6 t else (if x7 = a0 then k119 x6 t else (if (a4 + 2) + x6 < 0 ∨ 336 ≤ ((a4 + 2) + x6).toNatClampNeg then none else sr_lt (sr_u t 27 0 ((a4 + 2) + x6).toNatClampNeg x7) (fun t1 => (if x7 < 0 ∨ 24 ≤ x7.toNatClampNeg then none else (sr_bI (F11_upFrom (t1.1 24 0 x7.toNatClampNeg) 0 t1) (fun v2 t2 => (if (x6 + 1) ≤ 0 then (f11_lays_27_49 a0 a1 a2 a4 k119 n) (x6 + 1) v2 t2 else (if a4 + 2 < 0 ∨ 336 ≤ (a4 + 2).toNatClampNeg then none else (if v2 = (t2.1 27 0 (a4 + 2).toNatClampNeg) then (f11_lays_27_49 a0 a1 a2 a4 k119 n) (x6 + 1) ((-1)) t2 else (f11_lays_27_49 a0 a1 a2 a4 k119 n) (x6 + 1) v2 t2)))))))))))
theorem g11_lays_27_49 (l : Launch) (a0 : Int32) (a1 : Int32) (a2 : Int32) (a4 : Int32)  (k119 : Int32 → sr_t → sr_Rs) (hk119 : ∀ (x6 : Int32), ∀ (t : sr_t), sr_g l sr_m11_lays 119 [some (sr_r 11 0), some (sr_i a0), some (sr_i a1), some (sr_i a2), some (sr_r 27 0), some (sr_i a4), some (sr_i x6), none, none] [] t (k119 x6 t) 0 0) : ∀ (n : Nat) (x6 : Int32) (x7 : Int32), ∀ (t : sr_t), sr_g l sr_m11_lays 49 [some (sr_r 11 0), some (sr_i a0), some (sr_i a1), some (sr_i a2), some (sr_r 27 0), some (sr_i a4), some (sr_i x6), some (sr_i x7), none] [] t (f11_lays_27_49 a0 a1 a2 a4 k119 n x6 x7 t) 0 0 := by
  intro n
  induction n with
  | zero => intros; exact sr_Gn
  | succ n ih =>
    intro x6 x7  t
    unfold f11_lays_27_49
    refine sr_iload (pc := 49) (i := 6) (by decide +kernel) rfl ?_
    refine sr_iconst (pc := 51) (n := 3) (v := 3) (by decide +kernel) rfl ?_
    refine sr_icmp_ge (pc := 52) (off := 67) (tg := 119) (by decide +kernel) (by decide) (fun _ => ?_) (fun _ => ?_)
    · exact sr_wk (sr_mono (mc := 0) (ms := 0) (by omega) (by omega) (hk119 x6 t)) ⟨rfl, ⟨rfl, ⟨rfl, ⟨rfl, ⟨rfl, ⟨rfl, ⟨rfl, trivial⟩⟩⟩⟩⟩⟩⟩
    · refine sr_iload (pc := 55) (i := 7) (by decide +kernel) rfl ?_
      refine sr_iconst (pc := 57) (n := (-1)) (v := (-1)) (by decide +kernel) rfl ?_
      refine sr_icmp_eq (pc := 58) (off := 61) (tg := 119) (by decide +kernel) (by decide) (fun _ => ?_) (fun _ => ?_)
      · exact sr_wk (sr_mono (mc := 0) (ms := 0) (by omega) (by omega) (hk119 x6 t)) ⟨rfl, ⟨rfl, ⟨rfl, ⟨rfl, ⟨rfl, ⟨rfl, ⟨rfl, trivial⟩⟩⟩⟩⟩⟩⟩
      · refine sr_iload (pc := 61) (i := 7) (by decide +kernel) rfl ?_
        refine sr_iloadn (pc := 63) (n := 1) (by decide +kernel) rfl ?_
        refine sr_icmp_eq (pc := 64) (off := 55) (tg := 119) (by decide +kernel) (by decide) (fun _ => ?_) (fun _ => ?_)
        · exact sr_wk (sr_mono (mc := 0) (ms := 0) (by omega) (by omega) (hk119 x6 t)) ⟨rfl, ⟨rfl, ⟨rfl, ⟨rfl, ⟨rfl, ⟨rfl, ⟨rfl, trivial⟩⟩⟩⟩⟩⟩⟩
        · refine sr_aload (pc := 67) (i := 4) (by decide +kernel) rfl ?_
          refine sr_iload (pc := 69) (i := 5) (by decide +kernel) rfl ?_
          refine sr_iconst (pc := 71) (n := 2) (v := 2) (by decide +kernel) rfl ?_
          refine sr_iadd (pc := 72) (by decide +kernel) ?_
          refine sr_iload (pc := 73) (i := 6) (by decide +kernel) rfl ?_
          refine sr_iadd (pc := 75) (by decide +kernel) ?_
          refine sr_iload (pc := 76) (i := 7) (by decide +kernel) rfl ?_
          refine sr_sI (pc := 78) (n := 336) rfl (by decide +kernel) (sr_in27 _ (by omega)) (fun _ _ => rfl) (fun t1 => ?_)
          refine sr_iinc (pc := 79) (i := 6) (n := 1) (w := x6 + 1) (by decide +kernel) rfl rfl (by decide) rfl rfl ?_
          refine sr_aloadn (pc := 82) (n := 0) (by decide +kernel) rfl ?_
          refine sr_aloadn (pc := 83) (n := 0) (by decide +kernel) rfl ?_
          refine sr_gC (pc := 84) (i2 := 0) fg_11_7 (by decide +kernel) (sr_in11 _ (by omega)) (fun _ => rfl) ?_
          refine sr_iload (pc := 87) (i := 7) (by decide +kernel) rfl ?_
          refine sr_aI (pc := 89) (n := 24) rfl (by decide +kernel) (sr_in24 _ (by omega)) (fun _ _ => rfl) ?_
          refine sr_iconst (pc := 90) (n := 0) (v := 0) (by decide +kernel) rfl ?_
          refine sr_cV (pc := 91) (As := [sr_i (t1.1 24 0 x7.toNatClampNeg), sr_i 0]) (mc1 := 0) (ms1 := 0) (mc2 := 0) (ms2 := 0) fm_11_107 fl_11_107 (by decide +kernel) (sr_in11 _ (by omega)) (rm_11_lays_11_upFrom) rfl rfl rfl (C11_upFrom l (t1.1 24 0 x7.toNatClampNeg) 0 t1) ?_
          refine sr_kI (fun v2 t2 => ?_)
          refine sr_istore (pc := 94) (i := 7) (by decide +kernel) (by decide) rfl rfl ?_
          refine sr_iload (pc := 96) (i := 6) (by decide +kernel) rfl ?_
          refine sr_if_le (pc := 98) (off := (-49)) (tg := 49) (by decide +kernel) (by decide) (fun _ => ?_) (fun _ => ?_)
          · exact sr_wk (sr_mono (mc := 0) (ms := 0) (by omega) (by omega) (ih (x6 + 1) v2 t2)) ⟨rfl, ⟨rfl, ⟨rfl, ⟨rfl, ⟨rfl, ⟨rfl, ⟨rfl, ⟨rfl, trivial⟩⟩⟩⟩⟩⟩⟩⟩
          · refine sr_iload (pc := 101) (i := 7) (by decide +kernel) rfl ?_
            refine sr_aload (pc := 103) (i := 4) (by decide +kernel) rfl ?_
            refine sr_iload (pc := 105) (i := 5) (by decide +kernel) rfl ?_
            refine sr_iconst (pc := 107) (n := 2) (v := 2) (by decide +kernel) rfl ?_
            refine sr_iadd (pc := 108) (by decide +kernel) ?_
            refine sr_aI (pc := 109) (n := 336) rfl (by decide +kernel) (sr_in27 _ (by omega)) (fun _ _ => rfl) ?_
            refine sr_icmp_ne (pc := 110) (off := (-61)) (tg := 49) (by decide +kernel) (by decide) (fun _ => ?_) (fun _ => ?_)
            · exact sr_wk (sr_mono (mc := 0) (ms := 0) (by omega) (by omega) (ih (x6 + 1) v2 t2)) ⟨rfl, ⟨rfl, ⟨rfl, ⟨rfl, ⟨rfl, ⟨rfl, ⟨rfl, ⟨rfl, trivial⟩⟩⟩⟩⟩⟩⟩⟩
            · refine sr_iconst (pc := 113) (n := (-1)) (v := (-1)) (by decide +kernel) rfl ?_
              refine sr_istore (pc := 114) (i := 7) (by decide +kernel) (by decide) rfl rfl ?_
              refine sr_goto (pc := 116) (off := (-67)) (tg := 49) (by decide +kernel) (by decide) ?_
              exact sr_wk (sr_mono (mc := 0) (ms := 0) (by omega) (by omega) (ih (x6 + 1) ((-1)) t2)) ⟨rfl, ⟨rfl, ⟨rfl, ⟨rfl, ⟨rfl, ⟨rfl, ⟨rfl, ⟨rfl, trivial⟩⟩⟩⟩⟩⟩⟩⟩
def f11_lays_27_205 (a0 : Int32) (a1 : Int32) (a2 : Int32) (a4 : Int32) (k149 : Int32 → Int32 → sr_t → sr_Rs) (k210 : Int32 → sr_t → sr_Rs) : Int32 → Int32 → sr_t → sr_Rs := fun x8 xs0 t => k149 xs0 x8 t
theorem g11_lays_27_205 (l : Launch) (a0 : Int32) (a1 : Int32) (a2 : Int32) (a4 : Int32)  (k149 : Int32 → Int32 → sr_t → sr_Rs) (k210 : Int32 → sr_t → sr_Rs) (hk149 : ∀ (x7 : Int32) (x8 : Int32), ∀ (t : sr_t), sr_g l sr_m11_lays 149 [some (sr_r 11 0), some (sr_i a0), some (sr_i a1), some (sr_i a2), some (sr_r 27 0), some (sr_i a4), none, some (sr_i x7), some (sr_i x8)] [] t (k149 x7 x8 t) 0 0) (hk210 : ∀ (x8 : Int32), ∀ (t : sr_t), sr_g l sr_m11_lays 210 [some (sr_r 11 0), some (sr_i a0), some (sr_i a1), some (sr_i a2), some (sr_r 27 0), some (sr_i a4), none, none, some (sr_i x8)] [] t (k210 x8 t) 0 0) : ∀ (x8 : Int32) (xs0 : Int32), ∀ (t : sr_t), sr_g l sr_m11_lays 205 [some (sr_r 11 0), some (sr_i a0), some (sr_i a1), some (sr_i a2), some (sr_r 27 0), some (sr_i a4), none, none, some (sr_i x8)] [sr_i xs0] t (f11_lays_27_205 a0 a1 a2 a4 k149 k210 x8 xs0 t) 0 0 := by
  intro x8 xs0  t
  unfold f11_lays_27_205
  refine sr_istore (pc := 205) (i := 7) (by decide +kernel) (by decide) rfl rfl ?_
  refine sr_goto (pc := 207) (off := (-58)) (tg := 149) (by decide +kernel) (by decide) ?_
  exact sr_wk (sr_mono (mc := 0) (ms := 0) (by omega) (by omega) (hk149 xs0 x8 t)) ⟨rfl, ⟨rfl, ⟨rfl, ⟨rfl, ⟨rfl, ⟨rfl, ⟨rfl, ⟨rfl, trivial⟩⟩⟩⟩⟩⟩⟩⟩
def f11_lays_27_149 (a0 : Int32) (a1 : Int32) (a2 : Int32) (a4 : Int32) (k210 : Int32 → sr_t → sr_Rs) : Nat → Int32 → Int32 → sr_t → sr_Rs
  | 0 => fun _ _ _ => none
  | n + 1 => fun x7 x8 t => (if a2 ≤ x8 then k210 x8 t else (sr_bI (F11_ups t) (fun v1 t1 => (if v1 ≤ x8 then k210 x8 t1 else (if (a4 + 6) + x8 < 0 ∨ 336 ≤ ((a4 + 6) + x8).toNatClampNeg then none else sr_lt (sr_u t1 27 0 ((a4 + 6) + x8).toNatClampNeg x7) (fun t2 => (sr_bI (F11_ups t2) (fun v3 t3 => (if v3 ≤ 1 then f11_lays_27_205 a0 a1 a2 a4 (f11_lays_27_149 a0 a1 a2 a4 k210 n) k210 (x8 + 1) x7 t3 else (if x7 < 0 ∨ 24 ≤ x7.toNatClampNeg then none else (sr_bI (F11_upFrom (t3.1 24 0 x7.toNatClampNeg) 0 t3) (fun v4 t4 => f11_lays_27_205 a0 a1 a2 a4 (f11_lays_27_149 a0 a1 a2 a4 k210 n) k210 (x8 + 1) v4 t4))))))))))))
theorem g11_lays_27_149 (l : Launch) (a0 : Int32) (a1 : Int32) (a2 : Int32) (a4 : Int32)  (k210 : Int32 → sr_t → sr_Rs) (hk210 : ∀ (x8 : Int32), ∀ (t : sr_t), sr_g l sr_m11_lays 210 [some (sr_r 11 0), some (sr_i a0), some (sr_i a1), some (sr_i a2), some (sr_r 27 0), some (sr_i a4), none, none, some (sr_i x8)] [] t (k210 x8 t) 0 0) : ∀ (n : Nat) (x7 : Int32) (x8 : Int32), ∀ (t : sr_t), sr_g l sr_m11_lays 149 [some (sr_r 11 0), some (sr_i a0), some (sr_i a1), some (sr_i a2), some (sr_r 27 0), some (sr_i a4), none, some (sr_i x7), some (sr_i x8)] [] t (f11_lays_27_149 a0 a1 a2 a4 k210 n x7 x8 t) 0 0 := by
  intro n
  induction n with
  | zero => intros; exact sr_Gn
  | succ n ih =>
    intro x7 x8  t
    unfold f11_lays_27_149
    refine sr_iload (pc := 149) (i := 8) (by decide +kernel) rfl ?_
    refine sr_iloadn (pc := 151) (n := 3) (by decide +kernel) rfl ?_
    refine sr_icmp_ge (pc := 152) (off := 58) (tg := 210) (by decide +kernel) (by decide) (fun _ => ?_) (fun _ => ?_)
    · exact sr_wk (sr_mono (mc := 0) (ms := 0) (by omega) (by omega) (hk210 x8 t)) ⟨rfl, ⟨rfl, ⟨rfl, ⟨rfl, ⟨rfl, ⟨rfl, ⟨rfl, trivial⟩⟩⟩⟩⟩⟩⟩
    · refine sr_iload (pc := 155) (i := 8) (by decide +kernel) rfl ?_
      refine sr_aloadn (pc := 157) (n := 0) (by decide +kernel) rfl ?_
      refine sr_cV (pc := 158) (As := []) (mc1 := 0) (ms1 := 0) (mc2 := 0) (ms2 := 0) fm_11_115 fl_11_115 (by decide +kernel) (sr_in11 _ (by omega)) (rm_11_lays_11_ups) rfl rfl rfl (C11_ups l t) ?_
      refine sr_kI (fun v1 t1 => ?_)
      refine sr_icmp_ge (pc := 161) (off := 49) (tg := 210) (by decide +kernel) (by decide) (fun _ => ?_) (fun _ => ?_)
      · exact sr_wk (sr_mono (mc := 0) (ms := 0) (by omega) (by omega) (hk210 x8 t1)) ⟨rfl, ⟨rfl, ⟨rfl, ⟨rfl, ⟨rfl, ⟨rfl, ⟨rfl, trivial⟩⟩⟩⟩⟩⟩⟩
      · refine sr_aload (pc := 164) (i := 4) (by decide +kernel) rfl ?_
        refine sr_iload (pc := 166) (i := 5) (by decide +kernel) rfl ?_
        refine sr_bipush (pc := 168) (n := 6) (v := 6) (by decide +kernel) (by decide) ?_
        refine sr_iadd (pc := 170) (by decide +kernel) ?_
        refine sr_iload (pc := 171) (i := 8) (by decide +kernel) rfl ?_
        refine sr_iadd (pc := 173) (by decide +kernel) ?_
        refine sr_iload (pc := 174) (i := 7) (by decide +kernel) rfl ?_
        refine sr_sI (pc := 176) (n := 336) rfl (by decide +kernel) (sr_in27 _ (by omega)) (fun _ _ => rfl) (fun t2 => ?_)
        refine sr_iinc (pc := 177) (i := 8) (n := 1) (w := x8 + 1) (by decide +kernel) rfl rfl (by decide) rfl rfl ?_
        refine sr_aloadn (pc := 180) (n := 0) (by decide +kernel) rfl ?_
        refine sr_cV (pc := 181) (As := []) (mc1 := 0) (ms1 := 0) (mc2 := 0) (ms2 := 0) fm_11_115 fl_11_115 (by decide +kernel) (sr_in11 _ (by omega)) (rm_11_lays_11_ups) rfl rfl rfl (C11_ups l t2) ?_
        refine sr_kI (fun v3 t3 => ?_)
        refine sr_iconst (pc := 184) (n := 1) (v := 1) (by decide +kernel) rfl ?_
        refine sr_icmp_le (pc := 185) (off := 18) (tg := 203) (by decide +kernel) (by decide) (fun _ => ?_) (fun _ => ?_)
        · refine sr_iload (pc := 203) (i := 7) (by decide +kernel) rfl ?_
          exact sr_wk (sr_mono (mc := 0) (ms := 0) (by omega) (by omega) (g11_lays_27_205 l a0 a1 a2 a4 (f11_lays_27_149 a0 a1 a2 a4 k210 n) k210 ih hk210 (x8 + 1) x7 t3)) ⟨rfl, ⟨rfl, ⟨rfl, ⟨rfl, ⟨rfl, ⟨rfl, ⟨rfl, trivial⟩⟩⟩⟩⟩⟩⟩
        · refine sr_aloadn (pc := 188) (n := 0) (by decide +kernel) rfl ?_
          refine sr_aloadn (pc := 189) (n := 0) (by decide +kernel) rfl ?_
          refine sr_gC (pc := 190) (i2 := 0) fg_11_7 (by decide +kernel) (sr_in11 _ (by omega)) (fun _ => rfl) ?_
          refine sr_iload (pc := 193) (i := 7) (by decide +kernel) rfl ?_
          refine sr_aI (pc := 195) (n := 24) rfl (by decide +kernel) (sr_in24 _ (by omega)) (fun _ _ => rfl) ?_
          refine sr_iconst (pc := 196) (n := 0) (v := 0) (by decide +kernel) rfl ?_
          refine sr_cV (pc := 197) (As := [sr_i (t3.1 24 0 x7.toNatClampNeg), sr_i 0]) (mc1 := 0) (ms1 := 0) (mc2 := 0) (ms2 := 0) fm_11_107 fl_11_107 (by decide +kernel) (sr_in11 _ (by omega)) (rm_11_lays_11_upFrom) rfl rfl rfl (C11_upFrom l (t3.1 24 0 x7.toNatClampNeg) 0 t3) ?_
          refine sr_kI (fun v4 t4 => ?_)
          refine sr_goto (pc := 200) (off := 5) (tg := 205) (by decide +kernel) (by decide) ?_
          exact sr_wk (sr_mono (mc := 0) (ms := 0) (by omega) (by omega) (g11_lays_27_205 l a0 a1 a2 a4 (f11_lays_27_149 a0 a1 a2 a4 k210 n) k210 ih hk210 (x8 + 1) v4 t4)) ⟨rfl, ⟨rfl, ⟨rfl, ⟨rfl, ⟨rfl, ⟨rfl, ⟨rfl, trivial⟩⟩⟩⟩⟩⟩⟩
def f11_lays_27_210 (a0 : Int32) (a1 : Int32) (a2 : Int32) (a4 : Int32)  : Int32 → sr_t → sr_Rs := fun x8 t => (if a4 + 5 < 0 ∨ 336 ≤ (a4 + 5).toNatClampNeg then none else sr_lt (sr_u t 27 0 (a4 + 5).toNatClampNeg x8) (fun t1 => (some (.inl none, t1))))
theorem g11_lays_27_210 (l : Launch) (a0 : Int32) (a1 : Int32) (a2 : Int32) (a4 : Int32)    : ∀ (x8 : Int32), ∀ (t : sr_t), sr_g l sr_m11_lays 210 [some (sr_r 11 0), some (sr_i a0), some (sr_i a1), some (sr_i a2), some (sr_r 27 0), some (sr_i a4), none, none, some (sr_i x8)] [] t (f11_lays_27_210 a0 a1 a2 a4  x8 t) 0 0 := by
  intro x8  t
  unfold f11_lays_27_210
  refine sr_aload (pc := 210) (i := 4) (by decide +kernel) rfl ?_
  refine sr_iload (pc := 212) (i := 5) (by decide +kernel) rfl ?_
  refine sr_iconst (pc := 214) (n := 5) (v := 5) (by decide +kernel) rfl ?_
  refine sr_iadd (pc := 215) (by decide +kernel) ?_
  refine sr_iload (pc := 216) (i := 8) (by decide +kernel) rfl ?_
  refine sr_sI (pc := 218) (n := 336) rfl (by decide +kernel) (sr_in27 _ (by omega)) (fun _ _ => rfl) (fun t1 => ?_)
  exact sr_ret (pc := 219) (by decide +kernel) rfl
def f11_lays_27_119 (a0 : Int32) (a1 : Int32) (a2 : Int32) (a4 : Int32)  : Int32 → sr_t → sr_Rs := fun x6 t => (if a4 + 1 < 0 ∨ 336 ≤ (a4 + 1).toNatClampNeg then none else sr_lt (sr_u t 27 0 (a4 + 1).toNatClampNeg x6) (fun t1 => (if a0 < 0 ∨ 24 ≤ a0.toNatClampNeg then none else (if 4096 = 0 then none else (sr_bI (F11_hostOf (((t1.1 24 0 a0.toNatClampNeg) * a1) - ((t1.1 24 0 a0.toNatClampNeg) * a1) / 4096 * 4096) t1) (fun v2 t2 => f11_lays_27_149 a0 a1 a2 a4 (f11_lays_27_210 a0 a1 a2 a4) sr_fu v2 0 t2))))))
theorem g11_lays_27_119 (l : Launch) (a0 : Int32) (a1 : Int32) (a2 : Int32) (a4 : Int32)    : ∀ (x6 : Int32), ∀ (t : sr_t), sr_g l sr_m11_lays 119 [some (sr_r 11 0), some (sr_i a0), some (sr_i a1), some (sr_i a2), some (sr_r 27 0), some (sr_i a4), some (sr_i x6), none, none] [] t (f11_lays_27_119 a0 a1 a2 a4  x6 t) 0 0 := by
  intro x6  t
  unfold f11_lays_27_119
  refine sr_aload (pc := 119) (i := 4) (by decide +kernel) rfl ?_
  refine sr_iload (pc := 121) (i := 5) (by decide +kernel) rfl ?_
  refine sr_iconst (pc := 123) (n := 1) (v := 1) (by decide +kernel) rfl ?_
  refine sr_iadd (pc := 124) (by decide +kernel) ?_
  refine sr_iload (pc := 125) (i := 6) (by decide +kernel) rfl ?_
  refine sr_sI (pc := 127) (n := 336) rfl (by decide +kernel) (sr_in27 _ (by omega)) (fun _ _ => rfl) (fun t1 => ?_)
  refine sr_iconst (pc := 128) (n := 0) (v := 0) (by decide +kernel) rfl ?_
  refine sr_istore (pc := 129) (i := 8) (by decide +kernel) (by decide) rfl rfl ?_
  refine sr_aloadn (pc := 131) (n := 0) (by decide +kernel) rfl ?_
  refine sr_aloadn (pc := 132) (n := 0) (by decide +kernel) rfl ?_
  refine sr_gC (pc := 133) (i2 := 0) fg_11_7 (by decide +kernel) (sr_in11 _ (by omega)) (fun _ => rfl) ?_
  refine sr_iloadn (pc := 136) (n := 1) (by decide +kernel) rfl ?_
  refine sr_aI (pc := 137) (n := 24) rfl (by decide +kernel) (sr_in24 _ (by omega)) (fun _ _ => rfl) ?_
  refine sr_iloadn (pc := 138) (n := 2) (by decide +kernel) rfl ?_
  refine sr_imul (pc := 139) (by decide +kernel) ?_
  refine sr_sipush (pc := 140) (n := 4096) (v := 4096) (by decide +kernel) (by decide) ?_
  refine sr_irem (pc := 143) (by decide +kernel) (fun _ => ?_)
  refine sr_cV (pc := 144) (As := [sr_i (((t1.1 24 0 a0.toNatClampNeg) * a1) - ((t1.1 24 0 a0.toNatClampNeg) * a1) / 4096 * 4096)]) (mc1 := 0) (ms1 := 0) (mc2 := 0) (ms2 := 0) fm_11_111 fl_11_111 (by decide +kernel) (sr_in11 _ (by omega)) (rm_11_lays_11_hostOf) rfl rfl rfl (C11_hostOf l (((t1.1 24 0 a0.toNatClampNeg) * a1) - ((t1.1 24 0 a0.toNatClampNeg) * a1) / 4096 * 4096) t1) ?_
  refine sr_kI (fun v2 t2 => ?_)
  refine sr_istore (pc := 147) (i := 7) (by decide +kernel) (by decide) rfl rfl ?_
  exact sr_wk (sr_mono (mc := 0) (ms := 0) (by omega) (by omega) (g11_lays_27_149 l a0 a1 a2 a4 (f11_lays_27_210 a0 a1 a2 a4) (g11_lays_27_210 l a0 a1 a2 a4) sr_fu v2 0 t2)) ⟨rfl, ⟨rfl, ⟨rfl, ⟨rfl, ⟨rfl, ⟨rfl, ⟨rfl, ⟨rfl, trivial⟩⟩⟩⟩⟩⟩⟩⟩
def f11_lays_27_25 (a0 : Int32) (a1 : Int32) (a2 : Int32) (a4 : Int32)  : sr_t → sr_Rs := fun  t => (if a4 + 0 < 0 ∨ 336 ≤ (a4 + 0).toNatClampNeg then none else sr_lt (sr_u t 27 0 (a4 + 0).toNatClampNeg a1) (fun t1 => (if a0 < 0 ∨ 24 ≤ a0.toNatClampNeg then none else (sr_bI (F11_upFrom (t1.1 24 0 a0.toNatClampNeg) 0 t1) (fun v2 t2 => f11_lays_27_49 a0 a1 a2 a4 (f11_lays_27_119 a0 a1 a2 a4) sr_fu 0 v2 t2)))))
theorem g11_lays_27_25 (l : Launch) (a0 : Int32) (a1 : Int32) (a2 : Int32) (a4 : Int32)    : ∀ (t : sr_t), sr_g l sr_m11_lays 25 [some (sr_r 11 0), some (sr_i a0), some (sr_i a1), some (sr_i a2), some (sr_r 27 0), some (sr_i a4), none, none, none] [] t (f11_lays_27_25 a0 a1 a2 a4   t) 0 0 := by
  intro t
  unfold f11_lays_27_25
  refine sr_aload (pc := 25) (i := 4) (by decide +kernel) rfl ?_
  refine sr_iload (pc := 27) (i := 5) (by decide +kernel) rfl ?_
  refine sr_iconst (pc := 29) (n := 0) (v := 0) (by decide +kernel) rfl ?_
  refine sr_iadd (pc := 30) (by decide +kernel) ?_
  refine sr_iloadn (pc := 31) (n := 2) (by decide +kernel) rfl ?_
  refine sr_sI (pc := 32) (n := 336) rfl (by decide +kernel) (sr_in27 _ (by omega)) (fun _ _ => rfl) (fun t1 => ?_)
  refine sr_iconst (pc := 33) (n := 0) (v := 0) (by decide +kernel) rfl ?_
  refine sr_istore (pc := 34) (i := 6) (by decide +kernel) (by decide) rfl rfl ?_
  refine sr_aloadn (pc := 36) (n := 0) (by decide +kernel) rfl ?_
  refine sr_aloadn (pc := 37) (n := 0) (by decide +kernel) rfl ?_
  refine sr_gC (pc := 38) (i2 := 0) fg_11_7 (by decide +kernel) (sr_in11 _ (by omega)) (fun _ => rfl) ?_
  refine sr_iloadn (pc := 41) (n := 1) (by decide +kernel) rfl ?_
  refine sr_aI (pc := 42) (n := 24) rfl (by decide +kernel) (sr_in24 _ (by omega)) (fun _ _ => rfl) ?_
  refine sr_iconst (pc := 43) (n := 0) (v := 0) (by decide +kernel) rfl ?_
  refine sr_cV (pc := 44) (As := [sr_i (t1.1 24 0 a0.toNatClampNeg), sr_i 0]) (mc1 := 0) (ms1 := 0) (mc2 := 0) (ms2 := 0) fm_11_107 fl_11_107 (by decide +kernel) (sr_in11 _ (by omega)) (rm_11_lays_11_upFrom) rfl rfl rfl (C11_upFrom l (t1.1 24 0 a0.toNatClampNeg) 0 t1) ?_
  refine sr_kI (fun v2 t2 => ?_)
  refine sr_istore (pc := 47) (i := 7) (by decide +kernel) (by decide) rfl rfl ?_
  exact sr_wk (sr_mono (mc := 0) (ms := 0) (by omega) (by omega) (g11_lays_27_49 l a0 a1 a2 a4 (f11_lays_27_119 a0 a1 a2 a4) (g11_lays_27_119 l a0 a1 a2 a4) sr_fu 0 v2 t2)) ⟨rfl, ⟨rfl, ⟨rfl, ⟨rfl, ⟨rfl, ⟨rfl, ⟨rfl, ⟨rfl, trivial⟩⟩⟩⟩⟩⟩⟩⟩
def F11_lays_27 (a0 : Int32) (a1 : Int32) (a2 : Int32) (a4 : Int32) (t : sr_t) : sr_Rs := f11_lays_27_3 a0 a1 a2 a4 (f11_lays_27_25 a0 a1 a2 a4) sr_fu 0 t
theorem C11_lays_27 (l : Launch) (a0 : Int32) (a1 : Int32) (a2 : Int32) (a4 : Int32)  (t : sr_t) : sr_ct' l sr_m11_lays [sr_r 11 0, sr_i a0, sr_i a1, sr_i a2, sr_r 27 0, sr_i a4] t (F11_lays_27 a0 a1 a2 a4 t) 0 0 := by
  refine sr_T_of (L0 := [some (sr_r 11 0), some (sr_i a0), some (sr_i a1), some (sr_i a2), some (sr_r 27 0), some (sr_i a4), none, none, none]) rfl (by decide +kernel) (fun _ => rfl) (fun _ => Nat.le_of_ble_eq_true rfl) ?_
  unfold F11_lays_27
  refine sr_iconst (pc := 0) (n := 0) (v := 0) (by decide +kernel) rfl ?_
  refine sr_istore (pc := 1) (i := 6) (by decide +kernel) (by decide) rfl rfl ?_
  exact sr_wk (sr_mono (mc := 0) (ms := 0) (by omega) (by omega) (g11_lays_27_3 l a0 a1 a2 a4 (f11_lays_27_25 a0 a1 a2 a4) (g11_lays_27_25 l a0 a1 a2 a4) sr_fu 0 t)) ⟨rfl, ⟨rfl, ⟨rfl, ⟨rfl, ⟨rfl, ⟨rfl, ⟨rfl, trivial⟩⟩⟩⟩⟩⟩⟩
def F11_laysNow (a0 : Int32) (t : sr_t) : sr_Rs := (sr_bV (F11_lays_27 a0 (t.1 11 0 7) (t.1 11 0 8) (14 * a0) t) (fun t1 => (some (.inl none, t1))))
theorem C11_laysNow (l : Launch) (a0 : Int32)  (t : sr_t) : sr_ct' l sr_m11_laysNow [sr_r 11 0, sr_i a0] t (F11_laysNow a0 t) 0 0 := by
  refine sr_T_of (L0 := [some (sr_r 11 0), some (sr_i a0)]) rfl (by decide +kernel) (fun _ => rfl) (fun _ => Nat.le_of_ble_eq_true rfl) ?_
  unfold F11_laysNow
  refine sr_aloadn (pc := 0) (n := 0) (by decide +kernel) rfl ?_
  refine sr_iloadn (pc := 1) (n := 1) (by decide +kernel) rfl ?_
  refine sr_aloadn (pc := 2) (n := 0) (by decide +kernel) rfl ?_
  refine sr_gI (pc := 3) fg_11_25 (by decide +kernel) (sr_in11 _ (by omega)) (fun _ => rfl) ?_
  refine sr_aloadn (pc := 6) (n := 0) (by decide +kernel) rfl ?_
  refine sr_gI (pc := 7) fg_11_29 (by decide +kernel) (sr_in11 _ (by omega)) (fun _ => rfl) ?_
  refine sr_aloadn (pc := 10) (n := 0) (by decide +kernel) rfl ?_
  refine sr_gC (pc := 11) (i2 := 0) fg_11_19 (by decide +kernel) (sr_in11 _ (by omega)) (fun _ => rfl) ?_
  refine sr_bipush (pc := 14) (n := 14) (v := 14) (by decide +kernel) (by decide) ?_
  refine sr_iloadn (pc := 16) (n := 1) (by decide +kernel) rfl ?_
  refine sr_imul (pc := 17) (by decide +kernel) ?_
  refine sr_cV (pc := 18) (As := [sr_i a0, sr_i (t.1 11 0 7), sr_i (t.1 11 0 8), sr_r 27 0, sr_i (14 * a0)]) (mc1 := 0) (ms1 := 0) (mc2 := 0) (ms2 := 0) fm_11_119 fl_11_119 (by decide +kernel) (sr_in11 _ (by omega)) (rm_11_laysNow_11_lays) rfl rfl rfl (C11_lays_27 l a0 (t.1 11 0 7) (t.1 11 0 8) (14 * a0) t) ?_
  refine sr_kV (fun t1 => ?_)
  exact sr_ret (pc := 21) (by decide +kernel) rfl
def f11_join_69 (a0 : Int32) (k42 : Int32 → Int32 → sr_t → sr_Rs) (k76 : Int32 → sr_t → sr_Rs) : Int32 → Int32 → sr_t → sr_Rs := fun x3 xs0 t => k42 xs0 (x3 + 1) t
theorem g11_join_69 (l : Launch) (a0 : Int32)  (k42 : Int32 → Int32 → sr_t → sr_Rs) (k76 : Int32 → sr_t → sr_Rs) (hk42 : ∀ (x2 : Int32) (x3 : Int32), ∀ (t : sr_t), sr_g l sr_m11_join 42 [some (sr_r 11 0), some (sr_i a0), some (sr_i x2), some (sr_i x3)] [] t (k42 x2 x3 t) 0 0) (hk76 : ∀ (x2 : Int32), ∀ (t : sr_t), sr_g l sr_m11_join 76 [some (sr_r 11 0), some (sr_i a0), some (sr_i x2), none] [] t (k76 x2 t) 0 0) : ∀ (x3 : Int32) (xs0 : Int32), ∀ (t : sr_t), sr_g l sr_m11_join 69 [some (sr_r 11 0), some (sr_i a0), none, some (sr_i x3)] [sr_i xs0] t (f11_join_69 a0 k42 k76 x3 xs0 t) 0 0 := by
  intro x3 xs0  t
  unfold f11_join_69
  refine sr_istoren (pc := 69) (n := 2) (by decide +kernel) (by decide) rfl rfl ?_
  refine sr_iinc (pc := 70) (i := 3) (n := 1) (w := x3 + 1) (by decide +kernel) rfl rfl (by decide) rfl rfl ?_
  refine sr_goto (pc := 73) (off := (-31)) (tg := 42) (by decide +kernel) (by decide) ?_
  exact sr_wk (sr_mono (mc := 0) (ms := 0) (by omega) (by omega) (hk42 xs0 (x3 + 1) t)) ⟨rfl, ⟨rfl, ⟨rfl, ⟨rfl, trivial⟩⟩⟩⟩
def f11_join_64 (a0 : Int32) (k42 : Int32 → Int32 → sr_t → sr_Rs) (k76 : Int32 → sr_t → sr_Rs) : Int32 → sr_t → sr_Rs := fun x3 t => f11_join_69 a0 k42 k76 x3 1 t
theorem g11_join_64 (l : Launch) (a0 : Int32)  (k42 : Int32 → Int32 → sr_t → sr_Rs) (k76 : Int32 → sr_t → sr_Rs) (hk42 : ∀ (x2 : Int32) (x3 : Int32), ∀ (t : sr_t), sr_g l sr_m11_join 42 [some (sr_r 11 0), some (sr_i a0), some (sr_i x2), some (sr_i x3)] [] t (k42 x2 x3 t) 0 0) (hk76 : ∀ (x2 : Int32), ∀ (t : sr_t), sr_g l sr_m11_join 76 [some (sr_r 11 0), some (sr_i a0), some (sr_i x2), none] [] t (k76 x2 t) 0 0) : ∀ (x3 : Int32), ∀ (t : sr_t), sr_g l sr_m11_join 64 [some (sr_r 11 0), some (sr_i a0), none, some (sr_i x3)] [] t (f11_join_64 a0 k42 k76 x3 t) 0 0 := by
  intro x3  t
  unfold f11_join_64
  refine sr_iconst (pc := 64) (n := 1) (v := 1) (by decide +kernel) rfl ?_
  refine sr_goto (pc := 65) (off := 4) (tg := 69) (by decide +kernel) (by decide) ?_
  exact sr_wk (sr_mono (mc := 0) (ms := 0) (by omega) (by omega) (g11_join_69 l a0 k42 k76 hk42 hk76 x3 1 t)) ⟨rfl, ⟨rfl, ⟨rfl, trivial⟩⟩⟩
def f11_join_42 (a0 : Int32) (k76 : Int32 → sr_t → sr_Rs) : Nat → Int32 → Int32 → sr_t → sr_Rs
  | 0 => fun _ _ _ => none
  | n + 1 => fun x2 x3 t => (if (t.1 11 0 1) ≤ x3 then k76 x2 t else (if x2 = 0 then (if x3 < 0 ∨ 24 ≤ x3.toNatClampNeg then none else (if (t.1 24 0 x3.toNatClampNeg) = a0 then f11_join_64 a0 (f11_join_42 a0 k76 n) k76 x3 t else f11_join_69 a0 (f11_join_42 a0 k76 n) k76 x3 0 t)) else f11_join_64 a0 (f11_join_42 a0 k76 n) k76 x3 t))
theorem g11_join_42 (l : Launch) (a0 : Int32)  (k76 : Int32 → sr_t → sr_Rs) (hk76 : ∀ (x2 : Int32), ∀ (t : sr_t), sr_g l sr_m11_join 76 [some (sr_r 11 0), some (sr_i a0), some (sr_i x2), none] [] t (k76 x2 t) 0 0) : ∀ (n : Nat) (x2 : Int32) (x3 : Int32), ∀ (t : sr_t), sr_g l sr_m11_join 42 [some (sr_r 11 0), some (sr_i a0), some (sr_i x2), some (sr_i x3)] [] t (f11_join_42 a0 k76 n x2 x3 t) 0 0 := by
  intro n
  induction n with
  | zero => intros; exact sr_Gn
  | succ n ih =>
    intro x2 x3  t
    unfold f11_join_42
    refine sr_iloadn (pc := 42) (n := 3) (by decide +kernel) rfl ?_
    refine sr_aloadn (pc := 43) (n := 0) (by decide +kernel) rfl ?_
    refine sr_gI (pc := 44) fg_11_100 (by decide +kernel) (sr_in11 _ (by omega)) (fun _ => rfl) ?_
    refine sr_icmp_ge (pc := 47) (off := 29) (tg := 76) (by decide +kernel) (by decide) (fun _ => ?_) (fun _ => ?_)
    · exact sr_wk (sr_mono (mc := 0) (ms := 0) (by omega) (by omega) (hk76 x2 t)) ⟨rfl, ⟨rfl, ⟨rfl, trivial⟩⟩⟩
    · refine sr_iloadn (pc := 50) (n := 2) (by decide +kernel) rfl ?_
      refine sr_if_ne (pc := 51) (off := 13) (tg := 64) (by decide +kernel) (by decide) (fun _ => ?_) (fun _ => ?_)
      · exact sr_wk (sr_mono (mc := 0) (ms := 0) (by omega) (by omega) (g11_join_64 l a0 (f11_join_42 a0 k76 n) k76 ih hk76 x3 t)) ⟨rfl, ⟨rfl, ⟨rfl, trivial⟩⟩⟩
      · refine sr_aloadn (pc := 54) (n := 0) (by decide +kernel) rfl ?_
        refine sr_gC (pc := 55) (i2 := 0) fg_11_7 (by decide +kernel) (sr_in11 _ (by omega)) (fun _ => rfl) ?_
        refine sr_iloadn (pc := 58) (n := 3) (by decide +kernel) rfl ?_
        refine sr_aI (pc := 59) (n := 24) rfl (by decide +kernel) (sr_in24 _ (by omega)) (fun _ _ => rfl) ?_
        refine sr_iloadn (pc := 60) (n := 1) (by decide +kernel) rfl ?_
        refine sr_icmp_ne (pc := 61) (off := 7) (tg := 68) (by decide +kernel) (by decide) (fun _ => ?_) (fun _ => ?_)
        · refine sr_iconst (pc := 68) (n := 0) (v := 0) (by decide +kernel) rfl ?_
          exact sr_wk (sr_mono (mc := 0) (ms := 0) (by omega) (by omega) (g11_join_69 l a0 (f11_join_42 a0 k76 n) k76 ih hk76 x3 0 t)) ⟨rfl, ⟨rfl, ⟨rfl, trivial⟩⟩⟩
        · exact sr_wk (sr_mono (mc := 0) (ms := 0) (by omega) (by omega) (g11_join_64 l a0 (f11_join_42 a0 k76 n) k76 ih hk76 x3 t)) ⟨rfl, ⟨rfl, ⟨rfl, trivial⟩⟩⟩
def f11_join_86 (a0 : Int32)  : Int32 → sr_t → sr_Rs := fun xs0 t => (sr_lt (sr_u t 11 0 0 xs0) (fun t1 => (if (t1.1 11 0 0) ≤ 0 then (if t1.1 11 0 1 < 0 ∨ 24 ≤ (t1.1 11 0 1).toNatClampNeg then none else sr_lt (sr_u t1 24 0 (t1.1 11 0 1).toNatClampNeg a0) (fun t2 => (if t2.1 11 0 1 < 0 ∨ 24 ≤ (t2.1 11 0 1).toNatClampNeg then none else sr_lt (sr_u t2 25 0 (t2.1 11 0 1).toNatClampNeg 1) (fun t3 => (if t3.1 11 0 1 < 0 ∨ 24 ≤ (t3.1 11 0 1).toNatClampNeg then none else sr_lt (sr_u t3 26 0 (t3.1 11 0 1).toNatClampNeg 0) (fun t4 => (sr_lt (sr_u t4 11 0 1 ((t4.1 11 0 1) + 1)) (fun t5 => (sr_bV (F11_laysNow ((t5.1 11 0 1) - 1) t5) (fun t6 => (some (.inl (some (sr_i ((t6.1 11 0 1) - 1))), t6)))))))))))) else (some (.inl (some (sr_i 0)), t1)))))
theorem g11_join_86 (l : Launch) (a0 : Int32)    : ∀ (xs0 : Int32), ∀ (t : sr_t), sr_g l sr_m11_join 86 [some (sr_r 11 0), some (sr_i a0), none, none] [sr_i xs0, sr_r 11 0] t (f11_join_86 a0  xs0 t) 0 0 := by
  intro xs0  t
  unfold f11_join_86
  refine sr_pI (pc := 86) fg_11_93 ft_11_0 (by decide +kernel) (sr_in11 _ (by omega)) (fun _ => rfl) (fun t1 => ?_)
  refine sr_aloadn (pc := 89) (n := 0) (by decide +kernel) rfl ?_
  refine sr_gI (pc := 90) fg_11_93 (by decide +kernel) (sr_in11 _ (by omega)) (fun _ => rfl) ?_
  refine sr_if_le (pc := 93) (off := 5) (tg := 98) (by decide +kernel) (by decide) (fun _ => ?_) (fun _ => ?_)
  · refine sr_aloadn (pc := 98) (n := 0) (by decide +kernel) rfl ?_
    refine sr_gC (pc := 99) (i2 := 0) fg_11_7 (by decide +kernel) (sr_in11 _ (by omega)) (fun _ => rfl) ?_
    refine sr_aloadn (pc := 102) (n := 0) (by decide +kernel) rfl ?_
    refine sr_gI (pc := 103) fg_11_100 (by decide +kernel) (sr_in11 _ (by omega)) (fun _ => rfl) ?_
    refine sr_iloadn (pc := 106) (n := 1) (by decide +kernel) rfl ?_
    refine sr_sI (pc := 107) (n := 24) rfl (by decide +kernel) (sr_in24 _ (by omega)) (fun _ _ => rfl) (fun t2 => ?_)
    refine sr_aloadn (pc := 108) (n := 0) (by decide +kernel) rfl ?_
    refine sr_gC (pc := 109) (i2 := 0) fg_11_13 (by decide +kernel) (sr_in11 _ (by omega)) (fun _ => rfl) ?_
    refine sr_aloadn (pc := 112) (n := 0) (by decide +kernel) rfl ?_
    refine sr_gI (pc := 113) fg_11_100 (by decide +kernel) (sr_in11 _ (by omega)) (fun _ => rfl) ?_
    refine sr_iconst (pc := 116) (n := 1) (v := 1) (by decide +kernel) rfl ?_
    refine sr_sI (pc := 117) (n := 24) rfl (by decide +kernel) (sr_in25 _ (by omega)) (fun _ _ => rfl) (fun t3 => ?_)
    refine sr_aloadn (pc := 118) (n := 0) (by decide +kernel) rfl ?_
    refine sr_gC (pc := 119) (i2 := 0) fg_11_16 (by decide +kernel) (sr_in11 _ (by omega)) (fun _ => rfl) ?_
    refine sr_aloadn (pc := 122) (n := 0) (by decide +kernel) rfl ?_
    refine sr_gI (pc := 123) fg_11_100 (by decide +kernel) (sr_in11 _ (by omega)) (fun _ => rfl) ?_
    refine sr_iconst (pc := 126) (n := 0) (v := 0) (by decide +kernel) rfl ?_
    refine sr_sI (pc := 127) (n := 24) rfl (by decide +kernel) (sr_in26 _ (by omega)) (fun _ _ => rfl) (fun t4 => ?_)
    refine sr_aloadn (pc := 128) (n := 0) (by decide +kernel) rfl ?_
    refine sr_dup (pc := 129) (by decide +kernel) rfl ?_
    refine sr_gI (pc := 130) fg_11_100 (by decide +kernel) (sr_in11 _ (by omega)) (fun _ => rfl) ?_
    refine sr_iconst (pc := 133) (n := 1) (v := 1) (by decide +kernel) rfl ?_
    refine sr_iadd (pc := 134) (by decide +kernel) ?_
    refine sr_pI (pc := 135) fg_11_100 ft_11_1 (by decide +kernel) (sr_in11 _ (by omega)) (fun _ => rfl) (fun t5 => ?_)
    refine sr_aloadn (pc := 138) (n := 0) (by decide +kernel) rfl ?_
    refine sr_aloadn (pc := 139) (n := 0) (by decide +kernel) rfl ?_
    refine sr_gI (pc := 140) fg_11_100 (by decide +kernel) (sr_in11 _ (by omega)) (fun _ => rfl) ?_
    refine sr_iconst (pc := 143) (n := 1) (v := 1) (by decide +kernel) rfl ?_
    refine sr_isub (pc := 144) (by decide +kernel) ?_
    refine sr_cV (pc := 145) (As := [sr_i ((t5.1 11 0 1) - 1)]) (mc1 := 0) (ms1 := 0) (mc2 := 0) (ms2 := 0) fm_11_137 fl_11_137 (by decide +kernel) (sr_in11 _ (by omega)) (rm_11_join_11_laysNow) rfl rfl rfl (C11_laysNow l ((t5.1 11 0 1) - 1) t5) ?_
    refine sr_kV (fun t6 => ?_)
    refine sr_aloadn (pc := 148) (n := 0) (by decide +kernel) rfl ?_
    refine sr_gI (pc := 149) fg_11_100 (by decide +kernel) (sr_in11 _ (by omega)) (fun _ => rfl) ?_
    refine sr_iconst (pc := 152) (n := 1) (v := 1) (by decide +kernel) rfl ?_
    refine sr_isub (pc := 153) (by decide +kernel) ?_
    exact sr_iret (pc := 154) (by decide +kernel) rfl
  · refine sr_iconst (pc := 96) (n := 0) (v := 0) (by decide +kernel) rfl ?_
    exact sr_iret (pc := 97) (by decide +kernel) rfl
def f11_join_76 (a0 : Int32)  : Int32 → sr_t → sr_Rs := fun x2 t => (if x2 = 0 then f11_join_86 a0 0 t else f11_join_86 a0 2 t)
theorem g11_join_76 (l : Launch) (a0 : Int32)    : ∀ (x2 : Int32), ∀ (t : sr_t), sr_g l sr_m11_join 76 [some (sr_r 11 0), some (sr_i a0), some (sr_i x2), none] [] t (f11_join_76 a0  x2 t) 0 0 := by
  intro x2  t
  unfold f11_join_76
  refine sr_aloadn (pc := 76) (n := 0) (by decide +kernel) rfl ?_
  refine sr_iloadn (pc := 77) (n := 2) (by decide +kernel) rfl ?_
  refine sr_if_eq (pc := 78) (off := 7) (tg := 85) (by decide +kernel) (by decide) (fun _ => ?_) (fun _ => ?_)
  · refine sr_iconst (pc := 85) (n := 0) (v := 0) (by decide +kernel) rfl ?_
    exact sr_wk (sr_mono (mc := 0) (ms := 0) (by omega) (by omega) (g11_join_86 l a0 0 t)) ⟨rfl, ⟨rfl, trivial⟩⟩
  · refine sr_iconst (pc := 81) (n := 2) (v := 2) (by decide +kernel) rfl ?_
    refine sr_goto (pc := 82) (off := 4) (tg := 86) (by decide +kernel) (by decide) ?_
    exact sr_wk (sr_mono (mc := 0) (ms := 0) (by omega) (by omega) (g11_join_86 l a0 2 t)) ⟨rfl, ⟨rfl, trivial⟩⟩
def f11_join_39 (a0 : Int32)  : Int32 → sr_t → sr_Rs := fun xs0 t => f11_join_42 a0 (f11_join_76 a0) sr_fu xs0 0 t
theorem g11_join_39 (l : Launch) (a0 : Int32)    : ∀ (xs0 : Int32), ∀ (t : sr_t), sr_g l sr_m11_join 39 [some (sr_r 11 0), some (sr_i a0), none, none] [sr_i xs0] t (f11_join_39 a0  xs0 t) 0 0 := by
  intro xs0  t
  unfold f11_join_39
  refine sr_istoren (pc := 39) (n := 2) (by decide +kernel) (by decide) rfl rfl ?_
  refine sr_iconst (pc := 40) (n := 0) (v := 0) (by decide +kernel) rfl ?_
  refine sr_istoren (pc := 41) (n := 3) (by decide +kernel) (by decide) rfl rfl ?_
  exact sr_wk (sr_mono (mc := 0) (ms := 0) (by omega) (by omega) (g11_join_42 l a0 (f11_join_76 a0) (g11_join_76 l a0) sr_fu xs0 0 t)) ⟨rfl, ⟨rfl, ⟨rfl, ⟨rfl, trivial⟩⟩⟩⟩
def f11_join_13 (a0 : Int32)  : Int32 → sr_t → sr_Rs := fun xs0 t => (sr_lt (sr_u t 11 0 0 xs0) (fun t1 => (if (t1.1 11 0 0) ≤ 0 then (if (t1.1 11 0 1) = 24 then f11_join_39 a0 1 t1 else f11_join_39 a0 0 t1) else (some (.inl (some (sr_i 0)), t1)))))
theorem g11_join_13 (l : Launch) (a0 : Int32)    : ∀ (xs0 : Int32), ∀ (t : sr_t), sr_g l sr_m11_join 13 [some (sr_r 11 0), some (sr_i a0), none, none] [sr_i xs0, sr_r 11 0] t (f11_join_13 a0  xs0 t) 0 0 := by
  intro xs0  t
  unfold f11_join_13
  refine sr_pI (pc := 13) fg_11_93 ft_11_0 (by decide +kernel) (sr_in11 _ (by omega)) (fun _ => rfl) (fun t1 => ?_)
  refine sr_aloadn (pc := 16) (n := 0) (by decide +kernel) rfl ?_
  refine sr_gI (pc := 17) fg_11_93 (by decide +kernel) (sr_in11 _ (by omega)) (fun _ => rfl) ?_
  refine sr_if_le (pc := 20) (off := 5) (tg := 25) (by decide +kernel) (by decide) (fun _ => ?_) (fun _ => ?_)
  · refine sr_aloadn (pc := 25) (n := 0) (by decide +kernel) rfl ?_
    refine sr_gI (pc := 26) fg_11_100 (by decide +kernel) (sr_in11 _ (by omega)) (fun _ => rfl) ?_
    refine sr_bipush (pc := 29) (n := 24) (v := 24) (by decide +kernel) (by decide) ?_
    refine sr_icmp_ne (pc := 31) (off := 7) (tg := 38) (by decide +kernel) (by decide) (fun _ => ?_) (fun _ => ?_)
    · refine sr_iconst (pc := 38) (n := 0) (v := 0) (by decide +kernel) rfl ?_
      exact sr_wk (sr_mono (mc := 0) (ms := 0) (by omega) (by omega) (g11_join_39 l a0 0 t1)) ⟨rfl, ⟨rfl, trivial⟩⟩
    · refine sr_iconst (pc := 34) (n := 1) (v := 1) (by decide +kernel) rfl ?_
      refine sr_goto (pc := 35) (off := 4) (tg := 39) (by decide +kernel) (by decide) ?_
      exact sr_wk (sr_mono (mc := 0) (ms := 0) (by omega) (by omega) (g11_join_39 l a0 1 t1)) ⟨rfl, ⟨rfl, trivial⟩⟩
  · refine sr_iconst (pc := 23) (n := 0) (v := 0) (by decide +kernel) rfl ?_
    exact sr_iret (pc := 24) (by decide +kernel) rfl
def F11_join (a0 : Int32) (t : sr_t) : sr_Rs := (sr_bI (F11_isPlace a0 t) (fun v1 t1 => (if v1 = 0 then f11_join_13 a0 1 t1 else f11_join_13 a0 0 t1)))
theorem C11_join (l : Launch) (a0 : Int32)  (t : sr_t) : sr_ct' l sr_m11_join [sr_r 11 0, sr_i a0] t (F11_join a0 t) 0 0 := by
  refine sr_T_of (L0 := [some (sr_r 11 0), some (sr_i a0), none, none]) rfl (by decide +kernel) (fun _ => rfl) (fun _ => Nat.le_of_ble_eq_true rfl) ?_
  unfold F11_join
  refine sr_aloadn (pc := 0) (n := 0) (by decide +kernel) rfl ?_
  refine sr_iloadn (pc := 1) (n := 1) (by decide +kernel) rfl ?_
  refine sr_cS (pc := 2) (As := [sr_i a0]) (mc1 := 0) (ms1 := 0) (mc2 := 0) (ms2 := 0) fm_11_133 fl_11_133 (by decide +kernel) (rm_11_join_11_isPlace) rfl rfl rfl (C11_isPlace l a0 t) ?_
  refine sr_kI (fun v1 t1 => ?_)
  refine sr_if_eq (pc := 5) (off := 7) (tg := 12) (by decide +kernel) (by decide) (fun _ => ?_) (fun _ => ?_)
  · refine sr_iconst (pc := 12) (n := 1) (v := 1) (by decide +kernel) rfl ?_
    exact sr_wk (sr_mono (mc := 0) (ms := 0) (by omega) (by omega) (g11_join_13 l a0 1 t1)) ⟨rfl, ⟨rfl, trivial⟩⟩
  · refine sr_iconst (pc := 8) (n := 0) (v := 0) (by decide +kernel) rfl ?_
    refine sr_goto (pc := 9) (off := 4) (tg := 13) (by decide +kernel) (by decide) ?_
    exact sr_wk (sr_mono (mc := 0) (ms := 0) (by omega) (by omega) (g11_join_13 l a0 0 t1)) ⟨rfl, ⟨rfl, trivial⟩⟩
def sr_m11_isNode : sr_M := (⟨"ShiftRingModel", "isNode", "(I)Z"⟩, prog_13_method_5_code, 2, (some .boolean), [], 1, 22)
def sr_m11_down : sr_M := (⟨"ShiftRingModel", "down", "(I)I"⟩, prog_13_method_20_code, 2, (some .int), [], 2, 43)
theorem fl_11_141 : Cond.methodLink "ShiftRingModel" 141 (sr_My sr_m11_isNode) ∈ sr_TB := (sr_tb (n := 1584) (by decide +kernel) rfl)
theorem fm_11_141 : sr_FV "ShiftRingModel" 141 sr_m11_isNode 11 1 := ⟨⟨rfl, sr_tb (n := 1587) (by decide +kernel) rfl, sr_tb (n := 12) (by decide +kernel) rfl, ⟨by decide, by decide, by decide +kernel⟩, Or.inl fl_11_141⟩, ⟨TX11, 53, rfl, rfl⟩, sr_tb (n := 1586) (by decide +kernel) rfl, sr_ts (n := 45) (by decide +kernel) rfl⟩
theorem rm_11_down_11_isNode : sr_RM sr_m11_down sr_m11_isNode := ⟨Nat.le_of_ble_eq_true rfl, Nat.le_of_ble_eq_true rfl⟩
theorem rm_11_down_11_ups : sr_RM sr_m11_down sr_m11_ups := ⟨Nat.le_of_ble_eq_true rfl, Nat.le_of_ble_eq_true rfl⟩
theorem rm_11_isNode_11_isIn : sr_RM sr_m11_isNode sr_m11_isIn := ⟨Nat.le_of_ble_eq_true rfl, Nat.le_of_ble_eq_true rfl⟩
def F11_isNode (a0 : Int32) (t : sr_t) : sr_Rs := (sr_bI (F11_isIn a0 0 ((t.1 11 0 1) - 1) t) (fun v1 t1 => (if v1 = 0 ∨ v1 = 1 then some (.inl (some (sr_i v1)), t1) else none)))
theorem C11_isNode (l : Launch) (a0 : Int32)  (t : sr_t) : sr_ct' l sr_m11_isNode [sr_r 11 0, sr_i a0] t (F11_isNode a0 t) 0 0 := by
  refine sr_T_of (L0 := [some (sr_r 11 0), some (sr_i a0)]) rfl (by decide +kernel) (fun _ => rfl) (fun _ => Nat.le_of_ble_eq_true rfl) ?_
  unfold F11_isNode
  refine sr_iloadn (pc := 0) (n := 1) (by decide +kernel) rfl ?_
  refine sr_iconst (pc := 1) (n := 0) (v := 0) (by decide +kernel) rfl ?_
  refine sr_aloadn (pc := 2) (n := 0) (by decide +kernel) rfl ?_
  refine sr_gI (pc := 3) fg_11_100 (by decide +kernel) (sr_in11 _ (by omega)) (fun _ => rfl) ?_
  refine sr_iconst (pc := 6) (n := 1) (v := 1) (by decide +kernel) rfl ?_
  refine sr_isub (pc := 7) (by decide +kernel) ?_
  refine sr_cS (pc := 8) (As := [sr_i a0, sr_i 0, sr_i ((t.1 11 0 1) - 1)]) (mc1 := 0) (ms1 := 0) (mc2 := 0) (ms2 := 0) fm_11_96 fl_11_96 (by decide +kernel) (rm_11_isNode_11_isIn) rfl rfl rfl (C11_isIn l a0 0 ((t.1 11 0 1) - 1) t) ?_
  refine sr_kI (fun v1 t1 => ?_)
  exact sr_zr (pc := 11) (by decide +kernel) rfl
def f11_down_27 (a0 : Int32)  : Int32 → sr_t → sr_Rs := fun xs0 t => (sr_lt (sr_u t 11 0 0 xs0) (fun t1 => (if (t1.1 11 0 0) ≤ 0 then (if a0 < 0 ∨ 24 ≤ a0.toNatClampNeg then none else sr_lt (sr_u t1 25 0 a0.toNatClampNeg 0) (fun t2 => (sr_bI (F11_ups t2) (fun v3 t3 => (some (.inl (some (sr_i v3)), t3)))))) else (some (.inl (some (sr_i 0)), t1)))))
theorem g11_down_27 (l : Launch) (a0 : Int32)    : ∀ (xs0 : Int32), ∀ (t : sr_t), sr_g l sr_m11_down 27 [some (sr_r 11 0), some (sr_i a0)] [sr_i xs0, sr_r 11 0] t (f11_down_27 a0  xs0 t) 0 0 := by
  intro xs0  t
  unfold f11_down_27
  refine sr_pI (pc := 27) fg_11_93 ft_11_0 (by decide +kernel) (sr_in11 _ (by omega)) (fun _ => rfl) (fun t1 => ?_)
  refine sr_aloadn (pc := 30) (n := 0) (by decide +kernel) rfl ?_
  refine sr_gI (pc := 31) fg_11_93 (by decide +kernel) (sr_in11 _ (by omega)) (fun _ => rfl) ?_
  refine sr_if_le (pc := 34) (off := 5) (tg := 39) (by decide +kernel) (by decide) (fun _ => ?_) (fun _ => ?_)
  · refine sr_aloadn (pc := 39) (n := 0) (by decide +kernel) rfl ?_
    refine sr_gC (pc := 40) (i2 := 0) fg_11_13 (by decide +kernel) (sr_in11 _ (by omega)) (fun _ => rfl) ?_
    refine sr_iloadn (pc := 43) (n := 1) (by decide +kernel) rfl ?_
    refine sr_iconst (pc := 44) (n := 0) (v := 0) (by decide +kernel) rfl ?_
    refine sr_sI (pc := 45) (n := 24) rfl (by decide +kernel) (sr_in25 _ (by omega)) (fun _ _ => rfl) (fun t2 => ?_)
    refine sr_aloadn (pc := 46) (n := 0) (by decide +kernel) rfl ?_
    refine sr_cV (pc := 47) (As := []) (mc1 := 0) (ms1 := 0) (mc2 := 0) (ms2 := 0) fm_11_115 fl_11_115 (by decide +kernel) (sr_in11 _ (by omega)) (rm_11_down_11_ups) rfl rfl rfl (C11_ups l t2) ?_
    refine sr_kI (fun v3 t3 => ?_)
    exact sr_iret (pc := 50) (by decide +kernel) rfl
  · refine sr_iconst (pc := 37) (n := 0) (v := 0) (by decide +kernel) rfl ?_
    exact sr_iret (pc := 38) (by decide +kernel) rfl
def F11_down (a0 : Int32) (t : sr_t) : sr_Rs := (sr_bI (F11_isNode a0 t) (fun v1 t1 => (if v1 = 0 then f11_down_27 a0 1 t1 else (if a0 < 0 ∨ 24 ≤ a0.toNatClampNeg then none else (if (t1.1 25 0 a0.toNatClampNeg) = 0 then f11_down_27 a0 2 t1 else f11_down_27 a0 0 t1)))))
theorem C11_down (l : Launch) (a0 : Int32)  (t : sr_t) : sr_ct' l sr_m11_down [sr_r 11 0, sr_i a0] t (F11_down a0 t) 0 0 := by
  refine sr_T_of (L0 := [some (sr_r 11 0), some (sr_i a0)]) rfl (by decide +kernel) (fun _ => rfl) (fun _ => Nat.le_of_ble_eq_true rfl) ?_
  unfold F11_down
  refine sr_aloadn (pc := 0) (n := 0) (by decide +kernel) rfl ?_
  refine sr_aloadn (pc := 1) (n := 0) (by decide +kernel) rfl ?_
  refine sr_iloadn (pc := 2) (n := 1) (by decide +kernel) rfl ?_
  refine sr_cV (pc := 3) (As := [sr_i a0]) (mc1 := 0) (ms1 := 0) (mc2 := 0) (ms2 := 0) fm_11_141 fl_11_141 (by decide +kernel) (sr_in11 _ (by omega)) (rm_11_down_11_isNode) rfl rfl rfl (C11_isNode l a0 t) ?_
  refine sr_kI (fun v1 t1 => ?_)
  refine sr_if_ne (pc := 6) (off := 7) (tg := 13) (by decide +kernel) (by decide) (fun _ => ?_) (fun _ => ?_)
  · refine sr_aloadn (pc := 13) (n := 0) (by decide +kernel) rfl ?_
    refine sr_gC (pc := 14) (i2 := 0) fg_11_13 (by decide +kernel) (sr_in11 _ (by omega)) (fun _ => rfl) ?_
    refine sr_iloadn (pc := 17) (n := 1) (by decide +kernel) rfl ?_
    refine sr_aI (pc := 18) (n := 24) rfl (by decide +kernel) (sr_in25 _ (by omega)) (fun _ _ => rfl) ?_
    refine sr_if_ne (pc := 19) (off := 7) (tg := 26) (by decide +kernel) (by decide) (fun _ => ?_) (fun _ => ?_)
    · refine sr_iconst (pc := 26) (n := 0) (v := 0) (by decide +kernel) rfl ?_
      exact sr_wk (sr_mono (mc := 0) (ms := 0) (by omega) (by omega) (g11_down_27 l a0 0 t1)) ⟨rfl, ⟨rfl, trivial⟩⟩
    · refine sr_iconst (pc := 22) (n := 2) (v := 2) (by decide +kernel) rfl ?_
      refine sr_goto (pc := 23) (off := 4) (tg := 27) (by decide +kernel) (by decide) ?_
      exact sr_wk (sr_mono (mc := 0) (ms := 0) (by omega) (by omega) (g11_down_27 l a0 2 t1)) ⟨rfl, ⟨rfl, trivial⟩⟩
  · refine sr_iconst (pc := 9) (n := 1) (v := 1) (by decide +kernel) rfl ?_
    refine sr_goto (pc := 10) (off := 17) (tg := 27) (by decide +kernel) (by decide) ?_
    exact sr_wk (sr_mono (mc := 0) (ms := 0) (by omega) (by omega) (g11_down_27 l a0 1 t1)) ⟨rfl, ⟨rfl, trivial⟩⟩
def sr_m11_up : sr_M := (⟨"ShiftRingModel", "up", "(I)I"⟩, prog_13_method_21_code, 2, (some .int), [], 4, 94)
theorem rm_11_up_11_isNode : sr_RM sr_m11_up sr_m11_isNode := ⟨Nat.le_of_ble_eq_true rfl, Nat.le_of_ble_eq_true rfl⟩
theorem rm_11_up_11_laysNow : sr_RM sr_m11_up sr_m11_laysNow := ⟨Nat.le_of_ble_eq_true rfl, Nat.le_of_ble_eq_true rfl⟩
theorem rm_11_up_11_ups : sr_RM sr_m11_up sr_m11_ups := ⟨Nat.le_of_ble_eq_true rfl, Nat.le_of_ble_eq_true rfl⟩
def f11_up_28 (a0 : Int32)  : Int32 → sr_t → sr_Rs := fun xs0 t => (sr_lt (sr_u t 11 0 0 xs0) (fun t1 => (if (t1.1 11 0 0) ≤ 0 then (if a0 < 0 ∨ 24 ≤ a0.toNatClampNeg then none else sr_lt (sr_u t1 25 0 a0.toNatClampNeg 1) (fun t2 => (sr_bV (F11_laysNow a0 t2) (fun t3 => (sr_bI (F11_ups t3) (fun v4 t4 => (some (.inl (some (sr_i v4)), t4)))))))) else (some (.inl (some (sr_i 0)), t1)))))
theorem g11_up_28 (l : Launch) (a0 : Int32)    : ∀ (xs0 : Int32), ∀ (t : sr_t), sr_g l sr_m11_up 28 [some (sr_r 11 0), some (sr_i a0)] [sr_i xs0, sr_r 11 0] t (f11_up_28 a0  xs0 t) 0 0 := by
  intro xs0  t
  unfold f11_up_28
  refine sr_pI (pc := 28) fg_11_93 ft_11_0 (by decide +kernel) (sr_in11 _ (by omega)) (fun _ => rfl) (fun t1 => ?_)
  refine sr_aloadn (pc := 31) (n := 0) (by decide +kernel) rfl ?_
  refine sr_gI (pc := 32) fg_11_93 (by decide +kernel) (sr_in11 _ (by omega)) (fun _ => rfl) ?_
  refine sr_if_le (pc := 35) (off := 5) (tg := 40) (by decide +kernel) (by decide) (fun _ => ?_) (fun _ => ?_)
  · refine sr_aloadn (pc := 40) (n := 0) (by decide +kernel) rfl ?_
    refine sr_gC (pc := 41) (i2 := 0) fg_11_13 (by decide +kernel) (sr_in11 _ (by omega)) (fun _ => rfl) ?_
    refine sr_iloadn (pc := 44) (n := 1) (by decide +kernel) rfl ?_
    refine sr_iconst (pc := 45) (n := 1) (v := 1) (by decide +kernel) rfl ?_
    refine sr_sI (pc := 46) (n := 24) rfl (by decide +kernel) (sr_in25 _ (by omega)) (fun _ _ => rfl) (fun t2 => ?_)
    refine sr_aloadn (pc := 47) (n := 0) (by decide +kernel) rfl ?_
    refine sr_iloadn (pc := 48) (n := 1) (by decide +kernel) rfl ?_
    refine sr_cV (pc := 49) (As := [sr_i a0]) (mc1 := 0) (ms1 := 0) (mc2 := 0) (ms2 := 0) fm_11_137 fl_11_137 (by decide +kernel) (sr_in11 _ (by omega)) (rm_11_up_11_laysNow) rfl rfl rfl (C11_laysNow l a0 t2) ?_
    refine sr_kV (fun t3 => ?_)
    refine sr_aloadn (pc := 52) (n := 0) (by decide +kernel) rfl ?_
    refine sr_cV (pc := 53) (As := []) (mc1 := 0) (ms1 := 0) (mc2 := 0) (ms2 := 0) fm_11_115 fl_11_115 (by decide +kernel) (sr_in11 _ (by omega)) (rm_11_up_11_ups) rfl rfl rfl (C11_ups l t3) ?_
    refine sr_kI (fun v4 t4 => ?_)
    exact sr_iret (pc := 56) (by decide +kernel) rfl
  · refine sr_iconst (pc := 38) (n := 0) (v := 0) (by decide +kernel) rfl ?_
    exact sr_iret (pc := 39) (by decide +kernel) rfl
def F11_up (a0 : Int32) (t : sr_t) : sr_Rs := (sr_bI (F11_isNode a0 t) (fun v1 t1 => (if v1 = 0 then f11_up_28 a0 1 t1 else (if a0 < 0 ∨ 24 ≤ a0.toNatClampNeg then none else (if (t1.1 25 0 a0.toNatClampNeg) = 1 then f11_up_28 a0 2 t1 else f11_up_28 a0 0 t1)))))
theorem C11_up (l : Launch) (a0 : Int32)  (t : sr_t) : sr_ct' l sr_m11_up [sr_r 11 0, sr_i a0] t (F11_up a0 t) 0 0 := by
  refine sr_T_of (L0 := [some (sr_r 11 0), some (sr_i a0)]) rfl (by decide +kernel) (fun _ => rfl) (fun _ => Nat.le_of_ble_eq_true rfl) ?_
  unfold F11_up
  refine sr_aloadn (pc := 0) (n := 0) (by decide +kernel) rfl ?_
  refine sr_aloadn (pc := 1) (n := 0) (by decide +kernel) rfl ?_
  refine sr_iloadn (pc := 2) (n := 1) (by decide +kernel) rfl ?_
  refine sr_cV (pc := 3) (As := [sr_i a0]) (mc1 := 0) (ms1 := 0) (mc2 := 0) (ms2 := 0) fm_11_141 fl_11_141 (by decide +kernel) (sr_in11 _ (by omega)) (rm_11_up_11_isNode) rfl rfl rfl (C11_isNode l a0 t) ?_
  refine sr_kI (fun v1 t1 => ?_)
  refine sr_if_ne (pc := 6) (off := 7) (tg := 13) (by decide +kernel) (by decide) (fun _ => ?_) (fun _ => ?_)
  · refine sr_aloadn (pc := 13) (n := 0) (by decide +kernel) rfl ?_
    refine sr_gC (pc := 14) (i2 := 0) fg_11_13 (by decide +kernel) (sr_in11 _ (by omega)) (fun _ => rfl) ?_
    refine sr_iloadn (pc := 17) (n := 1) (by decide +kernel) rfl ?_
    refine sr_aI (pc := 18) (n := 24) rfl (by decide +kernel) (sr_in25 _ (by omega)) (fun _ _ => rfl) ?_
    refine sr_iconst (pc := 19) (n := 1) (v := 1) (by decide +kernel) rfl ?_
    refine sr_icmp_ne (pc := 20) (off := 7) (tg := 27) (by decide +kernel) (by decide) (fun _ => ?_) (fun _ => ?_)
    · refine sr_iconst (pc := 27) (n := 0) (v := 0) (by decide +kernel) rfl ?_
      exact sr_wk (sr_mono (mc := 0) (ms := 0) (by omega) (by omega) (g11_up_28 l a0 0 t1)) ⟨rfl, ⟨rfl, trivial⟩⟩
    · refine sr_iconst (pc := 23) (n := 2) (v := 2) (by decide +kernel) rfl ?_
      refine sr_goto (pc := 24) (off := 4) (tg := 28) (by decide +kernel) (by decide) ?_
      exact sr_wk (sr_mono (mc := 0) (ms := 0) (by omega) (by omega) (g11_up_28 l a0 2 t1)) ⟨rfl, ⟨rfl, trivial⟩⟩
  · refine sr_iconst (pc := 9) (n := 1) (v := 1) (by decide +kernel) rfl ?_
    refine sr_goto (pc := 10) (off := 18) (tg := 28) (by decide +kernel) (by decide) ?_
    exact sr_wk (sr_mono (mc := 0) (ms := 0) (by omega) (by omega) (g11_up_28 l a0 1 t1)) ⟨rfl, ⟨rfl, trivial⟩⟩
def sr_m11_wrongUp : sr_M := (⟨"ShiftRingModel", "wrongUp", "(I)I"⟩, prog_13_method_22_code, 2, (some .int), [], 2, 43)
def sr_m11_tableOf : sr_M := (⟨"ShiftRingModel", "tableOf", "(II)I"⟩, prog_13_method_11_code, 3, (some .int), [], 0, 0)
def sr_m11_differ : sr_M := (⟨"ShiftRingModel", "differ", "(IIIII)I"⟩, prog_13_method_14_code, 10, (some .int), [], 1, 22)
def sr_m11_staleOf : sr_M := (⟨"ShiftRingModel", "staleOf", "(I)I"⟩, prog_13_method_15_code, 3, (some .int), [], 3, 73)
def sr_m11_mend : sr_M := (⟨"ShiftRingModel", "mend", "(I)I"⟩, prog_13_method_23_code, 3, (some .int), [], 4, 95)
theorem fg_11_71 : sr_FG "ShiftRingModel" 71 11 39 53 := ⟨RX11, TX11, tyX11, rfl, by decide, rfl, uw_11, tyX11_ok, nmX11, Or.inl (sr_tb (n := 1422) (by decide +kernel) rfl)⟩
theorem fl_11_123 : Cond.methodLink "ShiftRingModel" 123 (sr_My sr_m11_tableOf) ∈ sr_TB := (sr_tb (n := 1604) (by decide +kernel) rfl)
theorem fm_11_123 : sr_FV "ShiftRingModel" 123 sr_m11_tableOf 11 2 := ⟨⟨rfl, sr_tb (n := 1607) (by decide +kernel) rfl, sr_tb (n := 12) (by decide +kernel) rfl, ⟨by decide, by decide, by decide +kernel⟩, Or.inl fl_11_123⟩, ⟨TX11, 53, rfl, rfl⟩, sr_tb (n := 1606) (by decide +kernel) rfl, sr_ts (n := 48) (by decide +kernel) rfl⟩
theorem fl_11_126 : Cond.methodLink "ShiftRingModel" 126 (sr_My sr_m11_differ) ∈ sr_TB := (sr_tb (n := 1608) (by decide +kernel) rfl)
theorem fm_11_126 : sr_FV "ShiftRingModel" 126 sr_m11_differ 11 5 := ⟨⟨rfl, sr_tb (n := 1611) (by decide +kernel) rfl, sr_tb (n := 12) (by decide +kernel) rfl, ⟨by decide, by decide, by decide +kernel⟩, Or.inl fl_11_126⟩, ⟨TX11, 53, rfl, rfl⟩, sr_tb (n := 1610) (by decide +kernel) rfl, sr_ts (n := 49) (by decide +kernel) rfl⟩
theorem fl_11_130 : Cond.methodLink "ShiftRingModel" 130 (sr_My sr_m11_staleOf) ∈ sr_TB := (sr_tb (n := 1600) (by decide +kernel) rfl)
theorem fm_11_130 : sr_FV "ShiftRingModel" 130 sr_m11_staleOf 11 1 := ⟨⟨rfl, sr_tb (n := 1603) (by decide +kernel) rfl, sr_tb (n := 12) (by decide +kernel) rfl, ⟨by decide, by decide, by decide +kernel⟩, Or.inl fl_11_130⟩, ⟨TX11, 53, rfl, rfl⟩, sr_tb (n := 1602) (by decide +kernel) rfl, sr_ts (n := 47) (by decide +kernel) rfl⟩
theorem fl_11_144 : Cond.methodLink "ShiftRingModel" 144 (sr_My sr_m11_wrongUp) ∈ sr_TB := (sr_tb (n := 1596) (by decide +kernel) rfl)
theorem fm_11_144 : sr_FV "ShiftRingModel" 144 sr_m11_wrongUp 11 1 := ⟨⟨rfl, sr_tb (n := 1599) (by decide +kernel) rfl, sr_tb (n := 12) (by decide +kernel) rfl, ⟨by decide, by decide, by decide +kernel⟩, Or.inl fl_11_144⟩, ⟨TX11, 53, rfl, rfl⟩, sr_tb (n := 1598) (by decide +kernel) rfl, sr_ts (n := 46) (by decide +kernel) rfl⟩
theorem rm_11_differ_11_tableOf : sr_RM sr_m11_differ sr_m11_tableOf := ⟨Nat.le_of_ble_eq_true rfl, Nat.le_of_ble_eq_true rfl⟩
theorem rm_11_mend_11_laysNow : sr_RM sr_m11_mend sr_m11_laysNow := ⟨Nat.le_of_ble_eq_true rfl, Nat.le_of_ble_eq_true rfl⟩
theorem rm_11_mend_11_staleOf : sr_RM sr_m11_mend sr_m11_staleOf := ⟨Nat.le_of_ble_eq_true rfl, Nat.le_of_ble_eq_true rfl⟩
theorem rm_11_mend_11_wrongUp : sr_RM sr_m11_mend sr_m11_wrongUp := ⟨Nat.le_of_ble_eq_true rfl, Nat.le_of_ble_eq_true rfl⟩
theorem rm_11_staleOf_11_differ : sr_RM sr_m11_staleOf sr_m11_differ := ⟨Nat.le_of_ble_eq_true rfl, Nat.le_of_ble_eq_true rfl⟩
theorem rm_11_staleOf_11_lays : sr_RM sr_m11_staleOf sr_m11_lays := ⟨Nat.le_of_ble_eq_true rfl, Nat.le_of_ble_eq_true rfl⟩
theorem rm_11_staleOf_11_tableOf : sr_RM sr_m11_staleOf sr_m11_tableOf := ⟨Nat.le_of_ble_eq_true rfl, Nat.le_of_ble_eq_true rfl⟩
theorem rm_11_wrongUp_11_isNode : sr_RM sr_m11_wrongUp sr_m11_isNode := ⟨Nat.le_of_ble_eq_true rfl, Nat.le_of_ble_eq_true rfl⟩
def f11_wrongUp_26 (a0 : Int32)  : Int32 → sr_t → sr_Rs := fun xs0 t => (some (.inl (some (sr_i xs0)), t))
theorem g11_wrongUp_26 (l : Launch) (a0 : Int32)    : ∀ (xs0 : Int32), ∀ (t : sr_t), sr_g l sr_m11_wrongUp 26 [some (sr_r 11 0), some (sr_i a0)] [sr_i xs0] t (f11_wrongUp_26 a0  xs0 t) 0 0 := by
  intro xs0  t
  unfold f11_wrongUp_26
  exact sr_iret (pc := 26) (by decide +kernel) rfl
def F11_wrongUp (a0 : Int32) (t : sr_t) : sr_Rs := (sr_bI (F11_isNode a0 t) (fun v1 t1 => (if v1 = 0 then f11_wrongUp_26 a0 1 t1 else (if a0 < 0 ∨ 24 ≤ a0.toNatClampNeg then none else (if (t1.1 25 0 a0.toNatClampNeg) = 0 then f11_wrongUp_26 a0 2 t1 else f11_wrongUp_26 a0 0 t1)))))
theorem C11_wrongUp (l : Launch) (a0 : Int32)  (t : sr_t) : sr_ct' l sr_m11_wrongUp [sr_r 11 0, sr_i a0] t (F11_wrongUp a0 t) 0 0 := by
  refine sr_T_of (L0 := [some (sr_r 11 0), some (sr_i a0)]) rfl (by decide +kernel) (fun _ => rfl) (fun _ => Nat.le_of_ble_eq_true rfl) ?_
  unfold F11_wrongUp
  refine sr_aloadn (pc := 0) (n := 0) (by decide +kernel) rfl ?_
  refine sr_iloadn (pc := 1) (n := 1) (by decide +kernel) rfl ?_
  refine sr_cV (pc := 2) (As := [sr_i a0]) (mc1 := 0) (ms1 := 0) (mc2 := 0) (ms2 := 0) fm_11_141 fl_11_141 (by decide +kernel) (sr_in11 _ (by omega)) (rm_11_wrongUp_11_isNode) rfl rfl rfl (C11_isNode l a0 t) ?_
  refine sr_kI (fun v1 t1 => ?_)
  refine sr_if_ne (pc := 5) (off := 7) (tg := 12) (by decide +kernel) (by decide) (fun _ => ?_) (fun _ => ?_)
  · refine sr_aloadn (pc := 12) (n := 0) (by decide +kernel) rfl ?_
    refine sr_gC (pc := 13) (i2 := 0) fg_11_13 (by decide +kernel) (sr_in11 _ (by omega)) (fun _ => rfl) ?_
    refine sr_iloadn (pc := 16) (n := 1) (by decide +kernel) rfl ?_
    refine sr_aI (pc := 17) (n := 24) rfl (by decide +kernel) (sr_in25 _ (by omega)) (fun _ _ => rfl) ?_
    refine sr_if_ne (pc := 18) (off := 7) (tg := 25) (by decide +kernel) (by decide) (fun _ => ?_) (fun _ => ?_)
    · refine sr_iconst (pc := 25) (n := 0) (v := 0) (by decide +kernel) rfl ?_
      exact sr_wk (sr_mono (mc := 0) (ms := 0) (by omega) (by omega) (g11_wrongUp_26 l a0 0 t1)) ⟨rfl, ⟨rfl, trivial⟩⟩
    · refine sr_iconst (pc := 21) (n := 2) (v := 2) (by decide +kernel) rfl ?_
      refine sr_goto (pc := 22) (off := 4) (tg := 26) (by decide +kernel) (by decide) ?_
      exact sr_wk (sr_mono (mc := 0) (ms := 0) (by omega) (by omega) (g11_wrongUp_26 l a0 2 t1)) ⟨rfl, ⟨rfl, trivial⟩⟩
  · refine sr_iconst (pc := 8) (n := 1) (v := 1) (by decide +kernel) rfl ?_
    refine sr_goto (pc := 9) (off := 17) (tg := 26) (by decide +kernel) (by decide) ?_
    exact sr_wk (sr_mono (mc := 0) (ms := 0) (by omega) (by omega) (g11_wrongUp_26 l a0 1 t1)) ⟨rfl, ⟨rfl, trivial⟩⟩
def f11_lays_41_3 (a0 : Int32) (a1 : Int32) (a2 : Int32) (a4 : Int32) (k25 : sr_t → sr_Rs) : Nat → Int32 → sr_t → sr_Rs
  | 0 => fun _ _ => none
  | n + 1 => fun x6 t => (if 14 ≤ x6 then k25 t else (if a4 + x6 < 0 ∨ 14 ≤ (a4 + x6).toNatClampNeg then none else sr_lt (sr_u t 41 0 (a4 + x6).toNatClampNeg ((-1))) (fun t1 => (f11_lays_41_3 a0 a1 a2 a4 k25 n) (x6 + 1) t1)))
theorem g11_lays_41_3 (l : Launch) (a0 : Int32) (a1 : Int32) (a2 : Int32) (a4 : Int32)  (k25 : sr_t → sr_Rs) (hk25 : ∀ (t : sr_t), sr_g l sr_m11_lays 25 [some (sr_r 11 0), some (sr_i a0), some (sr_i a1), some (sr_i a2), some (sr_r 41 0), some (sr_i a4), none, none, none] [] t (k25 t) 0 0) : ∀ (n : Nat) (x6 : Int32), ∀ (t : sr_t), sr_g l sr_m11_lays 3 [some (sr_r 11 0), some (sr_i a0), some (sr_i a1), some (sr_i a2), some (sr_r 41 0), some (sr_i a4), some (sr_i x6), none, none] [] t (f11_lays_41_3 a0 a1 a2 a4 k25 n x6 t) 0 0 := by
  intro n
  induction n with
  | zero => intros; exact sr_Gn
  | succ n ih =>
    intro x6  t
    unfold f11_lays_41_3
    refine sr_iload (pc := 3) (i := 6) (by decide +kernel) rfl ?_
    refine sr_bipush (pc := 5) (n := 14) (v := 14) (by decide +kernel) (by decide) ?_
    refine sr_icmp_ge (pc := 7) (off := 18) (tg := 25) (by decide +kernel) (by decide) (fun _ => ?_) (fun _ => ?_)
    · exact sr_wk (sr_mono (mc := 0) (ms := 0) (by omega) (by omega) (hk25 t)) ⟨rfl, ⟨rfl, ⟨rfl, ⟨rfl, ⟨rfl, ⟨rfl, trivial⟩⟩⟩⟩⟩⟩
    · refine sr_aload (pc := 10) (i := 4) (by decide +kernel) rfl ?_
      refine sr_iload (pc := 12) (i := 5) (by decide +kernel) rfl ?_
      refine sr_iload (pc := 14) (i := 6) (by decide +kernel) rfl ?_
      refine sr_iadd (pc := 16) (by decide +kernel) ?_
      refine sr_iconst (pc := 17) (n := (-1)) (v := (-1)) (by decide +kernel) rfl ?_
      refine sr_sI (pc := 18) (n := 14) rfl (by decide +kernel) (sr_in41 _ (by omega)) (fun _ _ => rfl) (fun t1 => ?_)
      refine sr_iinc (pc := 19) (i := 6) (n := 1) (w := x6 + 1) (by decide +kernel) rfl rfl (by decide) rfl rfl ?_
      refine sr_goto (pc := 22) (off := (-19)) (tg := 3) (by decide +kernel) (by decide) ?_
      exact sr_wk (sr_mono (mc := 0) (ms := 0) (by omega) (by omega) (ih (x6 + 1) t1)) ⟨rfl, ⟨rfl, ⟨rfl, ⟨rfl, ⟨rfl, ⟨rfl, ⟨rfl, trivial⟩⟩⟩⟩⟩⟩⟩
def f11_lays_41_49 (a0 : Int32) (a1 : Int32) (a2 : Int32) (a4 : Int32) (k119 : Int32 → sr_t → sr_Rs) : Nat → Int32 → Int32 → sr_t → sr_Rs
  | 0 => fun _ _ _ => none
  | n + 1 => fun x6 x7 t => (if 3 ≤ x6 then k119 x6 t else (if x7 = ((-1)) then k119 x6 t else (if x7 = a0 then k119 x6 t else (if (a4 + 2) + x6 < 0 ∨ 14 ≤ ((a4 + 2) + x6).toNatClampNeg then none else sr_lt (sr_u t 41 0 ((a4 + 2) + x6).toNatClampNeg x7) (fun t1 => (if x7 < 0 ∨ 24 ≤ x7.toNatClampNeg then none else (sr_bI (F11_upFrom (t1.1 24 0 x7.toNatClampNeg) 0 t1) (fun v2 t2 => (if (x6 + 1) ≤ 0 then (f11_lays_41_49 a0 a1 a2 a4 k119 n) (x6 + 1) v2 t2 else (if a4 + 2 < 0 ∨ 14 ≤ (a4 + 2).toNatClampNeg then none else (if v2 = (t2.1 41 0 (a4 + 2).toNatClampNeg) then (f11_lays_41_49 a0 a1 a2 a4 k119 n) (x6 + 1) ((-1)) t2 else (f11_lays_41_49 a0 a1 a2 a4 k119 n) (x6 + 1) v2 t2)))))))))))
theorem g11_lays_41_49 (l : Launch) (a0 : Int32) (a1 : Int32) (a2 : Int32) (a4 : Int32)  (k119 : Int32 → sr_t → sr_Rs) (hk119 : ∀ (x6 : Int32), ∀ (t : sr_t), sr_g l sr_m11_lays 119 [some (sr_r 11 0), some (sr_i a0), some (sr_i a1), some (sr_i a2), some (sr_r 41 0), some (sr_i a4), some (sr_i x6), none, none] [] t (k119 x6 t) 0 0) : ∀ (n : Nat) (x6 : Int32) (x7 : Int32), ∀ (t : sr_t), sr_g l sr_m11_lays 49 [some (sr_r 11 0), some (sr_i a0), some (sr_i a1), some (sr_i a2), some (sr_r 41 0), some (sr_i a4), some (sr_i x6), some (sr_i x7), none] [] t (f11_lays_41_49 a0 a1 a2 a4 k119 n x6 x7 t) 0 0 := by
  intro n
  induction n with
  | zero => intros; exact sr_Gn
  | succ n ih =>
    intro x6 x7  t
    unfold f11_lays_41_49
    refine sr_iload (pc := 49) (i := 6) (by decide +kernel) rfl ?_
    refine sr_iconst (pc := 51) (n := 3) (v := 3) (by decide +kernel) rfl ?_
    refine sr_icmp_ge (pc := 52) (off := 67) (tg := 119) (by decide +kernel) (by decide) (fun _ => ?_) (fun _ => ?_)
    · exact sr_wk (sr_mono (mc := 0) (ms := 0) (by omega) (by omega) (hk119 x6 t)) ⟨rfl, ⟨rfl, ⟨rfl, ⟨rfl, ⟨rfl, ⟨rfl, ⟨rfl, trivial⟩⟩⟩⟩⟩⟩⟩
    · refine sr_iload (pc := 55) (i := 7) (by decide +kernel) rfl ?_
      refine sr_iconst (pc := 57) (n := (-1)) (v := (-1)) (by decide +kernel) rfl ?_
      refine sr_icmp_eq (pc := 58) (off := 61) (tg := 119) (by decide +kernel) (by decide) (fun _ => ?_) (fun _ => ?_)
      · exact sr_wk (sr_mono (mc := 0) (ms := 0) (by omega) (by omega) (hk119 x6 t)) ⟨rfl, ⟨rfl, ⟨rfl, ⟨rfl, ⟨rfl, ⟨rfl, ⟨rfl, trivial⟩⟩⟩⟩⟩⟩⟩
      · refine sr_iload (pc := 61) (i := 7) (by decide +kernel) rfl ?_
        refine sr_iloadn (pc := 63) (n := 1) (by decide +kernel) rfl ?_
        refine sr_icmp_eq (pc := 64) (off := 55) (tg := 119) (by decide +kernel) (by decide) (fun _ => ?_) (fun _ => ?_)
        · exact sr_wk (sr_mono (mc := 0) (ms := 0) (by omega) (by omega) (hk119 x6 t)) ⟨rfl, ⟨rfl, ⟨rfl, ⟨rfl, ⟨rfl, ⟨rfl, ⟨rfl, trivial⟩⟩⟩⟩⟩⟩⟩
        · refine sr_aload (pc := 67) (i := 4) (by decide +kernel) rfl ?_
          refine sr_iload (pc := 69) (i := 5) (by decide +kernel) rfl ?_
          refine sr_iconst (pc := 71) (n := 2) (v := 2) (by decide +kernel) rfl ?_
          refine sr_iadd (pc := 72) (by decide +kernel) ?_
          refine sr_iload (pc := 73) (i := 6) (by decide +kernel) rfl ?_
          refine sr_iadd (pc := 75) (by decide +kernel) ?_
          refine sr_iload (pc := 76) (i := 7) (by decide +kernel) rfl ?_
          refine sr_sI (pc := 78) (n := 14) rfl (by decide +kernel) (sr_in41 _ (by omega)) (fun _ _ => rfl) (fun t1 => ?_)
          refine sr_iinc (pc := 79) (i := 6) (n := 1) (w := x6 + 1) (by decide +kernel) rfl rfl (by decide) rfl rfl ?_
          refine sr_aloadn (pc := 82) (n := 0) (by decide +kernel) rfl ?_
          refine sr_aloadn (pc := 83) (n := 0) (by decide +kernel) rfl ?_
          refine sr_gC (pc := 84) (i2 := 0) fg_11_7 (by decide +kernel) (sr_in11 _ (by omega)) (fun _ => rfl) ?_
          refine sr_iload (pc := 87) (i := 7) (by decide +kernel) rfl ?_
          refine sr_aI (pc := 89) (n := 24) rfl (by decide +kernel) (sr_in24 _ (by omega)) (fun _ _ => rfl) ?_
          refine sr_iconst (pc := 90) (n := 0) (v := 0) (by decide +kernel) rfl ?_
          refine sr_cV (pc := 91) (As := [sr_i (t1.1 24 0 x7.toNatClampNeg), sr_i 0]) (mc1 := 0) (ms1 := 0) (mc2 := 0) (ms2 := 0) fm_11_107 fl_11_107 (by decide +kernel) (sr_in11 _ (by omega)) (rm_11_lays_11_upFrom) rfl rfl rfl (C11_upFrom l (t1.1 24 0 x7.toNatClampNeg) 0 t1) ?_
          refine sr_kI (fun v2 t2 => ?_)
          refine sr_istore (pc := 94) (i := 7) (by decide +kernel) (by decide) rfl rfl ?_
          refine sr_iload (pc := 96) (i := 6) (by decide +kernel) rfl ?_
          refine sr_if_le (pc := 98) (off := (-49)) (tg := 49) (by decide +kernel) (by decide) (fun _ => ?_) (fun _ => ?_)
          · exact sr_wk (sr_mono (mc := 0) (ms := 0) (by omega) (by omega) (ih (x6 + 1) v2 t2)) ⟨rfl, ⟨rfl, ⟨rfl, ⟨rfl, ⟨rfl, ⟨rfl, ⟨rfl, ⟨rfl, trivial⟩⟩⟩⟩⟩⟩⟩⟩
          · refine sr_iload (pc := 101) (i := 7) (by decide +kernel) rfl ?_
            refine sr_aload (pc := 103) (i := 4) (by decide +kernel) rfl ?_
            refine sr_iload (pc := 105) (i := 5) (by decide +kernel) rfl ?_
            refine sr_iconst (pc := 107) (n := 2) (v := 2) (by decide +kernel) rfl ?_
            refine sr_iadd (pc := 108) (by decide +kernel) ?_
            refine sr_aI (pc := 109) (n := 14) rfl (by decide +kernel) (sr_in41 _ (by omega)) (fun _ _ => rfl) ?_
            refine sr_icmp_ne (pc := 110) (off := (-61)) (tg := 49) (by decide +kernel) (by decide) (fun _ => ?_) (fun _ => ?_)
            · exact sr_wk (sr_mono (mc := 0) (ms := 0) (by omega) (by omega) (ih (x6 + 1) v2 t2)) ⟨rfl, ⟨rfl, ⟨rfl, ⟨rfl, ⟨rfl, ⟨rfl, ⟨rfl, ⟨rfl, trivial⟩⟩⟩⟩⟩⟩⟩⟩
            · refine sr_iconst (pc := 113) (n := (-1)) (v := (-1)) (by decide +kernel) rfl ?_
              refine sr_istore (pc := 114) (i := 7) (by decide +kernel) (by decide) rfl rfl ?_
              refine sr_goto (pc := 116) (off := (-67)) (tg := 49) (by decide +kernel) (by decide) ?_
              exact sr_wk (sr_mono (mc := 0) (ms := 0) (by omega) (by omega) (ih (x6 + 1) ((-1)) t2)) ⟨rfl, ⟨rfl, ⟨rfl, ⟨rfl, ⟨rfl, ⟨rfl, ⟨rfl, ⟨rfl, trivial⟩⟩⟩⟩⟩⟩⟩⟩
def f11_lays_41_205 (a0 : Int32) (a1 : Int32) (a2 : Int32) (a4 : Int32) (k149 : Int32 → Int32 → sr_t → sr_Rs) (k210 : Int32 → sr_t → sr_Rs) : Int32 → Int32 → sr_t → sr_Rs := fun x8 xs0 t => k149 xs0 x8 t
theorem g11_lays_41_205 (l : Launch) (a0 : Int32) (a1 : Int32) (a2 : Int32) (a4 : Int32)  (k149 : Int32 → Int32 → sr_t → sr_Rs) (k210 : Int32 → sr_t → sr_Rs) (hk149 : ∀ (x7 : Int32) (x8 : Int32), ∀ (t : sr_t), sr_g l sr_m11_lays 149 [some (sr_r 11 0), some (sr_i a0), some (sr_i a1), some (sr_i a2), some (sr_r 41 0), some (sr_i a4), none, some (sr_i x7), some (sr_i x8)] [] t (k149 x7 x8 t) 0 0) (hk210 : ∀ (x8 : Int32), ∀ (t : sr_t), sr_g l sr_m11_lays 210 [some (sr_r 11 0), some (sr_i a0), some (sr_i a1), some (sr_i a2), some (sr_r 41 0), some (sr_i a4), none, none, some (sr_i x8)] [] t (k210 x8 t) 0 0) : ∀ (x8 : Int32) (xs0 : Int32), ∀ (t : sr_t), sr_g l sr_m11_lays 205 [some (sr_r 11 0), some (sr_i a0), some (sr_i a1), some (sr_i a2), some (sr_r 41 0), some (sr_i a4), none, none, some (sr_i x8)] [sr_i xs0] t (f11_lays_41_205 a0 a1 a2 a4 k149 k210 x8 xs0 t) 0 0 := by
  intro x8 xs0  t
  unfold f11_lays_41_205
  refine sr_istore (pc := 205) (i := 7) (by decide +kernel) (by decide) rfl rfl ?_
  refine sr_goto (pc := 207) (off := (-58)) (tg := 149) (by decide +kernel) (by decide) ?_
  exact sr_wk (sr_mono (mc := 0) (ms := 0) (by omega) (by omega) (hk149 xs0 x8 t)) ⟨rfl, ⟨rfl, ⟨rfl, ⟨rfl, ⟨rfl, ⟨rfl, ⟨rfl, ⟨rfl, trivial⟩⟩⟩⟩⟩⟩⟩⟩
def f11_lays_41_149 (a0 : Int32) (a1 : Int32) (a2 : Int32) (a4 : Int32) (k210 : Int32 → sr_t → sr_Rs) : Nat → Int32 → Int32 → sr_t → sr_Rs
  | 0 => fun _ _ _ => none
  | n + 1 => fun x7 x8 t => (if a2 ≤ x8 then k210 x8 t else (sr_bI (F11_ups t) (fun v1 t1 => (if v1 ≤ x8 then k210 x8 t1 else (if (a4 + 6) + x8 < 0 ∨ 14 ≤ ((a4 + 6) + x8).toNatClampNeg then none else sr_lt (sr_u t1 41 0 ((a4 + 6) + x8).toNatClampNeg x7) (fun t2 => (sr_bI (F11_ups t2) (fun v3 t3 => (if v3 ≤ 1 then f11_lays_41_205 a0 a1 a2 a4 (f11_lays_41_149 a0 a1 a2 a4 k210 n) k210 (x8 + 1) x7 t3 else (if x7 < 0 ∨ 24 ≤ x7.toNatClampNeg then none else (sr_bI (F11_upFrom (t3.1 24 0 x7.toNatClampNeg) 0 t3) (fun v4 t4 => f11_lays_41_205 a0 a1 a2 a4 (f11_lays_41_149 a0 a1 a2 a4 k210 n) k210 (x8 + 1) v4 t4))))))))))))
theorem g11_lays_41_149 (l : Launch) (a0 : Int32) (a1 : Int32) (a2 : Int32) (a4 : Int32)  (k210 : Int32 → sr_t → sr_Rs) (hk210 : ∀ (x8 : Int32), ∀ (t : sr_t), sr_g l sr_m11_lays 210 [some (sr_r 11 0), some (sr_i a0), some (sr_i a1), some (sr_i a2), some (sr_r 41 0), some (sr_i a4), none, none, some (sr_i x8)] [] t (k210 x8 t) 0 0) : ∀ (n : Nat) (x7 : Int32) (x8 : Int32), ∀ (t : sr_t), sr_g l sr_m11_lays 149 [some (sr_r 11 0), some (sr_i a0), some (sr_i a1), some (sr_i a2), some (sr_r 41 0), some (sr_i a4), none, some (sr_i x7), some (sr_i x8)] [] t (f11_lays_41_149 a0 a1 a2 a4 k210 n x7 x8 t) 0 0 := by
  intro n
  induction n with
  | zero => intros; exact sr_Gn
  | succ n ih =>
    intro x7 x8  t
    unfold f11_lays_41_149
    refine sr_iload (pc := 149) (i := 8) (by decide +kernel) rfl ?_
    refine sr_iloadn (pc := 151) (n := 3) (by decide +kernel) rfl ?_
    refine sr_icmp_ge (pc := 152) (off := 58) (tg := 210) (by decide +kernel) (by decide) (fun _ => ?_) (fun _ => ?_)
    · exact sr_wk (sr_mono (mc := 0) (ms := 0) (by omega) (by omega) (hk210 x8 t)) ⟨rfl, ⟨rfl, ⟨rfl, ⟨rfl, ⟨rfl, ⟨rfl, ⟨rfl, trivial⟩⟩⟩⟩⟩⟩⟩
    · refine sr_iload (pc := 155) (i := 8) (by decide +kernel) rfl ?_
      refine sr_aloadn (pc := 157) (n := 0) (by decide +kernel) rfl ?_
      refine sr_cV (pc := 158) (As := []) (mc1 := 0) (ms1 := 0) (mc2 := 0) (ms2 := 0) fm_11_115 fl_11_115 (by decide +kernel) (sr_in11 _ (by omega)) (rm_11_lays_11_ups) rfl rfl rfl (C11_ups l t) ?_
      refine sr_kI (fun v1 t1 => ?_)
      refine sr_icmp_ge (pc := 161) (off := 49) (tg := 210) (by decide +kernel) (by decide) (fun _ => ?_) (fun _ => ?_)
      · exact sr_wk (sr_mono (mc := 0) (ms := 0) (by omega) (by omega) (hk210 x8 t1)) ⟨rfl, ⟨rfl, ⟨rfl, ⟨rfl, ⟨rfl, ⟨rfl, ⟨rfl, trivial⟩⟩⟩⟩⟩⟩⟩
      · refine sr_aload (pc := 164) (i := 4) (by decide +kernel) rfl ?_
        refine sr_iload (pc := 166) (i := 5) (by decide +kernel) rfl ?_
        refine sr_bipush (pc := 168) (n := 6) (v := 6) (by decide +kernel) (by decide) ?_
        refine sr_iadd (pc := 170) (by decide +kernel) ?_
        refine sr_iload (pc := 171) (i := 8) (by decide +kernel) rfl ?_
        refine sr_iadd (pc := 173) (by decide +kernel) ?_
        refine sr_iload (pc := 174) (i := 7) (by decide +kernel) rfl ?_
        refine sr_sI (pc := 176) (n := 14) rfl (by decide +kernel) (sr_in41 _ (by omega)) (fun _ _ => rfl) (fun t2 => ?_)
        refine sr_iinc (pc := 177) (i := 8) (n := 1) (w := x8 + 1) (by decide +kernel) rfl rfl (by decide) rfl rfl ?_
        refine sr_aloadn (pc := 180) (n := 0) (by decide +kernel) rfl ?_
        refine sr_cV (pc := 181) (As := []) (mc1 := 0) (ms1 := 0) (mc2 := 0) (ms2 := 0) fm_11_115 fl_11_115 (by decide +kernel) (sr_in11 _ (by omega)) (rm_11_lays_11_ups) rfl rfl rfl (C11_ups l t2) ?_
        refine sr_kI (fun v3 t3 => ?_)
        refine sr_iconst (pc := 184) (n := 1) (v := 1) (by decide +kernel) rfl ?_
        refine sr_icmp_le (pc := 185) (off := 18) (tg := 203) (by decide +kernel) (by decide) (fun _ => ?_) (fun _ => ?_)
        · refine sr_iload (pc := 203) (i := 7) (by decide +kernel) rfl ?_
          exact sr_wk (sr_mono (mc := 0) (ms := 0) (by omega) (by omega) (g11_lays_41_205 l a0 a1 a2 a4 (f11_lays_41_149 a0 a1 a2 a4 k210 n) k210 ih hk210 (x8 + 1) x7 t3)) ⟨rfl, ⟨rfl, ⟨rfl, ⟨rfl, ⟨rfl, ⟨rfl, ⟨rfl, trivial⟩⟩⟩⟩⟩⟩⟩
        · refine sr_aloadn (pc := 188) (n := 0) (by decide +kernel) rfl ?_
          refine sr_aloadn (pc := 189) (n := 0) (by decide +kernel) rfl ?_
          refine sr_gC (pc := 190) (i2 := 0) fg_11_7 (by decide +kernel) (sr_in11 _ (by omega)) (fun _ => rfl) ?_
          refine sr_iload (pc := 193) (i := 7) (by decide +kernel) rfl ?_
          refine sr_aI (pc := 195) (n := 24) rfl (by decide +kernel) (sr_in24 _ (by omega)) (fun _ _ => rfl) ?_
          refine sr_iconst (pc := 196) (n := 0) (v := 0) (by decide +kernel) rfl ?_
          refine sr_cV (pc := 197) (As := [sr_i (t3.1 24 0 x7.toNatClampNeg), sr_i 0]) (mc1 := 0) (ms1 := 0) (mc2 := 0) (ms2 := 0) fm_11_107 fl_11_107 (by decide +kernel) (sr_in11 _ (by omega)) (rm_11_lays_11_upFrom) rfl rfl rfl (C11_upFrom l (t3.1 24 0 x7.toNatClampNeg) 0 t3) ?_
          refine sr_kI (fun v4 t4 => ?_)
          refine sr_goto (pc := 200) (off := 5) (tg := 205) (by decide +kernel) (by decide) ?_
          exact sr_wk (sr_mono (mc := 0) (ms := 0) (by omega) (by omega) (g11_lays_41_205 l a0 a1 a2 a4 (f11_lays_41_149 a0 a1 a2 a4 k210 n) k210 ih hk210 (x8 + 1) v4 t4)) ⟨rfl, ⟨rfl, ⟨rfl, ⟨rfl, ⟨rfl, ⟨rfl, ⟨rfl, trivial⟩⟩⟩⟩⟩⟩⟩
def f11_lays_41_210 (a0 : Int32) (a1 : Int32) (a2 : Int32) (a4 : Int32)  : Int32 → sr_t → sr_Rs := fun x8 t => (if a4 + 5 < 0 ∨ 14 ≤ (a4 + 5).toNatClampNeg then none else sr_lt (sr_u t 41 0 (a4 + 5).toNatClampNeg x8) (fun t1 => (some (.inl none, t1))))
theorem g11_lays_41_210 (l : Launch) (a0 : Int32) (a1 : Int32) (a2 : Int32) (a4 : Int32)    : ∀ (x8 : Int32), ∀ (t : sr_t), sr_g l sr_m11_lays 210 [some (sr_r 11 0), some (sr_i a0), some (sr_i a1), some (sr_i a2), some (sr_r 41 0), some (sr_i a4), none, none, some (sr_i x8)] [] t (f11_lays_41_210 a0 a1 a2 a4  x8 t) 0 0 := by
  intro x8  t
  unfold f11_lays_41_210
  refine sr_aload (pc := 210) (i := 4) (by decide +kernel) rfl ?_
  refine sr_iload (pc := 212) (i := 5) (by decide +kernel) rfl ?_
  refine sr_iconst (pc := 214) (n := 5) (v := 5) (by decide +kernel) rfl ?_
  refine sr_iadd (pc := 215) (by decide +kernel) ?_
  refine sr_iload (pc := 216) (i := 8) (by decide +kernel) rfl ?_
  refine sr_sI (pc := 218) (n := 14) rfl (by decide +kernel) (sr_in41 _ (by omega)) (fun _ _ => rfl) (fun t1 => ?_)
  exact sr_ret (pc := 219) (by decide +kernel) rfl
def f11_lays_41_119 (a0 : Int32) (a1 : Int32) (a2 : Int32) (a4 : Int32)  : Int32 → sr_t → sr_Rs := fun x6 t => (if a4 + 1 < 0 ∨ 14 ≤ (a4 + 1).toNatClampNeg then none else sr_lt (sr_u t 41 0 (a4 + 1).toNatClampNeg x6) (fun t1 => (if a0 < 0 ∨ 24 ≤ a0.toNatClampNeg then none else (if 4096 = 0 then none else (sr_bI (F11_hostOf (((t1.1 24 0 a0.toNatClampNeg) * a1) - ((t1.1 24 0 a0.toNatClampNeg) * a1) / 4096 * 4096) t1) (fun v2 t2 => f11_lays_41_149 a0 a1 a2 a4 (f11_lays_41_210 a0 a1 a2 a4) sr_fu v2 0 t2))))))
theorem g11_lays_41_119 (l : Launch) (a0 : Int32) (a1 : Int32) (a2 : Int32) (a4 : Int32)    : ∀ (x6 : Int32), ∀ (t : sr_t), sr_g l sr_m11_lays 119 [some (sr_r 11 0), some (sr_i a0), some (sr_i a1), some (sr_i a2), some (sr_r 41 0), some (sr_i a4), some (sr_i x6), none, none] [] t (f11_lays_41_119 a0 a1 a2 a4  x6 t) 0 0 := by
  intro x6  t
  unfold f11_lays_41_119
  refine sr_aload (pc := 119) (i := 4) (by decide +kernel) rfl ?_
  refine sr_iload (pc := 121) (i := 5) (by decide +kernel) rfl ?_
  refine sr_iconst (pc := 123) (n := 1) (v := 1) (by decide +kernel) rfl ?_
  refine sr_iadd (pc := 124) (by decide +kernel) ?_
  refine sr_iload (pc := 125) (i := 6) (by decide +kernel) rfl ?_
  refine sr_sI (pc := 127) (n := 14) rfl (by decide +kernel) (sr_in41 _ (by omega)) (fun _ _ => rfl) (fun t1 => ?_)
  refine sr_iconst (pc := 128) (n := 0) (v := 0) (by decide +kernel) rfl ?_
  refine sr_istore (pc := 129) (i := 8) (by decide +kernel) (by decide) rfl rfl ?_
  refine sr_aloadn (pc := 131) (n := 0) (by decide +kernel) rfl ?_
  refine sr_aloadn (pc := 132) (n := 0) (by decide +kernel) rfl ?_
  refine sr_gC (pc := 133) (i2 := 0) fg_11_7 (by decide +kernel) (sr_in11 _ (by omega)) (fun _ => rfl) ?_
  refine sr_iloadn (pc := 136) (n := 1) (by decide +kernel) rfl ?_
  refine sr_aI (pc := 137) (n := 24) rfl (by decide +kernel) (sr_in24 _ (by omega)) (fun _ _ => rfl) ?_
  refine sr_iloadn (pc := 138) (n := 2) (by decide +kernel) rfl ?_
  refine sr_imul (pc := 139) (by decide +kernel) ?_
  refine sr_sipush (pc := 140) (n := 4096) (v := 4096) (by decide +kernel) (by decide) ?_
  refine sr_irem (pc := 143) (by decide +kernel) (fun _ => ?_)
  refine sr_cV (pc := 144) (As := [sr_i (((t1.1 24 0 a0.toNatClampNeg) * a1) - ((t1.1 24 0 a0.toNatClampNeg) * a1) / 4096 * 4096)]) (mc1 := 0) (ms1 := 0) (mc2 := 0) (ms2 := 0) fm_11_111 fl_11_111 (by decide +kernel) (sr_in11 _ (by omega)) (rm_11_lays_11_hostOf) rfl rfl rfl (C11_hostOf l (((t1.1 24 0 a0.toNatClampNeg) * a1) - ((t1.1 24 0 a0.toNatClampNeg) * a1) / 4096 * 4096) t1) ?_
  refine sr_kI (fun v2 t2 => ?_)
  refine sr_istore (pc := 147) (i := 7) (by decide +kernel) (by decide) rfl rfl ?_
  exact sr_wk (sr_mono (mc := 0) (ms := 0) (by omega) (by omega) (g11_lays_41_149 l a0 a1 a2 a4 (f11_lays_41_210 a0 a1 a2 a4) (g11_lays_41_210 l a0 a1 a2 a4) sr_fu v2 0 t2)) ⟨rfl, ⟨rfl, ⟨rfl, ⟨rfl, ⟨rfl, ⟨rfl, ⟨rfl, ⟨rfl, trivial⟩⟩⟩⟩⟩⟩⟩⟩
def f11_lays_41_25 (a0 : Int32) (a1 : Int32) (a2 : Int32) (a4 : Int32)  : sr_t → sr_Rs := fun  t => (if a4 + 0 < 0 ∨ 14 ≤ (a4 + 0).toNatClampNeg then none else sr_lt (sr_u t 41 0 (a4 + 0).toNatClampNeg a1) (fun t1 => (if a0 < 0 ∨ 24 ≤ a0.toNatClampNeg then none else (sr_bI (F11_upFrom (t1.1 24 0 a0.toNatClampNeg) 0 t1) (fun v2 t2 => f11_lays_41_49 a0 a1 a2 a4 (f11_lays_41_119 a0 a1 a2 a4) sr_fu 0 v2 t2)))))
theorem g11_lays_41_25 (l : Launch) (a0 : Int32) (a1 : Int32) (a2 : Int32) (a4 : Int32)    : ∀ (t : sr_t), sr_g l sr_m11_lays 25 [some (sr_r 11 0), some (sr_i a0), some (sr_i a1), some (sr_i a2), some (sr_r 41 0), some (sr_i a4), none, none, none] [] t (f11_lays_41_25 a0 a1 a2 a4   t) 0 0 := by
  intro t
  unfold f11_lays_41_25
  refine sr_aload (pc := 25) (i := 4) (by decide +kernel) rfl ?_
  refine sr_iload (pc := 27) (i := 5) (by decide +kernel) rfl ?_
  refine sr_iconst (pc := 29) (n := 0) (v := 0) (by decide +kernel) rfl ?_
  refine sr_iadd (pc := 30) (by decide +kernel) ?_
  refine sr_iloadn (pc := 31) (n := 2) (by decide +kernel) rfl ?_
  refine sr_sI (pc := 32) (n := 14) rfl (by decide +kernel) (sr_in41 _ (by omega)) (fun _ _ => rfl) (fun t1 => ?_)
  refine sr_iconst (pc := 33) (n := 0) (v := 0) (by decide +kernel) rfl ?_
  refine sr_istore (pc := 34) (i := 6) (by decide +kernel) (by decide) rfl rfl ?_
  refine sr_aloadn (pc := 36) (n := 0) (by decide +kernel) rfl ?_
  refine sr_aloadn (pc := 37) (n := 0) (by decide +kernel) rfl ?_
  refine sr_gC (pc := 38) (i2 := 0) fg_11_7 (by decide +kernel) (sr_in11 _ (by omega)) (fun _ => rfl) ?_
  refine sr_iloadn (pc := 41) (n := 1) (by decide +kernel) rfl ?_
  refine sr_aI (pc := 42) (n := 24) rfl (by decide +kernel) (sr_in24 _ (by omega)) (fun _ _ => rfl) ?_
  refine sr_iconst (pc := 43) (n := 0) (v := 0) (by decide +kernel) rfl ?_
  refine sr_cV (pc := 44) (As := [sr_i (t1.1 24 0 a0.toNatClampNeg), sr_i 0]) (mc1 := 0) (ms1 := 0) (mc2 := 0) (ms2 := 0) fm_11_107 fl_11_107 (by decide +kernel) (sr_in11 _ (by omega)) (rm_11_lays_11_upFrom) rfl rfl rfl (C11_upFrom l (t1.1 24 0 a0.toNatClampNeg) 0 t1) ?_
  refine sr_kI (fun v2 t2 => ?_)
  refine sr_istore (pc := 47) (i := 7) (by decide +kernel) (by decide) rfl rfl ?_
  exact sr_wk (sr_mono (mc := 0) (ms := 0) (by omega) (by omega) (g11_lays_41_49 l a0 a1 a2 a4 (f11_lays_41_119 a0 a1 a2 a4) (g11_lays_41_119 l a0 a1 a2 a4) sr_fu 0 v2 t2)) ⟨rfl, ⟨rfl, ⟨rfl, ⟨rfl, ⟨rfl, ⟨rfl, ⟨rfl, ⟨rfl, trivial⟩⟩⟩⟩⟩⟩⟩⟩
def F11_lays_41 (a0 : Int32) (a1 : Int32) (a2 : Int32) (a4 : Int32) (t : sr_t) : sr_Rs := f11_lays_41_3 a0 a1 a2 a4 (f11_lays_41_25 a0 a1 a2 a4) sr_fu 0 t
theorem C11_lays_41 (l : Launch) (a0 : Int32) (a1 : Int32) (a2 : Int32) (a4 : Int32)  (t : sr_t) : sr_ct' l sr_m11_lays [sr_r 11 0, sr_i a0, sr_i a1, sr_i a2, sr_r 41 0, sr_i a4] t (F11_lays_41 a0 a1 a2 a4 t) 0 0 := by
  refine sr_T_of (L0 := [some (sr_r 11 0), some (sr_i a0), some (sr_i a1), some (sr_i a2), some (sr_r 41 0), some (sr_i a4), none, none, none]) rfl (by decide +kernel) (fun _ => rfl) (fun _ => Nat.le_of_ble_eq_true rfl) ?_
  unfold F11_lays_41
  refine sr_iconst (pc := 0) (n := 0) (v := 0) (by decide +kernel) rfl ?_
  refine sr_istore (pc := 1) (i := 6) (by decide +kernel) (by decide) rfl rfl ?_
  exact sr_wk (sr_mono (mc := 0) (ms := 0) (by omega) (by omega) (g11_lays_41_3 l a0 a1 a2 a4 (f11_lays_41_25 a0 a1 a2 a4) (g11_lays_41_25 l a0 a1 a2 a4) sr_fu 0 t)) ⟨rfl, ⟨rfl, ⟨rfl, ⟨rfl, ⟨rfl, ⟨rfl, ⟨rfl, trivial⟩⟩⟩⟩⟩⟩⟩
