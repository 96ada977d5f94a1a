def sr_m10_spot : sr_M := (⟨"ShiftRing", "spot", "(II)I"⟩, prog_1_method_9_code, 5, (some .int), [], 7, 111)
theorem fg_10_143 : sr_FG "ShiftRing" 143 2 3 8 := ⟨RX2, TX2, tyX2, rfl, by decide, rfl, uw_2, tyX2_ok, nmX2, Or.inr ⟨"ShiftRing", sr_nb (n := 107) (by decide +kernel) rfl⟩⟩
theorem rm_10_spot_10_needNode : sr_RM sr_m10_spot sr_m10_needNode := ⟨Nat.le_of_ble_eq_true rfl, Nat.le_of_ble_eq_true rfl⟩
theorem rm_10_spot_3_of : sr_RM sr_m10_spot sr_m3_of := ⟨Nat.le_of_ble_eq_true rfl, Nat.le_of_ble_eq_true rfl⟩
def f10_spot_15 (a0 : Int32) (a1 : Int32)  : sr_t → sr_Rs := fun  t => (some (.inr 0, t))
theorem g10_spot_15 (l : Launch) (a0 : Int32) (a1 : Int32)    : ∀ (t : sr_t), sr_g l sr_m10_spot 15 [some (sr_r 10 0), some (sr_i a0), some (sr_i a1), none, none] [] t (f10_spot_15 a0 a1   t) 1 6 := by
  intro t
  unfold f10_spot_15
  exact sr_thr (pc := 15) (ik := 138) (is := 140) (ic := 142) (tx := "there is no such spot") (z := 0) (mc := 0) (ms := 0) fx_138_142 (by decide +kernel) (by decide +kernel) (by decide +kernel) (Or.inl ⟨by decide +kernel, by decide +kernel, by decide +kernel⟩) rfl (by decide) (by decide) rfl rfl
def F10_spot (a0 : Int32) (a1 : Int32) (t : sr_t) : sr_Rs := (sr_bV (F10_needNode a0 t) (fun t1 => (if a1 < 0 then f10_spot_15 a0 a1 t1 else (if a1 ≤ 99 then (sr_bR 2 50 (F3_of 0 a0 t1) (fun n2 t2 => (sr_lt (sr_u t2 2 n2 3 a1) (fun t3 => (some (.inl (some (sr_i (t2.1 2 n2 3))), t3)))))) else f10_spot_15 a0 a1 t1))))
theorem C10_spot (l : Launch) (a0 : Int32) (a1 : Int32)  (t : sr_t) : sr_ct' l sr_m10_spot [sr_r 10 0, sr_i a0, sr_i a1] t (F10_spot a0 a1 t) 2 12 := by
  refine sr_T_of (L0 := [some (sr_r 10 0), some (sr_i a0), some (sr_i a1), none, none]) rfl (by decide +kernel) (fun _ => rfl) (fun _ => Nat.le_of_ble_eq_true rfl) ?_
  unfold F10_spot
  refine sr_aloadn (pc := 0) (n := 0) (by decide +kernel) rfl ?_
  refine sr_iloadn (pc := 1) (n := 1) (by decide +kernel) rfl ?_
  refine sr_cV (pc := 2) (As := [sr_i a0]) (mc1 := 1) (ms1 := 6) (mc2 := 1) (ms2 := 6) fm_10_81 fl_10_81 (by decide +kernel) (sr_in10 _ (by omega)) (rm_10_spot_10_needNode) rfl rfl rfl (C10_needNode l a0 t) ?_
  refine sr_kV (fun t1 => ?_)
  refine sr_iloadn (pc := 5) (n := 2) (by decide +kernel) rfl ?_
  refine sr_if_lt (pc := 6) (off := 9) (tg := 15) (by decide +kernel) (by decide) (fun _ => ?_) (fun _ => ?_)
  · exact sr_wk (sr_mono (mc := 1) (ms := 6) (by omega) (by omega) (g10_spot_15 l a0 a1 t1)) ⟨rfl, ⟨rfl, ⟨rfl, trivial⟩⟩⟩
  · refine sr_iloadn (pc := 9) (n := 2) (by decide +kernel) rfl ?_
    refine sr_bipush (pc := 10) (n := 99) (v := 99) (by decide +kernel) (by decide) ?_
    refine sr_icmp_le (pc := 12) (off := 13) (tg := 25) (by decide +kernel) (by decide) (fun _ => ?_) (fun _ => ?_)
    · refine sr_aloadn (pc := 25) (n := 0) (by decide +kernel) rfl ?_
      refine sr_gC (pc := 26) (i2 := 0) fg_10_12 (by decide +kernel) (sr_in10 _ (by omega)) (fun _ => rfl) ?_
      refine sr_iloadn (pc := 29) (n := 1) (by decide +kernel) rfl ?_
      refine sr_cV (pc := 30) (As := [sr_i a0]) (mc1 := 0) (ms1 := 0) (mc2 := 1) (ms2 := 6) fm_10_87 fl_10_87 (by decide +kernel) (sr_in3 _ (by omega)) (rm_10_spot_3_of) rfl rfl rfl (C3_of l 0 a0 (by omega) t1) ?_
      refine sr_kR (fun n2 t2 hv_n2 => ?_)
      refine sr_astoren (pc := 33) (n := 3) (by decide +kernel) (by decide) rfl rfl ?_
      refine sr_aloadn (pc := 34) (n := 3) (by decide +kernel) rfl ?_
      refine sr_gI (pc := 35) fg_10_143 (by decide +kernel) (sr_in2 _ (by omega)) (fun _ => rfl) ?_
      refine sr_istore (pc := 38) (i := 4) (by decide +kernel) (by decide) rfl rfl ?_
      refine sr_aloadn (pc := 40) (n := 3) (by decide +kernel) rfl ?_
      refine sr_iloadn (pc := 41) (n := 2) (by decide +kernel) rfl ?_
      refine sr_pI (pc := 42) fg_10_143 ft_2_3 (by decide +kernel) (sr_in2 _ (by omega)) (fun _ => rfl) (fun t3 => ?_)
      refine sr_iload (pc := 45) (i := 4) (by decide +kernel) rfl ?_
      exact sr_iret (pc := 47) (by decide +kernel) rfl
    · exact sr_wk (sr_mono (mc := 1) (ms := 6) (by omega) (by omega) (g10_spot_15 l a0 a1 t1)) ⟨rfl, ⟨rfl, ⟨rfl, trivial⟩⟩⟩
def sr_m10_lookup : sr_M := (⟨"ShiftRing", "lookup", "(IIZ)I"⟩, prog_1_method_10_code, 4, (some .int), [], 7, 111)
theorem fl_10_146 : Cond.methodLink "ShiftRing" 146 (sr_My sr_m8_travel) ∈ sr_TB := (sr_tb (n := 971) (by decide +kernel) rfl)
theorem fm_10_146 : sr_FV "ShiftRing" 146 sr_m8_travel 8 4 := ⟨⟨rfl, sr_tb (n := 600) (by decide +kernel) rfl, sr_tb (n := 8) (by decide +kernel) rfl, ⟨by decide, by decide, by decide +kernel⟩, Or.inl fl_10_146⟩, ⟨TX8, 17, rfl, rfl⟩, sr_tb (n := 598) (by decide +kernel) rfl, sr_tb (n := 599) (by decide +kernel) rfl⟩
theorem rm_10_lookup_10_needNode : sr_RM sr_m10_lookup sr_m10_needNode := ⟨Nat.le_of_ble_eq_true rfl, Nat.le_of_ble_eq_true rfl⟩
theorem rm_10_lookup_10_needPlace : sr_RM sr_m10_lookup sr_m10_needPlace := ⟨Nat.le_of_ble_eq_true rfl, Nat.le_of_ble_eq_true rfl⟩
theorem rm_10_lookup_10_needUp : sr_RM sr_m10_lookup sr_m10_needUp := ⟨Nat.le_of_ble_eq_true rfl, Nat.le_of_ble_eq_true rfl⟩
theorem rm_10_lookup_3_of : sr_RM sr_m10_lookup sr_m3_of := ⟨Nat.le_of_ble_eq_true rfl, Nat.le_of_ble_eq_true rfl⟩
theorem rm_10_lookup_8_travel : sr_RM sr_m10_lookup sr_m8_travel := ⟨Nat.le_of_ble_eq_true rfl, Nat.le_of_ble_eq_true rfl⟩
def F10_lookup (a0 : Int32) (a1 : Int32) (a2 : Int32) (t : sr_t) : sr_Rs := (sr_bV (F10_needNode a0 t) (fun t1 => (sr_bV (F10_needPlace a1 t1) (fun t2 => (sr_bV (F10_needUp a0 t2) (fun t3 => (sr_bR 2 50 (F3_of 0 a0 t3) (fun n4 t4 => (sr_bI (F8_travel 0 0 n4 a1 a2 t4) (fun v5 t5 => (some (.inl (some (sr_i v5)), t5))))))))))))
theorem C10_lookup (l : Launch) (a0 : Int32) (a1 : Int32) (a2 : Int32)  (t : sr_t) : sr_ct' l sr_m10_lookup [sr_r 10 0, sr_i a0, sr_i a1, sr_i a2] t (F10_lookup a0 a1 a2 t) 3 18 := by
  refine sr_T_of (L0 := [some (sr_r 10 0), some (sr_i a0), some (sr_i a1), some (sr_i a2)]) rfl (by decide +kernel) (fun _ => rfl) (fun _ => Nat.le_of_ble_eq_true rfl) ?_
  unfold F10_lookup
  refine sr_aloadn (pc := 0) (n := 0) (by decide +kernel) rfl ?_
  refine sr_iloadn (pc := 1) (n := 1) (by decide +kernel) rfl ?_
  refine sr_cV (pc := 2) (As := [sr_i a0]) (mc1 := 1) (ms1 := 6) (mc2 := 2) (ms2 := 12) fm_10_81 fl_10_81 (by decide +kernel) (sr_in10 _ (by omega)) (rm_10_lookup_10_needNode) rfl rfl rfl (C10_needNode l a0 t) ?_
  refine sr_kV (fun t1 => ?_)
  refine sr_iloadn (pc := 5) (n := 2) (by decide +kernel) rfl ?_
  refine sr_cS (pc := 6) (As := [sr_i a1]) (mc1 := 1) (ms1 := 6) (mc2 := 1) (ms2 := 6) fm_10_58 fl_10_58 (by decide +kernel) (rm_10_lookup_10_needPlace) rfl rfl rfl (C10_needPlace l a1 t1) ?_
  refine sr_kV (fun t2 => ?_)
  refine sr_aloadn (pc := 9) (n := 0) (by decide +kernel) rfl ?_
  refine sr_iloadn (pc := 10) (n := 1) (by decide +kernel) rfl ?_
  refine sr_cV (pc := 11) (As := [sr_i a0]) (mc1 := 1) (ms1 := 6) (mc2 := 0) (ms2 := 0) fm_10_84 fl_10_84 (by decide +kernel) (sr_in10 _ (by omega)) (rm_10_lookup_10_needUp) rfl rfl rfl (C10_needUp l a0 t2) ?_
  refine sr_kV (fun t3 => ?_)
  refine sr_aloadn (pc := 14) (n := 0) (by decide +kernel) rfl ?_
  refine sr_gC (pc := 15) (i2 := 0) fg_10_28 (by decide +kernel) (sr_in10 _ (by omega)) (fun _ => rfl) ?_
  refine sr_aloadn (pc := 18) (n := 0) (by decide +kernel) rfl ?_
  refine sr_gC (pc := 19) (i2 := 0) fg_10_12 (by decide +kernel) (sr_in10 _ (by omega)) (fun _ => rfl) ?_
  refine sr_aloadn (pc := 22) (n := 0) (by decide +kernel) rfl ?_
  refine sr_gC (pc := 23) (i2 := 0) fg_10_12 (by decide +kernel) (sr_in10 _ (by omega)) (fun _ => rfl) ?_
  refine sr_iloadn (pc := 26) (n := 1) (by decide +kernel) rfl ?_
  refine sr_cV (pc := 27) (As := [sr_i a0]) (mc1 := 0) (ms1 := 0) (mc2 := 0) (ms2 := 0) fm_10_87 fl_10_87 (by decide +kernel) (sr_in3 _ (by omega)) (rm_10_lookup_3_of) rfl rfl rfl (C3_of l 0 a0 (by omega) t3) ?_
  refine sr_kR (fun n4 t4 hv_n4 => ?_)
  refine sr_iloadn (pc := 30) (n := 2) (by decide +kernel) rfl ?_
  refine sr_iloadn (pc := 31) (n := 3) (by decide +kernel) rfl ?_
  refine sr_cV (pc := 32) (As := [sr_r 3 0, sr_r 2 n4, sr_i a1, sr_i a2]) (mc1 := 0) (ms1 := 0) (mc2 := 0) (ms2 := 0) fm_10_146 fl_10_146 (by decide +kernel) (sr_in8 _ (by omega)) (rm_10_lookup_8_travel) rfl rfl rfl (C8_travel l 0 0 n4 a1 a2 (by omega) (by omega) (by omega) t4) ?_
  refine sr_kI (fun v5 t5 => ?_)
  exact sr_iret (pc := 35) (by decide +kernel) rfl
def sr_m10_needWhat : sr_M := (⟨"ShiftRing", "needWhat", "(II)V"⟩, prog_1_method_54_code, 2, none, [], 6, 90)
def sr_m10_latest : sr_M := (⟨"ShiftRing", "latest", "(I)I"⟩, prog_1_method_11_code, 2, (some .int), [], 7, 111)
theorem fg_10_154 : sr_FG "ShiftRing" 154 8 9 17 := ⟨RX8, TX8, tyX8, rfl, by decide, rfl, uw_8, tyX8_ok, nmX8, Or.inr ⟨"ShiftRing", sr_nb (n := 267) (by decide +kernel) rfl⟩⟩
theorem fg_10_157 : sr_FG "ShiftRing" 157 8 10 17 := ⟨RX8, TX8, tyX8, rfl, by decide, rfl, uw_8, tyX8_ok, nmX8, Or.inr ⟨"ShiftRing", sr_nb (n := 270) (by decide +kernel) rfl⟩⟩
theorem fg_10_160 : sr_FG "ShiftRing" 160 8 11 17 := ⟨RX8, TX8, tyX8, rfl, by decide, rfl, uw_8, tyX8_ok, nmX8, Or.inr ⟨"ShiftRing", sr_nb (n := 273) (by decide +kernel) rfl⟩⟩
theorem fg_10_163 : sr_FG "ShiftRing" 163 8 12 17 := ⟨RX8, TX8, tyX8, rfl, by decide, rfl, uw_8, tyX8_ok, nmX8, Or.inr ⟨"ShiftRing", sr_nb (n := 276) (by decide +kernel) rfl⟩⟩
theorem fg_10_166 : sr_FG "ShiftRing" 166 8 7 17 := ⟨RX8, TX8, tyX8, rfl, by decide, rfl, uw_8, tyX8_ok, nmX8, Or.inr ⟨"ShiftRing", sr_nb (n := 261) (by decide +kernel) rfl⟩⟩
theorem fg_10_169 : sr_FG "ShiftRing" 169 8 8 17 := ⟨RX8, TX8, tyX8, rfl, by decide, rfl, uw_8, tyX8_ok, nmX8, Or.inr ⟨"ShiftRing", sr_nb (n := 264) (by decide +kernel) rfl⟩⟩
theorem fg_10_172 : sr_FG "ShiftRing" 172 8 14 17 := ⟨RX8, TX8, tyX8, rfl, by decide, rfl, uw_8, tyX8_ok, nmX8, Or.inr ⟨"ShiftRing", sr_nb (n := 281) (by decide +kernel) rfl⟩⟩
theorem fg_10_175 : sr_FG "ShiftRing" 175 8 3 17 := ⟨RX8, TX8, tyX8, rfl, by decide, rfl, uw_8, tyX8_ok, nmX8, Or.inr ⟨"ShiftRing", sr_nb (n := 254) (by decide +kernel) rfl⟩⟩
theorem fg_10_182 : sr_FG "ShiftRing" 182 8 13 17 := ⟨RX8, TX8, tyX8, rfl, by decide, rfl, uw_8, tyX8_ok, nmX8, Or.inr ⟨"ShiftRing", sr_nb (n := 279) (by decide +kernel) rfl⟩⟩
theorem fl_10_150 : Cond.methodLink "ShiftRing" 150 (sr_My sr_m10_needWhat) ∈ sr_TB := (sr_tb (n := 980) (by decide +kernel) rfl)
theorem fm_10_150 : sr_FS "ShiftRing" 150 sr_m10_needWhat 2 := ⟨⟨rfl, sr_tb (n := 982) (by decide +kernel) rfl, sr_tb (n := 1) (by decide +kernel) rfl, ⟨by decide, by decide, by decide +kernel⟩, Or.inl fl_10_150⟩, sr_tb (n := 981) (by decide +kernel) rfl⟩
theorem rm_10_latest_10_needWhat : sr_RM sr_m10_latest sr_m10_needWhat := ⟨Nat.le_of_ble_eq_true rfl, Nat.le_of_ble_eq_true rfl⟩
def f10_needWhat_9 (a0 : Int32) (a1 : Int32)  : sr_t → sr_Rs := fun  t => (some (.inr 3, t))
theorem g10_needWhat_9 (l : Launch) (a0 : Int32) (a1 : Int32)    : ∀ (t : sr_t), sr_g l sr_m10_needWhat 9 [some (sr_i a0), some (sr_i a1)] [] t (f10_needWhat_9 a0 a1   t) 1 6 := by
  intro t
  unfold f10_needWhat_9
  exact sr_thr3 (pc := 9) (ik := 431) (is := 433) (ic := 435) (tx := "there is no such what") (z := 3) (mc := 0) (ms := 0) fx3 (by decide +kernel) (by decide +kernel) (by decide +kernel) ⟨by decide +kernel, by decide +kernel, by decide +kernel⟩ rfl (by decide) (by decide) rfl rfl
def F10_needWhat (a0 : Int32) (a1 : Int32) (t : sr_t) : sr_Rs := (if a0 < 0 then f10_needWhat_9 a0 a1 t else (if a0 ≤ a1 then (some (.inl none, t)) else f10_needWhat_9 a0 a1 t))
theorem C10_needWhat (l : Launch) (a0 : Int32) (a1 : Int32)  (t : sr_t) : sr_ct' l sr_m10_needWhat [sr_i a0, sr_i a1] t (F10_needWhat a0 a1 t) 1 6 := by
  refine sr_T_of (L0 := [some (sr_i a0), some (sr_i a1)]) rfl (by decide +kernel) (fun _ => rfl) (fun _ => Nat.le_of_ble_eq_true rfl) ?_
  unfold F10_needWhat
  refine sr_iloadn (pc := 0) (n := 0) (by decide +kernel) rfl ?_
  refine sr_if_lt (pc := 1) (off := 8) (tg := 9) (by decide +kernel) (by decide) (fun _ => ?_) (fun _ => ?_)
  · exact sr_wk (sr_mono (mc := 1) (ms := 6) (by omega) (by omega) (g10_needWhat_9 l a0 a1 t)) ⟨rfl, ⟨rfl, trivial⟩⟩
  · refine sr_iloadn (pc := 4) (n := 0) (by decide +kernel) rfl ?_
    refine sr_iloadn (pc := 5) (n := 1) (by decide +kernel) rfl ?_
    refine sr_icmp_le (pc := 6) (off := 14) (tg := 20) (by decide +kernel) (by decide) (fun _ => ?_) (fun _ => ?_)
    · exact sr_ret (pc := 20) (by decide +kernel) rfl
    · exact sr_wk (sr_mono (mc := 1) (ms := 6) (by omega) (by omega) (g10_needWhat_9 l a0 a1 t)) ⟨rfl, ⟨rfl, trivial⟩⟩
def f10_latest_99 (a0 : Int32)  : Int32 → sr_t → sr_Rs := fun xs0 t => (some (.inl (some (sr_i xs0)), t))
theorem g10_latest_99 (l : Launch) (a0 : Int32)    : ∀ (xs0 : Int32), ∀ (t : sr_t), sr_g l sr_m10_latest 99 [some (sr_r 10 0), some (sr_i a0)] [sr_i xs0] t (f10_latest_99 a0  xs0 t) 0 0 := by
  intro xs0  t
  unfold f10_latest_99
  exact sr_iret (pc := 99) (by decide +kernel) rfl
def F10_latest (a0 : Int32) (t : sr_t) : sr_Rs := (sr_bV (F10_needWhat a0 8 t) (fun t1 => (sr_sw 0 7 a0 ((some (.inl (some (sr_i (t1.1 8 0 13))), t1))) (fun j => match j with | 0 => (some (.inl (some (sr_i (t1.1 8 0 9))), t1)) | 1 => (some (.inl (some (sr_i (t1.1 8 0 10))), t1)) | 2 => (some (.inl (some (sr_i (t1.1 8 0 11))), t1)) | 3 => (some (.inl (some (sr_i (t1.1 8 0 12))), t1)) | 4 => (if (t1.1 8 0 7) = 0 then f10_latest_99 a0 0 t1 else f10_latest_99 a0 1 t1) | 5 => (some (.inl (some (sr_i (t1.1 8 0 8))), t1)) | 6 => (some (.inl (some (sr_i (t1.1 8 0 14))), t1)) | 7 => (sr_ck (t1.1 8 0 3).toNatClampNeg 50 (fun n2 => (some (.inl (some (sr_i (t1.1 2 n2 0))), t1)))) | _ => none))))
theorem C10_latest (l : Launch) (a0 : Int32)  (t : sr_t) : sr_ct' l sr_m10_latest [sr_r 10 0, sr_i a0] t (F10_latest a0 t) 1 6 := by
  refine sr_T_of (L0 := [some (sr_r 10 0), some (sr_i a0)]) rfl (by decide +kernel) (fun _ => rfl) (fun _ => Nat.le_of_ble_eq_true rfl) ?_
  unfold F10_latest
  refine sr_iloadn (pc := 0) (n := 1) (by decide +kernel) rfl ?_
  refine sr_bipush (pc := 1) (n := 8) (v := 8) (by decide +kernel) (by decide) ?_
  refine sr_cS (pc := 3) (As := [sr_i a0, sr_i 8]) (mc1 := 1) (ms1 := 6) (mc2 := 0) (ms2 := 0) fm_10_150 fl_10_150 (by decide +kernel) (rm_10_latest_10_needWhat) rfl rfl rfl (C10_needWhat l a0 8 t) ?_
  refine sr_kV (fun t1 => ?_)
  refine sr_iloadn (pc := 6) (n := 1) (by decide +kernel) rfl ?_
  refine sr_tsw2 (pc := 7) (u := a0) (dflt := 120) (lo := 0) (hi := 7) (offs := #[45, 53, 61, 69, 77, 93, 101, 109]) (len := 45) (tg := 127) (by decide +kernel) (by decide) (by decide) (fun _ => ?_) (fun j off ho _ => ?_)
  · refine sr_aloadn (pc := 127) (n := 0) (by decide +kernel) rfl ?_
    refine sr_gC (pc := 128) (i2 := 0) fg_10_28 (by decide +kernel) (sr_in10 _ (by omega)) (fun _ => rfl) ?_
    refine sr_gI (pc := 131) fg_10_182 (by decide +kernel) (sr_in8 _ (by omega)) (fun _ => rfl) ?_
    exact sr_iret (pc := 134) (by decide +kernel) rfl
  · rcases j with _ | _ | _ | _ | _ | _ | _ | _ | j
    · cases ho
      refine ⟨52, by decide, ?_⟩
      refine sr_aloadn (pc := 52) (n := 0) (by decide +kernel) rfl ?_
      refine sr_gC (pc := 53) (i2 := 0) fg_10_28 (by decide +kernel) (sr_in10 _ (by omega)) (fun _ => rfl) ?_
      refine sr_gI (pc := 56) fg_10_154 (by decide +kernel) (sr_in8 _ (by omega)) (fun _ => rfl) ?_
      exact sr_iret (pc := 59) (by decide +kernel) rfl
    · cases ho
      refine ⟨60, by decide, ?_⟩
      refine sr_aloadn (pc := 60) (n := 0) (by decide +kernel) rfl ?_
      refine sr_gC (pc := 61) (i2 := 0) fg_10_28 (by decide +kernel) (sr_in10 _ (by omega)) (fun _ => rfl) ?_
      refine sr_gI (pc := 64) fg_10_157 (by decide +kernel) (sr_in8 _ (by omega)) (fun _ => rfl) ?_
      exact sr_iret (pc := 67) (by decide +kernel) rfl
    · cases ho
      refine ⟨68, by decide, ?_⟩
      refine sr_aloadn (pc := 68) (n := 0) (by decide +kernel) rfl ?_
      refine sr_gC (pc := 69) (i2 := 0) fg_10_28 (by decide +kernel) (sr_in10 _ (by omega)) (fun _ => rfl) ?_
      refine sr_gI (pc := 72) fg_10_160 (by decide +kernel) (sr_in8 _ (by omega)) (fun _ => rfl) ?_
      exact sr_iret (pc := 75) (by decide +kernel) rfl
    · cases ho
      refine ⟨76, by decide, ?_⟩
      refine sr_aloadn (pc := 76) (n := 0) (by decide +kernel) rfl ?_
      refine sr_gC (pc := 77) (i2 := 0) fg_10_28 (by decide +kernel) (sr_in10 _ (by omega)) (fun _ => rfl) ?_
      refine sr_gI (pc := 80) fg_10_163 (by decide +kernel) (sr_in8 _ (by omega)) (fun _ => rfl) ?_
      exact sr_iret (pc := 83) (by decide +kernel) rfl
    · cases ho
      refine ⟨84, by decide, ?_⟩
      refine sr_aloadn (pc := 84) (n := 0) (by decide +kernel) rfl ?_
      refine sr_gC (pc := 85) (i2 := 0) fg_10_28 (by decide +kernel) (sr_in10 _ (by omega)) (fun _ => rfl) ?_
      refine sr_gI (pc := 88) fg_10_166 (by decide +kernel) (sr_in8 _ (by omega)) (fun _ => rfl) ?_
      refine sr_if_eq (pc := 91) (off := 7) (tg := 98) (by decide +kernel) (by decide) (fun _ => ?_) (fun _ => ?_)
      · refine sr_iconst (pc := 98) (n := 0) (v := 0) (by decide +kernel) rfl ?_
        exact sr_wk (sr_mono (mc := 0) (ms := 0) (by omega) (by omega) (g10_latest_99 l a0 0 t1)) ⟨rfl, ⟨rfl, trivial⟩⟩
      · refine sr_iconst (pc := 94) (n := 1) (v := 1) (by decide +kernel) rfl ?_
        refine sr_goto (pc := 95) (off := 4) (tg := 99) (by decide +kernel) (by decide) ?_
        exact sr_wk (sr_mono (mc := 0) (ms := 0) (by omega) (by omega) (g10_latest_99 l a0 1 t1)) ⟨rfl, ⟨rfl, trivial⟩⟩
    · cases ho
      refine ⟨100, by decide, ?_⟩
      refine sr_aloadn (pc := 100) (n := 0) (by decide +kernel) rfl ?_
      refine sr_gC (pc := 101) (i2 := 0) fg_10_28 (by decide +kernel) (sr_in10 _ (by omega)) (fun _ => rfl) ?_
      refine sr_gI (pc := 104) fg_10_169 (by decide +kernel) (sr_in8 _ (by omega)) (fun _ => rfl) ?_
      exact sr_iret (pc := 107) (by decide +kernel) rfl
    · cases ho
      refine ⟨108, by decide, ?_⟩
      refine sr_aloadn (pc := 108) (n := 0) (by decide +kernel) rfl ?_
      refine sr_gC (pc := 109) (i2 := 0) fg_10_28 (by decide +kernel) (sr_in10 _ (by omega)) (fun _ => rfl) ?_
      refine sr_gI (pc := 112) fg_10_172 (by decide +kernel) (sr_in8 _ (by omega)) (fun _ => rfl) ?_
      exact sr_iret (pc := 115) (by decide +kernel) rfl
    · cases ho
      refine ⟨116, by decide, ?_⟩
      refine sr_aloadn (pc := 116) (n := 0) (by decide +kernel) rfl ?_
      refine sr_gC (pc := 117) (i2 := 0) fg_10_28 (by decide +kernel) (sr_in10 _ (by omega)) (fun _ => rfl) ?_
      refine sr_gR (pc := 120) (cnt := 50) fg_10_175 (by decide +kernel) (sr_in8 _ (by omega)) (fun _ => rfl) (fun n2 hv_n2 => ?_)
      refine sr_gI (pc := 123) fg_10_179 (by decide +kernel) (sr_in2 _ (by omega)) (fun _ => rfl) ?_
      exact sr_iret (pc := 126) (by decide +kernel) rfl
    · simp at ho
def sr_m10_step : sr_M := (⟨"ShiftRing", "step", "(II)I"⟩, prog_1_method_12_code, 3, (some .int), [], 7, 111)
theorem fl_10_185 : Cond.methodLink "ShiftRing" 185 (sr_My sr_m8_partOfStep) ∈ sr_TB := (sr_tb (n := 1006) (by decide +kernel) rfl)
theorem fm_10_185 : sr_FV "ShiftRing" 185 sr_m8_partOfStep 8 2 := ⟨⟨rfl, sr_tb (n := 682) (by decide +kernel) rfl, sr_tb (n := 8) (by decide +kernel) rfl, ⟨by decide, by decide, by decide +kernel⟩, Or.inl fl_10_185⟩, ⟨TX8, 17, rfl, rfl⟩, sr_tb (n := 680) (by decide +kernel) rfl, sr_tb (n := 681) (by decide +kernel) rfl⟩
theorem rm_10_step_10_needWhat : sr_RM sr_m10_step sr_m10_needWhat := ⟨Nat.le_of_ble_eq_true rfl, Nat.le_of_ble_eq_true rfl⟩
theorem rm_10_step_8_partOfStep : sr_RM sr_m10_step sr_m8_partOfStep := ⟨Nat.le_of_ble_eq_true rfl, Nat.le_of_ble_eq_true rfl⟩
def F10_step (a0 : Int32) (a1 : Int32) (t : sr_t) : sr_Rs := (sr_bV (F10_needWhat a1 3 t) (fun t1 => (sr_bI (F8_partOfStep 0 a0 a1 t1) (fun v2 t2 => (some (.inl (some (sr_i v2)), t2))))))
theorem C10_step (l : Launch) (a0 : Int32) (a1 : Int32)  (t : sr_t) : sr_ct' l sr_m10_step [sr_r 10 0, sr_i a0, sr_i a1] t (F10_step a0 a1 t) 1 6 := by
  refine sr_T_of (L0 := [some (sr_r 10 0), some (sr_i a0), some (sr_i a1)]) rfl (by decide +kernel) (fun _ => rfl) (fun _ => Nat.le_of_ble_eq_true rfl) ?_
  unfold F10_step
  refine sr_iloadn (pc := 0) (n := 2) (by decide +kernel) rfl ?_
  refine sr_iconst (pc := 1) (n := 3) (v := 3) (by decide +kernel) rfl ?_
  refine sr_cS (pc := 2) (As := [sr_i a1, sr_i 3]) (mc1 := 1) (ms1 := 6) (mc2 := 0) (ms2 := 0) fm_10_150 fl_10_150 (by decide +kernel) (rm_10_step_10_needWhat) rfl rfl rfl (C10_needWhat l a1 3 t) ?_
  refine sr_kV (fun t1 => ?_)
  refine sr_aloadn (pc := 5) (n := 0) (by decide +kernel) rfl ?_
  refine sr_gC (pc := 6) (i2 := 0) fg_10_28 (by decide +kernel) (sr_in10 _ (by omega)) (fun _ => rfl) ?_
  refine sr_iloadn (pc := 9) (n := 1) (by decide +kernel) rfl ?_
  refine sr_iloadn (pc := 10) (n := 2) (by decide +kernel) rfl ?_
  refine sr_cV (pc := 11) (As := [sr_i a0, sr_i a1]) (mc1 := 0) (ms1 := 0) (mc2 := 0) (ms2 := 0) fm_10_185 fl_10_185 (by decide +kernel) (sr_in8 _ (by omega)) (rm_10_step_8_partOfStep) rfl rfl rfl (C8_partOfStep l 0 a0 a1 (by omega) t1) ?_
  refine sr_kI (fun v2 t2 => ?_)
  exact sr_iret (pc := 14) (by decide +kernel) rfl
def sr_m10_owner : sr_M := (⟨"ShiftRing", "owner", "(I)I"⟩, prog_1_method_14_code, 2, (some .int), [], 7, 110)
theorem fl_10_197 : Cond.methodLink "ShiftRing" 197 (sr_My sr_m3_firstFrom) ∈ sr_TB := (sr_tb (n := 1014) (by decide +kernel) rfl)
theorem fm_10_197 : sr_FV "ShiftRing" 197 sr_m3_firstFrom 3 1 := ⟨⟨rfl, sr_tb (n := 454) (by decide +kernel) rfl, sr_tb (n := 2) (by decide +kernel) rfl, ⟨by decide, by decide, by decide +kernel⟩, Or.inl fl_10_197⟩, ⟨TX3, 9, rfl, rfl⟩, sr_tb (n := 452) (by decide +kernel) rfl, sr_tb (n := 453) (by decide +kernel) rfl⟩
theorem rm_10_owner_10_needPlace : sr_RM sr_m10_owner sr_m10_needPlace := ⟨Nat.le_of_ble_eq_true rfl, Nat.le_of_ble_eq_true rfl⟩
theorem rm_10_owner_3_firstFrom : sr_RM sr_m10_owner sr_m3_firstFrom := ⟨Nat.le_of_ble_eq_true rfl, Nat.le_of_ble_eq_true rfl⟩
def F10_owner (a0 : Int32) (t : sr_t) : sr_Rs := (sr_bV (F10_needPlace a0 t) (fun t1 => (sr_bR 2 50 (F3_firstFrom 0 a0 t1) (fun n2 t2 => (some (.inl (some (sr_i (t2.1 2 n2 0))), t2))))))
theorem C10_owner (l : Launch) (a0 : Int32)  (t : sr_t) : sr_ct' l sr_m10_owner [sr_r 10 0, sr_i a0] t (F10_owner a0 t) 1 6 := by
  refine sr_T_of (L0 := [some (sr_r 10 0), some (sr_i a0)]) rfl (by decide +kernel) (fun _ => rfl) (fun _ => Nat.le_of_ble_eq_true rfl) ?_
  unfold F10_owner
  refine sr_iloadn (pc := 0) (n := 1) (by decide +kernel) rfl ?_
  refine sr_cS (pc := 1) (As := [sr_i a0]) (mc1 := 1) (ms1 := 6) (mc2 := 0) (ms2 := 0) fm_10_58 fl_10_58 (by decide +kernel) (rm_10_owner_10_needPlace) rfl rfl rfl (C10_needPlace l a0 t) ?_
  refine sr_kV (fun t1 => ?_)
  refine sr_aloadn (pc := 4) (n := 0) (by decide +kernel) rfl ?_
  refine sr_gC (pc := 5) (i2 := 0) fg_10_12 (by decide +kernel) (sr_in10 _ (by omega)) (fun _ => rfl) ?_
  refine sr_iloadn (pc := 8) (n := 1) (by decide +kernel) rfl ?_
  refine sr_cV (pc := 9) (As := [sr_i a0]) (mc1 := 0) (ms1 := 0) (mc2 := 0) (ms2 := 0) fm_10_197 fl_10_197 (by decide +kernel) (sr_in3 _ (by omega)) (rm_10_owner_3_firstFrom) rfl rfl rfl (C3_firstFrom l 0 a0 (by omega) t1) ?_
  refine sr_kR (fun n2 t2 hv_n2 => ?_)
  refine sr_gI (pc := 12) fg_10_179 (by decide +kernel) (sr_in2 _ (by omega)) (fun _ => rfl) ?_
  exact sr_iret (pc := 15) (by decide +kernel) rfl
def sr_m10_partOfUpNode : sr_M := (⟨"ShiftRing", "partOfUpNode", "(LShiftRing$Node;I)I"⟩, prog_1_method_16_code, 3, (some .int), [], 6, 144)
def sr_m3_bitsOfThoseLinkedTo : sr_M := (⟨"ShiftRing$Ring", "bitsOfThoseLinkedTo", "(I)I"⟩, prog_5_method_20_code, 4, (some .int), [], 3, 63)
def sr_m10_node : sr_M := (⟨"ShiftRing", "node", "(II)I"⟩, prog_1_method_15_code, 4, (some .int), [], 7, 166)
theorem fg_10_200 : sr_FG "ShiftRing" 200 2 1 8 := ⟨RX2, TX2, tyX2, rfl, by decide, rfl, uw_2, tyX2_ok, nmX2, Or.inr ⟨"ShiftRing", sr_nb (n := 97) (by decide +kernel) rfl⟩⟩
theorem fg_10_203 : sr_FG "ShiftRing" 203 2 4 8 := ⟨RX2, TX2, tyX2, rfl, by decide, rfl, uw_2, tyX2_ok, nmX2, Or.inr ⟨"ShiftRing", sr_nb (n := 113) (by decide +kernel) rfl⟩⟩
theorem fg_10_207 : sr_FG "ShiftRing" 207 7 0 3 := ⟨RX7, TX7, tyX7, rfl, by decide, rfl, uw_7, tyX7_ok, nmX7, Or.inr ⟨"ShiftRing", sr_nb (n := 71) (by decide +kernel) rfl⟩⟩
theorem fg_10_210 : sr_FG "ShiftRing" 210 7 1 3 := ⟨RX7, TX7, tyX7, rfl, by decide, rfl, uw_7, tyX7_ok, nmX7, Or.inr ⟨"ShiftRing", sr_nb (n := 77) (by decide +kernel) rfl⟩⟩
theorem fg_10_213 : sr_FG "ShiftRing" 213 4 1 2 := ⟨RX4, TX4, tyX4, rfl, by decide, rfl, uw_4, tyX4_ok, nmX4, Or.inr ⟨"ShiftRing", sr_nb (n := 61) (by decide +kernel) rfl⟩⟩
theorem fg_10_214 : sr_FG "ShiftRing" 214 7 2 3 := ⟨RX7, TX7, tyX7, rfl, by decide, rfl, uw_7, tyX7_ok, nmX7, Or.inr ⟨"ShiftRing", sr_nb (n := 81) (by decide +kernel) rfl⟩⟩
theorem fg_10_227 : sr_FG "ShiftRing" 227 2 5 8 := ⟨RX2, TX2, tyX2, rfl, by decide, rfl, uw_2, tyX2_ok, nmX2, Or.inr ⟨"ShiftRing", sr_nb (n := 117) (by decide +kernel) rfl⟩⟩
theorem fg_10_230 : sr_FG "ShiftRing" 230 2 7 8 := ⟨RX2, TX2, tyX2, rfl, by decide, rfl, uw_2, tyX2_ok, nmX2, Or.inr ⟨"ShiftRing", sr_nb (n := 124) (by decide +kernel) rfl⟩⟩
theorem fg_10_237 : sr_FG "ShiftRing" 237 2 6 8 := ⟨RX2, TX2, tyX2, rfl, by decide, rfl, uw_2, tyX2_ok, nmX2, Or.inr ⟨"ShiftRing", sr_nb (n := 121) (by decide +kernel) rfl⟩⟩
theorem fl_10_217 : Cond.methodLink "ShiftRing" 217 (sr_My sr_m2_linkBits) ∈ sr_TB := (sr_tb (n := 1022) (by decide +kernel) rfl)
theorem fm_10_217 : sr_FV "ShiftRing" 217 sr_m2_linkBits 2 0 := ⟨⟨rfl, sr_tb (n := 531) (by decide +kernel) rfl, sr_tb (n := 3) (by decide +kernel) rfl, ⟨by decide, by decide, by decide +kernel⟩, Or.inl fl_10_217⟩, ⟨TX2, 8, rfl, rfl⟩, sr_tb (n := 529) (by decide +kernel) rfl, sr_tb (n := 530) (by decide +kernel) rfl⟩
theorem fl_10_220 : Cond.methodLink "ShiftRing" 220 (sr_My sr_m3_bitsOfThoseLinkedTo) ∈ sr_TB := (sr_tb (n := 1023) (by decide +kernel) rfl)
theorem fm_10_220 : sr_FV "ShiftRing" 220 sr_m3_bitsOfThoseLinkedTo 3 1 := ⟨⟨rfl, sr_tb (n := 1026) (by decide +kernel) rfl, sr_tb (n := 2) (by decide +kernel) rfl, ⟨by decide, by decide, by decide +kernel⟩, Or.inl fl_10_220⟩, ⟨TX3, 9, rfl, rfl⟩, sr_tb (n := 1024) (by decide +kernel) rfl, sr_tb (n := 1025) (by decide +kernel) rfl⟩
theorem fl_10_223 : Cond.methodLink "ShiftRing" 223 (sr_My sr_m10_partOfUpNode) ∈ sr_TB := (sr_tb (n := 1028) (by decide +kernel) rfl)
theorem fm_10_223 : sr_FV "ShiftRing" 223 sr_m10_partOfUpNode 10 2 := ⟨⟨rfl, sr_tb (n := 1031) (by decide +kernel) rfl, sr_tb (n := 1) (by decide +kernel) rfl, ⟨by decide, by decide, by decide +kernel⟩, Or.inl fl_10_223⟩, ⟨TX10, 7, rfl, rfl⟩, sr_tb (n := 1030) (by decide +kernel) rfl, sr_ts (n := 24) (by decide +kernel) rfl⟩
theorem fl_10_233 : Cond.methodLink "ShiftRing" 233 (sr_My sr_m1_harmOf) ∈ sr_TB := (sr_tb (n := 1032) (by decide +kernel) rfl)
theorem fm_10_233 : sr_FV "ShiftRing" 233 sr_m1_harmOf 1 2 := ⟨⟨rfl, sr_tb (n := 562) (by decide +kernel) rfl, sr_tb (n := 10) (by decide +kernel) rfl, ⟨by decide, by decide, by decide +kernel⟩, Or.inl fl_10_233⟩, ⟨TX1, 2, rfl, rfl⟩, sr_tb (n := 560) (by decide +kernel) rfl, sr_tb (n := 561) (by decide +kernel) rfl⟩
theorem fl_3_148 : Cond.methodLinkNest "ShiftRing$Ring" 148 (sr_My sr_m10_hasBit) "ShiftRing" ∈ sr_NB := (sr_nb (n := 1027) (by decide +kernel) rfl)
theorem fm_3_148 : sr_FS "ShiftRing$Ring" 148 sr_m10_hasBit 2 := ⟨⟨rfl, sr_tb (n := 525) (by decide +kernel) rfl, sr_tb (n := 1) (by decide +kernel) rfl, ⟨by decide, by decide, by decide +kernel⟩, Or.inr ⟨_, fl_3_148⟩⟩, sr_tb (n := 524) (by decide +kernel) rfl⟩
theorem rm_10_node_10_needNode : sr_RM sr_m10_node sr_m10_needNode := ⟨Nat.le_of_ble_eq_true rfl, Nat.le_of_ble_eq_true rfl⟩
theorem rm_10_node_10_needWhat : sr_RM sr_m10_node sr_m10_needWhat := ⟨Nat.le_of_ble_eq_true rfl, Nat.le_of_ble_eq_true rfl⟩
theorem rm_10_node_10_partOfUpNode : sr_RM sr_m10_node sr_m10_partOfUpNode := ⟨Nat.le_of_ble_eq_true rfl, Nat.le_of_ble_eq_true rfl⟩
theorem rm_10_node_2_linkBits : sr_RM sr_m10_node sr_m2_linkBits := ⟨Nat.le_of_ble_eq_true rfl, Nat.le_of_ble_eq_true rfl⟩
theorem rm_10_node_3_bitsOfThoseLinkedTo : sr_RM sr_m10_node sr_m3_bitsOfThoseLinkedTo := ⟨Nat.le_of_ble_eq_true rfl, Nat.le_of_ble_eq_true rfl⟩
theorem rm_10_node_3_of : sr_RM sr_m10_node sr_m3_of := ⟨Nat.le_of_ble_eq_true rfl, Nat.le_of_ble_eq_true rfl⟩
theorem rm_10_partOfUpNode_1_harmOf : sr_RM sr_m10_partOfUpNode sr_m1_harmOf := ⟨Nat.le_of_ble_eq_true rfl, Nat.le_of_ble_eq_true rfl⟩
theorem rm_10_partOfUpNode_3_staleOf : sr_RM sr_m10_partOfUpNode sr_m3_staleOf := ⟨Nat.le_of_ble_eq_true rfl, Nat.le_of_ble_eq_true rfl⟩
theorem rm_3_bitsOfThoseLinkedTo_10_bit : sr_RM sr_m3_bitsOfThoseLinkedTo sr_m10_bit := ⟨Nat.le_of_ble_eq_true rfl, Nat.le_of_ble_eq_true rfl⟩
theorem rm_3_bitsOfThoseLinkedTo_10_hasBit : sr_RM sr_m3_bitsOfThoseLinkedTo sr_m10_hasBit := ⟨Nat.le_of_ble_eq_true rfl, Nat.le_of_ble_eq_true rfl⟩
theorem rm_3_bitsOfThoseLinkedTo_2_linkBits : sr_RM sr_m3_bitsOfThoseLinkedTo sr_m2_linkBits := ⟨Nat.le_of_ble_eq_true rfl, Nat.le_of_ble_eq_true rfl⟩
theorem rm_3_bitsOfThoseLinkedTo_3_of : sr_RM sr_m3_bitsOfThoseLinkedTo sr_m3_of := ⟨Nat.le_of_ble_eq_true rfl, Nat.le_of_ble_eq_true rfl⟩
def f10_partOfUpNode_83 (i1 : Nat) (a1 : Int32)  : Int32 → sr_t → sr_Rs := fun xs0 t => (some (.inl (some (sr_i xs0)), t))
theorem g10_partOfUpNode_83 (l : Launch) (i1 : Nat) (a1 : Int32) (hv_i1 : i1 < 50)   : ∀ (xs0 : Int32), ∀ (t : sr_t), sr_g l sr_m10_partOfUpNode 83 [some (sr_r 10 0), some (sr_r 2 i1), some (sr_i a1)] [sr_i xs0] t (f10_partOfUpNode_83 i1 a1  xs0 t) 0 0 := by
  intro xs0  t
  unfold f10_partOfUpNode_83
  exact sr_iret (pc := 83) (by decide +kernel) rfl
def F10_partOfUpNode (i1 : Nat) (a1 : Int32) (t : sr_t) : sr_Rs := (sr_sw 7 10 a1 ((if (t.1 2 i1 5) = ((-1)) then f10_partOfUpNode_83 i1 a1 ((-1)) t else f10_partOfUpNode_83 i1 a1 (t.1 2 i1 6) t)) (fun j => match j with | 0 => (sr_bI (F3_staleOf 0 i1 t) (fun v1 t1 => (some (.inl (some (sr_i v1)), t1)))) | 1 => (some (.inl (some (sr_i (t.1 2 i1 5))), t)) | 2 => (some (.inl (some (sr_i (t.1 2 i1 7))), t)) | 3 => (sr_bI (F1_harmOf 0 (t.1 2 i1 0) t) (fun v2 t2 => (some (.inl (some (sr_i v2)), t2)))) | _ => none))
theorem C10_partOfUpNode (l : Launch) (i1 : Nat) (a1 : Int32) (hv_i1 : i1 < 50) (t : sr_t) : sr_ct' l sr_m10_partOfUpNode [sr_r 10 0, sr_r 2 i1, sr_i a1] t (F10_partOfUpNode i1 a1 t) 0 0 := by
  refine sr_T_of (L0 := [some (sr_r 10 0), some (sr_r 2 i1), some (sr_i a1)]) rfl (by decide +kernel) (fun _ => rfl) (fun _ => Nat.le_of_ble_eq_true rfl) ?_
  unfold F10_partOfUpNode
  refine sr_iloadn (pc := 0) (n := 2) (by decide +kernel) rfl ?_
  refine sr_tsw2 (pc := 1) (u := a1) (dflt := 66) (lo := 7) (hi := 10) (offs := #[31, 40, 45, 50]) (len := 31) (tg := 67) (by decide +kernel) (by decide) (by decide) (fun _ => ?_) (fun j off ho _ => ?_)
  · refine sr_aloadn (pc := 67) (n := 1) (by decide +kernel) rfl ?_
    refine sr_gI (pc := 68) fg_10_227 (by decide +kernel) (sr_in2 _ (by omega)) (fun _ => rfl) ?_
    refine sr_iconst (pc := 71) (n := (-1)) (v := (-1)) (by decide +kernel) rfl ?_
    refine sr_icmp_ne (pc := 72) (off := 7) (tg := 79) (by decide +kernel) (by decide) (fun _ => ?_) (fun _ => ?_)
    · refine sr_aloadn (pc := 79) (n := 1) (by decide +kernel) rfl ?_
      refine sr_gI (pc := 80) fg_10_237 (by decide +kernel) (sr_in2 _ (by omega)) (fun _ => rfl) ?_
      exact sr_wk (sr_mono (mc := 0) (ms := 0) (by omega) (by omega) (g10_partOfUpNode_83 l i1 a1 hv_i1 (t.1 2 i1 6) t)) ⟨rfl, ⟨rfl, ⟨rfl, trivial⟩⟩⟩
    · refine sr_iconst (pc := 75) (n := (-1)) (v := (-1)) (by decide +kernel) rfl ?_
      refine sr_goto (pc := 76) (off := 7) (tg := 83) (by decide +kernel) (by decide) ?_
      exact sr_wk (sr_mono (mc := 0) (ms := 0) (by omega) (by omega) (g10_partOfUpNode_83 l i1 a1 hv_i1 ((-1)) t)) ⟨rfl, ⟨rfl, ⟨rfl, trivial⟩⟩⟩
  · rcases j with _ | _ | _ | _ | j
    · cases ho
      refine ⟨32, by decide, ?_⟩
      refine sr_aloadn (pc := 32) (n := 0) (by decide +kernel) rfl ?_
      refine sr_gC (pc := 33) (i2 := 0) fg_10_12 (by decide +kernel) (sr_in10 _ (by omega)) (fun _ => rfl) ?_
      refine sr_aloadn (pc := 36) (n := 1) (by decide +kernel) rfl ?_
      refine sr_cV (pc := 37) (As := [sr_r 2 i1]) (mc1 := 0) (ms1 := 0) (mc2 := 0) (ms2 := 0) fm_10_109 fl_10_109 (by decide +kernel) (sr_in3 _ (by omega)) (rm_10_partOfUpNode_3_staleOf) rfl rfl rfl (C3_staleOf l 0 i1 (by omega) (by omega) t) ?_
      refine sr_kI (fun v1 t1 => ?_)
      exact sr_iret (pc := 40) (by decide +kernel) rfl
    · cases ho
      refine ⟨41, by decide, ?_⟩
      refine sr_aloadn (pc := 41) (n := 1) (by decide +kernel) rfl ?_
      refine sr_gI (pc := 42) fg_10_227 (by decide +kernel) (sr_in2 _ (by omega)) (fun _ => rfl) ?_
      exact sr_iret (pc := 45) (by decide +kernel) rfl
    · cases ho
      refine ⟨46, by decide, ?_⟩
      refine sr_aloadn (pc := 46) (n := 1) (by decide +kernel) rfl ?_
      refine sr_gI (pc := 47) fg_10_230 (by decide +kernel) (sr_in2 _ (by omega)) (fun _ => rfl) ?_
      exact sr_iret (pc := 50) (by decide +kernel) rfl
    · cases ho
      refine ⟨51, by decide, ?_⟩
      refine sr_aloadn (pc := 51) (n := 0) (by decide +kernel) rfl ?_
      refine sr_gC (pc := 52) (i2 := 0) fg_10_47 (by decide +kernel) (sr_in10 _ (by omega)) (fun _ => rfl) ?_
      refine sr_aloadn (pc := 55) (n := 0) (by decide +kernel) rfl ?_
      refine sr_gC (pc := 56) (i2 := 0) fg_10_12 (by decide +kernel) (sr_in10 _ (by omega)) (fun _ => rfl) ?_
      refine sr_aloadn (pc := 59) (n := 1) (by decide +kernel) rfl ?_
      refine sr_gI (pc := 60) fg_10_179 (by decide +kernel) (sr_in2 _ (by omega)) (fun _ => rfl) ?_
      refine sr_cV (pc := 63) (As := [sr_r 3 0, sr_i (t.1 2 i1 0)]) (mc1 := 0) (ms1 := 0) (mc2 := 0) (ms2 := 0) fm_10_233 fl_10_233 (by decide +kernel) (sr_in1 _ (by omega)) (rm_10_partOfUpNode_1_harmOf) rfl rfl rfl (C1_harmOf l 0 (t.1 2 i1 0) (by omega) t) ?_
      refine sr_kI (fun v2 t2 => ?_)
      exact sr_iret (pc := 66) (by decide +kernel) rfl
    · simp at ho
def f3_bitsOfThoseLinkedTo_34 (i0 : Nat) (a0 : Int32) (k4 : Int32 → Int32 → sr_t → sr_Rs) (k40 : Int32 → sr_t → sr_Rs) : Int32 → Int32 → sr_t → sr_Rs := fun x2 x3 t => k4 x2 (x3 + 1) t
theorem g3_bitsOfThoseLinkedTo_34 (l : Launch) (i0 : Nat) (a0 : Int32) (hv_i0 : i0 < 2) (k4 : Int32 → Int32 → sr_t → sr_Rs) (k40 : Int32 → sr_t → sr_Rs) (hk4 : ∀ (x2 : Int32) (x3 : Int32), ∀ (t : sr_t), sr_g l sr_m3_bitsOfThoseLinkedTo 4 [some (sr_r 3 i0), some (sr_i a0), some (sr_i x2), some (sr_i x3)] [] t (k4 x2 x3 t) 0 0) (hk40 : ∀ (x2 : Int32), ∀ (t : sr_t), sr_g l sr_m3_bitsOfThoseLinkedTo 40 [some (sr_r 3 i0), some (sr_i a0), some (sr_i x2), none] [] t (k40 x2 t) 0 0) : ∀ (x2 : Int32) (x3 : Int32), ∀ (t : sr_t), sr_g l sr_m3_bitsOfThoseLinkedTo 34 [some (sr_r 3 i0), some (sr_i a0), some (sr_i x2), some (sr_i x3)] [] t (f3_bitsOfThoseLinkedTo_34 i0 a0 k4 k40 x2 x3 t) 0 0 := by
  intro x2 x3  t
  unfold f3_bitsOfThoseLinkedTo_34
  refine sr_iinc (pc := 34) (i := 3) (n := 1) (w := x3 + 1) (by decide +kernel) rfl rfl (by decide) rfl rfl ?_
  refine sr_goto (pc := 37) (off := (-33)) (tg := 4) (by decide +kernel) (by decide) ?_
  exact sr_wk (sr_mono (mc := 0) (ms := 0) (by omega) (by omega) (hk4 x2 (x3 + 1) t)) ⟨rfl, ⟨rfl, ⟨rfl, ⟨rfl, trivial⟩⟩⟩⟩
def f3_bitsOfThoseLinkedTo_4 (i0 : Nat) (a0 : Int32) (k40 : Int32 → sr_t → sr_Rs) : Nat → Int32 → Int32 → sr_t → sr_Rs
  | 0 => fun _ _ _ => none
  | n + 1 => fun x2 x3 t => (if (t.1 3 i0 3) ≤ x3 then k40 x2 t else (sr_bR 2 50 (F3_of i0 x3 t) (fun n1 t1 => (sr_bI (F2_linkBits n1 t1) (fun v2 t2 => (sr_bI (sr_nt (F10_hasBit v2 a0 t2)) (fun v3 t3 => (if v3 = 0 then f3_bitsOfThoseLinkedTo_34 i0 a0 (f3_bitsOfThoseLinkedTo_4 i0 a0 k40 n) k40 x2 x3 t3 else (sr_bI (sr_nt (F10_bit x3 t3)) (fun v4 t4 => f3_bitsOfThoseLinkedTo_34 i0 a0 (f3_bitsOfThoseLinkedTo_4 i0 a0 k40 n) k40 (x2 ||| v4) x3 t4))))))))))
theorem g3_bitsOfThoseLinkedTo_4 (l : Launch) (i0 : Nat) (a0 : Int32) (hv_i0 : i0 < 2) (k40 : Int32 → sr_t → sr_Rs) (hk40 : ∀ (x2 : Int32), ∀ (t : sr_t), sr_g l sr_m3_bitsOfThoseLinkedTo 40 [some (sr_r 3 i0), some (sr_i a0), some (sr_i x2), none] [] t (k40 x2 t) 0 0) : ∀ (n : Nat) (x2 : Int32) (x3 : Int32), ∀ (t : sr_t), sr_g l sr_m3_bitsOfThoseLinkedTo 4 [some (sr_r 3 i0), some (sr_i a0), some (sr_i x2), some (sr_i x3)] [] t (f3_bitsOfThoseLinkedTo_4 i0 a0 k40 n x2 x3 t) 0 0 := by
  intro n
  induction n with
  | zero => intros; exact sr_Gn
  | succ n ih =>
    intro x2 x3  t
    unfold f3_bitsOfThoseLinkedTo_4
    refine sr_iloadn (pc := 4) (n := 3) (by decide +kernel) rfl ?_
    refine sr_aloadn (pc := 5) (n := 0) (by decide +kernel) rfl ?_
    refine sr_gI (pc := 6) fg_3_51 (by decide +kernel) (sr_in3 _ (by omega)) (fun _ => rfl) ?_
    refine sr_icmp_ge (pc := 9) (off := 31) (tg := 40) (by decide +kernel) (by decide) (fun _ => ?_) (fun _ => ?_)
    · exact sr_wk (sr_mono (mc := 0) (ms := 0) (by omega) (by omega) (hk40 x2 t)) ⟨rfl, ⟨rfl, ⟨rfl, trivial⟩⟩⟩
    · refine sr_aloadn (pc := 12) (n := 0) (by decide +kernel) rfl ?_
      refine sr_iloadn (pc := 13) (n := 3) (by decide +kernel) rfl ?_
      refine sr_cV (pc := 14) (As := [sr_i x3]) (mc1 := 0) (ms1 := 0) (mc2 := 0) (ms2 := 0) fm_3_54 fl_3_54 (by decide +kernel) (sr_in3 _ (by omega)) (rm_3_bitsOfThoseLinkedTo_3_of) rfl rfl rfl (C3_of l i0 x3 (by omega) t) ?_
      refine sr_kR (fun n1 t1 hv_n1 => ?_)
      refine sr_cV (pc := 17) (As := []) (mc1 := 0) (ms1 := 0) (mc2 := 0) (ms2 := 0) fm_3_144 fl_3_144 (by decide +kernel) (sr_in2 _ (by omega)) (rm_3_bitsOfThoseLinkedTo_2_linkBits) rfl rfl rfl (C2_linkBits l n1 (by omega) t1) ?_
      refine sr_kI (fun v2 t2 => ?_)
      refine sr_iloadn (pc := 20) (n := 1) (by decide +kernel) rfl ?_
      refine sr_cSN (pc := 21) (As := [sr_i v2, sr_i a0]) (mc1 := 0) (ms1 := 0) (mc2 := 0) (ms2 := 0) fm_3_148 fl_3_148 (by decide +kernel) (rm_3_bitsOfThoseLinkedTo_10_hasBit) rfl rfl rfl (C10_hasBit l v2 a0 t2) ?_
      refine sr_kI (fun v3 t3 => ?_)
      refine sr_if_eq (pc := 24) (off := 10) (tg := 34) (by decide +kernel) (by decide) (fun _ => ?_) (fun _ => ?_)
      · exact sr_wk (sr_mono (mc := 0) (ms := 0) (by omega) (by omega) (g3_bitsOfThoseLinkedTo_34 l i0 a0 hv_i0 (f3_bitsOfThoseLinkedTo_4 i0 a0 k40 n) k40 ih hk40 x2 x3 t3)) ⟨rfl, ⟨rfl, ⟨rfl, ⟨rfl, trivial⟩⟩⟩⟩
      · refine sr_iloadn (pc := 27) (n := 2) (by decide +kernel) rfl ?_
        refine sr_iloadn (pc := 28) (n := 3) (by decide +kernel) rfl ?_
        refine sr_cSN (pc := 29) (As := [sr_i x3]) (mc1 := 0) (ms1 := 0) (mc2 := 0) (ms2 := 0) fm_3_152 fl_3_152 (by decide +kernel) (rm_3_bitsOfThoseLinkedTo_10_bit) rfl rfl rfl (C10_bit l x3 t3) ?_
        refine sr_kI (fun v4 t4 => ?_)
        refine sr_ior (pc := 32) (by decide +kernel) ?_
        refine sr_istoren (pc := 33) (n := 2) (by decide +kernel) (by decide) rfl rfl ?_
        exact sr_wk (sr_mono (mc := 0) (ms := 0) (by omega) (by omega) (g3_bitsOfThoseLinkedTo_34 l i0 a0 hv_i0 (f3_bitsOfThoseLinkedTo_4 i0 a0 k40 n) k40 ih hk40 (x2 ||| v4) x3 t4)) ⟨rfl, ⟨rfl, ⟨rfl, ⟨rfl, trivial⟩⟩⟩⟩
def f3_bitsOfThoseLinkedTo_40 (i0 : Nat) (a0 : Int32)  : Int32 → sr_t → sr_Rs := fun x2 t => (some (.inl (some (sr_i x2)), t))
theorem g3_bitsOfThoseLinkedTo_40 (l : Launch) (i0 : Nat) (a0 : Int32) (hv_i0 : i0 < 2)   : ∀ (x2 : Int32), ∀ (t : sr_t), sr_g l sr_m3_bitsOfThoseLinkedTo 40 [some (sr_r 3 i0), some (sr_i a0), some (sr_i x2), none] [] t (f3_bitsOfThoseLinkedTo_40 i0 a0  x2 t) 0 0 := by
  intro x2  t
  unfold f3_bitsOfThoseLinkedTo_40
  refine sr_iloadn (pc := 40) (n := 2) (by decide +kernel) rfl ?_
  exact sr_iret (pc := 41) (by decide +kernel) rfl
def F3_bitsOfThoseLinkedTo (i0 : Nat) (a0 : Int32) (t : sr_t) : sr_Rs := f3_bitsOfThoseLinkedTo_4 i0 a0 (f3_bitsOfThoseLinkedTo_40 i0 a0) sr_fu 0 0 t
theorem C3_bitsOfThoseLinkedTo (l : Launch) (i0 : Nat) (a0 : Int32) (hv_i0 : i0 < 2) (t : sr_t) : sr_ct' l sr_m3_bitsOfThoseLinkedTo [sr_r 3 i0, sr_i a0] t (F3_bitsOfThoseLinkedTo i0 a0 t) 0 0 := by
  refine sr_T_of (L0 := [some (sr_r 3 i0), some (sr_i a0), none, none]) rfl (by decide +kernel) (fun _ => rfl) (fun _ => Nat.le_of_ble_eq_true rfl) ?_
  unfold F3_bitsOfThoseLinkedTo
  refine sr_iconst (pc := 0) (n := 0) (v := 0) (by decide +kernel) rfl ?_
  refine sr_istoren (pc := 1) (n := 2) (by decide +kernel) (by decide) rfl rfl ?_
  refine sr_iconst (pc := 2) (n := 0) (v := 0) (by decide +kernel) rfl ?_
  refine sr_istoren (pc := 3) (n := 3) (by decide +kernel) (by decide) rfl rfl ?_
  exact sr_wk (sr_mono (mc := 0) (ms := 0) (by omega) (by omega) (g3_bitsOfThoseLinkedTo_4 l i0 a0 hv_i0 (f3_bitsOfThoseLinkedTo_40 i0 a0) (g3_bitsOfThoseLinkedTo_40 l i0 a0 hv_i0) sr_fu 0 0 t)) ⟨rfl, ⟨rfl, ⟨rfl, ⟨rfl, trivial⟩⟩⟩⟩
def f10_node_81 (a0 : Int32) (a1 : Int32)  : Int32 → sr_t → sr_Rs := fun xs0 t => (some (.inl (some (sr_i xs0)), t))
theorem g10_node_81 (l : Launch) (a0 : Int32) (a1 : Int32)    : ∀ (xs0 : Int32), ∀ (t : sr_t), sr_g l sr_m10_node 81 [some (sr_r 10 0), some (sr_i a0), some (sr_i a1), none] [sr_i xs0] t (f10_node_81 a0 a1  xs0 t) 0 0 := by
  intro xs0  t
  unfold f10_node_81
  exact sr_iret (pc := 81) (by decide +kernel) rfl
def f10_node_143 (a0 : Int32) (a1 : Int32)  : Int32 → sr_t → sr_Rs := fun xs0 t => (some (.inl (some (sr_i xs0)), t))
theorem g10_node_143 (l : Launch) (a0 : Int32) (a1 : Int32)    : ∀ (xs0 : Int32), ∀ (t : sr_t), sr_g l sr_m10_node 143 [some (sr_r 10 0), some (sr_i a0), some (sr_i a1), none] [sr_i xs0] t (f10_node_143 a0 a1  xs0 t) 0 0 := by
  intro xs0  t
  unfold f10_node_143
  exact sr_iret (pc := 143) (by decide +kernel) rfl
def F10_node (a0 : Int32) (a1 : Int32) (t : sr_t) : sr_Rs := (sr_bV (F10_needNode a0 t) (fun t1 => (sr_bV (F10_needWhat a1 11 t1) (fun t2 => (sr_bR 2 50 (F3_of 0 a0 t2) (fun n3 t3 => (sr_sw 0 6 a1 ((if (t3.1 2 n3 2) = 0 then f10_node_143 a0 a1 ((-1)) t3 else (sr_bI (F10_partOfUpNode n3 a1 t3) (fun v4 t4 => f10_node_143 a0 a1 v4 t4)))) (fun j => match j with | 0 => (some (.inl (some (sr_i (t3.1 2 n3 1))), t3)) | 1 => (if (t3.1 2 n3 2) = 0 then f10_node_81 a0 a1 0 t3 else f10_node_81 a0 a1 1 t3) | 2 => (some (.inl (some (sr_i (t3.1 7 n3 0))), t3)) | 3 => (some (.inl (some (sr_i (t3.1 4 (2 * n3) 1))), t3)) | 4 => (some (.inl (some (sr_i (t3.1 4 (2 * n3 + 1) 1))), t3)) | 5 => (sr_bI (F2_linkBits n3 t3) (fun v5 t5 => (some (.inl (some (sr_i v5)), t5)))) | 6 => (sr_bI (F3_bitsOfThoseLinkedTo 0 a0 t3) (fun v6 t6 => (some (.inl (some (sr_i v6)), t6)))) | _ => none))))))))
theorem C10_node (l : Launch) (a0 : Int32) (a1 : Int32)  (t : sr_t) : sr_ct' l sr_m10_node [sr_r 10 0, sr_i a0, sr_i a1] t (F10_node a0 a1 t) 2 12 := by
  refine sr_T_of (L0 := [some (sr_r 10 0), some (sr_i a0), some (sr_i a1), none]) rfl (by decide +kernel) (fun _ => rfl) (fun _ => Nat.le_of_ble_eq_true rfl) ?_
  unfold F10_node
  refine sr_aloadn (pc := 0) (n := 0) (by decide +kernel) rfl ?_
  refine sr_iloadn (pc := 1) (n := 1) (by decide +kernel) rfl ?_
  refine sr_cV (pc := 2) (As := [sr_i a0]) (mc1 := 1) (ms1 := 6) (mc2 := 1) (ms2 := 6) fm_10_81 fl_10_81 (by decide +kernel) (sr_in10 _ (by omega)) (rm_10_node_10_needNode) rfl rfl rfl (C10_needNode l a0 t) ?_
  refine sr_kV (fun t1 => ?_)
  refine sr_iloadn (pc := 5) (n := 2) (by decide +kernel) rfl ?_
  refine sr_bipush (pc := 6) (n := 11) (v := 11) (by decide +kernel) (by decide) ?_
  refine sr_cS (pc := 8) (As := [sr_i a1, sr_i 11]) (mc1 := 1) (ms1 := 6) (mc2 := 0) (ms2 := 0) fm_10_150 fl_10_150 (by decide +kernel) (rm_10_node_10_needWhat) rfl rfl rfl (C10_needWhat l a1 11 t1) ?_
  refine sr_kV (fun t2 => ?_)
  refine sr_aloadn (pc := 11) (n := 0) (by decide +kernel) rfl ?_
  refine sr_gC (pc := 12) (i2 := 0) fg_10_12 (by decide +kernel) (sr_in10 _ (by omega)) (fun _ => rfl) ?_
  refine sr_iloadn (pc := 15) (n := 1) (by decide +kernel) rfl ?_
  refine sr_cV (pc := 16) (As := [sr_i a0]) (mc1 := 0) (ms1 := 0) (mc2 := 0) (ms2 := 0) fm_10_87 fl_10_87 (by decide +kernel) (sr_in3 _ (by omega)) (rm_10_node_3_of) rfl rfl rfl (C3_of l 0 a0 (by omega) t2) ?_
  refine sr_kR (fun n3 t3 hv_n3 => ?_)
  refine sr_astoren (pc := 19) (n := 3) (by decide +kernel) (by decide) rfl rfl ?_
  refine sr_iloadn (pc := 20) (n := 2) (by decide +kernel) rfl ?_
  refine sr_tsw2 (pc := 21) (u := a1) (dflt := 105) (lo := 0) (hi := 6) (offs := #[43, 48, 61, 69, 80, 91, 96]) (len := 43) (tg := 126) (by decide +kernel) (by decide) (by decide) (fun _ => ?_) (fun j off ho _ => ?_)
  · refine sr_aloadn (pc := 126) (n := 3) (by decide +kernel) rfl ?_
    refine sr_gI (pc := 127) fg_10_98 (by decide +kernel) (sr_in2 _ (by omega)) (fun _ => rfl) ?_
    refine sr_if_eq (pc := 130) (off := 12) (tg := 142) (by decide +kernel) (by decide) (fun _ => ?_) (fun _ => ?_)
    · refine sr_iconst (pc := 142) (n := (-1)) (v := (-1)) (by decide +kernel) rfl ?_
      exact sr_wk (sr_mono (mc := 0) (ms := 0) (by omega) (by omega) (g10_node_143 l a0 a1 ((-1)) t3)) ⟨rfl, ⟨rfl, ⟨rfl, trivial⟩⟩⟩
    · refine sr_aloadn (pc := 133) (n := 0) (by decide +kernel) rfl ?_
      refine sr_aloadn (pc := 134) (n := 3) (by decide +kernel) rfl ?_
      refine sr_iloadn (pc := 135) (n := 2) (by decide +kernel) rfl ?_
      refine sr_cV (pc := 136) (As := [sr_r 2 n3, sr_i a1]) (mc1 := 0) (ms1 := 0) (mc2 := 0) (ms2 := 0) fm_10_223 fl_10_223 (by decide +kernel) (sr_in10 _ (by omega)) (rm_10_node_10_partOfUpNode) rfl rfl rfl (C10_partOfUpNode l n3 a1 (by omega) t3) ?_
      refine sr_kI (fun v4 t4 => ?_)
      refine sr_goto (pc := 139) (off := 4) (tg := 143) (by decide +kernel) (by decide) ?_
      exact sr_wk (sr_mono (mc := 0) (ms := 0) (by omega) (by omega) (g10_node_143 l a0 a1 v4 t4)) ⟨rfl, ⟨rfl, ⟨rfl, trivial⟩⟩⟩
  · rcases j with _ | _ | _ | _ | _ | _ | _ | j
    · cases ho
      refine ⟨64, by decide, ?_⟩
      refine sr_aloadn (pc := 64) (n := 3) (by decide +kernel) rfl ?_
      refine sr_gI (pc := 65) fg_10_200 (by decide +kernel) (sr_in2 _ (by omega)) (fun _ => rfl) ?_
      exact sr_iret (pc := 68) (by decide +kernel) rfl
    · cases ho
      refine ⟨69, by decide, ?_⟩
      refine sr_aloadn (pc := 69) (n := 3) (by decide +kernel) rfl ?_
      refine sr_gI (pc := 70) fg_10_98 (by decide +kernel) (sr_in2 _ (by omega)) (fun _ => rfl) ?_
      refine sr_if_eq (pc := 73) (off := 7) (tg := 80) (by decide +kernel) (by decide) (fun _ => ?_) (fun _ => ?_)
      · refine sr_iconst (pc := 80) (n := 0) (v := 0) (by decide +kernel) rfl ?_
        exact sr_wk (sr_mono (mc := 0) (ms := 0) (by omega) (by omega) (g10_node_81 l a0 a1 0 t3)) ⟨rfl, ⟨rfl, ⟨rfl, trivial⟩⟩⟩
      · refine sr_iconst (pc := 76) (n := 1) (v := 1) (by decide +kernel) rfl ?_
        refine sr_goto (pc := 77) (off := 4) (tg := 81) (by decide +kernel) (by decide) ?_
        exact sr_wk (sr_mono (mc := 0) (ms := 0) (by omega) (by omega) (g10_node_81 l a0 a1 1 t3)) ⟨rfl, ⟨rfl, ⟨rfl, trivial⟩⟩⟩
    · cases ho
      refine ⟨82, by decide, ?_⟩
      refine sr_aloadn (pc := 82) (n := 3) (by decide +kernel) rfl ?_
      refine sr_gC (pc := 83) (i2 := n3) fg_10_203 (by decide +kernel) (sr_in2 _ (by omega)) (fun _ => rfl) ?_
      refine sr_gI (pc := 86) fg_10_207 (by decide +kernel) (sr_in7 _ (by omega)) (fun _ => rfl) ?_
      exact sr_iret (pc := 89) (by decide +kernel) rfl
    · cases ho
      refine ⟨90, by decide, ?_⟩
      refine sr_aloadn (pc := 90) (n := 3) (by decide +kernel) rfl ?_
      refine sr_gC (pc := 91) (i2 := n3) fg_10_203 (by decide +kernel) (sr_in2 _ (by omega)) (fun _ => rfl) ?_
      refine sr_gC (pc := 94) (i2 := 2 * n3) fg_10_210 (by decide +kernel) (sr_in7 _ (by omega)) (fun _ => rfl) ?_
      refine sr_gI (pc := 97) fg_10_213 (by decide +kernel) (sr_in4 _ (by omega)) (fun _ => rfl) ?_
      exact sr_iret (pc := 100) (by decide +kernel) rfl
    · cases ho
      refine ⟨101, by decide, ?_⟩
      refine sr_aloadn (pc := 101) (n := 3) (by decide +kernel) rfl ?_
      refine sr_gC (pc := 102) (i2 := n3) fg_10_203 (by decide +kernel) (sr_in2 _ (by omega)) (fun _ => rfl) ?_
      refine sr_gC (pc := 105) (i2 := 2 * n3 + 1) fg_10_214 (by decide +kernel) (sr_in7 _ (by omega)) (fun _ => rfl) ?_
      refine sr_gI (pc := 108) fg_10_213 (by decide +kernel) (sr_in4 _ (by omega)) (fun _ => rfl) ?_
      exact sr_iret (pc := 111) (by decide +kernel) rfl
    · cases ho
      refine ⟨112, by decide, ?_⟩
      refine sr_aloadn (pc := 112) (n := 3) (by decide +kernel) rfl ?_
      refine sr_cV (pc := 113) (As := []) (mc1 := 0) (ms1 := 0) (mc2 := 0) (ms2 := 0) fm_10_217 fl_10_217 (by decide +kernel) (sr_in2 _ (by omega)) (rm_10_node_2_linkBits) rfl rfl rfl (C2_linkBits l n3 (by omega) t3) ?_
      refine sr_kI (fun v5 t5 => ?_)
      exact sr_iret (pc := 116) (by decide +kernel) rfl
    · cases ho
      refine ⟨117, by decide, ?_⟩
      refine sr_aloadn (pc := 117) (n := 0) (by decide +kernel) rfl ?_
      refine sr_gC (pc := 118) (i2 := 0) fg_10_12 (by decide +kernel) (sr_in10 _ (by omega)) (fun _ => rfl) ?_
      refine sr_iloadn (pc := 121) (n := 1) (by decide +kernel) rfl ?_
      refine sr_cV (pc := 122) (As := [sr_i a0]) (mc1 := 0) (ms1 := 0) (mc2 := 0) (ms2 := 0) fm_10_220 fl_10_220 (by decide +kernel) (sr_in3 _ (by omega)) (rm_10_node_3_bitsOfThoseLinkedTo) rfl rfl rfl (C3_bitsOfThoseLinkedTo l 0 a0 (by omega) t3) ?_
      refine sr_kI (fun v6 t6 => ?_)
      exact sr_iret (pc := 125) (by decide +kernel) rfl
    · simp at ho
def sr_m10_link : sr_M := (⟨"ShiftRing", "link", "(IIZ)I"⟩, prog_1_method_17_code, 5, (some .int), [], 7, 111)
theorem rm_10_link_10_needNode : sr_RM sr_m10_link sr_m10_needNode := ⟨Nat.le_of_ble_eq_true rfl, Nat.le_of_ble_eq_true rfl⟩
theorem rm_10_link_3_of : sr_RM sr_m10_link sr_m3_of := ⟨Nat.le_of_ble_eq_true rfl, Nat.le_of_ble_eq_true rfl⟩
theorem rm_10_link_4_at : sr_RM sr_m10_link sr_m4_at := ⟨Nat.le_of_ble_eq_true rfl, Nat.le_of_ble_eq_true rfl⟩
def f10_link_43 (a0 : Int32) (a1 : Int32) (a2 : Int32)  : Int32 → sr_t → sr_Rs := fun xs0 t => (some (.inl (some (sr_i xs0)), t))
theorem g10_link_43 (l : Launch) (a0 : Int32) (a1 : Int32) (a2 : Int32)    : ∀ (xs0 : Int32), ∀ (t : sr_t), sr_g l sr_m10_link 43 [some (sr_r 10 0), some (sr_i a0), some (sr_i a1), some (sr_i a2), none] [sr_i xs0] t (f10_link_43 a0 a1 a2  xs0 t) 0 0 := by
  intro xs0  t
  unfold f10_link_43
  exact sr_iret (pc := 43) (by decide +kernel) rfl
def F10_link (a0 : Int32) (a1 : Int32) (a2 : Int32) (t : sr_t) : sr_Rs := (sr_bV (F10_needNode a0 t) (fun t1 => (sr_bR 2 50 (F3_of 0 a0 t1) (fun n2 t2 => (if a2 = 0 then (sr_bI (F4_at (2 * n2) a1 t2) (fun v3 t3 => f10_link_43 a0 a1 a2 v3 t3)) else (sr_bI (F4_at (2 * n2 + 1) a1 t2) (fun v4 t4 => f10_link_43 a0 a1 a2 v4 t4)))))))
theorem C10_link (l : Launch) (a0 : Int32) (a1 : Int32) (a2 : Int32)  (t : sr_t) : sr_ct' l sr_m10_link [sr_r 10 0, sr_i a0, sr_i a1, sr_i a2] t (F10_link a0 a1 a2 t) 1 6 := by
  refine sr_T_of (L0 := [some (sr_r 10 0), some (sr_i a0), some (sr_i a1), some (sr_i a2), none]) rfl (by decide +kernel) (fun _ => rfl) (fun _ => Nat.le_of_ble_eq_true rfl) ?_
  unfold F10_link
  refine sr_aloadn (pc := 0) (n := 0) (by decide +kernel) rfl ?_
  refine sr_iloadn (pc := 1) (n := 1) (by decide +kernel) rfl ?_
  refine sr_cV (pc := 2) (As := [sr_i a0]) (mc1 := 1) (ms1 := 6) (mc2 := 0) (ms2 := 0) fm_10_81 fl_10_81 (by decide +kernel) (sr_in10 _ (by omega)) (rm_10_link_10_needNode) rfl rfl rfl (C10_needNode l a0 t) ?_
  refine sr_kV (fun t1 => ?_)
  refine sr_aloadn (pc := 5) (n := 0) (by decide +kernel) rfl ?_
  refine sr_gC (pc := 6) (i2 := 0) fg_10_12 (by decide +kernel) (sr_in10 _ (by omega)) (fun _ => rfl) ?_
  refine sr_iloadn (pc := 9) (n := 1) (by decide +kernel) rfl ?_
  refine sr_cV (pc := 10) (As := [sr_i a0]) (mc1 := 0) (ms1 := 0) (mc2 := 0) (ms2 := 0) fm_10_87 fl_10_87 (by decide +kernel) (sr_in3 _ (by omega)) (rm_10_link_3_of) rfl rfl rfl (C3_of l 0 a0 (by omega) t1) ?_
  refine sr_kR (fun n2 t2 hv_n2 => ?_)
  refine sr_gC (pc := 13) (i2 := n2) fg_10_203 (by decide +kernel) (sr_in2 _ (by omega)) (fun _ => rfl) ?_
  refine sr_astore (pc := 16) (i := 4) (by decide +kernel) (by decide) rfl rfl ?_
  refine sr_iloadn (pc := 18) (n := 3) (by decide +kernel) rfl ?_
  refine sr_if_eq (pc := 19) (off := 15) (tg := 34) (by decide +kernel) (by decide) (fun _ => ?_) (fun _ => ?_)
  · refine sr_aload (pc := 34) (i := 4) (by decide +kernel) rfl ?_
    refine sr_gC (pc := 36) (i2 := 2 * n2) fg_10_210 (by decide +kernel) (sr_in7 _ (by omega)) (fun _ => rfl) ?_
    refine sr_iloadn (pc := 39) (n := 2) (by decide +kernel) rfl ?_
    refine sr_cV (pc := 40) (As := [sr_i a1]) (mc1 := 0) (ms1 := 0) (mc2 := 0) (ms2 := 0) fm_10_193 fl_10_193 (by decide +kernel) (sr_in4 _ (by omega)) (rm_10_link_4_at) rfl rfl rfl (C4_at l (2 * n2) a1 (by omega) t2) ?_
    refine sr_kI (fun v3 t3 => ?_)
    exact sr_wk (sr_mono (mc := 0) (ms := 0) (by omega) (by omega) (g10_link_43 l a0 a1 a2 v3 t3)) ⟨rfl, ⟨rfl, ⟨rfl, ⟨rfl, trivial⟩⟩⟩⟩
  · refine sr_aload (pc := 22) (i := 4) (by decide +kernel) rfl ?_
    refine sr_gC (pc := 24) (i2 := 2 * n2 + 1) fg_10_214 (by decide +kernel) (sr_in7 _ (by omega)) (fun _ => rfl) ?_
    refine sr_iloadn (pc := 27) (n := 2) (by decide +kernel) rfl ?_
    refine sr_cV (pc := 28) (As := [sr_i a1]) (mc1 := 0) (ms1 := 0) (mc2 := 0) (ms2 := 0) fm_10_193 fl_10_193 (by decide +kernel) (sr_in4 _ (by omega)) (rm_10_link_4_at) rfl rfl rfl (C4_at l (2 * n2 + 1) a1 (by omega) t2) ?_
    refine sr_kI (fun v4 t4 => ?_)
    refine sr_goto (pc := 31) (off := 12) (tg := 43) (by decide +kernel) (by decide) ?_
    exact sr_wk (sr_mono (mc := 0) (ms := 0) (by omega) (by omega) (g10_link_43 l a0 a1 a2 v4 t4)) ⟨rfl, ⟨rfl, ⟨rfl, ⟨rfl, trivial⟩⟩⟩⟩
def sr_m10_letter : sr_M := (⟨"ShiftRing", "letter", "(II)I"⟩, prog_1_method_19_code, 3, (some .int), [], 7, 110)
theorem fl_10_246 : Cond.methodLink "ShiftRing" 246 (sr_My sr_m3_letterOf) ∈ sr_TB := (sr_tb (n := 1047) (by decide +kernel) rfl)
theorem fm_10_246 : sr_FV "ShiftRing" 246 sr_m3_letterOf 3 2 := ⟨⟨rfl, sr_tb (n := 651) (by decide +kernel) rfl, sr_tb (n := 2) (by decide +kernel) rfl, ⟨by decide, by decide, by decide +kernel⟩, Or.inl fl_10_246⟩, ⟨TX3, 9, rfl, rfl⟩, sr_tb (n := 649) (by decide +kernel) rfl, sr_tb (n := 650) (by decide +kernel) rfl⟩
theorem rm_10_letter_10_needPlace : sr_RM sr_m10_letter sr_m10_needPlace := ⟨Nat.le_of_ble_eq_true rfl, Nat.le_of_ble_eq_true rfl⟩
theorem rm_10_letter_3_letterOf : sr_RM sr_m10_letter sr_m3_letterOf := ⟨Nat.le_of_ble_eq_true rfl, Nat.le_of_ble_eq_true rfl⟩
def f10_letter_32 (a0 : Int32) (a1 : Int32)  : Int32 → sr_t → sr_Rs := fun xs0 t => (some (.inl (some (sr_i xs0)), t))
theorem g10_letter_32 (l : Launch) (a0 : Int32) (a1 : Int32)    : ∀ (xs0 : Int32), ∀ (t : sr_t), sr_g l sr_m10_letter 32 [some (sr_r 10 0), some (sr_i a0), some (sr_i a1)] [sr_i xs0] t (f10_letter_32 a0 a1  xs0 t) 0 0 := by
  intro xs0  t
  unfold f10_letter_32
  exact sr_iret (pc := 32) (by decide +kernel) rfl
def f10_letter_31 (a0 : Int32) (a1 : Int32)  : sr_t → sr_Rs := fun  t => f10_letter_32 a0 a1 ((-1)) t
theorem g10_letter_31 (l : Launch) (a0 : Int32) (a1 : Int32)    : ∀ (t : sr_t), sr_g l sr_m10_letter 31 [some (sr_r 10 0), some (sr_i a0), some (sr_i a1)] [] t (f10_letter_31 a0 a1   t) 0 0 := by
  intro t
  unfold f10_letter_31
  refine sr_iconst (pc := 31) (n := (-1)) (v := (-1)) (by decide +kernel) rfl ?_
  exact sr_wk (sr_mono (mc := 0) (ms := 0) (by omega) (by omega) (g10_letter_32 l a0 a1 ((-1)) t)) ⟨rfl, ⟨rfl, ⟨rfl, trivial⟩⟩⟩
def F10_letter (a0 : Int32) (a1 : Int32) (t : sr_t) : sr_Rs := (sr_bV (F10_needPlace a0 t) (fun t1 => (if a1 < 0 then f10_letter_31 a0 a1 t1 else (if (t1.1 3 0 7) ≤ a1 then f10_letter_31 a0 a1 t1 else (sr_bI (F3_letterOf 0 a0 a1 t1) (fun v2 t2 => f10_letter_32 a0 a1 v2 t2))))))
theorem C10_letter (l : Launch) (a0 : Int32) (a1 : Int32)  (t : sr_t) : sr_ct' l sr_m10_letter [sr_r 10 0, sr_i a0, sr_i a1] t (F10_letter a0 a1 t) 1 6 := by
  refine sr_T_of (L0 := [some (sr_r 10 0), some (sr_i a0), some (sr_i a1)]) rfl (by decide +kernel) (fun _ => rfl) (fun _ => Nat.le_of_ble_eq_true rfl) ?_
  unfold F10_letter
  refine sr_iloadn (pc := 0) (n := 1) (by decide +kernel) rfl ?_
  refine sr_cS (pc := 1) (As := [sr_i a0]) (mc1 := 1) (ms1 := 6) (mc2 := 0) (ms2 := 0) fm_10_58 fl_10_58 (by decide +kernel) (rm_10_letter_10_needPlace) rfl rfl rfl (C10_needPlace l a0 t) ?_
  refine sr_kV (fun t1 => ?_)
  refine sr_iloadn (pc := 4) (n := 2) (by decide +kernel) rfl ?_
  refine sr_if_lt (pc := 5) (off := 26) (tg := 31) (by decide +kernel) (by decide) (fun _ => ?_) (fun _ => ?_)
  · exact sr_wk (sr_mono (mc := 0) (ms := 0) (by omega) (by omega) (g10_letter_31 l a0 a1 t1)) ⟨rfl, ⟨rfl, ⟨rfl, trivial⟩⟩⟩
  · refine sr_iloadn (pc := 8) (n := 2) (by decide +kernel) rfl ?_
    refine sr_aloadn (pc := 9) (n := 0) (by decide +kernel) rfl ?_
    refine sr_gC (pc := 10) (i2 := 0) fg_10_12 (by decide +kernel) (sr_in10 _ (by omega)) (fun _ => rfl) ?_
    refine sr_gI (pc := 13) fg_10_243 (by decide +kernel) (sr_in3 _ (by omega)) (fun _ => rfl) ?_
    refine sr_icmp_ge (pc := 16) (off := 15) (tg := 31) (by decide +kernel) (by decide) (fun _ => ?_) (fun _ => ?_)
    · exact sr_wk (sr_mono (mc := 0) (ms := 0) (by omega) (by omega) (g10_letter_31 l a0 a1 t1)) ⟨rfl, ⟨rfl, ⟨rfl, trivial⟩⟩⟩
    · refine sr_aloadn (pc := 19) (n := 0) (by decide +kernel) rfl ?_
      refine sr_gC (pc := 20) (i2 := 0) fg_10_12 (by decide +kernel) (sr_in10 _ (by omega)) (fun _ => rfl) ?_
      refine sr_iloadn (pc := 23) (n := 1) (by decide +kernel) rfl ?_
      refine sr_iloadn (pc := 24) (n := 2) (by decide +kernel) rfl ?_
      refine sr_cV (pc := 25) (As := [sr_i a0, sr_i a1]) (mc1 := 0) (ms1 := 0) (mc2 := 0) (ms2 := 0) fm_10_246 fl_10_246 (by decide +kernel) (sr_in3 _ (by omega)) (rm_10_letter_3_letterOf) rfl rfl rfl (C3_letterOf l 0 a0 a1 (by omega) t1) ?_
      refine sr_kI (fun v2 t2 => ?_)
      refine sr_goto (pc := 28) (off := 4) (tg := 32) (by decide +kernel) (by decide) ?_
      exact sr_wk (sr_mono (mc := 0) (ms := 0) (by omega) (by omega) (g10_letter_32 l a0 a1 v2 t2)) ⟨rfl, ⟨rfl, ⟨rfl, trivial⟩⟩⟩
def sr_m3_overlapOf : sr_M := (⟨"ShiftRing$Ring", "overlapOf", "(II)I"⟩, prog_5_method_29_code, 4, (some .int), [], 1, 22)
def sr_m10_overlap : sr_M := (⟨"ShiftRing", "overlap", "(II)I"⟩, prog_1_method_20_code, 3, (some .int), [], 7, 110)
theorem fl_10_249 : Cond.methodLink "ShiftRing" 249 (sr_My sr_m3_overlapOf) ∈ sr_TB := (sr_tb (n := 1055) (by decide +kernel) rfl)
theorem fm_10_249 : sr_FV "ShiftRing" 249 sr_m3_overlapOf 3 2 := ⟨⟨rfl, sr_tb (n := 1058) (by decide +kernel) rfl, sr_tb (n := 2) (by decide +kernel) rfl, ⟨by decide, by decide, by decide +kernel⟩, Or.inl fl_10_249⟩, ⟨TX3, 9, rfl, rfl⟩, sr_tb (n := 1056) (by decide +kernel) rfl, sr_tb (n := 1057) (by decide +kernel) rfl⟩
theorem fl_3_176 : Cond.methodLink "ShiftRing$Ring" 176 (sr_My sr_m3_withoutFirst) ∈ sr_TB := (sr_tb (n := 1059) (by decide +kernel) rfl)
theorem fm_3_176 : sr_FV "ShiftRing$Ring" 176 sr_m3_withoutFirst 3 2 := ⟨⟨rfl, sr_tb (n := 617) (by decide +kernel) rfl, sr_tb (n := 2) (by decide +kernel) rfl, ⟨by decide, by decide, by decide +kernel⟩, Or.inl fl_3_176⟩, ⟨TX3, 9, rfl, rfl⟩, sr_tb (n := 615) (by decide +kernel) rfl, sr_tb (n := 616) (by decide +kernel) rfl⟩
theorem fl_3_179 : Cond.methodLink "ShiftRing$Ring" 179 (sr_My sr_m3_withoutLast) ∈ sr_TB := (sr_tb (n := 1060) (by decide +kernel) rfl)
theorem fm_3_179 : sr_FV "ShiftRing$Ring" 179 sr_m3_withoutLast 3 2 := ⟨⟨rfl, sr_tb (n := 613) (by decide +kernel) rfl, sr_tb (n := 2) (by decide +kernel) rfl, ⟨by decide, by decide, by decide +kernel⟩, Or.inl fl_3_179⟩, ⟨TX3, 9, rfl, rfl⟩, sr_tb (n := 611) (by decide +kernel) rfl, sr_tb (n := 612) (by decide +kernel) rfl⟩
theorem rm_10_overlap_10_needPlace : sr_RM sr_m10_overlap sr_m10_needPlace := ⟨Nat.le_of_ble_eq_true rfl, Nat.le_of_ble_eq_true rfl⟩
theorem rm_10_overlap_3_overlapOf : sr_RM sr_m10_overlap sr_m3_overlapOf := ⟨Nat.le_of_ble_eq_true rfl, Nat.le_of_ble_eq_true rfl⟩
theorem rm_3_overlapOf_3_withoutFirst : sr_RM sr_m3_overlapOf sr_m3_withoutFirst := ⟨Nat.le_of_ble_eq_true rfl, Nat.le_of_ble_eq_true rfl⟩
theorem rm_3_overlapOf_3_withoutLast : sr_RM sr_m3_overlapOf sr_m3_withoutLast := ⟨Nat.le_of_ble_eq_true rfl, Nat.le_of_ble_eq_true rfl⟩
def f3_overlapOf_2 (i0 : Nat) (a0 : Int32) (a1 : Int32) (k31 : Int32 → sr_t → sr_Rs) : Nat → Int32 → sr_t → sr_Rs
  | 0 => fun _ _ => none
  | n + 1 => fun x3 t => (if (t.1 3 i0 7) ≤ x3 then k31 x3 t else (sr_bI (F3_withoutFirst i0 a0 x3 t) (fun v1 t1 => (sr_bI (F3_withoutLast i0 a1 x3 t1) (fun v2 t2 => (if v1 = v2 then k31 x3 t2 else (f3_overlapOf_2 i0 a0 a1 k31 n) (x3 + 1) t2))))))
theorem g3_overlapOf_2 (l : Launch) (i0 : Nat) (a0 : Int32) (a1 : Int32) (hv_i0 : i0 < 2) (k31 : Int32 → sr_t → sr_Rs) (hk31 : ∀ (x3 : Int32), ∀ (t : sr_t), sr_g l sr_m3_overlapOf 31 [some (sr_r 3 i0), some (sr_i a0), some (sr_i a1), some (sr_i x3)] [] t (k31 x3 t) 0 0) : ∀ (n : Nat) (x3 : Int32), ∀ (t : sr_t), sr_g l sr_m3_overlapOf 2 [some (sr_r 3 i0), some (sr_i a0), some (sr_i a1), some (sr_i x3)] [] t (f3_overlapOf_2 i0 a0 a1 k31 n x3 t) 0 0 := by
  intro n
  induction n with
  | zero => intros; exact sr_Gn
  | succ n ih =>
    intro x3  t
    unfold f3_overlapOf_2
    refine sr_iloadn (pc := 2) (n := 3) (by decide +kernel) rfl ?_
    refine sr_aloadn (pc := 3) (n := 0) (by decide +kernel) rfl ?_
    refine sr_gI (pc := 4) fg_3_48 (by decide +kernel) (sr_in3 _ (by omega)) (fun _ => rfl) ?_
    refine sr_icmp_ge (pc := 7) (off := 24) (tg := 31) (by decide +kernel) (by decide) (fun _ => ?_) (fun _ => ?_)
    · exact sr_wk (sr_mono (mc := 0) (ms := 0) (by omega) (by omega) (hk31 x3 t)) ⟨rfl, ⟨rfl, ⟨rfl, ⟨rfl, trivial⟩⟩⟩⟩
    · refine sr_aloadn (pc := 10) (n := 0) (by decide +kernel) rfl ?_
      refine sr_iloadn (pc := 11) (n := 1) (by decide +kernel) rfl ?_
      refine sr_iloadn (pc := 12) (n := 3) (by decide +kernel) rfl ?_
      refine sr_cV (pc := 13) (As := [sr_i a0, sr_i x3]) (mc1 := 0) (ms1 := 0) (mc2 := 0) (ms2 := 0) fm_3_176 fl_3_176 (by decide +kernel) (sr_in3 _ (by omega)) (rm_3_overlapOf_3_withoutFirst) rfl rfl rfl (C3_withoutFirst l i0 a0 x3 (by omega) t) ?_
      refine sr_kI (fun v1 t1 => ?_)
      refine sr_aloadn (pc := 16) (n := 0) (by decide +kernel) rfl ?_
      refine sr_iloadn (pc := 17) (n := 2) (by decide +kernel) rfl ?_
      refine sr_iloadn (pc := 18) (n := 3) (by decide +kernel) rfl ?_
      refine sr_cV (pc := 19) (As := [sr_i a1, sr_i x3]) (mc1 := 0) (ms1 := 0) (mc2 := 0) (ms2 := 0) fm_3_179 fl_3_179 (by decide +kernel) (sr_in3 _ (by omega)) (rm_3_overlapOf_3_withoutLast) rfl rfl rfl (C3_withoutLast l i0 a1 x3 (by omega) t1) ?_
      refine sr_kI (fun v2 t2 => ?_)
      refine sr_icmp_eq (pc := 22) (off := 9) (tg := 31) (by decide +kernel) (by decide) (fun _ => ?_) (fun _ => ?_)
      · exact sr_wk (sr_mono (mc := 0) (ms := 0) (by omega) (by omega) (hk31 x3 t2)) ⟨rfl, ⟨rfl, ⟨rfl, ⟨rfl, trivial⟩⟩⟩⟩
      · refine sr_iinc (pc := 25) (i := 3) (n := 1) (w := x3 + 1) (by decide +kernel) rfl rfl (by decide) rfl rfl ?_
        refine sr_goto (pc := 28) (off := (-26)) (tg := 2) (by decide +kernel) (by decide) ?_
        exact sr_wk (sr_mono (mc := 0) (ms := 0) (by omega) (by omega) (ih (x3 + 1) t2)) ⟨rfl, ⟨rfl, ⟨rfl, ⟨rfl, trivial⟩⟩⟩⟩
def f3_overlapOf_31 (i0 : Nat) (a0 : Int32) (a1 : Int32)  : Int32 → sr_t → sr_Rs := fun x3 t => (some (.inl (some (sr_i ((t.1 3 i0 7) - x3))), t))
theorem g3_overlapOf_31 (l : Launch) (i0 : Nat) (a0 : Int32) (a1 : Int32) (hv_i0 : i0 < 2)   : ∀ (x3 : Int32), ∀ (t : sr_t), sr_g l sr_m3_overlapOf 31 [some (sr_r 3 i0), some (sr_i a0), some (sr_i a1), some (sr_i x3)] [] t (f3_overlapOf_31 i0 a0 a1  x3 t) 0 0 := by
  intro x3  t
  unfold f3_overlapOf_31
  refine sr_aloadn (pc := 31) (n := 0) (by decide +kernel) rfl ?_
  refine sr_gI (pc := 32) fg_3_48 (by decide +kernel) (sr_in3 _ (by omega)) (fun _ => rfl) ?_
  refine sr_iloadn (pc := 35) (n := 3) (by decide +kernel) rfl ?_
  refine sr_isub (pc := 36) (by decide +kernel) ?_
  exact sr_iret (pc := 37) (by decide +kernel) rfl
def F3_overlapOf (i0 : Nat) (a0 : Int32) (a1 : Int32) (t : sr_t) : sr_Rs := f3_overlapOf_2 i0 a0 a1 (f3_overlapOf_31 i0 a0 a1) sr_fu 0 t
theorem C3_overlapOf (l : Launch) (i0 : Nat) (a0 : Int32) (a1 : Int32) (hv_i0 : i0 < 2) (t : sr_t) : sr_ct' l sr_m3_overlapOf [sr_r 3 i0, sr_i a0, sr_i a1] t (F3_overlapOf i0 a0 a1 t) 0 0 := by
  refine sr_T_of (L0 := [some (sr_r 3 i0), some (sr_i a0), some (sr_i a1), none]) rfl (by decide +kernel) (fun _ => rfl) (fun _ => Nat.le_of_ble_eq_true rfl) ?_
  unfold F3_overlapOf
  refine sr_iconst (pc := 0) (n := 0) (v := 0) (by decide +kernel) rfl ?_
  refine sr_istoren (pc := 1) (n := 3) (by decide +kernel) (by decide) rfl rfl ?_
  exact sr_wk (sr_mono (mc := 0) (ms := 0) (by omega) (by omega) (g3_overlapOf_2 l i0 a0 a1 hv_i0 (f3_overlapOf_31 i0 a0 a1) (g3_overlapOf_31 l i0 a0 a1 hv_i0) sr_fu 0 t)) ⟨rfl, ⟨rfl, ⟨rfl, ⟨rfl, trivial⟩⟩⟩⟩
def F10_overlap (a0 : Int32) (a1 : Int32) (t : sr_t) : sr_Rs := (sr_bV (F10_needPlace a0 t) (fun t1 => (sr_bV (F10_needPlace a1 t1) (fun t2 => (sr_bI (F3_overlapOf 0 a0 a1 t2) (fun v3 t3 => (some (.inl (some (sr_i v3)), t3))))))))
theorem C10_overlap (l : Launch) (a0 : Int32) (a1 : Int32)  (t : sr_t) : sr_ct' l sr_m10_overlap [sr_r 10 0, sr_i a0, sr_i a1] t (F10_overlap a0 a1 t) 2 12 := by
  refine sr_T_of (L0 := [some (sr_r 10 0), some (sr_i a0), some (sr_i a1)]) rfl (by decide +kernel) (fun _ => rfl) (fun _ => Nat.le_of_ble_eq_true rfl) ?_
  unfold F10_overlap
  refine sr_iloadn (pc := 0) (n := 1) (by decide +kernel) rfl ?_
  refine sr_cS (pc := 1) (As := [sr_i a0]) (mc1 := 1) (ms1 := 6) (mc2 := 1) (ms2 := 6) fm_10_58 fl_10_58 (by decide +kernel) (rm_10_overlap_10_needPlace) rfl rfl rfl (C10_needPlace l a0 t) ?_
  refine sr_kV (fun t1 => ?_)
  refine sr_iloadn (pc := 4) (n := 2) (by decide +kernel) rfl ?_
  refine sr_cS (pc := 5) (As := [sr_i a1]) (mc1 := 1) (ms1 := 6) (mc2 := 0) (ms2 := 0) fm_10_58 fl_10_58 (by decide +kernel) (rm_10_overlap_10_needPlace) rfl rfl rfl (C10_needPlace l a1 t1) ?_
  refine sr_kV (fun t2 => ?_)
  refine sr_aloadn (pc := 8) (n := 0) (by decide +kernel) rfl ?_
  refine sr_gC (pc := 9) (i2 := 0) fg_10_12 (by decide +kernel) (sr_in10 _ (by omega)) (fun _ => rfl) ?_
  refine sr_iloadn (pc := 12) (n := 1) (by decide +kernel) rfl ?_
  refine sr_iloadn (pc := 13) (n := 2) (by decide +kernel) rfl ?_
  refine sr_cV (pc := 14) (As := [sr_i a0, sr_i a1]) (mc1 := 0) (ms1 := 0) (mc2 := 0) (ms2 := 0) fm_10_249 fl_10_249 (by decide +kernel) (sr_in3 _ (by omega)) (rm_10_overlap_3_overlapOf) rfl rfl rfl (C3_overlapOf l 0 a0 a1 (by omega) t2) ?_
  refine sr_kI (fun v3 t3 => ?_)
  exact sr_iret (pc := 17) (by decide +kernel) rfl
def sr_m10_shifted : sr_M := (⟨"ShiftRing", "shifted", "(III)I"⟩, prog_1_method_21_code, 7, (some .int), [], 7, 110)
theorem fl_10_252 : Cond.methodLink "ShiftRing" 252 (sr_My sr_m3_shiftIn) ∈ sr_TB := (sr_tb (n := 1068) (by decide +kernel) rfl)
theorem fm_10_252 : sr_FV "ShiftRing" 252 sr_m3_shiftIn 3 2 := ⟨⟨rfl, sr_tb (n := 655) (by decide +kernel) rfl, sr_tb (n := 2) (by decide +kernel) rfl, ⟨by decide, by decide, by decide +kernel⟩, Or.inl fl_10_252⟩, ⟨TX3, 9, rfl, rfl⟩, sr_tb (n := 653) (by decide +kernel) rfl, sr_tb (n := 654) (by decide +kernel) rfl⟩
theorem rm_10_shifted_10_needPlace : sr_RM sr_m10_shifted sr_m10_needPlace := ⟨Nat.le_of_ble_eq_true rfl, Nat.le_of_ble_eq_true rfl⟩
theorem rm_10_shifted_3_letterOf : sr_RM sr_m10_shifted sr_m3_letterOf := ⟨Nat.le_of_ble_eq_true rfl, Nat.le_of_ble_eq_true rfl⟩
theorem rm_10_shifted_3_overlapOf : sr_RM sr_m10_shifted sr_m3_overlapOf := ⟨Nat.le_of_ble_eq_true rfl, Nat.le_of_ble_eq_true rfl⟩
theorem rm_10_shifted_3_shiftIn : sr_RM sr_m10_shifted sr_m3_shiftIn := ⟨Nat.le_of_ble_eq_true rfl, Nat.le_of_ble_eq_true rfl⟩
def f10_shifted_37 (a0 : Int32) (a1 : Int32) (a2 : Int32)  : sr_t → sr_Rs := fun  t => (some (.inl (some (sr_i ((-1)))), t))
theorem g10_shifted_37 (l : Launch) (a0 : Int32) (a1 : Int32) (a2 : Int32)    : ∀ (t : sr_t), sr_g l sr_m10_shifted 37 [some (sr_r 10 0), some (sr_i a0), some (sr_i a1), some (sr_i a2), none, none, none] [] t (f10_shifted_37 a0 a1 a2   t) 0 0 := by
  intro t
  unfold f10_shifted_37
  refine sr_iconst (pc := 37) (n := (-1)) (v := (-1)) (by decide +kernel) rfl ?_
  exact sr_iret (pc := 38) (by decide +kernel) rfl
def f10_shifted_45 (a0 : Int32) (a1 : Int32) (a2 : Int32) (k81 : Int32 → sr_t → sr_Rs) : Nat → Int32 → Int32 → Int32 → sr_t → sr_Rs
  | 0 => fun _ _ _ _ => none
  | n + 1 => fun x4 x5 x6 t => (if a2 ≤ x6 then k81 x5 t else (sr_bI (F3_letterOf 0 a1 (x4 + x6) t) (fun v1 t1 => (sr_bI (F3_shiftIn 0 x5 v1 t1) (fun v2 t2 => (f10_shifted_45 a0 a1 a2 k81 n) x4 v2 (x6 + 1) t2)))))
theorem g10_shifted_45 (l : Launch) (a0 : Int32) (a1 : Int32) (a2 : Int32)  (k81 : Int32 → sr_t → sr_Rs) (hk81 : ∀ (x5 : Int32), ∀ (t : sr_t), sr_g l sr_m10_shifted 81 [some (sr_r 10 0), some (sr_i a0), some (sr_i a1), some (sr_i a2), none, some (sr_i x5), none] [] t (k81 x5 t) 0 0) : ∀ (n : Nat) (x4 : Int32) (x5 : Int32) (x6 : Int32), ∀ (t : sr_t), sr_g l sr_m10_shifted 45 [some (sr_r 10 0), some (sr_i a0), some (sr_i a1), some (sr_i a2), some (sr_i x4), some (sr_i x5), some (sr_i x6)] [] t (f10_shifted_45 a0 a1 a2 k81 n x4 x5 x6 t) 0 0 := by
  intro n
  induction n with
  | zero => intros; exact sr_Gn
  | succ n ih =>
    intro x4 x5 x6  t
    unfold f10_shifted_45
    refine sr_iload (pc := 45) (i := 6) (by decide +kernel) rfl ?_
    refine sr_iloadn (pc := 47) (n := 3) (by decide +kernel) rfl ?_
    refine sr_icmp_ge (pc := 48) (off := 33) (tg := 81) (by decide +kernel) (by decide) (fun _ => ?_) (fun _ => ?_)
    · exact sr_wk (sr_mono (mc := 0) (ms := 0) (by omega) (by omega) (hk81 x5 t)) ⟨rfl, ⟨rfl, ⟨rfl, ⟨rfl, ⟨rfl, trivial⟩⟩⟩⟩⟩
    · refine sr_aloadn (pc := 51) (n := 0) (by decide +kernel) rfl ?_
      refine sr_gC (pc := 52) (i2 := 0) fg_10_12 (by decide +kernel) (sr_in10 _ (by omega)) (fun _ => rfl) ?_
      refine sr_iload (pc := 55) (i := 5) (by decide +kernel) rfl ?_
      refine sr_aloadn (pc := 57) (n := 0) (by decide +kernel) rfl ?_
      refine sr_gC (pc := 58) (i2 := 0) fg_10_12 (by decide +kernel) (sr_in10 _ (by omega)) (fun _ => rfl) ?_
      refine sr_iloadn (pc := 61) (n := 2) (by decide +kernel) rfl ?_
      refine sr_iload (pc := 62) (i := 4) (by decide +kernel) rfl ?_
      refine sr_iload (pc := 64) (i := 6) (by decide +kernel) rfl ?_
      refine sr_iadd (pc := 66) (by decide +kernel) ?_
      refine sr_cV (pc := 67) (As := [sr_i a1, sr_i (x4 + x6)]) (mc1 := 0) (ms1 := 0) (mc2 := 0) (ms2 := 0) fm_10_246 fl_10_246 (by decide +kernel) (sr_in3 _ (by omega)) (rm_10_shifted_3_letterOf) rfl rfl rfl (C3_letterOf l 0 a1 (x4 + x6) (by omega) t) ?_
      refine sr_kI (fun v1 t1 => ?_)
      refine sr_cV (pc := 70) (As := [sr_i x5, sr_i v1]) (mc1 := 0) (ms1 := 0) (mc2 := 0) (ms2 := 0) fm_10_252 fl_10_252 (by decide +kernel) (sr_in3 _ (by omega)) (rm_10_shifted_3_shiftIn) rfl rfl rfl (C3_shiftIn l 0 x5 v1 (by omega) t1) ?_
      refine sr_kI (fun v2 t2 => ?_)
      refine sr_istore (pc := 73) (i := 5) (by decide +kernel) (by decide) rfl rfl ?_
      refine sr_iinc (pc := 75) (i := 6) (n := 1) (w := x6 + 1) (by decide +kernel) rfl rfl (by decide) rfl rfl ?_
      refine sr_goto (pc := 78) (off := (-33)) (tg := 45) (by decide +kernel) (by decide) ?_
      exact sr_wk (sr_mono (mc := 0) (ms := 0) (by omega) (by omega) (ih x4 v2 (x6 + 1) t2)) ⟨rfl, ⟨rfl, ⟨rfl, ⟨rfl, ⟨rfl, ⟨rfl, ⟨rfl, trivial⟩⟩⟩⟩⟩⟩⟩
def f10_shifted_81 (a0 : Int32) (a1 : Int32) (a2 : Int32)  : Int32 → sr_t → sr_Rs := fun x5 t => (some (.inl (some (sr_i x5)), t))
theorem g10_shifted_81 (l : Launch) (a0 : Int32) (a1 : Int32) (a2 : Int32)    : ∀ (x5 : Int32), ∀ (t : sr_t), sr_g l sr_m10_shifted 81 [some (sr_r 10 0), some (sr_i a0), some (sr_i a1), some (sr_i a2), none, some (sr_i x5), none] [] t (f10_shifted_81 a0 a1 a2  x5 t) 0 0 := by
  intro x5  t
  unfold f10_shifted_81
  refine sr_iload (pc := 81) (i := 5) (by decide +kernel) rfl ?_
  exact sr_iret (pc := 83) (by decide +kernel) rfl
def F10_shifted (a0 : Int32) (a1 : Int32) (a2 : Int32) (t : sr_t) : sr_Rs := (sr_bV (F10_needPlace a0 t) (fun t1 => (sr_bV (F10_needPlace a1 t1) (fun t2 => (sr_bI (F3_overlapOf 0 a0 a1 t2) (fun v3 t3 => (if a2 < 0 then f10_shifted_37 a0 a1 a2 t3 else (if a2 ≤ ((t3.1 3 0 7) - v3) then f10_shifted_45 a0 a1 a2 (f10_shifted_81 a0 a1 a2) sr_fu v3 a0 0 t3 else f10_shifted_37 a0 a1 a2 t3))))))))
theorem C10_shifted (l : Launch) (a0 : Int32) (a1 : Int32) (a2 : Int32)  (t : sr_t) : sr_ct' l sr_m10_shifted [sr_r 10 0, sr_i a0, sr_i a1, sr_i a2] t (F10_shifted a0 a1 a2 t) 2 12 := by
  refine sr_T_of (L0 := [some (sr_r 10 0), some (sr_i a0), some (sr_i a1), some (sr_i a2), none, none, none]) rfl (by decide +kernel) (fun _ => rfl) (fun _ => Nat.le_of_ble_eq_true rfl) ?_
  unfold F10_shifted
  refine sr_iloadn (pc := 0) (n := 1) (by decide +kernel) rfl ?_
  refine sr_cS (pc := 1) (As := [sr_i a0]) (mc1 := 1) (ms1 := 6) (mc2 := 1) (ms2 := 6) fm_10_58 fl_10_58 (by decide +kernel) (rm_10_shifted_10_needPlace) rfl rfl rfl (C10_needPlace l a0 t) ?_
  refine sr_kV (fun t1 => ?_)
  refine sr_iloadn (pc := 4) (n := 2) (by decide +kernel) rfl ?_
  refine sr_cS (pc := 5) (As := [sr_i a1]) (mc1 := 1) (ms1 := 6) (mc2 := 0) (ms2 := 0) fm_10_58 fl_10_58 (by decide +kernel) (rm_10_shifted_10_needPlace) rfl rfl rfl (C10_needPlace l a1 t1) ?_
  refine sr_kV (fun t2 => ?_)
  refine sr_aloadn (pc := 8) (n := 0) (by decide +kernel) rfl ?_
  refine sr_gC (pc := 9) (i2 := 0) fg_10_12 (by decide +kernel) (sr_in10 _ (by omega)) (fun _ => rfl) ?_
  refine sr_iloadn (pc := 12) (n := 1) (by decide +kernel) rfl ?_
  refine sr_iloadn (pc := 13) (n := 2) (by decide +kernel) rfl ?_
  refine sr_cV (pc := 14) (As := [sr_i a0, sr_i a1]) (mc1 := 0) (ms1 := 0) (mc2 := 0) (ms2 := 0) fm_10_249 fl_10_249 (by decide +kernel) (sr_in3 _ (by omega)) (rm_10_shifted_3_overlapOf) rfl rfl rfl (C3_overlapOf l 0 a0 a1 (by omega) t2) ?_
  refine sr_kI (fun v3 t3 => ?_)
  refine sr_istore (pc := 17) (i := 4) (by decide +kernel) (by decide) rfl rfl ?_
  refine sr_iloadn (pc := 19) (n := 3) (by decide +kernel) rfl ?_
  refine sr_if_lt (pc := 20) (off := 17) (tg := 37) (by decide +kernel) (by decide) (fun _ => ?_) (fun _ => ?_)
  · exact sr_wk (sr_mono (mc := 0) (ms := 0) (by omega) (by omega) (g10_shifted_37 l a0 a1 a2 t3)) ⟨rfl, ⟨rfl, ⟨rfl, ⟨rfl, trivial⟩⟩⟩⟩
  · refine sr_iloadn (pc := 23) (n := 3) (by decide +kernel) rfl ?_
    refine sr_aloadn (pc := 24) (n := 0) (by decide +kernel) rfl ?_
    refine sr_gC (pc := 25) (i2 := 0) fg_10_12 (by decide +kernel) (sr_in10 _ (by omega)) (fun _ => rfl) ?_
    refine sr_gI (pc := 28) fg_10_243 (by decide +kernel) (sr_in3 _ (by omega)) (fun _ => rfl) ?_
    refine sr_iload (pc := 31) (i := 4) (by decide +kernel) rfl ?_
    refine sr_isub (pc := 33) (by decide +kernel) ?_
    refine sr_icmp_le (pc := 34) (off := 5) (tg := 39) (by decide +kernel) (by decide) (fun _ => ?_) (fun _ => ?_)
    · refine sr_iloadn (pc := 39) (n := 1) (by decide +kernel) rfl ?_
      refine sr_istore (pc := 40) (i := 5) (by decide +kernel) (by decide) rfl rfl ?_
      refine sr_iconst (pc := 42) (n := 0) (v := 0) (by decide +kernel) rfl ?_
      refine sr_istore (pc := 43) (i := 6) (by decide +kernel) (by decide) rfl rfl ?_
      exact sr_wk (sr_mono (mc := 0) (ms := 0) (by omega) (by omega) (g10_shifted_45 l a0 a1 a2 (f10_shifted_81 a0 a1 a2) (g10_shifted_81 l a0 a1 a2) sr_fu v3 a0 0 t3)) ⟨rfl, ⟨rfl, ⟨rfl, ⟨rfl, ⟨rfl, ⟨rfl, ⟨rfl, trivial⟩⟩⟩⟩⟩⟩⟩
    · exact sr_wk (sr_mono (mc := 0) (ms := 0) (by omega) (by omega) (g10_shifted_37 l a0 a1 a2 t3)) ⟨rfl, ⟨rfl, ⟨rfl, ⟨rfl, trivial⟩⟩⟩⟩
def sr_m10_needStart : sr_M := (⟨"ShiftRing", "needStart", "(II)V"⟩, prog_1_method_50_code, 3, none, [], 7, 111)
def sr_m10_start : sr_M := (⟨"ShiftRing", "start", "(II)I"⟩, prog_1_method_22_code, 3, (some .int), [], 8, 133)
theorem fg_10_32 : sr_FG "ShiftRing" 32 10 3 7 := ⟨RX10, TX10, tyX10, rfl, by decide, rfl, uw_10, tyX10_ok, nmX10, Or.inl (sr_tb (n := 408) (by decide +kernel) rfl)⟩
theorem fg_10_262 : sr_FG "ShiftRing" 262 8 4 17 := ⟨RX8, TX8, tyX8, rfl, by decide, rfl, uw_8, tyX8_ok, nmX8, Or.inr ⟨"ShiftRing", sr_nb (n := 256) (by decide +kernel) rfl⟩⟩
theorem fl_10_255 : Cond.methodLink "ShiftRing" 255 (sr_My sr_m10_needStart) ∈ sr_TB := (sr_tb (n := 1076) (by decide +kernel) rfl)
theorem fm_10_255 : sr_FV "ShiftRing" 255 sr_m10_needStart 10 2 := ⟨⟨rfl, sr_tb (n := 1079) (by decide +kernel) rfl, sr_tb (n := 1) (by decide +kernel) rfl, ⟨by decide, by decide, by decide +kernel⟩, Or.inl fl_10_255⟩, ⟨TX10, 7, rfl, rfl⟩, sr_tb (n := 1078) (by decide +kernel) rfl, sr_ts (n := 25) (by decide +kernel) rfl⟩
theorem fl_10_258 : Cond.methodLink "ShiftRing" 258 (sr_My sr_m8_setOut) ∈ sr_TB := (sr_tb (n := 1081) (by decide +kernel) rfl)
theorem fm_10_258 : sr_FV "ShiftRing" 258 sr_m8_setOut 8 4 := ⟨⟨rfl, sr_tb (n := 604) (by decide +kernel) rfl, sr_tb (n := 8) (by decide +kernel) rfl, ⟨by decide, by decide, by decide +kernel⟩, Or.inl fl_10_258⟩, ⟨TX8, 17, rfl, rfl⟩, sr_tb (n := 602) (by decide +kernel) rfl, sr_tb (n := 603) (by decide +kernel) rfl⟩
theorem rm_10_needStart_10_needNode : sr_RM sr_m10_needStart sr_m10_needNode := ⟨Nat.le_of_ble_eq_true rfl, Nat.le_of_ble_eq_true rfl⟩
theorem rm_10_needStart_10_needPlace : sr_RM sr_m10_needStart sr_m10_needPlace := ⟨Nat.le_of_ble_eq_true rfl, Nat.le_of_ble_eq_true rfl⟩
theorem rm_10_needStart_3_of : sr_RM sr_m10_needStart sr_m3_of := ⟨Nat.le_of_ble_eq_true rfl, Nat.le_of_ble_eq_true rfl⟩
theorem rm_10_start_10_needStart : sr_RM sr_m10_start sr_m10_needStart := ⟨Nat.le_of_ble_eq_true rfl, Nat.le_of_ble_eq_true rfl⟩
theorem rm_10_start_3_of : sr_RM sr_m10_start sr_m3_of := ⟨Nat.le_of_ble_eq_true rfl, Nat.le_of_ble_eq_true rfl⟩
theorem rm_10_start_8_setOut : sr_RM sr_m10_start sr_m8_setOut := ⟨Nat.le_of_ble_eq_true rfl, Nat.le_of_ble_eq_true rfl⟩
def F10_needStart (a0 : Int32) (a1 : Int32) (t : sr_t) : sr_Rs := (sr_bV (F10_needNode a0 t) (fun t1 => (sr_bV (F10_needPlace a1 t1) (fun t2 => (sr_bR 2 50 (F3_of 0 a0 t2) (fun n3 t3 => (if (t3.1 2 n3 5) = ((-1)) then (some (.inr 1, t3)) else (some (.inl none, t3)))))))))
theorem C10_needStart (l : Launch) (a0 : Int32) (a1 : Int32)  (t : sr_t) : sr_ct' l sr_m10_needStart [sr_r 10 0, sr_i a0, sr_i a1] t (F10_needStart a0 a1 t) 3 18 := by
  refine sr_T_of (L0 := [some (sr_r 10 0), some (sr_i a0), some (sr_i a1)]) rfl (by decide +kernel) (fun _ => rfl) (fun _ => Nat.le_of_ble_eq_true rfl) ?_
  unfold F10_needStart
  refine sr_aloadn (pc := 0) (n := 0) (by decide +kernel) rfl ?_
  refine sr_iloadn (pc := 1) (n := 1) (by decide +kernel) rfl ?_
  refine sr_cV (pc := 2) (As := [sr_i a0]) (mc1 := 1) (ms1 := 6) (mc2 := 2) (ms2 := 12) fm_10_81 fl_10_81 (by decide +kernel) (sr_in10 _ (by omega)) (rm_10_needStart_10_needNode) rfl rfl rfl (C10_needNode l a0 t) ?_
  refine sr_kV (fun t1 => ?_)
  refine sr_iloadn (pc := 5) (n := 2) (by decide +kernel) rfl ?_
  refine sr_cS (pc := 6) (As := [sr_i a1]) (mc1 := 1) (ms1 := 6) (mc2 := 1) (ms2 := 6) fm_10_58 fl_10_58 (by decide +kernel) (rm_10_needStart_10_needPlace) rfl rfl rfl (C10_needPlace l a1 t1) ?_
  refine sr_kV (fun t2 => ?_)
  refine sr_aloadn (pc := 9) (n := 0) (by decide +kernel) rfl ?_
  refine sr_gC (pc := 10) (i2 := 0) fg_10_12 (by decide +kernel) (sr_in10 _ (by omega)) (fun _ => rfl) ?_
  refine sr_iloadn (pc := 13) (n := 1) (by decide +kernel) rfl ?_
  refine sr_cV (pc := 14) (As := [sr_i a0]) (mc1 := 0) (ms1 := 0) (mc2 := 1) (ms2 := 6) fm_10_87 fl_10_87 (by decide +kernel) (sr_in3 _ (by omega)) (rm_10_needStart_3_of) rfl rfl rfl (C3_of l 0 a0 (by omega) t2) ?_
  refine sr_kR (fun n3 t3 hv_n3 => ?_)
  refine sr_gI (pc := 17) fg_10_227 (by decide +kernel) (sr_in2 _ (by omega)) (fun _ => rfl) ?_
  refine sr_iconst (pc := 20) (n := (-1)) (v := (-1)) (by decide +kernel) rfl ?_
  refine sr_icmp_ne (pc := 21) (off := 14) (tg := 35) (by decide +kernel) (by decide) (fun _ => ?_) (fun _ => ?_)
  · exact sr_ret (pc := 35) (by decide +kernel) rfl
  · exact sr_thr (pc := 24) (ik := 70) (is := 420) (ic := 74) (tx := "the node, or all its successors are down") (z := 1) (mc := 0) (ms := 0) fx_70_74 (by decide +kernel) (by decide +kernel) (by decide +kernel) (Or.inr ⟨by decide +kernel, by decide +kernel, by decide +kernel⟩) rfl (by decide) (by decide) rfl rfl
def F10_start (a0 : Int32) (a1 : Int32) (t : sr_t) : sr_Rs := (sr_bV (F10_needStart a0 a1 t) (fun t1 => (sr_bR 2 50 (F3_of 0 a0 t1) (fun n2 t2 => (sr_bV (F8_setOut 1 0 n2 a1 1 t2) (fun t3 => (some (.inl (some (sr_i (t3.1 8 1 4))), t3))))))))
theorem C10_start (l : Launch) (a0 : Int32) (a1 : Int32)  (t : sr_t) : sr_ct' l sr_m10_start [sr_r 10 0, sr_i a0, sr_i a1] t (F10_start a0 a1 t) 3 18 := by
  refine sr_T_of (L0 := [some (sr_r 10 0), some (sr_i a0), some (sr_i a1)]) rfl (by decide +kernel) (fun _ => rfl) (fun _ => Nat.le_of_ble_eq_true rfl) ?_
  unfold F10_start
  refine sr_aloadn (pc := 0) (n := 0) (by decide +kernel) rfl ?_
  refine sr_iloadn (pc := 1) (n := 1) (by decide +kernel) rfl ?_
  refine sr_iloadn (pc := 2) (n := 2) (by decide +kernel) rfl ?_
  refine sr_cV (pc := 3) (As := [sr_i a0, sr_i a1]) (mc1 := 3) (ms1 := 18) (mc2 := 0) (ms2 := 0) fm_10_255 fl_10_255 (by decide +kernel) (sr_in10 _ (by omega)) (rm_10_start_10_needStart) rfl rfl rfl (C10_needStart l a0 a1 t) ?_
  refine sr_kV (fun t1 => ?_)
  refine sr_aloadn (pc := 6) (n := 0) (by decide +kernel) rfl ?_
  refine sr_gC (pc := 7) (i2 := 1) fg_10_32 (by decide +kernel) (sr_in10 _ (by omega)) (fun _ => rfl) ?_
  refine sr_aloadn (pc := 10) (n := 0) (by decide +kernel) rfl ?_
  refine sr_gC (pc := 11) (i2 := 0) fg_10_12 (by decide +kernel) (sr_in10 _ (by omega)) (fun _ => rfl) ?_
  refine sr_aloadn (pc := 14) (n := 0) (by decide +kernel) rfl ?_
  refine sr_gC (pc := 15) (i2 := 0) fg_10_12 (by decide +kernel) (sr_in10 _ (by omega)) (fun _ => rfl) ?_
  refine sr_iloadn (pc := 18) (n := 1) (by decide +kernel) rfl ?_
  refine sr_cV (pc := 19) (As := [sr_i a0]) (mc1 := 0) (ms1 := 0) (mc2 := 0) (ms2 := 0) fm_10_87 fl_10_87 (by decide +kernel) (sr_in3 _ (by omega)) (rm_10_start_3_of) rfl rfl rfl (C3_of l 0 a0 (by omega) t1) ?_
  refine sr_kR (fun n2 t2 hv_n2 => ?_)
  refine sr_iloadn (pc := 22) (n := 2) (by decide +kernel) rfl ?_
  refine sr_iconst (pc := 23) (n := 1) (v := 1) (by decide +kernel) rfl ?_
  refine sr_cV (pc := 24) (As := [sr_r 3 0, sr_r 2 n2, sr_i a1, sr_i 1]) (mc1 := 0) (ms1 := 0) (mc2 := 0) (ms2 := 0) fm_10_258 fl_10_258 (by decide +kernel) (sr_in8 _ (by omega)) (rm_10_start_8_setOut) rfl rfl rfl (C8_setOut l 1 0 n2 a1 1 (by omega) (by omega) (by omega) t2) ?_
  refine sr_kV (fun t3 => ?_)
  refine sr_aloadn (pc := 27) (n := 0) (by decide +kernel) rfl ?_
  refine sr_gC (pc := 28) (i2 := 1) fg_10_32 (by decide +kernel) (sr_in10 _ (by omega)) (fun _ => rfl) ?_
  refine sr_gI (pc := 31) fg_10_262 (by decide +kernel) (sr_in8 _ (by omega)) (fun _ => rfl) ?_
  exact sr_iret (pc := 34) (by decide +kernel) rfl
def sr_m10_hopsIfRight : sr_M := (⟨"ShiftRing", "hopsIfRight", "(LShiftRing$Node;I)I"⟩, prog_1_method_29_code, 3, (some .int), [], 4, 96)
def sr_m10_bestToAsk : sr_M := (⟨"ShiftRing", "bestToAsk", "(IZ)I"⟩, prog_1_method_30_code, 8, (some .int), [], 5, 118)
def sr_m10_nearest : sr_M := (⟨"ShiftRing", "nearest", "(I)I"⟩, prog_1_method_26_code, 2, (some .int), [], 7, 145)
theorem fl_10_269 : Cond.methodLink "ShiftRing" 269 (sr_My sr_m10_hopsIfRight) ∈ sr_TB := (sr_tb (n := 1093) (by decide +kernel) rfl)
theorem fm_10_269 : sr_FV "ShiftRing" 269 sr_m10_hopsIfRight 10 2 := ⟨⟨rfl, sr_tb (n := 1096) (by decide +kernel) rfl, sr_tb (n := 1) (by decide +kernel) rfl, ⟨by decide, by decide, by decide +kernel⟩, Or.inl fl_10_269⟩, ⟨TX10, 7, rfl, rfl⟩, sr_tb (n := 1095) (by decide +kernel) rfl, sr_ts (n := 27) (by decide +kernel) rfl⟩
theorem fl_10_272 : Cond.methodLink "ShiftRing" 272 (sr_My sr_m10_bestToAsk) ∈ sr_TB := (sr_tb (n := 1089) (by decide +kernel) rfl)
theorem fm_10_272 : sr_FV "ShiftRing" 272 sr_m10_bestToAsk 10 2 := ⟨⟨rfl, sr_tb (n := 1092) (by decide +kernel) rfl, sr_tb (n := 1) (by decide +kernel) rfl, ⟨by decide, by decide, by decide +kernel⟩, Or.inl fl_10_272⟩, ⟨TX10, 7, rfl, rfl⟩, sr_tb (n := 1091) (by decide +kernel) rfl, sr_ts (n := 26) (by decide +kernel) rfl⟩
theorem rm_10_bestToAsk_10_hopsIfRight : sr_RM sr_m10_bestToAsk sr_m10_hopsIfRight := ⟨Nat.le_of_ble_eq_true rfl, Nat.le_of_ble_eq_true rfl⟩
theorem rm_10_bestToAsk_3_of : sr_RM sr_m10_bestToAsk sr_m3_of := ⟨Nat.le_of_ble_eq_true rfl, Nat.le_of_ble_eq_true rfl⟩
theorem rm_10_hopsIfRight_8_travel : sr_RM sr_m10_hopsIfRight sr_m8_travel := ⟨Nat.le_of_ble_eq_true rfl, Nat.le_of_ble_eq_true rfl⟩
theorem rm_10_nearest_10_bestToAsk : sr_RM sr_m10_nearest sr_m10_bestToAsk := ⟨Nat.le_of_ble_eq_true rfl, Nat.le_of_ble_eq_true rfl⟩
theorem rm_10_nearest_10_needPlace : sr_RM sr_m10_nearest sr_m10_needPlace := ⟨Nat.le_of_ble_eq_true rfl, Nat.le_of_ble_eq_true rfl⟩
def f10_hopsIfRight_36 (i1 : Nat) (a1 : Int32)  : Int32 → sr_t → sr_Rs := fun xs0 t => (some (.inl (some (sr_i xs0)), t))
theorem g10_hopsIfRight_36 (l : Launch) (i1 : Nat) (a1 : Int32) (hv_i1 : i1 < 50)   : ∀ (xs0 : Int32), ∀ (t : sr_t), sr_g l sr_m10_hopsIfRight 36 [some (sr_r 10 0), some (sr_r 2 i1), some (sr_i a1)] [sr_i xs0] t (f10_hopsIfRight_36 i1 a1  xs0 t) 0 0 := by
  intro xs0  t
  unfold f10_hopsIfRight_36
  exact sr_iret (pc := 36) (by decide +kernel) rfl
def F10_hopsIfRight (i1 : Nat) (a1 : Int32) (t : sr_t) : sr_Rs := (sr_bI (F8_travel 1 0 i1 a1 1 t) (fun v1 t1 => (if (t1.1 8 1 7) = 0 then f10_hopsIfRight_36 i1 a1 ((-1)) t1 else f10_hopsIfRight_36 i1 a1 (t1.1 8 1 9) t1)))
theorem C10_hopsIfRight (l : Launch) (i1 : Nat) (a1 : Int32) (hv_i1 : i1 < 50) (t : sr_t) : sr_ct' l sr_m10_hopsIfRight [sr_r 10 0, sr_r 2 i1, sr_i a1] t (F10_hopsIfRight i1 a1 t) 0 0 := by
  refine sr_T_of (L0 := [some (sr_r 10 0), some (sr_r 2 i1), some (sr_i a1)]) rfl (by decide +kernel) (fun _ => rfl) (fun _ => Nat.le_of_ble_eq_true rfl) ?_
  unfold F10_hopsIfRight
  refine sr_aloadn (pc := 0) (n := 0) (by decide +kernel) rfl ?_
  refine sr_gC (pc := 1) (i2 := 1) fg_10_32 (by decide +kernel) (sr_in10 _ (by omega)) (fun _ => rfl) ?_
  refine sr_aloadn (pc := 4) (n := 0) (by decide +kernel) rfl ?_
  refine sr_gC (pc := 5) (i2 := 0) fg_10_12 (by decide +kernel) (sr_in10 _ (by omega)) (fun _ => rfl) ?_
  refine sr_aloadn (pc := 8) (n := 1) (by decide +kernel) rfl ?_
  refine sr_iloadn (pc := 9) (n := 2) (by decide +kernel) rfl ?_
  refine sr_iconst (pc := 10) (n := 1) (v := 1) (by decide +kernel) rfl ?_
  refine sr_cV (pc := 11) (As := [sr_r 3 0, sr_r 2 i1, sr_i a1, sr_i 1]) (mc1 := 0) (ms1 := 0) (mc2 := 0) (ms2 := 0) fm_10_146 fl_10_146 (by decide +kernel) (sr_in8 _ (by omega)) (rm_10_hopsIfRight_8_travel) rfl rfl rfl (C8_travel l 1 0 i1 a1 1 (by omega) (by omega) (by omega) t) ?_
  refine sr_kI (fun v1 t1 => ?_)
  refine sr_pop (pc := 14) (by decide +kernel) rfl ?_
  refine sr_aloadn (pc := 15) (n := 0) (by decide +kernel) rfl ?_
  refine sr_gC (pc := 16) (i2 := 1) fg_10_32 (by decide +kernel) (sr_in10 _ (by omega)) (fun _ => rfl) ?_
  refine sr_gI (pc := 19) fg_10_166 (by decide +kernel) (sr_in8 _ (by omega)) (fun _ => rfl) ?_
  refine sr_if_eq (pc := 22) (off := 13) (tg := 35) (by decide +kernel) (by decide) (fun _ => ?_) (fun _ => ?_)
  · refine sr_iconst (pc := 35) (n := (-1)) (v := (-1)) (by decide +kernel) rfl ?_
    exact sr_wk (sr_mono (mc := 0) (ms := 0) (by omega) (by omega) (g10_hopsIfRight_36 l i1 a1 hv_i1 ((-1)) t1)) ⟨rfl, ⟨rfl, ⟨rfl, trivial⟩⟩⟩
  · refine sr_aloadn (pc := 25) (n := 0) (by decide +kernel) rfl ?_
    refine sr_gC (pc := 26) (i2 := 1) fg_10_32 (by decide +kernel) (sr_in10 _ (by omega)) (fun _ => rfl) ?_
    refine sr_gI (pc := 29) fg_10_154 (by decide +kernel) (sr_in8 _ (by omega)) (fun _ => rfl) ?_
    refine sr_goto (pc := 32) (off := 4) (tg := 36) (by decide +kernel) (by decide) ?_
    exact sr_wk (sr_mono (mc := 0) (ms := 0) (by omega) (by omega) (g10_hopsIfRight_36 l i1 a1 hv_i1 (t1.1 8 1 9) t1)) ⟨rfl, ⟨rfl, ⟨rfl, trivial⟩⟩⟩
def f10_bestToAsk_98 (a0 : Int32) (a1 : Int32) (k8 : Int32 → Int32 → Int32 → sr_t → sr_Rs) (k104 : Int32 → sr_t → sr_Rs) : Int32 → Int32 → Int32 → sr_t → sr_Rs := fun x3 x4 x5 t => k8 x3 x4 (x5 + 1) t
theorem g10_bestToAsk_98 (l : Launch) (a0 : Int32) (a1 : Int32)  (k8 : Int32 → Int32 → Int32 → sr_t → sr_Rs) (k104 : Int32 → sr_t → sr_Rs) (hk8 : ∀ (x3 : Int32) (x4 : Int32) (x5 : Int32), ∀ (t : sr_t), sr_g l sr_m10_bestToAsk 8 [some (sr_r 10 0), some (sr_i a0), some (sr_i a1), some (sr_i x3), some (sr_i x4), some (sr_i x5), none, none] [] t (k8 x3 x4 x5 t) 0 0) (hk104 : ∀ (x3 : Int32), ∀ (t : sr_t), sr_g l sr_m10_bestToAsk 104 [some (sr_r 10 0), some (sr_i a0), some (sr_i a1), some (sr_i x3), none, none, none, none] [] t (k104 x3 t) 0 0) : ∀ (x3 : Int32) (x4 : Int32) (x5 : Int32), ∀ (t : sr_t), sr_g l sr_m10_bestToAsk 98 [some (sr_r 10 0), some (sr_i a0), some (sr_i a1), some (sr_i x3), some (sr_i x4), some (sr_i x5), none, none] [] t (f10_bestToAsk_98 a0 a1 k8 k104 x3 x4 x5 t) 0 0 := by
  intro x3 x4 x5  t
  unfold f10_bestToAsk_98
  refine sr_iinc (pc := 98) (i := 5) (n := 1) (w := x5 + 1) (by decide +kernel) rfl rfl (by decide) rfl rfl ?_
  refine sr_goto (pc := 101) (off := (-93)) (tg := 8) (by decide +kernel) (by decide) ?_
  exact sr_wk (sr_mono (mc := 0) (ms := 0) (by omega) (by omega) (hk8 x3 x4 (x5 + 1) t)) ⟨rfl, ⟨rfl, ⟨rfl, ⟨rfl, ⟨rfl, ⟨rfl, trivial⟩⟩⟩⟩⟩⟩
def f10_bestToAsk_91 (a0 : Int32) (a1 : Int32) (k8 : Int32 → Int32 → Int32 → sr_t → sr_Rs) (k104 : Int32 → sr_t → sr_Rs) : Int32 → Int32 → sr_t → sr_Rs := fun x5 x7 t => f10_bestToAsk_98 a0 a1 k8 k104 x5 x7 x5 t
theorem g10_bestToAsk_91 (l : Launch) (a0 : Int32) (a1 : Int32)  (k8 : Int32 → Int32 → Int32 → sr_t → sr_Rs) (k104 : Int32 → sr_t → sr_Rs) (hk8 : ∀ (x3 : Int32) (x4 : Int32) (x5 : Int32), ∀ (t : sr_t), sr_g l sr_m10_bestToAsk 8 [some (sr_r 10 0), some (sr_i a0), some (sr_i a1), some (sr_i x3), some (sr_i x4), some (sr_i x5), none, none] [] t (k8 x3 x4 x5 t) 0 0) (hk104 : ∀ (x3 : Int32), ∀ (t : sr_t), sr_g l sr_m10_bestToAsk 104 [some (sr_r 10 0), some (sr_i a0), some (sr_i a1), some (sr_i x3), none, none, none, none] [] t (k104 x3 t) 0 0) : ∀ (x5 : Int32) (x7 : Int32), ∀ (t : sr_t), sr_g l sr_m10_bestToAsk 91 [some (sr_r 10 0), some (sr_i a0), some (sr_i a1), none, none, some (sr_i x5), none, some (sr_i x7)] [] t (f10_bestToAsk_91 a0 a1 k8 k104 x5 x7 t) 0 0 := by
  intro x5 x7  t
  unfold f10_bestToAsk_91
  refine sr_iload (pc := 91) (i := 5) (by decide +kernel) rfl ?_
  refine sr_istoren (pc := 93) (n := 3) (by decide +kernel) (by decide) rfl rfl ?_
  refine sr_iload (pc := 94) (i := 7) (by decide +kernel) rfl ?_
  refine sr_istore (pc := 96) (i := 4) (by decide +kernel) (by decide) rfl rfl ?_
  exact sr_wk (sr_mono (mc := 0) (ms := 0) (by omega) (by omega) (g10_bestToAsk_98 l a0 a1 k8 k104 hk8 hk104 x5 x7 x5 t)) ⟨rfl, ⟨rfl, ⟨rfl, ⟨rfl, ⟨rfl, ⟨rfl, trivial⟩⟩⟩⟩⟩⟩
def f10_bestToAsk_71 (a0 : Int32) (a1 : Int32) (k8 : Int32 → Int32 → Int32 → sr_t → sr_Rs) (k104 : Int32 → sr_t → sr_Rs) : Int32 → Int32 → Int32 → Int32 → Int32 → sr_t → sr_Rs := fun x3 x4 x5 x6 xs0 t => (if x6 = ((-1)) then f10_bestToAsk_98 a0 a1 k8 k104 x3 x4 x5 t else (if x3 = ((-1)) then f10_bestToAsk_91 a0 a1 k8 k104 x5 xs0 t else (if x4 ≤ xs0 then f10_bestToAsk_98 a0 a1 k8 k104 x3 x4 x5 t else f10_bestToAsk_91 a0 a1 k8 k104 x5 xs0 t)))
theorem g10_bestToAsk_71 (l : Launch) (a0 : Int32) (a1 : Int32)  (k8 : Int32 → Int32 → Int32 → sr_t → sr_Rs) (k104 : Int32 → sr_t → sr_Rs) (hk8 : ∀ (x3 : Int32) (x4 : Int32) (x5 : Int32), ∀ (t : sr_t), sr_g l sr_m10_bestToAsk 8 [some (sr_r 10 0), some (sr_i a0), some (sr_i a1), some (sr_i x3), some (sr_i x4), some (sr_i x5), none, none] [] t (k8 x3 x4 x5 t) 0 0) (hk104 : ∀ (x3 : Int32), ∀ (t : sr_t), sr_g l sr_m10_bestToAsk 104 [some (sr_r 10 0), some (sr_i a0), some (sr_i a1), some (sr_i x3), none, none, none, none] [] t (k104 x3 t) 0 0) : ∀ (x3 : Int32) (x4 : Int32) (x5 : Int32) (x6 : Int32) (xs0 : Int32), ∀ (t : sr_t), sr_g l sr_m10_bestToAsk 71 [some (sr_r 10 0), some (sr_i a0), some (sr_i a1), some (sr_i x3), some (sr_i x4), some (sr_i x5), some (sr_i x6), none] [sr_i xs0] t (f10_bestToAsk_71 a0 a1 k8 k104 x3 x4 x5 x6 xs0 t) 0 0 := by
  intro x3 x4 x5 x6 xs0  t
  unfold f10_bestToAsk_71
  refine sr_istore (pc := 71) (i := 7) (by decide +kernel) (by decide) rfl rfl ?_
  refine sr_iload (pc := 73) (i := 6) (by decide +kernel) rfl ?_
  refine sr_iconst (pc := 75) (n := (-1)) (v := (-1)) (by decide +kernel) rfl ?_
  refine sr_icmp_eq (pc := 76) (off := 22) (tg := 98) (by decide +kernel) (by decide) (fun _ => ?_) (fun _ => ?_)
  · exact sr_wk (sr_mono (mc := 0) (ms := 0) (by omega) (by omega) (g10_bestToAsk_98 l a0 a1 k8 k104 hk8 hk104 x3 x4 x5 t)) ⟨rfl, ⟨rfl, ⟨rfl, ⟨rfl, ⟨rfl, ⟨rfl, trivial⟩⟩⟩⟩⟩⟩
  · refine sr_iloadn (pc := 79) (n := 3) (by decide +kernel) rfl ?_
    refine sr_iconst (pc := 80) (n := (-1)) (v := (-1)) (by decide +kernel) rfl ?_
    refine sr_icmp_eq (pc := 81) (off := 10) (tg := 91) (by decide +kernel) (by decide) (fun _ => ?_) (fun _ => ?_)
    · exact sr_wk (sr_mono (mc := 0) (ms := 0) (by omega) (by omega) (g10_bestToAsk_91 l a0 a1 k8 k104 hk8 hk104 x5 xs0 t)) ⟨rfl, ⟨rfl, ⟨rfl, ⟨rfl, ⟨rfl, trivial⟩⟩⟩⟩⟩
    · refine sr_iload (pc := 84) (i := 7) (by decide +kernel) rfl ?_
      refine sr_iload (pc := 86) (i := 4) (by decide +kernel) rfl ?_
      refine sr_icmp_ge (pc := 88) (off := 10) (tg := 98) (by decide +kernel) (by decide) (fun _ => ?_) (fun _ => ?_)
      · exact sr_wk (sr_mono (mc := 0) (ms := 0) (by omega) (by omega) (g10_bestToAsk_98 l a0 a1 k8 k104 hk8 hk104 x3 x4 x5 t)) ⟨rfl, ⟨rfl, ⟨rfl, ⟨rfl, ⟨rfl, ⟨rfl, trivial⟩⟩⟩⟩⟩⟩
      · exact sr_wk (sr_mono (mc := 0) (ms := 0) (by omega) (by omega) (g10_bestToAsk_91 l a0 a1 k8 k104 hk8 hk104 x5 xs0 t)) ⟨rfl, ⟨rfl, ⟨rfl, ⟨rfl, ⟨rfl, trivial⟩⟩⟩⟩⟩
def f10_bestToAsk_53 (a0 : Int32) (a1 : Int32) (k8 : Int32 → Int32 → Int32 → sr_t → sr_Rs) (k104 : Int32 → sr_t → sr_Rs) : Int32 → Int32 → Int32 → Int32 → sr_t → sr_Rs := fun x3 x4 x5 xs0 t => (if a1 = 0 then f10_bestToAsk_71 a0 a1 k8 k104 x3 x4 x5 xs0 xs0 t else f10_bestToAsk_71 a0 a1 k8 k104 x3 x4 x5 xs0 (t.1 8 1 13) t)
theorem g10_bestToAsk_53 (l : Launch) (a0 : Int32) (a1 : Int32)  (k8 : Int32 → Int32 → Int32 → sr_t → sr_Rs) (k104 : Int32 → sr_t → sr_Rs) (hk8 : ∀ (x3 : Int32) (x4 : Int32) (x5 : Int32), ∀ (t : sr_t), sr_g l sr_m10_bestToAsk 8 [some (sr_r 10 0), some (sr_i a0), some (sr_i a1), some (sr_i x3), some (sr_i x4), some (sr_i x5), none, none] [] t (k8 x3 x4 x5 t) 0 0) (hk104 : ∀ (x3 : Int32), ∀ (t : sr_t), sr_g l sr_m10_bestToAsk 104 [some (sr_r 10 0), some (sr_i a0), some (sr_i a1), some (sr_i x3), none, none, none, none] [] t (k104 x3 t) 0 0) : ∀ (x3 : Int32) (x4 : Int32) (x5 : Int32) (xs0 : Int32), ∀ (t : sr_t), sr_g l sr_m10_bestToAsk 53 [some (sr_r 10 0), some (sr_i a0), some (sr_i a1), some (sr_i x3), some (sr_i x4), some (sr_i x5), none, none] [sr_i xs0] t (f10_bestToAsk_53 a0 a1 k8 k104 x3 x4 x5 xs0 t) 0 0 := by
  intro x3 x4 x5 xs0  t
  unfold f10_bestToAsk_53
  refine sr_istore (pc := 53) (i := 6) (by decide +kernel) (by decide) rfl rfl ?_
  refine sr_iloadn (pc := 55) (n := 2) (by decide +kernel) rfl ?_
  refine sr_if_eq (pc := 56) (off := 13) (tg := 69) (by decide +kernel) (by decide) (fun _ => ?_) (fun _ => ?_)
  · refine sr_iload (pc := 69) (i := 6) (by decide +kernel) rfl ?_
    exact sr_wk (sr_mono (mc := 0) (ms := 0) (by omega) (by omega) (g10_bestToAsk_71 l a0 a1 k8 k104 hk8 hk104 x3 x4 x5 xs0 xs0 t)) ⟨rfl, ⟨rfl, ⟨rfl, ⟨rfl, ⟨rfl, ⟨rfl, ⟨rfl, trivial⟩⟩⟩⟩⟩⟩⟩
  · refine sr_aloadn (pc := 59) (n := 0) (by decide +kernel) rfl ?_
    refine sr_gC (pc := 60) (i2 := 1) fg_10_32 (by decide +kernel) (sr_in10 _ (by omega)) (fun _ => rfl) ?_
    refine sr_gI (pc := 63) fg_10_182 (by decide +kernel) (sr_in8 _ (by omega)) (fun _ => rfl) ?_
    refine sr_goto (pc := 66) (off := 5) (tg := 71) (by decide +kernel) (by decide) ?_
    exact sr_wk (sr_mono (mc := 0) (ms := 0) (by omega) (by omega) (g10_bestToAsk_71 l a0 a1 k8 k104 hk8 hk104 x3 x4 x5 xs0 (t.1 8 1 13) t)) ⟨rfl, ⟨rfl, ⟨rfl, ⟨rfl, ⟨rfl, ⟨rfl, ⟨rfl, trivial⟩⟩⟩⟩⟩⟩⟩
def f10_bestToAsk_8 (a0 : Int32) (a1 : Int32) (k104 : Int32 → sr_t → sr_Rs) : Nat → Int32 → Int32 → Int32 → sr_t → sr_Rs
  | 0 => fun _ _ _ _ => none
  | n + 1 => fun x3 x4 x5 t => (if (t.1 3 0 3) ≤ x5 then k104 x3 t else (sr_bR 2 50 (F3_of 0 x5 t) (fun n1 t1 => (if (t1.1 2 n1 2) = 0 then f10_bestToAsk_53 a0 a1 (f10_bestToAsk_8 a0 a1 k104 n) k104 x3 x4 x5 ((-1)) t1 else (sr_bR 2 50 (F3_of 0 x5 t1) (fun n2 t2 => (sr_bI (F10_hopsIfRight n2 a0 t2) (fun v3 t3 => f10_bestToAsk_53 a0 a1 (f10_bestToAsk_8 a0 a1 k104 n) k104 x3 x4 x5 v3 t3))))))))
theorem g10_bestToAsk_8 (l : Launch) (a0 : Int32) (a1 : Int32)  (k104 : Int32 → sr_t → sr_Rs) (hk104 : ∀ (x3 : Int32), ∀ (t : sr_t), sr_g l sr_m10_bestToAsk 104 [some (sr_r 10 0), some (sr_i a0), some (sr_i a1), some (sr_i x3), none, none, none, none] [] t (k104 x3 t) 0 0) : ∀ (n : Nat) (x3 : Int32) (x4 : Int32) (x5 : Int32), ∀ (t : sr_t), sr_g l sr_m10_bestToAsk 8 [some (sr_r 10 0), some (sr_i a0), some (sr_i a1), some (sr_i x3), some (sr_i x4), some (sr_i x5), none, none] [] t (f10_bestToAsk_8 a0 a1 k104 n x3 x4 x5 t) 0 0 := by
  intro n
  induction n with
  | zero => intros; exact sr_Gn
  | succ n ih =>
    intro x3 x4 x5  t
    unfold f10_bestToAsk_8
    refine sr_iload (pc := 8) (i := 5) (by decide +kernel) rfl ?_
    refine sr_aloadn (pc := 10) (n := 0) (by decide +kernel) rfl ?_
    refine sr_gC (pc := 11) (i2 := 0) fg_10_12 (by decide +kernel) (sr_in10 _ (by omega)) (fun _ => rfl) ?_
    refine sr_gI (pc := 14) fg_10_62 (by decide +kernel) (sr_in3 _ (by omega)) (fun _ => rfl) ?_
    refine sr_icmp_ge (pc := 17) (off := 87) (tg := 104) (by decide +kernel) (by decide) (fun _ => ?_) (fun _ => ?_)
    · exact sr_wk (sr_mono (mc := 0) (ms := 0) (by omega) (by omega) (hk104 x3 t)) ⟨rfl, ⟨rfl, ⟨rfl, ⟨rfl, trivial⟩⟩⟩⟩
    · refine sr_aloadn (pc := 20) (n := 0) (by decide +kernel) rfl ?_
      refine sr_gC (pc := 21) (i2 := 0) fg_10_12 (by decide +kernel) (sr_in10 _ (by omega)) (fun _ => rfl) ?_
      refine sr_iload (pc := 24) (i := 5) (by decide +kernel) rfl ?_
      refine sr_cV (pc := 26) (As := [sr_i x5]) (mc1 := 0) (ms1 := 0) (mc2 := 0) (ms2 := 0) fm_10_87 fl_10_87 (by decide +kernel) (sr_in3 _ (by omega)) (rm_10_bestToAsk_3_of) rfl rfl rfl (C3_of l 0 x5 (by omega) t) ?_
      refine sr_kR (fun n1 t1 hv_n1 => ?_)
      refine sr_gI (pc := 29) fg_10_98 (by decide +kernel) (sr_in2 _ (by omega)) (fun _ => rfl) ?_
      refine sr_if_eq (pc := 32) (off := 20) (tg := 52) (by decide +kernel) (by decide) (fun _ => ?_) (fun _ => ?_)
      · refine sr_iconst (pc := 52) (n := (-1)) (v := (-1)) (by decide +kernel) rfl ?_
        exact sr_wk (sr_mono (mc := 0) (ms := 0) (by omega) (by omega) (g10_bestToAsk_53 l a0 a1 (f10_bestToAsk_8 a0 a1 k104 n) k104 ih hk104 x3 x4 x5 ((-1)) t1)) ⟨rfl, ⟨rfl, ⟨rfl, ⟨rfl, ⟨rfl, ⟨rfl, trivial⟩⟩⟩⟩⟩⟩
      · refine sr_aloadn (pc := 35) (n := 0) (by decide +kernel) rfl ?_
        refine sr_aloadn (pc := 36) (n := 0) (by decide +kernel) rfl ?_
        refine sr_gC (pc := 37) (i2 := 0) fg_10_12 (by decide +kernel) (sr_in10 _ (by omega)) (fun _ => rfl) ?_
        refine sr_iload (pc := 40) (i := 5) (by decide +kernel) rfl ?_
        refine sr_cV (pc := 42) (As := [sr_i x5]) (mc1 := 0) (ms1 := 0) (mc2 := 0) (ms2 := 0) fm_10_87 fl_10_87 (by decide +kernel) (sr_in3 _ (by omega)) (rm_10_bestToAsk_3_of) rfl rfl rfl (C3_of l 0 x5 (by omega) t1) ?_
        refine sr_kR (fun n2 t2 hv_n2 => ?_)
        refine sr_iloadn (pc := 45) (n := 1) (by decide +kernel) rfl ?_
        refine sr_cV (pc := 46) (As := [sr_r 2 n2, sr_i a0]) (mc1 := 0) (ms1 := 0) (mc2 := 0) (ms2 := 0) fm_10_269 fl_10_269 (by decide +kernel) (sr_in10 _ (by omega)) (rm_10_bestToAsk_10_hopsIfRight) rfl rfl rfl (C10_hopsIfRight l n2 a0 (by omega) t2) ?_
        refine sr_kI (fun v3 t3 => ?_)
        refine sr_goto (pc := 49) (off := 4) (tg := 53) (by decide +kernel) (by decide) ?_
        exact sr_wk (sr_mono (mc := 0) (ms := 0) (by omega) (by omega) (g10_bestToAsk_53 l a0 a1 (f10_bestToAsk_8 a0 a1 k104 n) k104 ih hk104 x3 x4 x5 v3 t3)) ⟨rfl, ⟨rfl, ⟨rfl, ⟨rfl, ⟨rfl, ⟨rfl, trivial⟩⟩⟩⟩⟩⟩
def f10_bestToAsk_104 (a0 : Int32) (a1 : Int32)  : Int32 → sr_t → sr_Rs := fun x3 t => (some (.inl (some (sr_i x3)), t))
theorem g10_bestToAsk_104 (l : Launch) (a0 : Int32) (a1 : Int32)    : ∀ (x3 : Int32), ∀ (t : sr_t), sr_g l sr_m10_bestToAsk 104 [some (sr_r 10 0), some (sr_i a0), some (sr_i a1), some (sr_i x3), none, none, none, none] [] t (f10_bestToAsk_104 a0 a1  x3 t) 0 0 := by
  intro x3  t
  unfold f10_bestToAsk_104
  refine sr_iloadn (pc := 104) (n := 3) (by decide +kernel) rfl ?_
  exact sr_iret (pc := 105) (by decide +kernel) rfl
def F10_bestToAsk (a0 : Int32) (a1 : Int32) (t : sr_t) : sr_Rs := f10_bestToAsk_8 a0 a1 (f10_bestToAsk_104 a0 a1) sr_fu ((-1)) 0 0 t
theorem C10_bestToAsk (l : Launch) (a0 : Int32) (a1 : Int32)  (t : sr_t) : sr_ct' l sr_m10_bestToAsk [sr_r 10 0, sr_i a0, sr_i a1] t (F10_bestToAsk a0 a1 t) 0 0 := by
  refine sr_T_of (L0 := [some (sr_r 10 0), some (sr_i a0), some (sr_i a1), none, none, none, none, none]) rfl (by decide +kernel) (fun _ => rfl) (fun _ => Nat.le_of_ble_eq_true rfl) ?_
  unfold F10_bestToAsk
  refine sr_iconst (pc := 0) (n := (-1)) (v := (-1)) (by decide +kernel) rfl ?_
  refine sr_istoren (pc := 1) (n := 3) (by decide +kernel) (by decide) rfl rfl ?_
  refine sr_iconst (pc := 2) (n := 0) (v := 0) (by decide +kernel) rfl ?_
  refine sr_istore (pc := 3) (i := 4) (by decide +kernel) (by decide) rfl rfl ?_
  refine sr_iconst (pc := 5) (n := 0) (v := 0) (by decide +kernel) rfl ?_
  refine sr_istore (pc := 6) (i := 5) (by decide +kernel) (by decide) rfl rfl ?_
  exact sr_wk (sr_mono (mc := 0) (ms := 0) (by omega) (by omega) (g10_bestToAsk_8 l a0 a1 (f10_bestToAsk_104 a0 a1) (g10_bestToAsk_104 l a0 a1) sr_fu ((-1)) 0 0 t)) ⟨rfl, ⟨rfl, ⟨rfl, ⟨rfl, ⟨rfl, ⟨rfl, trivial⟩⟩⟩⟩⟩⟩
def F10_nearest (a0 : Int32) (t : sr_t) : sr_Rs := (sr_bV (F10_needPlace a0 t) (fun t1 => (sr_bI (F10_bestToAsk a0 0 t1) (fun v2 t2 => (some (.inl (some (sr_i v2)), t2))))))
theorem C10_nearest (l : Launch) (a0 : Int32)  (t : sr_t) : sr_ct' l sr_m10_nearest [sr_r 10 0, sr_i a0] t (F10_nearest a0 t) 1 6 := by
  refine sr_T_of (L0 := [some (sr_r 10 0), some (sr_i a0)]) rfl (by decide +kernel) (fun _ => rfl) (fun _ => Nat.le_of_ble_eq_true rfl) ?_
  unfold F10_nearest
  refine sr_iloadn (pc := 0) (n := 1) (by decide +kernel) rfl ?_
  refine sr_cS (pc := 1) (As := [sr_i a0]) (mc1 := 1) (ms1 := 6) (mc2 := 0) (ms2 := 0) fm_10_58 fl_10_58 (by decide +kernel) (rm_10_nearest_10_needPlace) rfl rfl rfl (C10_needPlace l a0 t) ?_
  refine sr_kV (fun t1 => ?_)
  refine sr_aloadn (pc := 4) (n := 0) (by decide +kernel) rfl ?_
  refine sr_iloadn (pc := 5) (n := 1) (by decide +kernel) rfl ?_
  refine sr_iconst (pc := 6) (n := 0) (v := 0) (by decide +kernel) rfl ?_
  refine sr_cV (pc := 7) (As := [sr_i a0, sr_i 0]) (mc1 := 0) (ms1 := 0) (mc2 := 0) (ms2 := 0) fm_10_272 fl_10_272 (by decide +kernel) (sr_in10 _ (by omega)) (rm_10_nearest_10_bestToAsk) rfl rfl rfl (C10_bestToAsk l a0 0 t1) ?_
  refine sr_kI (fun v2 t2 => ?_)
  exact sr_iret (pc := 10) (by decide +kernel) rfl
