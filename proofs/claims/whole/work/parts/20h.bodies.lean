def f10_worst_53 (a0 : Int32) (k17 : Int32 → Int32 → Int32 → sr_t → sr_Rs) (k59 : Int32 → sr_t → sr_Rs) : Int32 → Int32 → Int32 → sr_t → sr_Rs := fun x2 x3 x4 t => k17 x2 x3 (x4 + 64) t
theorem g10_worst_53 (l : Launch) (a0 : Int32)  (k17 : Int32 → Int32 → Int32 → sr_t → sr_Rs) (k59 : Int32 → sr_t → sr_Rs) (hk17 : ∀ (x2 : Int32) (x3 : Int32) (x4 : Int32), ∀ (t : sr_t), sr_g l sr_m10_worst 17 [some (sr_r 10 0), some (sr_i a0), some (sr_i x2), some (sr_i x3), some (sr_i x4), none] [] t (k17 x2 x3 x4 t) 0 0) (hk59 : ∀ (x2 : Int32), ∀ (t : sr_t), sr_g l sr_m10_worst 59 [some (sr_r 10 0), some (sr_i a0), some (sr_i x2), none, none, none] [] t (k59 x2 t) 0 0) : ∀ (x2 : Int32) (x3 : Int32) (x4 : Int32), ∀ (t : sr_t), sr_g l sr_m10_worst 53 [some (sr_r 10 0), some (sr_i a0), some (sr_i x2), some (sr_i x3), some (sr_i x4), none] [] t (f10_worst_53 a0 k17 k59 x2 x3 x4 t) 0 0 := by
  intro x2 x3 x4  t
  unfold f10_worst_53
  refine sr_iinc (pc := 53) (i := 4) (n := 64) (w := x4 + 64) (by decide +kernel) rfl rfl (by decide) rfl rfl ?_
  refine sr_goto (pc := 56) (off := (-39)) (tg := 17) (by decide +kernel) (by decide) ?_
  exact sr_wk (sr_mono (mc := 0) (ms := 0) (by omega) (by omega) (hk17 x2 x3 (x4 + 64) t)) ⟨rfl, ⟨rfl, ⟨rfl, ⟨rfl, ⟨rfl, trivial⟩⟩⟩⟩⟩
def f10_worst_17 (a0 : Int32) (k59 : Int32 → sr_t → sr_Rs) : Nat → Int32 → Int32 → Int32 → sr_t → sr_Rs
  | 0 => fun _ _ _ _ => none
  | n + 1 => fun x2 x3 x4 t => (if 4096 ≤ x4 then k59 x2 t else (sr_bR 2 50 (F3_of 0 a0 t) (fun n1 t1 => (sr_bI (F10_hopsIfRight n1 x4 t1) (fun v2 t2 => (if v2 ≤ x3 then f10_worst_53 a0 (f10_worst_17 a0 k59 n) k59 x2 x3 x4 t2 else f10_worst_53 a0 (f10_worst_17 a0 k59 n) k59 x4 v2 x4 t2))))))
theorem g10_worst_17 (l : Launch) (a0 : Int32)  (k59 : Int32 → sr_t → sr_Rs) (hk59 : ∀ (x2 : Int32), ∀ (t : sr_t), sr_g l sr_m10_worst 59 [some (sr_r 10 0), some (sr_i a0), some (sr_i x2), none, none, none] [] t (k59 x2 t) 0 0) : ∀ (n : Nat) (x2 : Int32) (x3 : Int32) (x4 : Int32), ∀ (t : sr_t), sr_g l sr_m10_worst 17 [some (sr_r 10 0), some (sr_i a0), some (sr_i x2), some (sr_i x3), some (sr_i x4), none] [] t (f10_worst_17 a0 k59 n x2 x3 x4 t) 0 0 := by
  intro n
  induction n with
  | zero => intros; exact sr_Gn
  | succ n ih =>
    intro x2 x3 x4  t
    unfold f10_worst_17
    refine sr_iload (pc := 17) (i := 4) (by decide +kernel) rfl ?_
    refine sr_sipush (pc := 19) (n := 4096) (v := 4096) (by decide +kernel) (by decide) ?_
    refine sr_icmp_ge (pc := 22) (off := 37) (tg := 59) (by decide +kernel) (by decide) (fun _ => ?_) (fun _ => ?_)
    · exact sr_wk (sr_mono (mc := 0) (ms := 0) (by omega) (by omega) (hk59 x2 t)) ⟨rfl, ⟨rfl, ⟨rfl, trivial⟩⟩⟩
    · refine sr_aloadn (pc := 25) (n := 0) (by decide +kernel) rfl ?_
      refine sr_aloadn (pc := 26) (n := 0) (by decide +kernel) rfl ?_
      refine sr_gC (pc := 27) (i2 := 0) fg_10_12 (by decide +kernel) (sr_in10 _ (by omega)) (fun _ => rfl) ?_
      refine sr_iloadn (pc := 30) (n := 1) (by decide +kernel) rfl ?_
      refine sr_cV (pc := 31) (As := [sr_i a0]) (mc1 := 0) (ms1 := 0) (mc2 := 0) (ms2 := 0) fm_10_87 fl_10_87 (by decide +kernel) (sr_in3 _ (by omega)) (rm_10_worst_3_of) rfl rfl rfl (C3_of l 0 a0 (by omega) t) ?_
      refine sr_kR (fun n1 t1 hv_n1 => ?_)
      refine sr_iload (pc := 34) (i := 4) (by decide +kernel) rfl ?_
      refine sr_cV (pc := 36) (As := [sr_r 2 n1, sr_i x4]) (mc1 := 0) (ms1 := 0) (mc2 := 0) (ms2 := 0) fm_10_269 fl_10_269 (by decide +kernel) (sr_in10 _ (by omega)) (rm_10_worst_10_hopsIfRight) rfl rfl rfl (C10_hopsIfRight l n1 x4 (by omega) t1) ?_
      refine sr_kI (fun v2 t2 => ?_)
      refine sr_istore (pc := 39) (i := 5) (by decide +kernel) (by decide) rfl rfl ?_
      refine sr_iload (pc := 41) (i := 5) (by decide +kernel) rfl ?_
      refine sr_iloadn (pc := 43) (n := 3) (by decide +kernel) rfl ?_
      refine sr_icmp_le (pc := 44) (off := 9) (tg := 53) (by decide +kernel) (by decide) (fun _ => ?_) (fun _ => ?_)
      · exact sr_wk (sr_mono (mc := 0) (ms := 0) (by omega) (by omega) (g10_worst_53 l a0 (f10_worst_17 a0 k59 n) k59 ih hk59 x2 x3 x4 t2)) ⟨rfl, ⟨rfl, ⟨rfl, ⟨rfl, ⟨rfl, trivial⟩⟩⟩⟩⟩
      · refine sr_iload (pc := 47) (i := 5) (by decide +kernel) rfl ?_
        refine sr_istoren (pc := 49) (n := 3) (by decide +kernel) (by decide) rfl rfl ?_
        refine sr_iload (pc := 50) (i := 4) (by decide +kernel) rfl ?_
        refine sr_istoren (pc := 52) (n := 2) (by decide +kernel) (by decide) rfl rfl ?_
        exact sr_wk (sr_mono (mc := 0) (ms := 0) (by omega) (by omega) (g10_worst_53 l a0 (f10_worst_17 a0 k59 n) k59 ih hk59 x4 v2 x4 t2)) ⟨rfl, ⟨rfl, ⟨rfl, ⟨rfl, ⟨rfl, trivial⟩⟩⟩⟩⟩
def f10_worst_59 (a0 : Int32)  : Int32 → sr_t → sr_Rs := fun x2 t => (some (.inl (some (sr_i x2)), t))
theorem g10_worst_59 (l : Launch) (a0 : Int32)    : ∀ (x2 : Int32), ∀ (t : sr_t), sr_g l sr_m10_worst 59 [some (sr_r 10 0), some (sr_i a0), some (sr_i x2), none, none, none] [] t (f10_worst_59 a0  x2 t) 0 0 := by
  intro x2  t
  unfold f10_worst_59
  refine sr_iloadn (pc := 59) (n := 2) (by decide +kernel) rfl ?_
  exact sr_iret (pc := 60) (by decide +kernel) rfl
def F10_worst (a0 : Int32) (t : sr_t) : sr_Rs := (sr_bV (F10_needNode a0 t) (fun t1 => (sr_bV (F10_needUp a0 t1) (fun t2 => f10_worst_17 a0 (f10_worst_59 a0) sr_fu ((-1)) ((-1)) 0 t2))))
theorem C10_worst (l : Launch) (a0 : Int32)  (t : sr_t) : sr_ct' l sr_m10_worst [sr_r 10 0, sr_i a0] t (F10_worst a0 t) 2 12 := by
  refine sr_T_of (L0 := [some (sr_r 10 0), some (sr_i a0), none, none, none, none]) rfl (by decide +kernel) (fun _ => rfl) (fun _ => Nat.le_of_ble_eq_true rfl) ?_
  unfold F10_worst
  refine sr_aloadn (pc := 0) (n := 0) (by decide +kernel) rfl ?_
  refine sr_iloadn (pc := 1) (n := 1) (by decide +kernel) rfl ?_
  refine sr_cV (pc := 2) (As := [sr_i a0]) (mc1 := 1) (ms1 := 6) (mc2 := 1) (ms2 := 6) fm_10_81 fl_10_81 (by decide +kernel) (sr_in10 _ (by omega)) (rm_10_worst_10_needNode) rfl rfl rfl (C10_needNode l a0 t) ?_
  refine sr_kV (fun t1 => ?_)
  refine sr_aloadn (pc := 5) (n := 0) (by decide +kernel) rfl ?_
  refine sr_iloadn (pc := 6) (n := 1) (by decide +kernel) rfl ?_
  refine sr_cV (pc := 7) (As := [sr_i a0]) (mc1 := 1) (ms1 := 6) (mc2 := 0) (ms2 := 0) fm_10_84 fl_10_84 (by decide +kernel) (sr_in10 _ (by omega)) (rm_10_worst_10_needUp) rfl rfl rfl (C10_needUp l a0 t1) ?_
  refine sr_kV (fun t2 => ?_)
  refine sr_iconst (pc := 10) (n := (-1)) (v := (-1)) (by decide +kernel) rfl ?_
  refine sr_istoren (pc := 11) (n := 2) (by decide +kernel) (by decide) rfl rfl ?_
  refine sr_iconst (pc := 12) (n := (-1)) (v := (-1)) (by decide +kernel) rfl ?_
  refine sr_istoren (pc := 13) (n := 3) (by decide +kernel) (by decide) rfl rfl ?_
  refine sr_iconst (pc := 14) (n := 0) (v := 0) (by decide +kernel) rfl ?_
  refine sr_istore (pc := 15) (i := 4) (by decide +kernel) (by decide) rfl rfl ?_
  exact sr_wk (sr_mono (mc := 0) (ms := 0) (by omega) (by omega) (g10_worst_17 l a0 (f10_worst_59 a0) (g10_worst_59 l a0) sr_fu ((-1)) ((-1)) 0 t2)) ⟨rfl, ⟨rfl, ⟨rfl, ⟨rfl, ⟨rfl, trivial⟩⟩⟩⟩⟩
def sr_m10_traffic : sr_M := (⟨"ShiftRing", "traffic", "(I)I"⟩, prog_1_method_34_code, 2, (some .int), [], 7, 122)
theorem rm_10_traffic_10_needNode : sr_RM sr_m10_traffic sr_m10_needNode := ⟨Nat.le_of_ble_eq_true rfl, Nat.le_of_ble_eq_true rfl⟩
theorem rm_10_traffic_10_needUp : sr_RM sr_m10_traffic sr_m10_needUp := ⟨Nat.le_of_ble_eq_true rfl, Nat.le_of_ble_eq_true rfl⟩
theorem rm_10_traffic_5_run : sr_RM sr_m10_traffic sr_m5_run := ⟨Nat.le_of_ble_eq_true rfl, Nat.le_of_ble_eq_true rfl⟩
theorem rm_10_traffic_5_visitsOf : sr_RM sr_m10_traffic sr_m5_visitsOf := ⟨Nat.le_of_ble_eq_true rfl, Nat.le_of_ble_eq_true rfl⟩
def F10_traffic (a0 : Int32) (t : sr_t) : sr_Rs := (sr_bV (F10_needNode a0 t) (fun t1 => (sr_bV (F10_needUp a0 t1) (fun t2 => (sr_bV (F5_run 0 1 1 t2) (fun t3 => (sr_bI (F5_visitsOf a0 t3) (fun v4 t4 => (some (.inl (some (sr_i v4)), t4))))))))))
theorem C10_traffic (l : Launch) (a0 : Int32)  (t : sr_t) : sr_ct' l sr_m10_traffic [sr_r 10 0, sr_i a0] t (F10_traffic a0 t) 2 12 := by
  refine sr_T_of (L0 := [some (sr_r 10 0), some (sr_i a0)]) rfl (by decide +kernel) (fun _ => rfl) (fun _ => Nat.le_of_ble_eq_true rfl) ?_
  unfold F10_traffic
  refine sr_aloadn (pc := 0) (n := 0) (by decide +kernel) rfl ?_
  refine sr_iloadn (pc := 1) (n := 1) (by decide +kernel) rfl ?_
  refine sr_cV (pc := 2) (As := [sr_i a0]) (mc1 := 1) (ms1 := 6) (mc2 := 1) (ms2 := 6) fm_10_81 fl_10_81 (by decide +kernel) (sr_in10 _ (by omega)) (rm_10_traffic_10_needNode) rfl rfl rfl (C10_needNode l a0 t) ?_
  refine sr_kV (fun t1 => ?_)
  refine sr_aloadn (pc := 5) (n := 0) (by decide +kernel) rfl ?_
  refine sr_iloadn (pc := 6) (n := 1) (by decide +kernel) rfl ?_
  refine sr_cV (pc := 7) (As := [sr_i a0]) (mc1 := 1) (ms1 := 6) (mc2 := 0) (ms2 := 0) fm_10_84 fl_10_84 (by decide +kernel) (sr_in10 _ (by omega)) (rm_10_traffic_10_needUp) rfl rfl rfl (C10_needUp l a0 t1) ?_
  refine sr_kV (fun t2 => ?_)
  refine sr_aloadn (pc := 10) (n := 0) (by decide +kernel) rfl ?_
  refine sr_gC (pc := 11) (i2 := 0) fg_10_38 (by decide +kernel) (sr_in10 _ (by omega)) (fun _ => rfl) ?_
  refine sr_aloadn (pc := 14) (n := 0) (by decide +kernel) rfl ?_
  refine sr_gC (pc := 15) (i2 := 0) fg_10_12 (by decide +kernel) (sr_in10 _ (by omega)) (fun _ => rfl) ?_
  refine sr_iconst (pc := 18) (n := 1) (v := 1) (by decide +kernel) rfl ?_
  refine sr_iconst (pc := 19) (n := 1) (v := 1) (by decide +kernel) rfl ?_
  refine sr_cV (pc := 20) (As := [sr_r 3 0, sr_i 1, sr_i 1]) (mc1 := 0) (ms1 := 0) (mc2 := 0) (ms2 := 0) fm_10_285 fl_10_285 (by decide +kernel) (sr_in5 _ (by omega)) (rm_10_traffic_5_run) rfl rfl rfl (C5_run l 0 1 1 (by omega) t2) ?_
  refine sr_kV (fun t3 => ?_)
  refine sr_aloadn (pc := 23) (n := 0) (by decide +kernel) rfl ?_
  refine sr_gC (pc := 24) (i2 := 0) fg_10_38 (by decide +kernel) (sr_in10 _ (by omega)) (fun _ => rfl) ?_
  refine sr_iloadn (pc := 27) (n := 1) (by decide +kernel) rfl ?_
  refine sr_cV (pc := 28) (As := [sr_i a0]) (mc1 := 0) (ms1 := 0) (mc2 := 0) (ms2 := 0) fm_10_303 fl_10_303 (by decide +kernel) (sr_in5 _ (by omega)) (rm_10_traffic_5_visitsOf) rfl rfl rfl (C5_visitsOf l a0 t3) ?_
  refine sr_kI (fun v4 t4 => ?_)
  exact sr_iret (pc := 31) (by decide +kernel) rfl
def sr_m8_idealHops : sr_M := (⟨"ShiftRing$Trip", "idealHops", "(LShiftRing$Ring;LShiftRing$Node;I)I"⟩, prog_10_method_13_code, 7, (some .int), [], 3, 70)
def sr_m10_detour : sr_M := (⟨"ShiftRing", "detour", "(I)I"⟩, prog_1_method_28_code, 6, (some .int), [], 7, 118)
theorem fl_10_265 : Cond.methodLink "ShiftRing" 265 (sr_My sr_m8_idealHops) ∈ sr_TB := (sr_tb (n := 1214) (by decide +kernel) rfl)
theorem fm_10_265 : sr_FV "ShiftRing" 265 sr_m8_idealHops 8 3 := ⟨⟨rfl, sr_tb (n := 1217) (by decide +kernel) rfl, sr_tb (n := 8) (by decide +kernel) rfl, ⟨by decide, by decide, by decide +kernel⟩, Or.inl fl_10_265⟩, ⟨TX8, 17, rfl, rfl⟩, sr_tb (n := 1215) (by decide +kernel) rfl, sr_tb (n := 1216) (by decide +kernel) rfl⟩
theorem fl_8_191 : Cond.methodLink "ShiftRing$Trip" 191 (sr_My sr_m3_lastBackFrom) ∈ sr_TB := (sr_tb (n := 1218) (by decide +kernel) rfl)
theorem fm_8_191 : sr_FV "ShiftRing$Trip" 191 sr_m3_lastBackFrom 3 1 := ⟨⟨rfl, sr_tb (n := 465) (by decide +kernel) rfl, sr_tb (n := 2) (by decide +kernel) rfl, ⟨by decide, by decide, by decide +kernel⟩, Or.inl fl_8_191⟩, ⟨TX3, 9, rfl, rfl⟩, sr_tb (n := 463) (by decide +kernel) rfl, sr_tb (n := 464) (by decide +kernel) rfl⟩
theorem rm_10_detour_10_hopsIfRight : sr_RM sr_m10_detour sr_m10_hopsIfRight := ⟨Nat.le_of_ble_eq_true rfl, Nat.le_of_ble_eq_true rfl⟩
theorem rm_10_detour_10_needPlace : sr_RM sr_m10_detour sr_m10_needPlace := ⟨Nat.le_of_ble_eq_true rfl, Nat.le_of_ble_eq_true rfl⟩
theorem rm_10_detour_3_of : sr_RM sr_m10_detour sr_m3_of := ⟨Nat.le_of_ble_eq_true rfl, Nat.le_of_ble_eq_true rfl⟩
theorem rm_10_detour_8_idealHops : sr_RM sr_m10_detour sr_m8_idealHops := ⟨Nat.le_of_ble_eq_true rfl, Nat.le_of_ble_eq_true rfl⟩
theorem rm_8_idealHops_2_owns : sr_RM sr_m8_idealHops sr_m2_owns := ⟨Nat.le_of_ble_eq_true rfl, Nat.le_of_ble_eq_true rfl⟩
theorem rm_8_idealHops_3_lastBackFrom : sr_RM sr_m8_idealHops sr_m3_lastBackFrom := ⟨Nat.le_of_ble_eq_true rfl, Nat.le_of_ble_eq_true rfl⟩
theorem rm_8_idealHops_8_setOut : sr_RM sr_m8_idealHops sr_m8_setOut := ⟨Nat.le_of_ble_eq_true rfl, Nat.le_of_ble_eq_true rfl⟩
theorem rm_8_idealHops_8_shiftedOnce : sr_RM sr_m8_idealHops sr_m8_shiftedOnce := ⟨Nat.le_of_ble_eq_true rfl, Nat.le_of_ble_eq_true rfl⟩
def f8_idealHops_52 (i0 : Nat) (i1 : Nat) (i2 : Nat) (a2 : Int32) (k14 : Int32 → Nat → sr_t → sr_Rs) (k69 : Int32 → Nat → sr_t → sr_Rs) : Int32 → Nat → sr_t → sr_Rs := fun x4 j6 t => (sr_lt (sr_u t 8 i0 5 ((t.1 8 i0 5) - 1)) (fun t1 => k14 x4 j6 t1))
theorem g8_idealHops_52 (l : Launch) (i0 : Nat) (i1 : Nat) (i2 : Nat) (a2 : Int32) (hv_i0 : i0 < 3) (hv_i1 : i1 < 2) (hv_i2 : i2 < 50) (k14 : Int32 → Nat → sr_t → sr_Rs) (k69 : Int32 → Nat → sr_t → sr_Rs) (hk14 : ∀ (x4 : Int32) (j5 : Nat), j5 < 50 → ∀ (t : sr_t), sr_g l sr_m8_idealHops 14 [some (sr_r 8 i0), some (sr_r 3 i1), some (sr_r 2 i2), some (sr_i a2), some (sr_i x4), some (sr_r 2 j5), none] [] t (k14 x4 j5 t) 0 0) (hk69 : ∀ (x4 : Int32) (j5 : Nat), j5 < 50 → ∀ (t : sr_t), sr_g l sr_m8_idealHops 69 [some (sr_r 8 i0), some (sr_r 3 i1), some (sr_r 2 i2), some (sr_i a2), some (sr_i x4), some (sr_r 2 j5), none] [] t (k69 x4 j5 t) 0 0) : ∀ (x4 : Int32) (j6 : Nat), j6 < 50 → ∀ (t : sr_t), sr_g l sr_m8_idealHops 52 [some (sr_r 8 i0), some (sr_r 3 i1), some (sr_r 2 i2), some (sr_i a2), some (sr_i x4), none, some (sr_r 2 j6)] [] t (f8_idealHops_52 i0 i1 i2 a2 k14 k69 x4 j6 t) 0 0 := by
  intro x4 j6 hv_j6 t
  unfold f8_idealHops_52
  refine sr_aload (pc := 52) (i := 6) (by decide +kernel) rfl ?_
  refine sr_astore (pc := 54) (i := 5) (by decide +kernel) (by decide) rfl rfl ?_
  refine sr_aloadn (pc := 56) (n := 0) (by decide +kernel) rfl ?_
  refine sr_dup (pc := 57) (by decide +kernel) rfl ?_
  refine sr_gI (pc := 58) fg_8_100 (by decide +kernel) (sr_in8 _ (by omega)) (fun _ => rfl) ?_
  refine sr_iconst (pc := 61) (n := 1) (v := 1) (by decide +kernel) rfl ?_
  refine sr_isub (pc := 62) (by decide +kernel) ?_
  refine sr_pI (pc := 63) fg_8_100 ft_8_5 (by decide +kernel) (sr_in8 _ (by omega)) (fun _ => rfl) (fun t1 => ?_)
  refine sr_goto (pc := 66) (off := (-52)) (tg := 14) (by decide +kernel) (by decide) ?_
  exact sr_wk (sr_mono (mc := 0) (ms := 0) (by omega) (by omega) (hk14 x4 j6 (by omega) t1)) ⟨rfl, ⟨rfl, ⟨rfl, ⟨rfl, ⟨rfl, ⟨rfl, trivial⟩⟩⟩⟩⟩⟩
def f8_idealHops_14 (i0 : Nat) (i1 : Nat) (i2 : Nat) (a2 : Int32) (k69 : Int32 → Nat → sr_t → sr_Rs) : Nat → Int32 → Nat → sr_t → sr_Rs
  | 0 => fun _ _ _ => none
  | n + 1 => fun x4 j5 t => (if (t.1 8 i0 5) ≤ 0 then k69 x4 j5 t else (sr_bI (F8_shiftedOnce i0 t) (fun v1 t1 => (sr_lt (sr_u t1 8 i0 4 v1) (fun t2 => (sr_ck (t2.1 8 i0 0).toNatClampNeg 2 (fun n3 => (sr_bR 2 50 (F3_lastBackFrom n3 (t2.1 8 i0 4) t2) (fun n4 t4 => (if n4 = j5 then f8_idealHops_52 i0 i1 i2 a2 (f8_idealHops_14 i0 i1 i2 a2 k69 n) k69 x4 n4 t4 else f8_idealHops_52 i0 i1 i2 a2 (f8_idealHops_14 i0 i1 i2 a2 k69 n) k69 (x4 + 1) n4 t4))))))))))
theorem g8_idealHops_14 (l : Launch) (i0 : Nat) (i1 : Nat) (i2 : Nat) (a2 : Int32) (hv_i0 : i0 < 3) (hv_i1 : i1 < 2) (hv_i2 : i2 < 50) (k69 : Int32 → Nat → sr_t → sr_Rs) (hk69 : ∀ (x4 : Int32) (j5 : Nat), j5 < 50 → ∀ (t : sr_t), sr_g l sr_m8_idealHops 69 [some (sr_r 8 i0), some (sr_r 3 i1), some (sr_r 2 i2), some (sr_i a2), some (sr_i x4), some (sr_r 2 j5), none] [] t (k69 x4 j5 t) 0 0) : ∀ (n : Nat) (x4 : Int32) (j5 : Nat), j5 < 50 → ∀ (t : sr_t), sr_g l sr_m8_idealHops 14 [some (sr_r 8 i0), some (sr_r 3 i1), some (sr_r 2 i2), some (sr_i a2), some (sr_i x4), some (sr_r 2 j5), none] [] t (f8_idealHops_14 i0 i1 i2 a2 k69 n x4 j5 t) 0 0 := by
  intro n
  induction n with
  | zero => intros; exact sr_Gn
  | succ n ih =>
    intro x4 j5 hv_j5 t
    unfold f8_idealHops_14
    refine sr_aloadn (pc := 14) (n := 0) (by decide +kernel) rfl ?_
    refine sr_gI (pc := 15) fg_8_100 (by decide +kernel) (sr_in8 _ (by omega)) (fun _ => rfl) ?_
    refine sr_if_le (pc := 18) (off := 51) (tg := 69) (by decide +kernel) (by decide) (fun _ => ?_) (fun _ => ?_)
    · exact sr_wk (sr_mono (mc := 0) (ms := 0) (by omega) (by omega) (hk69 x4 j5 (by omega) t)) ⟨rfl, ⟨rfl, ⟨rfl, ⟨rfl, ⟨rfl, ⟨rfl, trivial⟩⟩⟩⟩⟩⟩
    · refine sr_aloadn (pc := 21) (n := 0) (by decide +kernel) rfl ?_
      refine sr_aloadn (pc := 22) (n := 0) (by decide +kernel) rfl ?_
      refine sr_cV (pc := 23) (As := []) (mc1 := 0) (ms1 := 0) (mc2 := 0) (ms2 := 0) fm_8_148 fl_8_148 (by decide +kernel) (sr_in8 _ (by omega)) (rm_8_idealHops_8_shiftedOnce) rfl rfl rfl (C8_shiftedOnce l i0 (by omega) t) ?_
      refine sr_kI (fun v1 t1 => ?_)
      refine sr_pI (pc := 26) fg_8_109 ft_8_4 (by decide +kernel) (sr_in8 _ (by omega)) (fun _ => rfl) (fun t2 => ?_)
      refine sr_aloadn (pc := 29) (n := 0) (by decide +kernel) rfl ?_
      refine sr_gR (pc := 30) (cnt := 2) fg_8_26 (by decide +kernel) (sr_in8 _ (by omega)) (fun _ => rfl) (fun n3 hv_n3 => ?_)
      refine sr_aloadn (pc := 33) (n := 0) (by decide +kernel) rfl ?_
      refine sr_gI (pc := 34) fg_8_109 (by decide +kernel) (sr_in8 _ (by omega)) (fun _ => rfl) ?_
      refine sr_cV (pc := 37) (As := [sr_i (t2.1 8 i0 4)]) (mc1 := 0) (ms1 := 0) (mc2 := 0) (ms2 := 0) fm_8_191 fl_8_191 (by decide +kernel) (sr_in3 _ (by omega)) (rm_8_idealHops_3_lastBackFrom) rfl rfl rfl (C3_lastBackFrom l n3 (t2.1 8 i0 4) (by omega) t2) ?_
      refine sr_kR (fun n4 t4 hv_n4 => ?_)
      refine sr_astore (pc := 40) (i := 6) (by decide +kernel) (by decide) rfl rfl ?_
      refine sr_aload (pc := 42) (i := 6) (by decide +kernel) rfl ?_
      refine sr_aload (pc := 44) (i := 5) (by decide +kernel) rfl ?_
      refine sr_acmp_eq (pc := 46) (off := 6) (tg := 52) (by decide +kernel) (by decide) (sr_in2 _ (by omega)) (sr_in2 _ (by omega)) (fun _ => ?_) (fun _ => ?_)
      · exact sr_wk (sr_mono (mc := 0) (ms := 0) (by omega) (by omega) (g8_idealHops_52 l i0 i1 i2 a2 hv_i0 hv_i1 hv_i2 (f8_idealHops_14 i0 i1 i2 a2 k69 n) k69 ih hk69 x4 n4 (by omega) t4)) ⟨rfl, ⟨rfl, ⟨rfl, ⟨rfl, ⟨rfl, ⟨rfl, trivial⟩⟩⟩⟩⟩⟩
      · refine sr_iinc (pc := 49) (i := 4) (n := 1) (w := x4 + 1) (by decide +kernel) rfl rfl (by decide) rfl rfl ?_
        exact sr_wk (sr_mono (mc := 0) (ms := 0) (by omega) (by omega) (g8_idealHops_52 l i0 i1 i2 a2 hv_i0 hv_i1 hv_i2 (f8_idealHops_14 i0 i1 i2 a2 k69 n) k69 ih hk69 (x4 + 1) n4 (by omega) t4)) ⟨rfl, ⟨rfl, ⟨rfl, ⟨rfl, ⟨rfl, ⟨rfl, trivial⟩⟩⟩⟩⟩⟩
def f8_idealHops_90 (i0 : Nat) (i1 : Nat) (i2 : Nat) (a2 : Int32)  : Int32 → sr_t → sr_Rs := fun xs0 t => (some (.inl (some (sr_i xs0)), t))
theorem g8_idealHops_90 (l : Launch) (i0 : Nat) (i1 : Nat) (i2 : Nat) (a2 : Int32) (hv_i0 : i0 < 3) (hv_i1 : i1 < 2) (hv_i2 : i2 < 50)   : ∀ (xs0 : Int32), ∀ (t : sr_t), sr_g l sr_m8_idealHops 90 [some (sr_r 8 i0), some (sr_r 3 i1), some (sr_r 2 i2), some (sr_i a2), none, none, none] [sr_i xs0] t (f8_idealHops_90 i0 i1 i2 a2  xs0 t) 0 0 := by
  intro xs0  t
  unfold f8_idealHops_90
  exact sr_iret (pc := 90) (by decide +kernel) rfl
def f8_idealHops_69 (i0 : Nat) (i1 : Nat) (i2 : Nat) (a2 : Int32)  : Int32 → Nat → sr_t → sr_Rs := fun x4 j5 t => (sr_bI (F2_owns j5 (t.1 8 i0 1) t) (fun v1 t1 => (if v1 = 0 then f8_idealHops_90 i0 i1 i2 a2 (x4 + 1) t1 else f8_idealHops_90 i0 i1 i2 a2 x4 t1)))
theorem g8_idealHops_69 (l : Launch) (i0 : Nat) (i1 : Nat) (i2 : Nat) (a2 : Int32) (hv_i0 : i0 < 3) (hv_i1 : i1 < 2) (hv_i2 : i2 < 50)   : ∀ (x4 : Int32) (j5 : Nat), j5 < 50 → ∀ (t : sr_t), sr_g l sr_m8_idealHops 69 [some (sr_r 8 i0), some (sr_r 3 i1), some (sr_r 2 i2), some (sr_i a2), some (sr_i x4), some (sr_r 2 j5), none] [] t (f8_idealHops_69 i0 i1 i2 a2  x4 j5 t) 0 0 := by
  intro x4 j5 hv_j5 t
  unfold f8_idealHops_69
  refine sr_aload (pc := 69) (i := 5) (by decide +kernel) rfl ?_
  refine sr_aloadn (pc := 71) (n := 0) (by decide +kernel) rfl ?_
  refine sr_gI (pc := 72) fg_8_57 (by decide +kernel) (sr_in8 _ (by omega)) (fun _ => rfl) ?_
  refine sr_cV (pc := 75) (As := [sr_i (t.1 8 i0 1)]) (mc1 := 0) (ms1 := 0) (mc2 := 0) (ms2 := 0) fm_8_60 fl_8_60 (by decide +kernel) (sr_in2 _ (by omega)) (rm_8_idealHops_2_owns) rfl rfl rfl (C2_owns l j5 (t.1 8 i0 1) (by omega) t) ?_
  refine sr_kI (fun v1 t1 => ?_)
  refine sr_if_eq (pc := 78) (off := 8) (tg := 86) (by decide +kernel) (by decide) (fun _ => ?_) (fun _ => ?_)
  · refine sr_iload (pc := 86) (i := 4) (by decide +kernel) rfl ?_
    refine sr_iconst (pc := 88) (n := 1) (v := 1) (by decide +kernel) rfl ?_
    refine sr_iadd (pc := 89) (by decide +kernel) ?_
    exact sr_wk (sr_mono (mc := 0) (ms := 0) (by omega) (by omega) (g8_idealHops_90 l i0 i1 i2 a2 hv_i0 hv_i1 hv_i2 (x4 + 1) t1)) ⟨rfl, ⟨rfl, ⟨rfl, ⟨rfl, trivial⟩⟩⟩⟩
  · refine sr_iload (pc := 81) (i := 4) (by decide +kernel) rfl ?_
    refine sr_goto (pc := 83) (off := 7) (tg := 90) (by decide +kernel) (by decide) ?_
    exact sr_wk (sr_mono (mc := 0) (ms := 0) (by omega) (by omega) (g8_idealHops_90 l i0 i1 i2 a2 hv_i0 hv_i1 hv_i2 x4 t1)) ⟨rfl, ⟨rfl, ⟨rfl, ⟨rfl, trivial⟩⟩⟩⟩
def F8_idealHops (i0 : Nat) (i1 : Nat) (i2 : Nat) (a2 : Int32) (t : sr_t) : sr_Rs := (sr_bV (F8_setOut i0 i1 i2 a2 1 t) (fun t1 => f8_idealHops_14 i0 i1 i2 a2 (f8_idealHops_69 i0 i1 i2 a2) sr_fu 0 i2 t1))
theorem C8_idealHops (l : Launch) (i0 : Nat) (i1 : Nat) (i2 : Nat) (a2 : Int32) (hv_i0 : i0 < 3) (hv_i1 : i1 < 2) (hv_i2 : i2 < 50) (t : sr_t) : sr_ct' l sr_m8_idealHops [sr_r 8 i0, sr_r 3 i1, sr_r 2 i2, sr_i a2] t (F8_idealHops i0 i1 i2 a2 t) 0 0 := by
  refine sr_T_of (L0 := [some (sr_r 8 i0), some (sr_r 3 i1), some (sr_r 2 i2), some (sr_i a2), none, none, none]) rfl (by decide +kernel) (fun _ => rfl) (fun _ => Nat.le_of_ble_eq_true rfl) ?_
  unfold F8_idealHops
  refine sr_aloadn (pc := 0) (n := 0) (by decide +kernel) rfl ?_
  refine sr_aloadn (pc := 1) (n := 1) (by decide +kernel) rfl ?_
  refine sr_aloadn (pc := 2) (n := 2) (by decide +kernel) rfl ?_
  refine sr_iloadn (pc := 3) (n := 3) (by decide +kernel) rfl ?_
  refine sr_iconst (pc := 4) (n := 1) (v := 1) (by decide +kernel) rfl ?_
  refine sr_cV (pc := 5) (As := [sr_r 3 i1, sr_r 2 i2, sr_i a2, sr_i 1]) (mc1 := 0) (ms1 := 0) (mc2 := 0) (ms2 := 0) fm_8_39 fl_8_39 (by decide +kernel) (sr_in8 _ (by omega)) (rm_8_idealHops_8_setOut) rfl rfl rfl (C8_setOut l i0 i1 i2 a2 1 (by omega) (by omega) (by omega) t) ?_
  refine sr_kV (fun t1 => ?_)
  refine sr_iconst (pc := 8) (n := 0) (v := 0) (by decide +kernel) rfl ?_
  refine sr_istore (pc := 9) (i := 4) (by decide +kernel) (by decide) rfl rfl ?_
  refine sr_aloadn (pc := 11) (n := 2) (by decide +kernel) rfl ?_
  refine sr_astore (pc := 12) (i := 5) (by decide +kernel) (by decide) rfl rfl ?_
  exact sr_wk (sr_mono (mc := 0) (ms := 0) (by omega) (by omega) (g8_idealHops_14 l i0 i1 i2 a2 hv_i0 hv_i1 hv_i2 (f8_idealHops_69 i0 i1 i2 a2) (g8_idealHops_69 l i0 i1 i2 a2 hv_i0 hv_i1 hv_i2) sr_fu 0 i2 (by omega) t1)) ⟨rfl, ⟨rfl, ⟨rfl, ⟨rfl, ⟨rfl, ⟨rfl, trivial⟩⟩⟩⟩⟩⟩
def f10_detour_76 (a0 : Int32) (k8 : Int32 → Int32 → sr_t → sr_Rs) (k82 : Int32 → sr_t → sr_Rs) : Int32 → Int32 → sr_t → sr_Rs := fun x2 x3 t => k8 x2 (x3 + 1) t
theorem g10_detour_76 (l : Launch) (a0 : Int32)  (k8 : Int32 → Int32 → sr_t → sr_Rs) (k82 : Int32 → sr_t → sr_Rs) (hk8 : ∀ (x2 : Int32) (x3 : Int32), ∀ (t : sr_t), sr_g l sr_m10_detour 8 [some (sr_r 10 0), some (sr_i a0), some (sr_i x2), some (sr_i x3), none, none] [] t (k8 x2 x3 t) 0 0) (hk82 : ∀ (x2 : Int32), ∀ (t : sr_t), sr_g l sr_m10_detour 82 [some (sr_r 10 0), some (sr_i a0), some (sr_i x2), none, none, none] [] t (k82 x2 t) 0 0) : ∀ (x2 : Int32) (x3 : Int32), ∀ (t : sr_t), sr_g l sr_m10_detour 76 [some (sr_r 10 0), some (sr_i a0), some (sr_i x2), some (sr_i x3), none, none] [] t (f10_detour_76 a0 k8 k82 x2 x3 t) 0 0 := by
  intro x2 x3  t
  unfold f10_detour_76
  refine sr_iinc (pc := 76) (i := 3) (n := 1) (w := x3 + 1) (by decide +kernel) rfl rfl (by decide) rfl rfl ?_
  refine sr_goto (pc := 79) (off := (-71)) (tg := 8) (by decide +kernel) (by decide) ?_
  exact sr_wk (sr_mono (mc := 0) (ms := 0) (by omega) (by omega) (hk8 x2 (x3 + 1) t)) ⟨rfl, ⟨rfl, ⟨rfl, ⟨rfl, trivial⟩⟩⟩⟩
def f10_detour_48 (a0 : Int32) (k8 : Int32 → Int32 → sr_t → sr_Rs) (k82 : Int32 → sr_t → sr_Rs) : Int32 → Int32 → Nat → Int32 → sr_t → sr_Rs := fun x2 x3 j4 xs0 t => (if xs0 = ((-1)) then f10_detour_76 a0 k8 k82 x2 x3 t else (sr_bI (F8_idealHops 1 0 j4 a0 t) (fun v1 t1 => f10_detour_76 a0 k8 k82 (x2 + (xs0 - v1)) x3 t1)))
theorem g10_detour_48 (l : Launch) (a0 : Int32)  (k8 : Int32 → Int32 → sr_t → sr_Rs) (k82 : Int32 → sr_t → sr_Rs) (hk8 : ∀ (x2 : Int32) (x3 : Int32), ∀ (t : sr_t), sr_g l sr_m10_detour 8 [some (sr_r 10 0), some (sr_i a0), some (sr_i x2), some (sr_i x3), none, none] [] t (k8 x2 x3 t) 0 0) (hk82 : ∀ (x2 : Int32), ∀ (t : sr_t), sr_g l sr_m10_detour 82 [some (sr_r 10 0), some (sr_i a0), some (sr_i x2), none, none, none] [] t (k82 x2 t) 0 0) : ∀ (x2 : Int32) (x3 : Int32) (j4 : Nat) (xs0 : Int32), j4 < 50 → ∀ (t : sr_t), sr_g l sr_m10_detour 48 [some (sr_r 10 0), some (sr_i a0), some (sr_i x2), some (sr_i x3), some (sr_r 2 j4), none] [sr_i xs0] t (f10_detour_48 a0 k8 k82 x2 x3 j4 xs0 t) 0 0 := by
  intro x2 x3 j4 xs0 hv_j4 t
  unfold f10_detour_48
  refine sr_istore (pc := 48) (i := 5) (by decide +kernel) (by decide) rfl rfl ?_
  refine sr_iload (pc := 50) (i := 5) (by decide +kernel) rfl ?_
  refine sr_iconst (pc := 52) (n := (-1)) (v := (-1)) (by decide +kernel) rfl ?_
  refine sr_icmp_eq (pc := 53) (off := 23) (tg := 76) (by decide +kernel) (by decide) (fun _ => ?_) (fun _ => ?_)
  · exact sr_wk (sr_mono (mc := 0) (ms := 0) (by omega) (by omega) (g10_detour_76 l a0 k8 k82 hk8 hk82 x2 x3 t)) ⟨rfl, ⟨rfl, ⟨rfl, ⟨rfl, trivial⟩⟩⟩⟩
  · refine sr_iloadn (pc := 56) (n := 2) (by decide +kernel) rfl ?_
    refine sr_iload (pc := 57) (i := 5) (by decide +kernel) rfl ?_
    refine sr_aloadn (pc := 59) (n := 0) (by decide +kernel) rfl ?_
    refine sr_gC (pc := 60) (i2 := 1) fg_10_32 (by decide +kernel) (sr_in10 _ (by omega)) (fun _ => rfl) ?_
    refine sr_aloadn (pc := 63) (n := 0) (by decide +kernel) rfl ?_
    refine sr_gC (pc := 64) (i2 := 0) fg_10_12 (by decide +kernel) (sr_in10 _ (by omega)) (fun _ => rfl) ?_
    refine sr_aload (pc := 67) (i := 4) (by decide +kernel) rfl ?_
    refine sr_iloadn (pc := 69) (n := 1) (by decide +kernel) rfl ?_
    refine sr_cV (pc := 70) (As := [sr_r 3 0, sr_r 2 j4, sr_i a0]) (mc1 := 0) (ms1 := 0) (mc2 := 0) (ms2 := 0) fm_10_265 fl_10_265 (by decide +kernel) (sr_in8 _ (by omega)) (rm_10_detour_8_idealHops) rfl rfl rfl (C8_idealHops l 1 0 j4 a0 (by omega) (by omega) (by omega) t) ?_
    refine sr_kI (fun v1 t1 => ?_)
    refine sr_isub (pc := 73) (by decide +kernel) ?_
    refine sr_iadd (pc := 74) (by decide +kernel) ?_
    refine sr_istoren (pc := 75) (n := 2) (by decide +kernel) (by decide) rfl rfl ?_
    exact sr_wk (sr_mono (mc := 0) (ms := 0) (by omega) (by omega) (g10_detour_76 l a0 k8 k82 hk8 hk82 (x2 + (xs0 - v1)) x3 t1)) ⟨rfl, ⟨rfl, ⟨rfl, ⟨rfl, trivial⟩⟩⟩⟩
def f10_detour_8 (a0 : Int32) (k82 : Int32 → sr_t → sr_Rs) : Nat → Int32 → Int32 → sr_t → sr_Rs
  | 0 => fun _ _ _ => none
  | n + 1 => fun x2 x3 t => (if (t.1 3 0 3) ≤ x3 then k82 x2 t else (sr_bR 2 50 (F3_of 0 x3 t) (fun n1 t1 => (if (t1.1 2 n1 2) = 0 then f10_detour_48 a0 (f10_detour_8 a0 k82 n) k82 x2 x3 n1 ((-1)) t1 else (sr_bI (F10_hopsIfRight n1 a0 t1) (fun v2 t2 => f10_detour_48 a0 (f10_detour_8 a0 k82 n) k82 x2 x3 n1 v2 t2))))))
theorem g10_detour_8 (l : Launch) (a0 : Int32)  (k82 : Int32 → sr_t → sr_Rs) (hk82 : ∀ (x2 : Int32), ∀ (t : sr_t), sr_g l sr_m10_detour 82 [some (sr_r 10 0), some (sr_i a0), some (sr_i x2), none, none, none] [] t (k82 x2 t) 0 0) : ∀ (n : Nat) (x2 : Int32) (x3 : Int32), ∀ (t : sr_t), sr_g l sr_m10_detour 8 [some (sr_r 10 0), some (sr_i a0), some (sr_i x2), some (sr_i x3), none, none] [] t (f10_detour_8 a0 k82 n x2 x3 t) 0 0 := by
  intro n
  induction n with
  | zero => intros; exact sr_Gn
  | succ n ih =>
    intro x2 x3  t
    unfold f10_detour_8
    refine sr_iloadn (pc := 8) (n := 3) (by decide +kernel) rfl ?_
    refine sr_aloadn (pc := 9) (n := 0) (by decide +kernel) rfl ?_
    refine sr_gC (pc := 10) (i2 := 0) fg_10_12 (by decide +kernel) (sr_in10 _ (by omega)) (fun _ => rfl) ?_
    refine sr_gI (pc := 13) fg_10_62 (by decide +kernel) (sr_in3 _ (by omega)) (fun _ => rfl) ?_
    refine sr_icmp_ge (pc := 16) (off := 66) (tg := 82) (by decide +kernel) (by decide) (fun _ => ?_) (fun _ => ?_)
    · exact sr_wk (sr_mono (mc := 0) (ms := 0) (by omega) (by omega) (hk82 x2 t)) ⟨rfl, ⟨rfl, ⟨rfl, trivial⟩⟩⟩
    · refine sr_aloadn (pc := 19) (n := 0) (by decide +kernel) rfl ?_
      refine sr_gC (pc := 20) (i2 := 0) fg_10_12 (by decide +kernel) (sr_in10 _ (by omega)) (fun _ => rfl) ?_
      refine sr_iloadn (pc := 23) (n := 3) (by decide +kernel) rfl ?_
      refine sr_cV (pc := 24) (As := [sr_i x3]) (mc1 := 0) (ms1 := 0) (mc2 := 0) (ms2 := 0) fm_10_87 fl_10_87 (by decide +kernel) (sr_in3 _ (by omega)) (rm_10_detour_3_of) rfl rfl rfl (C3_of l 0 x3 (by omega) t) ?_
      refine sr_kR (fun n1 t1 hv_n1 => ?_)
      refine sr_astore (pc := 27) (i := 4) (by decide +kernel) (by decide) rfl rfl ?_
      refine sr_aload (pc := 29) (i := 4) (by decide +kernel) rfl ?_
      refine sr_gI (pc := 31) fg_10_98 (by decide +kernel) (sr_in2 _ (by omega)) (fun _ => rfl) ?_
      refine sr_if_eq (pc := 34) (off := 13) (tg := 47) (by decide +kernel) (by decide) (fun _ => ?_) (fun _ => ?_)
      · refine sr_iconst (pc := 47) (n := (-1)) (v := (-1)) (by decide +kernel) rfl ?_
        exact sr_wk (sr_mono (mc := 0) (ms := 0) (by omega) (by omega) (g10_detour_48 l a0 (f10_detour_8 a0 k82 n) k82 ih hk82 x2 x3 n1 ((-1)) (by omega) t1)) ⟨rfl, ⟨rfl, ⟨rfl, ⟨rfl, ⟨rfl, trivial⟩⟩⟩⟩⟩
      · refine sr_aloadn (pc := 37) (n := 0) (by decide +kernel) rfl ?_
        refine sr_aload (pc := 38) (i := 4) (by decide +kernel) rfl ?_
        refine sr_iloadn (pc := 40) (n := 1) (by decide +kernel) rfl ?_
        refine sr_cV (pc := 41) (As := [sr_r 2 n1, sr_i a0]) (mc1 := 0) (ms1 := 0) (mc2 := 0) (ms2 := 0) fm_10_269 fl_10_269 (by decide +kernel) (sr_in10 _ (by omega)) (rm_10_detour_10_hopsIfRight) rfl rfl rfl (C10_hopsIfRight l n1 a0 (by omega) t1) ?_
        refine sr_kI (fun v2 t2 => ?_)
        refine sr_goto (pc := 44) (off := 4) (tg := 48) (by decide +kernel) (by decide) ?_
        exact sr_wk (sr_mono (mc := 0) (ms := 0) (by omega) (by omega) (g10_detour_48 l a0 (f10_detour_8 a0 k82 n) k82 ih hk82 x2 x3 n1 v2 (by omega) t2)) ⟨rfl, ⟨rfl, ⟨rfl, ⟨rfl, ⟨rfl, trivial⟩⟩⟩⟩⟩
def f10_detour_82 (a0 : Int32)  : Int32 → sr_t → sr_Rs := fun x2 t => (some (.inl (some (sr_i x2)), t))
theorem g10_detour_82 (l : Launch) (a0 : Int32)    : ∀ (x2 : Int32), ∀ (t : sr_t), sr_g l sr_m10_detour 82 [some (sr_r 10 0), some (sr_i a0), some (sr_i x2), none, none, none] [] t (f10_detour_82 a0  x2 t) 0 0 := by
  intro x2  t
  unfold f10_detour_82
  refine sr_iloadn (pc := 82) (n := 2) (by decide +kernel) rfl ?_
  exact sr_iret (pc := 83) (by decide +kernel) rfl
def F10_detour (a0 : Int32) (t : sr_t) : sr_Rs := (sr_bV (F10_needPlace a0 t) (fun t1 => f10_detour_8 a0 (f10_detour_82 a0) sr_fu 0 0 t1))
theorem C10_detour (l : Launch) (a0 : Int32)  (t : sr_t) : sr_ct' l sr_m10_detour [sr_r 10 0, sr_i a0] t (F10_detour a0 t) 1 6 := by
  refine sr_T_of (L0 := [some (sr_r 10 0), some (sr_i a0), none, none, none, none]) rfl (by decide +kernel) (fun _ => rfl) (fun _ => Nat.le_of_ble_eq_true rfl) ?_
  unfold F10_detour
  refine sr_iloadn (pc := 0) (n := 1) (by decide +kernel) rfl ?_
  refine sr_cS (pc := 1) (As := [sr_i a0]) (mc1 := 1) (ms1 := 6) (mc2 := 0) (ms2 := 0) fm_10_58 fl_10_58 (by decide +kernel) (rm_10_detour_10_needPlace) rfl rfl rfl (C10_needPlace l a0 t) ?_
  refine sr_kV (fun t1 => ?_)
  refine sr_iconst (pc := 4) (n := 0) (v := 0) (by decide +kernel) rfl ?_
  refine sr_istoren (pc := 5) (n := 2) (by decide +kernel) (by decide) rfl rfl ?_
  refine sr_iconst (pc := 6) (n := 0) (v := 0) (by decide +kernel) rfl ?_
  refine sr_istoren (pc := 7) (n := 3) (by decide +kernel) (by decide) rfl rfl ?_
  exact sr_wk (sr_mono (mc := 0) (ms := 0) (by omega) (by omega) (g10_detour_8 l a0 (f10_detour_82 a0) (g10_detour_82 l a0) sr_fu 0 0 t1)) ⟨rfl, ⟨rfl, ⟨rfl, ⟨rfl, trivial⟩⟩⟩⟩
def sr_m10_quickest : sr_M := (⟨"ShiftRing", "quickest", "(I)I"⟩, prog_1_method_27_code, 2, (some .int), [], 7, 145)
theorem rm_10_quickest_10_bestToAsk : sr_RM sr_m10_quickest sr_m10_bestToAsk := ⟨Nat.le_of_ble_eq_true rfl, Nat.le_of_ble_eq_true rfl⟩
theorem rm_10_quickest_10_needPlace : sr_RM sr_m10_quickest sr_m10_needPlace := ⟨Nat.le_of_ble_eq_true rfl, Nat.le_of_ble_eq_true rfl⟩
def F10_quickest (a0 : Int32) (t : sr_t) : sr_Rs := (sr_bV (F10_needPlace a0 t) (fun t1 => (sr_bI (F10_bestToAsk a0 1 t1) (fun v2 t2 => (some (.inl (some (sr_i v2)), t2))))))
theorem C10_quickest (l : Launch) (a0 : Int32)  (t : sr_t) : sr_ct' l sr_m10_quickest [sr_r 10 0, sr_i a0] t (F10_quickest a0 t) 1 6 := by
  refine sr_T_of (L0 := [some (sr_r 10 0), some (sr_i a0)]) rfl (by decide +kernel) (fun _ => rfl) (fun _ => Nat.le_of_ble_eq_true rfl) ?_
  unfold F10_quickest
  refine sr_iloadn (pc := 0) (n := 1) (by decide +kernel) rfl ?_
  refine sr_cS (pc := 1) (As := [sr_i a0]) (mc1 := 1) (ms1 := 6) (mc2 := 0) (ms2 := 0) fm_10_58 fl_10_58 (by decide +kernel) (rm_10_quickest_10_needPlace) rfl rfl rfl (C10_needPlace l a0 t) ?_
  refine sr_kV (fun t1 => ?_)
  refine sr_aloadn (pc := 4) (n := 0) (by decide +kernel) rfl ?_
  refine sr_iloadn (pc := 5) (n := 1) (by decide +kernel) rfl ?_
  refine sr_iconst (pc := 6) (n := 1) (v := 1) (by decide +kernel) rfl ?_
  refine sr_cV (pc := 7) (As := [sr_i a0, sr_i 1]) (mc1 := 0) (ms1 := 0) (mc2 := 0) (ms2 := 0) fm_10_272 fl_10_272 (by decide +kernel) (sr_in10 _ (by omega)) (rm_10_quickest_10_bestToAsk) rfl rfl rfl (C10_bestToAsk l a0 1 t1) ?_
  refine sr_kI (fun v2 t2 => ?_)
  exact sr_iret (pc := 10) (by decide +kernel) rfl
def sr_m5_crossingsOf : sr_M := (⟨"ShiftRing$Sample", "crossingsOf", "(II)I"⟩, prog_7_method_9_code, 4, (some .int), [], 1, 21)
def sr_m5_timeFromTo : sr_M := (⟨"ShiftRing$Sample", "timeFromTo", "(LShiftRing$Ring;II)I"⟩, prog_7_method_11_code, 7, (some .int), [], 2, 44)
def sr_m5_bestSpot : sr_M := (⟨"ShiftRing$Sample", "bestSpot", "(LShiftRing$Ring;I)I"⟩, prog_7_method_10_code, 7, (some .int), [], 3, 70)
def sr_m10_better : sr_M := (⟨"ShiftRing", "better", "(I)I"⟩, prog_1_method_35_code, 2, (some .int), [], 7, 122)
theorem fg_5_131 : sr_FG "ShiftRing$Sample" 131 2 3 8 := ⟨RX2, TX2, tyX2, rfl, by decide, rfl, uw_2, tyX2_ok, nmX2, Or.inr ⟨"ShiftRing", sr_nb (n := 108) (by decide +kernel) rfl⟩⟩
theorem fl_10_306 : Cond.methodLink "ShiftRing" 306 (sr_My sr_m5_bestSpot) ∈ sr_TB := (sr_tb (n := 1233) (by decide +kernel) rfl)
theorem fm_10_306 : sr_FV "ShiftRing" 306 sr_m5_bestSpot 5 2 := ⟨⟨rfl, sr_tb (n := 1236) (by decide +kernel) rfl, sr_tb (n := 9) (by decide +kernel) rfl, ⟨by decide, by decide, by decide +kernel⟩, Or.inl fl_10_306⟩, ⟨TX5, 11, rfl, rfl⟩, sr_tb (n := 1234) (by decide +kernel) rfl, sr_tb (n := 1235) (by decide +kernel) rfl⟩
theorem fl_5_124 : Cond.methodLink "ShiftRing$Sample" 124 (sr_My sr_m5_timeFromTo) ∈ sr_TB := (sr_tb (n := 1237) (by decide +kernel) rfl)
theorem fm_5_124 : sr_FV "ShiftRing$Sample" 124 sr_m5_timeFromTo 5 3 := ⟨⟨rfl, sr_tb (n := 1240) (by decide +kernel) rfl, sr_tb (n := 9) (by decide +kernel) rfl, ⟨by decide, by decide, by decide +kernel⟩, Or.inl fl_5_124⟩, ⟨TX5, 11, rfl, rfl⟩, sr_tb (n := 1239) (by decide +kernel) rfl, sr_ts (n := 35) (by decide +kernel) rfl⟩
theorem fl_5_128 : Cond.methodLink "ShiftRing$Sample" 128 (sr_My sr_m5_crossingsOf) ∈ sr_TB := (sr_tb (n := 1241) (by decide +kernel) rfl)
theorem fm_5_128 : sr_FV "ShiftRing$Sample" 128 sr_m5_crossingsOf 5 2 := ⟨⟨rfl, sr_tb (n := 1244) (by decide +kernel) rfl, sr_tb (n := 9) (by decide +kernel) rfl, ⟨by decide, by decide, by decide +kernel⟩, Or.inl fl_5_128⟩, ⟨TX5, 11, rfl, rfl⟩, sr_tb (n := 1243) (by decide +kernel) rfl, sr_ts (n := 36) (by decide +kernel) rfl⟩
theorem rm_10_better_10_needNode : sr_RM sr_m10_better sr_m10_needNode := ⟨Nat.le_of_ble_eq_true rfl, Nat.le_of_ble_eq_true rfl⟩
theorem rm_10_better_5_bestSpot : sr_RM sr_m10_better sr_m5_bestSpot := ⟨Nat.le_of_ble_eq_true rfl, Nat.le_of_ble_eq_true rfl⟩
theorem rm_10_better_5_run : sr_RM sr_m10_better sr_m5_run := ⟨Nat.le_of_ble_eq_true rfl, Nat.le_of_ble_eq_true rfl⟩
theorem rm_5_bestSpot_5_timeFromTo : sr_RM sr_m5_bestSpot sr_m5_timeFromTo := ⟨Nat.le_of_ble_eq_true rfl, Nat.le_of_ble_eq_true rfl⟩
theorem rm_5_crossingsOf_5_crossingOf : sr_RM sr_m5_crossingsOf sr_m5_crossingOf := ⟨Nat.le_of_ble_eq_true rfl, Nat.le_of_ble_eq_true rfl⟩
theorem rm_5_timeFromTo_3_of : sr_RM sr_m5_timeFromTo sr_m3_of := ⟨Nat.le_of_ble_eq_true rfl, Nat.le_of_ble_eq_true rfl⟩
theorem rm_5_timeFromTo_5_crossingsOf : sr_RM sr_m5_timeFromTo sr_m5_crossingsOf := ⟨Nat.le_of_ble_eq_true rfl, Nat.le_of_ble_eq_true rfl⟩
def f5_crossingsOf_29 (a0 : Int32) (a1 : Int32)  : Int32 → sr_t → sr_Rs := fun xs0 t => (some (.inl (some (sr_i xs0)), t))
theorem g5_crossingsOf_29 (l : Launch) (a0 : Int32) (a1 : Int32)    : ∀ (xs0 : Int32), ∀ (t : sr_t), sr_g l sr_m5_crossingsOf 29 [some (sr_r 5 0), some (sr_i a0), some (sr_i a1), none] [sr_i xs0] t (f5_crossingsOf_29 a0 a1  xs0 t) 0 0 := by
  intro xs0  t
  unfold f5_crossingsOf_29
  exact sr_iret (pc := 29) (by decide +kernel) rfl
def f5_crossingsOf_28 (a0 : Int32) (a1 : Int32)  : sr_t → sr_Rs := fun  t => f5_crossingsOf_29 a0 a1 0 t
theorem g5_crossingsOf_28 (l : Launch) (a0 : Int32) (a1 : Int32)    : ∀ (t : sr_t), sr_g l sr_m5_crossingsOf 28 [some (sr_r 5 0), some (sr_i a0), some (sr_i a1), none] [] t (f5_crossingsOf_28 a0 a1   t) 0 0 := by
  intro t
  unfold f5_crossingsOf_28
  refine sr_iconst (pc := 28) (n := 0) (v := 0) (by decide +kernel) rfl ?_
  exact sr_wk (sr_mono (mc := 0) (ms := 0) (by omega) (by omega) (g5_crossingsOf_29 l a0 a1 0 t)) ⟨rfl, ⟨rfl, ⟨rfl, trivial⟩⟩⟩
def F5_crossingsOf (a0 : Int32) (a1 : Int32) (t : sr_t) : sr_Rs := (sr_bI (F5_crossingOf a0 a1 t) (fun v1 t1 => (if v1 < 0 then f5_crossingsOf_28 a0 a1 t1 else (if 576 ≤ v1 then f5_crossingsOf_28 a0 a1 t1 else (if v1 < 0 ∨ 576 ≤ v1.toNatClampNeg then none else f5_crossingsOf_29 a0 a1 (t1.1 16 0 v1.toNatClampNeg) t1)))))
theorem C5_crossingsOf (l : Launch) (a0 : Int32) (a1 : Int32)  (t : sr_t) : sr_ct' l sr_m5_crossingsOf [sr_r 5 0, sr_i a0, sr_i a1] t (F5_crossingsOf a0 a1 t) 0 0 := by
  refine sr_T_of (L0 := [some (sr_r 5 0), some (sr_i a0), some (sr_i a1), none]) rfl (by decide +kernel) (fun _ => rfl) (fun _ => Nat.le_of_ble_eq_true rfl) ?_
  unfold F5_crossingsOf
  refine sr_iloadn (pc := 0) (n := 1) (by decide +kernel) rfl ?_
  refine sr_iloadn (pc := 1) (n := 2) (by decide +kernel) rfl ?_
  refine sr_cS (pc := 2) (As := [sr_i a0, sr_i a1]) (mc1 := 0) (ms1 := 0) (mc2 := 0) (ms2 := 0) fm_5_121 fl_5_121 (by decide +kernel) (rm_5_crossingsOf_5_crossingOf) rfl rfl rfl (C5_crossingOf l a0 a1 t) ?_
  refine sr_kI (fun v1 t1 => ?_)
  refine sr_istoren (pc := 5) (n := 3) (by decide +kernel) (by decide) rfl rfl ?_
  refine sr_iloadn (pc := 6) (n := 3) (by decide +kernel) rfl ?_
  refine sr_if_lt (pc := 7) (off := 21) (tg := 28) (by decide +kernel) (by decide) (fun _ => ?_) (fun _ => ?_)
  · exact sr_wk (sr_mono (mc := 0) (ms := 0) (by omega) (by omega) (g5_crossingsOf_28 l a0 a1 t1)) ⟨rfl, ⟨rfl, ⟨rfl, trivial⟩⟩⟩
  · refine sr_iloadn (pc := 10) (n := 3) (by decide +kernel) rfl ?_
    refine sr_aloadn (pc := 11) (n := 0) (by decide +kernel) rfl ?_
    refine sr_gC (pc := 12) (i2 := 0) fg_5_15 (by decide +kernel) (sr_in5 _ (by omega)) (fun _ => rfl) ?_
    refine sr_al' (pc := 15) (ty := 0) (n := 576) (v := 576) rfl (by decide) (by decide +kernel) (sr_in16 _ (by omega)) (by decide) ?_
    refine sr_icmp_ge (pc := 16) (off := 12) (tg := 28) (by decide +kernel) (by decide) (fun _ => ?_) (fun _ => ?_)
    · exact sr_wk (sr_mono (mc := 0) (ms := 0) (by omega) (by omega) (g5_crossingsOf_28 l a0 a1 t1)) ⟨rfl, ⟨rfl, ⟨rfl, trivial⟩⟩⟩
    · refine sr_aloadn (pc := 19) (n := 0) (by decide +kernel) rfl ?_
      refine sr_gC (pc := 20) (i2 := 0) fg_5_15 (by decide +kernel) (sr_in5 _ (by omega)) (fun _ => rfl) ?_
      refine sr_iloadn (pc := 23) (n := 3) (by decide +kernel) rfl ?_
      refine sr_aI (pc := 24) (n := 576) rfl (by decide +kernel) (sr_in16 _ (by omega)) (fun _ _ => rfl) ?_
      refine sr_goto (pc := 25) (off := 4) (tg := 29) (by decide +kernel) (by decide) ?_
      exact sr_wk (sr_mono (mc := 0) (ms := 0) (by omega) (by omega) (g5_crossingsOf_29 l a0 a1 (t1.1 16 0 v1.toNatClampNeg) t1)) ⟨rfl, ⟨rfl, ⟨rfl, trivial⟩⟩⟩
def f5_timeFromTo_6 (i1 : Nat) (a1 : Int32) (a2 : Int32) (k60 : Int32 → sr_t → sr_Rs) : Nat → Int32 → Int32 → sr_t → sr_Rs
  | 0 => fun _ _ _ => none
  | n + 1 => fun x4 x5 t => (if (t.1 3 i1 3) ≤ x5 then k60 x4 t else (sr_bI (F5_crossingsOf a1 x5 t) (fun v1 t1 => (sr_bI (F5_crossingsOf x5 a1 t1) (fun v2 t2 => (sr_bR 2 50 (F3_of i1 x5 t2) (fun n3 t3 => (f5_timeFromTo_6 i1 a1 a2 k60 n) (x4 + ((v1 + v2) * (if 0 ≤ (a2 - (t3.1 2 n3 3)) then (a2 - (t3.1 2 n3 3)) else 0 - (a2 - (t3.1 2 n3 3))))) (x5 + 1) t3)))))))
theorem g5_timeFromTo_6 (l : Launch) (i1 : Nat) (a1 : Int32) (a2 : Int32) (hv_i1 : i1 < 2) (k60 : Int32 → sr_t → sr_Rs) (hk60 : ∀ (x4 : Int32), ∀ (t : sr_t), sr_g l sr_m5_timeFromTo 60 [some (sr_r 5 0), some (sr_r 3 i1), some (sr_i a1), some (sr_i a2), some (sr_i x4), none, none] [] t (k60 x4 t) 0 0) : ∀ (n : Nat) (x4 : Int32) (x5 : Int32), ∀ (t : sr_t), sr_g l sr_m5_timeFromTo 6 [some (sr_r 5 0), some (sr_r 3 i1), some (sr_i a1), some (sr_i a2), some (sr_i x4), some (sr_i x5), none] [] t (f5_timeFromTo_6 i1 a1 a2 k60 n x4 x5 t) 0 0 := by
  intro n
  induction n with
  | zero => intros; exact sr_Gn
  | succ n ih =>
    intro x4 x5  t
    unfold f5_timeFromTo_6
    refine sr_iload (pc := 6) (i := 5) (by decide +kernel) rfl ?_
    refine sr_aloadn (pc := 8) (n := 1) (by decide +kernel) rfl ?_
    refine sr_gI (pc := 9) fg_5_30 (by decide +kernel) (sr_in3 _ (by omega)) (fun _ => rfl) ?_
    refine sr_icmp_ge (pc := 12) (off := 48) (tg := 60) (by decide +kernel) (by decide) (fun _ => ?_) (fun _ => ?_)
    · exact sr_wk (sr_mono (mc := 0) (ms := 0) (by omega) (by omega) (hk60 x4 t)) ⟨rfl, ⟨rfl, ⟨rfl, ⟨rfl, ⟨rfl, trivial⟩⟩⟩⟩⟩
    · refine sr_aloadn (pc := 15) (n := 0) (by decide +kernel) rfl ?_
      refine sr_iloadn (pc := 16) (n := 2) (by decide +kernel) rfl ?_
      refine sr_iload (pc := 17) (i := 5) (by decide +kernel) rfl ?_
      refine sr_cV (pc := 19) (As := [sr_i a1, sr_i x5]) (mc1 := 0) (ms1 := 0) (mc2 := 0) (ms2 := 0) fm_5_128 fl_5_128 (by decide +kernel) (sr_in5 _ (by omega)) (rm_5_timeFromTo_5_crossingsOf) rfl rfl rfl (C5_crossingsOf l a1 x5 t) ?_
      refine sr_kI (fun v1 t1 => ?_)
      refine sr_aloadn (pc := 22) (n := 0) (by decide +kernel) rfl ?_
      refine sr_iload (pc := 23) (i := 5) (by decide +kernel) rfl ?_
      refine sr_iloadn (pc := 25) (n := 2) (by decide +kernel) rfl ?_
      refine sr_cV (pc := 26) (As := [sr_i x5, sr_i a1]) (mc1 := 0) (ms1 := 0) (mc2 := 0) (ms2 := 0) fm_5_128 fl_5_128 (by decide +kernel) (sr_in5 _ (by omega)) (rm_5_timeFromTo_5_crossingsOf) rfl rfl rfl (C5_crossingsOf l x5 a1 t1) ?_
      refine sr_kI (fun v2 t2 => ?_)
      refine sr_iadd (pc := 29) (by decide +kernel) ?_
      refine sr_istore (pc := 30) (i := 6) (by decide +kernel) (by decide) rfl rfl ?_
      refine sr_iload (pc := 32) (i := 4) (by decide +kernel) rfl ?_
      refine sr_iload (pc := 34) (i := 6) (by decide +kernel) rfl ?_
      refine sr_iloadn (pc := 36) (n := 3) (by decide +kernel) rfl ?_
      refine sr_aloadn (pc := 37) (n := 1) (by decide +kernel) rfl ?_
      refine sr_iload (pc := 38) (i := 5) (by decide +kernel) rfl ?_
      refine sr_cV (pc := 40) (As := [sr_i x5]) (mc1 := 0) (ms1 := 0) (mc2 := 0) (ms2 := 0) fm_5_36 fl_5_36 (by decide +kernel) (sr_in3 _ (by omega)) (rm_5_timeFromTo_3_of) rfl rfl rfl (C3_of l i1 x5 (by omega) t2) ?_
      refine sr_kR (fun n3 t3 hv_n3 => ?_)
      refine sr_gI (pc := 43) fg_5_131 (by decide +kernel) (sr_in2 _ (by omega)) (fun _ => rfl) ?_
      refine sr_isub (pc := 46) (by decide +kernel) ?_
      refine sr_mmabs (pc := 47) (idx := 134) (sr_tb (n := 1245) (by decide +kernel) rfl) (by decide +kernel) (by decide) (by decide) rfl mw_abs1 mw_0 mw_abs2 ?_
      refine sr_imul (pc := 50) (by decide +kernel) ?_
      refine sr_iadd (pc := 51) (by decide +kernel) ?_
      refine sr_istore (pc := 52) (i := 4) (by decide +kernel) (by decide) rfl rfl ?_
      refine sr_iinc (pc := 54) (i := 5) (n := 1) (w := x5 + 1) (by decide +kernel) rfl rfl (by decide) rfl rfl ?_
      refine sr_goto (pc := 57) (off := (-51)) (tg := 6) (by decide +kernel) (by decide) ?_
      exact sr_wk (sr_mono (mc := 0) (ms := 0) (by omega) (by omega) (ih (x4 + ((v1 + v2) * (if 0 ≤ (a2 - (t3.1 2 n3 3)) then (a2 - (t3.1 2 n3 3)) else 0 - (a2 - (t3.1 2 n3 3))))) (x5 + 1) t3)) ⟨rfl, ⟨rfl, ⟨rfl, ⟨rfl, ⟨rfl, ⟨rfl, trivial⟩⟩⟩⟩⟩⟩
def f5_timeFromTo_60 (i1 : Nat) (a1 : Int32) (a2 : Int32)  : Int32 → sr_t → sr_Rs := fun x4 t => (some (.inl (some (sr_i x4)), t))
theorem g5_timeFromTo_60 (l : Launch) (i1 : Nat) (a1 : Int32) (a2 : Int32) (hv_i1 : i1 < 2)   : ∀ (x4 : Int32), ∀ (t : sr_t), sr_g l sr_m5_timeFromTo 60 [some (sr_r 5 0), some (sr_r 3 i1), some (sr_i a1), some (sr_i a2), some (sr_i x4), none, none] [] t (f5_timeFromTo_60 i1 a1 a2  x4 t) 0 0 := by
  intro x4  t
  unfold f5_timeFromTo_60
  refine sr_iload (pc := 60) (i := 4) (by decide +kernel) rfl ?_
  exact sr_iret (pc := 62) (by decide +kernel) rfl
def F5_timeFromTo (i1 : Nat) (a1 : Int32) (a2 : Int32) (t : sr_t) : sr_Rs := f5_timeFromTo_6 i1 a1 a2 (f5_timeFromTo_60 i1 a1 a2) sr_fu 0 0 t
theorem C5_timeFromTo (l : Launch) (i1 : Nat) (a1 : Int32) (a2 : Int32) (hv_i1 : i1 < 2) (t : sr_t) : sr_ct' l sr_m5_timeFromTo [sr_r 5 0, sr_r 3 i1, sr_i a1, sr_i a2] t (F5_timeFromTo i1 a1 a2 t) 0 0 := by
  refine sr_T_of (L0 := [some (sr_r 5 0), some (sr_r 3 i1), some (sr_i a1), some (sr_i a2), none, none, none]) rfl (by decide +kernel) (fun _ => rfl) (fun _ => Nat.le_of_ble_eq_true rfl) ?_
  unfold F5_timeFromTo
  refine sr_iconst (pc := 0) (n := 0) (v := 0) (by decide +kernel) rfl ?_
  refine sr_istore (pc := 1) (i := 4) (by decide +kernel) (by decide) rfl rfl ?_
  refine sr_iconst (pc := 3) (n := 0) (v := 0) (by decide +kernel) rfl ?_
  refine sr_istore (pc := 4) (i := 5) (by decide +kernel) (by decide) rfl rfl ?_
  exact sr_wk (sr_mono (mc := 0) (ms := 0) (by omega) (by omega) (g5_timeFromTo_6 l i1 a1 a2 hv_i1 (f5_timeFromTo_60 i1 a1 a2) (g5_timeFromTo_60 l i1 a1 a2 hv_i1) sr_fu 0 0 t)) ⟨rfl, ⟨rfl, ⟨rfl, ⟨rfl, ⟨rfl, ⟨rfl, trivial⟩⟩⟩⟩⟩⟩
def f5_bestSpot_45 (i1 : Nat) (a1 : Int32) (k14 : Int32 → Int32 → Int32 → sr_t → sr_Rs) (k51 : Int32 → sr_t → sr_Rs) : Int32 → Int32 → Int32 → sr_t → sr_Rs := fun x3 x4 x5 t => k14 x3 x4 (x5 + 1) t
theorem g5_bestSpot_45 (l : Launch) (i1 : Nat) (a1 : Int32) (hv_i1 : i1 < 2) (k14 : Int32 → Int32 → Int32 → sr_t → sr_Rs) (k51 : Int32 → sr_t → sr_Rs) (hk14 : ∀ (x3 : Int32) (x4 : Int32) (x5 : Int32), ∀ (t : sr_t), sr_g l sr_m5_bestSpot 14 [some (sr_r 5 0), some (sr_r 3 i1), some (sr_i a1), some (sr_i x3), some (sr_i x4), some (sr_i x5), none] [] t (k14 x3 x4 x5 t) 0 0) (hk51 : ∀ (x3 : Int32), ∀ (t : sr_t), sr_g l sr_m5_bestSpot 51 [some (sr_r 5 0), some (sr_r 3 i1), some (sr_i a1), some (sr_i x3), none, none, none] [] t (k51 x3 t) 0 0) : ∀ (x3 : Int32) (x4 : Int32) (x5 : Int32), ∀ (t : sr_t), sr_g l sr_m5_bestSpot 45 [some (sr_r 5 0), some (sr_r 3 i1), some (sr_i a1), some (sr_i x3), some (sr_i x4), some (sr_i x5), none] [] t (f5_bestSpot_45 i1 a1 k14 k51 x3 x4 x5 t) 0 0 := by
  intro x3 x4 x5  t
  unfold f5_bestSpot_45
  refine sr_iinc (pc := 45) (i := 5) (n := 1) (w := x5 + 1) (by decide +kernel) rfl rfl (by decide) rfl rfl ?_
  refine sr_goto (pc := 48) (off := (-34)) (tg := 14) (by decide +kernel) (by decide) ?_
  exact sr_wk (sr_mono (mc := 0) (ms := 0) (by omega) (by omega) (hk14 x3 x4 (x5 + 1) t)) ⟨rfl, ⟨rfl, ⟨rfl, ⟨rfl, ⟨rfl, ⟨rfl, trivial⟩⟩⟩⟩⟩⟩
def f5_bestSpot_14 (i1 : Nat) (a1 : Int32) (k51 : Int32 → sr_t → sr_Rs) : Nat → Int32 → Int32 → Int32 → sr_t → sr_Rs
  | 0 => fun _ _ _ _ => none
  | n + 1 => fun x3 x4 x5 t => (if 99 < x5 then k51 x3 t else (sr_bI (F5_timeFromTo i1 a1 x5 t) (fun v1 t1 => (if x4 ≤ v1 then f5_bestSpot_45 i1 a1 (f5_bestSpot_14 i1 a1 k51 n) k51 x3 x4 x5 t1 else f5_bestSpot_45 i1 a1 (f5_bestSpot_14 i1 a1 k51 n) k51 x5 v1 x5 t1))))
theorem g5_bestSpot_14 (l : Launch) (i1 : Nat) (a1 : Int32) (hv_i1 : i1 < 2) (k51 : Int32 → sr_t → sr_Rs) (hk51 : ∀ (x3 : Int32), ∀ (t : sr_t), sr_g l sr_m5_bestSpot 51 [some (sr_r 5 0), some (sr_r 3 i1), some (sr_i a1), some (sr_i x3), none, none, none] [] t (k51 x3 t) 0 0) : ∀ (n : Nat) (x3 : Int32) (x4 : Int32) (x5 : Int32), ∀ (t : sr_t), sr_g l sr_m5_bestSpot 14 [some (sr_r 5 0), some (sr_r 3 i1), some (sr_i a1), some (sr_i x3), some (sr_i x4), some (sr_i x5), none] [] t (f5_bestSpot_14 i1 a1 k51 n x3 x4 x5 t) 0 0 := by
  intro n
  induction n with
  | zero => intros; exact sr_Gn
  | succ n ih =>
    intro x3 x4 x5  t
    unfold f5_bestSpot_14
    refine sr_iload (pc := 14) (i := 5) (by decide +kernel) rfl ?_
    refine sr_bipush (pc := 16) (n := 99) (v := 99) (by decide +kernel) (by decide) ?_
    refine sr_icmp_gt (pc := 18) (off := 33) (tg := 51) (by decide +kernel) (by decide) (fun _ => ?_) (fun _ => ?_)
    · exact sr_wk (sr_mono (mc := 0) (ms := 0) (by omega) (by omega) (hk51 x3 t)) ⟨rfl, ⟨rfl, ⟨rfl, ⟨rfl, trivial⟩⟩⟩⟩
    · refine sr_aloadn (pc := 21) (n := 0) (by decide +kernel) rfl ?_
      refine sr_aloadn (pc := 22) (n := 1) (by decide +kernel) rfl ?_
      refine sr_iloadn (pc := 23) (n := 2) (by decide +kernel) rfl ?_
      refine sr_iload (pc := 24) (i := 5) (by decide +kernel) rfl ?_
      refine sr_cV (pc := 26) (As := [sr_r 3 i1, sr_i a1, sr_i x5]) (mc1 := 0) (ms1 := 0) (mc2 := 0) (ms2 := 0) fm_5_124 fl_5_124 (by decide +kernel) (sr_in5 _ (by omega)) (rm_5_bestSpot_5_timeFromTo) rfl rfl rfl (C5_timeFromTo l i1 a1 x5 (by omega) t) ?_
      refine sr_kI (fun v1 t1 => ?_)
      refine sr_istore (pc := 29) (i := 6) (by decide +kernel) (by decide) rfl rfl ?_
      refine sr_iload (pc := 31) (i := 6) (by decide +kernel) rfl ?_
      refine sr_iload (pc := 33) (i := 4) (by decide +kernel) rfl ?_
      refine sr_icmp_ge (pc := 35) (off := 10) (tg := 45) (by decide +kernel) (by decide) (fun _ => ?_) (fun _ => ?_)
      · exact sr_wk (sr_mono (mc := 0) (ms := 0) (by omega) (by omega) (g5_bestSpot_45 l i1 a1 hv_i1 (f5_bestSpot_14 i1 a1 k51 n) k51 ih hk51 x3 x4 x5 t1)) ⟨rfl, ⟨rfl, ⟨rfl, ⟨rfl, ⟨rfl, ⟨rfl, trivial⟩⟩⟩⟩⟩⟩
      · refine sr_iload (pc := 38) (i := 6) (by decide +kernel) rfl ?_
        refine sr_istore (pc := 40) (i := 4) (by decide +kernel) (by decide) rfl rfl ?_
        refine sr_iload (pc := 42) (i := 5) (by decide +kernel) rfl ?_
        refine sr_istoren (pc := 44) (n := 3) (by decide +kernel) (by decide) rfl rfl ?_
        exact sr_wk (sr_mono (mc := 0) (ms := 0) (by omega) (by omega) (g5_bestSpot_45 l i1 a1 hv_i1 (f5_bestSpot_14 i1 a1 k51 n) k51 ih hk51 x5 v1 x5 t1)) ⟨rfl, ⟨rfl, ⟨rfl, ⟨rfl, ⟨rfl, ⟨rfl, trivial⟩⟩⟩⟩⟩⟩
def f5_bestSpot_51 (i1 : Nat) (a1 : Int32)  : Int32 → sr_t → sr_Rs := fun x3 t => (some (.inl (some (sr_i x3)), t))
theorem g5_bestSpot_51 (l : Launch) (i1 : Nat) (a1 : Int32) (hv_i1 : i1 < 2)   : ∀ (x3 : Int32), ∀ (t : sr_t), sr_g l sr_m5_bestSpot 51 [some (sr_r 5 0), some (sr_r 3 i1), some (sr_i a1), some (sr_i x3), none, none, none] [] t (f5_bestSpot_51 i1 a1  x3 t) 0 0 := by
  intro x3  t
  unfold f5_bestSpot_51
  refine sr_iloadn (pc := 51) (n := 3) (by decide +kernel) rfl ?_
  exact sr_iret (pc := 52) (by decide +kernel) rfl
def F5_bestSpot (i1 : Nat) (a1 : Int32) (t : sr_t) : sr_Rs := (sr_bI (F5_timeFromTo i1 a1 0 t) (fun v1 t1 => f5_bestSpot_14 i1 a1 (f5_bestSpot_51 i1 a1) sr_fu 0 v1 1 t1))
theorem C5_bestSpot (l : Launch) (i1 : Nat) (a1 : Int32) (hv_i1 : i1 < 2) (t : sr_t) : sr_ct' l sr_m5_bestSpot [sr_r 5 0, sr_r 3 i1, sr_i a1] t (F5_bestSpot i1 a1 t) 0 0 := by
  refine sr_T_of (L0 := [some (sr_r 5 0), some (sr_r 3 i1), some (sr_i a1), none, none, none, none]) rfl (by decide +kernel) (fun _ => rfl) (fun _ => Nat.le_of_ble_eq_true rfl) ?_
  unfold F5_bestSpot
  refine sr_iconst (pc := 0) (n := 0) (v := 0) (by decide +kernel) rfl ?_
  refine sr_istoren (pc := 1) (n := 3) (by decide +kernel) (by decide) rfl rfl ?_
  refine sr_aloadn (pc := 2) (n := 0) (by decide +kernel) rfl ?_
  refine sr_aloadn (pc := 3) (n := 1) (by decide +kernel) rfl ?_
  refine sr_iloadn (pc := 4) (n := 2) (by decide +kernel) rfl ?_
  refine sr_iconst (pc := 5) (n := 0) (v := 0) (by decide +kernel) rfl ?_
  refine sr_cV (pc := 6) (As := [sr_r 3 i1, sr_i a1, sr_i 0]) (mc1 := 0) (ms1 := 0) (mc2 := 0) (ms2 := 0) fm_5_124 fl_5_124 (by decide +kernel) (sr_in5 _ (by omega)) (rm_5_bestSpot_5_timeFromTo) rfl rfl rfl (C5_timeFromTo l i1 a1 0 (by omega) t) ?_
  refine sr_kI (fun v1 t1 => ?_)
  refine sr_istore (pc := 9) (i := 4) (by decide +kernel) (by decide) rfl rfl ?_
  refine sr_iconst (pc := 11) (n := 1) (v := 1) (by decide +kernel) rfl ?_
  refine sr_istore (pc := 12) (i := 5) (by decide +kernel) (by decide) rfl rfl ?_
  exact sr_wk (sr_mono (mc := 0) (ms := 0) (by omega) (by omega) (g5_bestSpot_14 l i1 a1 hv_i1 (f5_bestSpot_51 i1 a1) (g5_bestSpot_51 l i1 a1 hv_i1) sr_fu 0 v1 1 t1)) ⟨rfl, ⟨rfl, ⟨rfl, ⟨rfl, ⟨rfl, ⟨rfl, trivial⟩⟩⟩⟩⟩⟩
def F10_better (a0 : Int32) (t : sr_t) : sr_Rs := (sr_bV (F10_needNode a0 t) (fun t1 => (sr_bV (F5_run 0 1 1 t1) (fun t2 => (sr_bI (F5_bestSpot 0 a0 t2) (fun v3 t3 => (some (.inl (some (sr_i v3)), t3))))))))
theorem C10_better (l : Launch) (a0 : Int32)  (t : sr_t) : sr_ct' l sr_m10_better [sr_r 10 0, sr_i a0] t (F10_better a0 t) 1 6 := by
  refine sr_T_of (L0 := [some (sr_r 10 0), some (sr_i a0)]) rfl (by decide +kernel) (fun _ => rfl) (fun _ => Nat.le_of_ble_eq_true rfl) ?_
  unfold F10_better
  refine sr_aloadn (pc := 0) (n := 0) (by decide +kernel) rfl ?_
  refine sr_iloadn (pc := 1) (n := 1) (by decide +kernel) rfl ?_
  refine sr_cV (pc := 2) (As := [sr_i a0]) (mc1 := 1) (ms1 := 6) (mc2 := 0) (ms2 := 0) fm_10_81 fl_10_81 (by decide +kernel) (sr_in10 _ (by omega)) (rm_10_better_10_needNode) rfl rfl rfl (C10_needNode l a0 t) ?_
  refine sr_kV (fun t1 => ?_)
  refine sr_aloadn (pc := 5) (n := 0) (by decide +kernel) rfl ?_
  refine sr_gC (pc := 6) (i2 := 0) fg_10_38 (by decide +kernel) (sr_in10 _ (by omega)) (fun _ => rfl) ?_
  refine sr_aloadn (pc := 9) (n := 0) (by decide +kernel) rfl ?_
  refine sr_gC (pc := 10) (i2 := 0) fg_10_12 (by decide +kernel) (sr_in10 _ (by omega)) (fun _ => rfl) ?_
  refine sr_iconst (pc := 13) (n := 1) (v := 1) (by decide +kernel) rfl ?_
  refine sr_iconst (pc := 14) (n := 1) (v := 1) (by decide +kernel) rfl ?_
  refine sr_cV (pc := 15) (As := [sr_r 3 0, sr_i 1, sr_i 1]) (mc1 := 0) (ms1 := 0) (mc2 := 0) (ms2 := 0) fm_10_285 fl_10_285 (by decide +kernel) (sr_in5 _ (by omega)) (rm_10_better_5_run) rfl rfl rfl (C5_run l 0 1 1 (by omega) t1) ?_
  refine sr_kV (fun t2 => ?_)
  refine sr_aloadn (pc := 18) (n := 0) (by decide +kernel) rfl ?_
  refine sr_gC (pc := 19) (i2 := 0) fg_10_38 (by decide +kernel) (sr_in10 _ (by omega)) (fun _ => rfl) ?_
  refine sr_aloadn (pc := 22) (n := 0) (by decide +kernel) rfl ?_
  refine sr_gC (pc := 23) (i2 := 0) fg_10_12 (by decide +kernel) (sr_in10 _ (by omega)) (fun _ => rfl) ?_
  refine sr_iloadn (pc := 26) (n := 1) (by decide +kernel) rfl ?_
  refine sr_cV (pc := 27) (As := [sr_r 3 0, sr_i a0]) (mc1 := 0) (ms1 := 0) (mc2 := 0) (ms2 := 0) fm_10_306 fl_10_306 (by decide +kernel) (sr_in5 _ (by omega)) (rm_10_better_5_bestSpot) rfl rfl rfl (C5_bestSpot l 0 a0 (by omega) t2) ?_
  refine sr_kI (fun v3 t3 => ?_)
  exact sr_iret (pc := 30) (by decide +kernel) rfl
def sr_m10_host : sr_M := (⟨"ShiftRing", "host", "(I)I"⟩, prog_1_method_18_code, 2, (some .int), [], 7, 110)
theorem fl_10_240 : Cond.methodLink "ShiftRing" 240 (sr_My sr_m3_lastBackFrom) ∈ sr_TB := (sr_tb (n := 1253) (by decide +kernel) rfl)
theorem fm_10_240 : sr_FV "ShiftRing" 240 sr_m3_lastBackFrom 3 1 := ⟨⟨rfl, sr_tb (n := 465) (by decide +kernel) rfl, sr_tb (n := 2) (by decide +kernel) rfl, ⟨by decide, by decide, by decide +kernel⟩, Or.inl fl_10_240⟩, ⟨TX3, 9, rfl, rfl⟩, sr_tb (n := 463) (by decide +kernel) rfl, sr_tb (n := 464) (by decide +kernel) rfl⟩
theorem rm_10_host_10_needPlace : sr_RM sr_m10_host sr_m10_needPlace := ⟨Nat.le_of_ble_eq_true rfl, Nat.le_of_ble_eq_true rfl⟩
theorem rm_10_host_3_lastBackFrom : sr_RM sr_m10_host sr_m3_lastBackFrom := ⟨Nat.le_of_ble_eq_true rfl, Nat.le_of_ble_eq_true rfl⟩
def F10_host (a0 : Int32) (t : sr_t) : sr_Rs := (sr_bV (F10_needPlace a0 t) (fun t1 => (sr_bR 2 50 (F3_lastBackFrom 0 a0 t1) (fun n2 t2 => (some (.inl (some (sr_i (t2.1 2 n2 0))), t2))))))
theorem C10_host (l : Launch) (a0 : Int32)  (t : sr_t) : sr_ct' l sr_m10_host [sr_r 10 0, sr_i a0] t (F10_host a0 t) 1 6 := by
  refine sr_T_of (L0 := [some (sr_r 10 0), some (sr_i a0)]) rfl (by decide +kernel) (fun _ => rfl) (fun _ => Nat.le_of_ble_eq_true rfl) ?_
  unfold F10_host
  refine sr_iloadn (pc := 0) (n := 1) (by decide +kernel) rfl ?_
  refine sr_cS (pc := 1) (As := [sr_i a0]) (mc1 := 1) (ms1 := 6) (mc2 := 0) (ms2 := 0) fm_10_58 fl_10_58 (by decide +kernel) (rm_10_host_10_needPlace) rfl rfl rfl (C10_needPlace l a0 t) ?_
  refine sr_kV (fun t1 => ?_)
  refine sr_aloadn (pc := 4) (n := 0) (by decide +kernel) rfl ?_
  refine sr_gC (pc := 5) (i2 := 0) fg_10_12 (by decide +kernel) (sr_in10 _ (by omega)) (fun _ => rfl) ?_
  refine sr_iloadn (pc := 8) (n := 1) (by decide +kernel) rfl ?_
  refine sr_cV (pc := 9) (As := [sr_i a0]) (mc1 := 0) (ms1 := 0) (mc2 := 0) (ms2 := 0) fm_10_240 fl_10_240 (by decide +kernel) (sr_in3 _ (by omega)) (rm_10_host_3_lastBackFrom) rfl rfl rfl (C3_lastBackFrom l 0 a0 (by omega) t1) ?_
  refine sr_kR (fun n2 t2 hv_n2 => ?_)
  refine sr_gI (pc := 12) fg_10_179 (by decide +kernel) (sr_in2 _ (by omega)) (fun _ => rfl) ?_
  exact sr_iret (pc := 15) (by decide +kernel) rfl
def sr_m10_ideal : sr_M := (⟨"ShiftRing", "ideal", "(II)I"⟩, prog_1_method_23_code, 3, (some .int), [], 8, 133)
theorem rm_10_ideal_10_needStart : sr_RM sr_m10_ideal sr_m10_needStart := ⟨Nat.le_of_ble_eq_true rfl, Nat.le_of_ble_eq_true rfl⟩
theorem rm_10_ideal_3_of : sr_RM sr_m10_ideal sr_m3_of := ⟨Nat.le_of_ble_eq_true rfl, Nat.le_of_ble_eq_true rfl⟩
theorem rm_10_ideal_8_idealHops : sr_RM sr_m10_ideal sr_m8_idealHops := ⟨Nat.le_of_ble_eq_true rfl, Nat.le_of_ble_eq_true rfl⟩
def F10_ideal (a0 : Int32) (a1 : Int32) (t : sr_t) : sr_Rs := (sr_bV (F10_needStart a0 a1 t) (fun t1 => (sr_bR 2 50 (F3_of 0 a0 t1) (fun n2 t2 => (sr_bI (F8_idealHops 1 0 n2 a1 t2) (fun v3 t3 => (some (.inl (some (sr_i v3)), t3))))))))
theorem C10_ideal (l : Launch) (a0 : Int32) (a1 : Int32)  (t : sr_t) : sr_ct' l sr_m10_ideal [sr_r 10 0, sr_i a0, sr_i a1] t (F10_ideal a0 a1 t) 3 18 := by
  refine sr_T_of (L0 := [some (sr_r 10 0), some (sr_i a0), some (sr_i a1)]) rfl (by decide +kernel) (fun _ => rfl) (fun _ => Nat.le_of_ble_eq_true rfl) ?_
  unfold F10_ideal
  refine sr_aloadn (pc := 0) (n := 0) (by decide +kernel) rfl ?_
  refine sr_iloadn (pc := 1) (n := 1) (by decide +kernel) rfl ?_
  refine sr_iloadn (pc := 2) (n := 2) (by decide +kernel) rfl ?_
  refine sr_cV (pc := 3) (As := [sr_i a0, sr_i a1]) (mc1 := 3) (ms1 := 18) (mc2 := 0) (ms2 := 0) fm_10_255 fl_10_255 (by decide +kernel) (sr_in10 _ (by omega)) (rm_10_ideal_10_needStart) rfl rfl rfl (C10_needStart l a0 a1 t) ?_
  refine sr_kV (fun t1 => ?_)
  refine sr_aloadn (pc := 6) (n := 0) (by decide +kernel) rfl ?_
  refine sr_gC (pc := 7) (i2 := 1) fg_10_32 (by decide +kernel) (sr_in10 _ (by omega)) (fun _ => rfl) ?_
  refine sr_aloadn (pc := 10) (n := 0) (by decide +kernel) rfl ?_
  refine sr_gC (pc := 11) (i2 := 0) fg_10_12 (by decide +kernel) (sr_in10 _ (by omega)) (fun _ => rfl) ?_
  refine sr_aloadn (pc := 14) (n := 0) (by decide +kernel) rfl ?_
  refine sr_gC (pc := 15) (i2 := 0) fg_10_12 (by decide +kernel) (sr_in10 _ (by omega)) (fun _ => rfl) ?_
  refine sr_iloadn (pc := 18) (n := 1) (by decide +kernel) rfl ?_
  refine sr_cV (pc := 19) (As := [sr_i a0]) (mc1 := 0) (ms1 := 0) (mc2 := 0) (ms2 := 0) fm_10_87 fl_10_87 (by decide +kernel) (sr_in3 _ (by omega)) (rm_10_ideal_3_of) rfl rfl rfl (C3_of l 0 a0 (by omega) t1) ?_
  refine sr_kR (fun n2 t2 hv_n2 => ?_)
  refine sr_iloadn (pc := 22) (n := 2) (by decide +kernel) rfl ?_
  refine sr_cV (pc := 23) (As := [sr_r 3 0, sr_r 2 n2, sr_i a1]) (mc1 := 0) (ms1 := 0) (mc2 := 0) (ms2 := 0) fm_10_265 fl_10_265 (by decide +kernel) (sr_in8 _ (by omega)) (rm_10_ideal_8_idealHops) rfl rfl rfl (C8_idealHops l 1 0 n2 a1 (by omega) (by omega) (by omega) t2) ?_
  refine sr_kI (fun v3 t3 => ?_)
  exact sr_iret (pc := 26) (by decide +kernel) rfl
def sr_m1_leastDegreeFor : sr_M := (⟨"ShiftRing$Forecast", "leastDegreeFor", "(LShiftRing$Ring;I)I"⟩, prog_3_method_5_code, 4, (some .int), [], 6, 144)
def sr_m10_enough : sr_M := (⟨"ShiftRing", "enough", "(I)I"⟩, prog_1_method_38_code, 2, (some .int), [], 7, 167)
theorem fg_1_62 : sr_FG "ShiftRing$Forecast" 62 3 5 9 := ⟨RX3, TX3, tyX3, rfl, by decide, rfl, uw_3, tyX3_ok, nmX3, Or.inr ⟨"ShiftRing", sr_nb (n := 165) (by decide +kernel) rfl⟩⟩
theorem fg_1_65 : sr_FG "ShiftRing$Forecast" 65 5 8 11 := ⟨RX5, TX5, tyX5, rfl, by decide, rfl, uw_5, tyX5_ok, nmX5, Or.inr ⟨"ShiftRing", sr_nb (n := 344) (by decide +kernel) rfl⟩⟩
theorem fl_10_319 : Cond.methodLink "ShiftRing" 319 (sr_My sr_m1_leastDegreeFor) ∈ sr_TB := (sr_tb (n := 1269) (by decide +kernel) rfl)
theorem fm_10_319 : sr_FV "ShiftRing" 319 sr_m1_leastDegreeFor 1 2 := ⟨⟨rfl, sr_tb (n := 1272) (by decide +kernel) rfl, sr_tb (n := 10) (by decide +kernel) rfl, ⟨by decide, by decide, by decide +kernel⟩, Or.inl fl_10_319⟩, ⟨TX1, 2, rfl, rfl⟩, sr_tb (n := 1270) (by decide +kernel) rfl, sr_tb (n := 1271) (by decide +kernel) rfl⟩
theorem rm_10_enough_1_leastDegreeFor : sr_RM sr_m10_enough sr_m1_leastDegreeFor := ⟨Nat.le_of_ble_eq_true rfl, Nat.le_of_ble_eq_true rfl⟩
theorem rm_1_leastDegreeFor_1_runLaidBy : sr_RM sr_m1_leastDegreeFor sr_m1_runLaidBy := ⟨Nat.le_of_ble_eq_true rfl, Nat.le_of_ble_eq_true rfl⟩
theorem rm_1_leastDegreeFor_3_copyFrom : sr_RM sr_m1_leastDegreeFor sr_m3_copyFrom := ⟨Nat.le_of_ble_eq_true rfl, Nat.le_of_ble_eq_true rfl⟩
def f1_leastDegreeFor_10 (i1 : Nat) (a1 : Int32) (k36 : Int32 → sr_t → sr_Rs) (k44 : sr_t → sr_Rs) : Nat → Int32 → sr_t → sr_Rs
  | 0 => fun _ _ => none
  | n + 1 => fun x3 t => (if 8 < x3 then k44 t else (sr_bV (F1_runLaidBy (t.1 3 i1 5) x3 t) (fun t1 => (if a1 < (t1.1 5 0 8) then (f1_leastDegreeFor_10 i1 a1 k36 k44 n) (x3 + 1) t1 else k36 x3 t1))))
theorem g1_leastDegreeFor_10 (l : Launch) (i1 : Nat) (a1 : Int32) (hv_i1 : i1 < 2) (k36 : Int32 → sr_t → sr_Rs) (k44 : sr_t → sr_Rs) (hk36 : ∀ (x3 : Int32), ∀ (t : sr_t), sr_g l sr_m1_leastDegreeFor 36 [some (sr_r 1 0), some (sr_r 3 i1), some (sr_i a1), some (sr_i x3)] [] t (k36 x3 t) 0 0) (hk44 : ∀ (t : sr_t), sr_g l sr_m1_leastDegreeFor 44 [some (sr_r 1 0), some (sr_r 3 i1), some (sr_i a1), none] [] t (k44 t) 0 0) : ∀ (n : Nat) (x3 : Int32), ∀ (t : sr_t), sr_g l sr_m1_leastDegreeFor 10 [some (sr_r 1 0), some (sr_r 3 i1), some (sr_i a1), some (sr_i x3)] [] t (f1_leastDegreeFor_10 i1 a1 k36 k44 n x3 t) 0 0 := by
  intro n
  induction n with
  | zero => intros; exact sr_Gn
  | succ n ih =>
    intro x3  t
    unfold f1_leastDegreeFor_10
    refine sr_iloadn (pc := 10) (n := 3) (by decide +kernel) rfl ?_
    refine sr_bipush (pc := 11) (n := 8) (v := 8) (by decide +kernel) (by decide) ?_
    refine sr_icmp_gt (pc := 13) (off := 31) (tg := 44) (by decide +kernel) (by decide) (fun _ => ?_) (fun _ => ?_)
    · exact sr_wk (sr_mono (mc := 0) (ms := 0) (by omega) (by omega) (hk44 t)) ⟨rfl, ⟨rfl, ⟨rfl, trivial⟩⟩⟩
    · refine sr_aloadn (pc := 16) (n := 0) (by decide +kernel) rfl ?_
      refine sr_aloadn (pc := 17) (n := 1) (by decide +kernel) rfl ?_
      refine sr_gI (pc := 18) fg_1_62 (by decide +kernel) (sr_in3 _ (by omega)) (fun _ => rfl) ?_
      refine sr_iloadn (pc := 21) (n := 3) (by decide +kernel) rfl ?_
      refine sr_cV (pc := 22) (As := [sr_i (t.1 3 i1 5), sr_i x3]) (mc1 := 0) (ms1 := 0) (mc2 := 0) (ms2 := 0) fm_1_26 fl_1_26 (by decide +kernel) (sr_in1 _ (by omega)) (rm_1_leastDegreeFor_1_runLaidBy) rfl rfl rfl (C1_runLaidBy l (t.1 3 i1 5) x3 t) ?_
      refine sr_kV (fun t1 => ?_)
      refine sr_aloadn (pc := 25) (n := 0) (by decide +kernel) rfl ?_
      refine sr_gC (pc := 26) (i2 := 0) fg_1_18 (by decide +kernel) (sr_in1 _ (by omega)) (fun _ => rfl) ?_
      refine sr_gI (pc := 29) fg_1_65 (by decide +kernel) (sr_in5 _ (by omega)) (fun _ => rfl) ?_
      refine sr_iloadn (pc := 32) (n := 2) (by decide +kernel) rfl ?_
      refine sr_icmp_gt (pc := 33) (off := 5) (tg := 38) (by decide +kernel) (by decide) (fun _ => ?_) (fun _ => ?_)
      · refine sr_iinc (pc := 38) (i := 3) (n := 1) (w := x3 + 1) (by decide +kernel) rfl rfl (by decide) rfl rfl ?_
        refine sr_goto (pc := 41) (off := (-31)) (tg := 10) (by decide +kernel) (by decide) ?_
        exact sr_wk (sr_mono (mc := 0) (ms := 0) (by omega) (by omega) (ih (x3 + 1) t1)) ⟨rfl, ⟨rfl, ⟨rfl, ⟨rfl, trivial⟩⟩⟩⟩
      · exact sr_wk (sr_mono (mc := 0) (ms := 0) (by omega) (by omega) (hk36 x3 t1)) ⟨rfl, ⟨rfl, ⟨rfl, ⟨rfl, trivial⟩⟩⟩⟩
def f1_leastDegreeFor_36 (i1 : Nat) (a1 : Int32)  : Int32 → sr_t → sr_Rs := fun x3 t => (some (.inl (some (sr_i x3)), t))
theorem g1_leastDegreeFor_36 (l : Launch) (i1 : Nat) (a1 : Int32) (hv_i1 : i1 < 2)   : ∀ (x3 : Int32), ∀ (t : sr_t), sr_g l sr_m1_leastDegreeFor 36 [some (sr_r 1 0), some (sr_r 3 i1), some (sr_i a1), some (sr_i x3)] [] t (f1_leastDegreeFor_36 i1 a1  x3 t) 0 0 := by
  intro x3  t
  unfold f1_leastDegreeFor_36
  refine sr_iloadn (pc := 36) (n := 3) (by decide +kernel) rfl ?_
  exact sr_iret (pc := 37) (by decide +kernel) rfl
def f1_leastDegreeFor_44 (i1 : Nat) (a1 : Int32)  : sr_t → sr_Rs := fun  t => (some (.inl (some (sr_i ((-1)))), t))
theorem g1_leastDegreeFor_44 (l : Launch) (i1 : Nat) (a1 : Int32) (hv_i1 : i1 < 2)   : ∀ (t : sr_t), sr_g l sr_m1_leastDegreeFor 44 [some (sr_r 1 0), some (sr_r 3 i1), some (sr_i a1), none] [] t (f1_leastDegreeFor_44 i1 a1   t) 0 0 := by
  intro t
  unfold f1_leastDegreeFor_44
  refine sr_iconst (pc := 44) (n := (-1)) (v := (-1)) (by decide +kernel) rfl ?_
  exact sr_iret (pc := 45) (by decide +kernel) rfl
def F1_leastDegreeFor (i1 : Nat) (a1 : Int32) (t : sr_t) : sr_Rs := (sr_bV (F3_copyFrom 1 i1 t) (fun t1 => f1_leastDegreeFor_10 i1 a1 (f1_leastDegreeFor_36 i1 a1) (f1_leastDegreeFor_44 i1 a1) sr_fu 1 t1))
theorem C1_leastDegreeFor (l : Launch) (i1 : Nat) (a1 : Int32) (hv_i1 : i1 < 2) (t : sr_t) : sr_ct' l sr_m1_leastDegreeFor [sr_r 1 0, sr_r 3 i1, sr_i a1] t (F1_leastDegreeFor i1 a1 t) 0 0 := by
  refine sr_T_of (L0 := [some (sr_r 1 0), some (sr_r 3 i1), some (sr_i a1), none]) rfl (by decide +kernel) (fun _ => rfl) (fun _ => Nat.le_of_ble_eq_true rfl) ?_
  unfold F1_leastDegreeFor
  refine sr_aloadn (pc := 0) (n := 0) (by decide +kernel) rfl ?_
  refine sr_gC (pc := 1) (i2 := 1) fg_1_12 (by decide +kernel) (sr_in1 _ (by omega)) (fun _ => rfl) ?_
  refine sr_aloadn (pc := 4) (n := 1) (by decide +kernel) rfl ?_
  refine sr_cV (pc := 5) (As := [sr_r 3 i1]) (mc1 := 0) (ms1 := 0) (mc2 := 0) (ms2 := 0) fm_1_22 fl_1_22 (by decide +kernel) (sr_in3 _ (by omega)) (rm_1_leastDegreeFor_3_copyFrom) rfl rfl rfl (C3_copyFrom l 1 i1 (by omega) (by omega) t) ?_
  refine sr_kV (fun t1 => ?_)
  refine sr_iconst (pc := 8) (n := 1) (v := 1) (by decide +kernel) rfl ?_
  refine sr_istoren (pc := 9) (n := 3) (by decide +kernel) (by decide) rfl rfl ?_
  exact sr_wk (sr_mono (mc := 0) (ms := 0) (by omega) (by omega) (g1_leastDegreeFor_10 l i1 a1 hv_i1 (f1_leastDegreeFor_36 i1 a1) (f1_leastDegreeFor_44 i1 a1) (g1_leastDegreeFor_36 l i1 a1 hv_i1) (g1_leastDegreeFor_44 l i1 a1 hv_i1) sr_fu 1 t1)) ⟨rfl, ⟨rfl, ⟨rfl, ⟨rfl, trivial⟩⟩⟩⟩
def f10_enough_12 (a0 : Int32)  : sr_t → sr_Rs := fun  t => (some (.inr 0, t))
theorem g10_enough_12 (l : Launch) (a0 : Int32)    : ∀ (t : sr_t), sr_g l sr_m10_enough 12 [some (sr_r 10 0), some (sr_i a0)] [] t (f10_enough_12 a0   t) 1 6 := by
  intro t
  unfold f10_enough_12
  exact sr_thr (pc := 12) (ik := 138) (is := 317) (ic := 142) (tx := "so many hops cannot be") (z := 0) (mc := 0) (ms := 0) fx_138_142 (by decide +kernel) (by decide +kernel) (by decide +kernel) (Or.inr ⟨by decide +kernel, by decide +kernel, by decide +kernel⟩) rfl (by decide) (by decide) rfl rfl
def F10_enough (a0 : Int32) (t : sr_t) : sr_Rs := (if a0 < 1 then f10_enough_12 a0 t else (if a0 ≤ 200 then (sr_bI (F1_leastDegreeFor 0 a0 t) (fun v1 t1 => (some (.inl (some (sr_i v1)), t1)))) else f10_enough_12 a0 t))
theorem C10_enough (l : Launch) (a0 : Int32)  (t : sr_t) : sr_ct' l sr_m10_enough [sr_r 10 0, sr_i a0] t (F10_enough a0 t) 1 6 := by
  refine sr_T_of (L0 := [some (sr_r 10 0), some (sr_i a0)]) rfl (by decide +kernel) (fun _ => rfl) (fun _ => Nat.le_of_ble_eq_true rfl) ?_
  unfold F10_enough
  refine sr_iloadn (pc := 0) (n := 1) (by decide +kernel) rfl ?_
  refine sr_iconst (pc := 1) (n := 1) (v := 1) (by decide +kernel) rfl ?_
  refine sr_icmp_lt (pc := 2) (off := 10) (tg := 12) (by decide +kernel) (by decide) (fun _ => ?_) (fun _ => ?_)
  · exact sr_wk (sr_mono (mc := 1) (ms := 6) (by omega) (by omega) (g10_enough_12 l a0 t)) ⟨rfl, ⟨rfl, trivial⟩⟩
  · refine sr_iloadn (pc := 5) (n := 1) (by decide +kernel) rfl ?_
    refine sr_sipush (pc := 6) (n := 200) (v := 200) (by decide +kernel) (by decide) ?_
    refine sr_icmp_le (pc := 9) (off := 14) (tg := 23) (by decide +kernel) (by decide) (fun _ => ?_) (fun _ => ?_)
    · refine sr_aloadn (pc := 23) (n := 0) (by decide +kernel) rfl ?_
      refine sr_gC (pc := 24) (i2 := 0) fg_10_47 (by decide +kernel) (sr_in10 _ (by omega)) (fun _ => rfl) ?_
      refine sr_aloadn (pc := 27) (n := 0) (by decide +kernel) rfl ?_
      refine sr_gC (pc := 28) (i2 := 0) fg_10_12 (by decide +kernel) (sr_in10 _ (by omega)) (fun _ => rfl) ?_
      refine sr_iloadn (pc := 31) (n := 1) (by decide +kernel) rfl ?_
      refine sr_cV (pc := 32) (As := [sr_r 3 0, sr_i a0]) (mc1 := 0) (ms1 := 0) (mc2 := 1) (ms2 := 6) fm_10_319 fl_10_319 (by decide +kernel) (sr_in1 _ (by omega)) (rm_10_enough_1_leastDegreeFor) rfl rfl rfl (C1_leastDegreeFor l 0 a0 (by omega) t) ?_
      refine sr_kI (fun v1 t1 => ?_)
      exact sr_iret (pc := 35) (by decide +kernel) rfl
    · exact sr_wk (sr_mono (mc := 1) (ms := 6) (by omega) (by omega) (g10_enough_12 l a0 t)) ⟨rfl, ⟨rfl, trivial⟩⟩
def sr_m10_copies : sr_M := (⟨"ShiftRing", "copies", "(I)I"⟩, prog_1_method_39_code, 3, (some .int), [], 6, 90)
theorem fg_10_324 : sr_FG "ShiftRing" 324 6 4 5 := ⟨RX6, TX6, tyX6, rfl, by decide, rfl, uw_6, tyX6_ok, nmX6, Or.inr ⟨"ShiftRing", sr_nb (n := 230) (by decide +kernel) rfl⟩⟩
theorem ft_6_4 : sr_FT 6 4 5 0 false := ⟨RX6, TX6, rfl, rfl, (fun h => nomatch h), (show parseFieldDescriptor (TX6 4).2.2.1 = some .int from by decide +kernel)⟩
def f10_copies_10 (a0 : Int32)  : sr_t → sr_Rs := fun  t => (some (.inr 0, t))
theorem g10_copies_10 (l : Launch) (a0 : Int32)    : ∀ (t : sr_t), sr_g l sr_m10_copies 10 [some (sr_r 10 0), some (sr_i a0), none] [] t (f10_copies_10 a0   t) 1 6 := by
  intro t
  unfold f10_copies_10
  exact sr_thr (pc := 10) (ik := 138) (is := 322) (ic := 142) (tx := "so many copies cannot be") (z := 0) (mc := 0) (ms := 0) fx_138_142 (by decide +kernel) (by decide +kernel) (by decide +kernel) (Or.inr ⟨by decide +kernel, by decide +kernel, by decide +kernel⟩) rfl (by decide) (by decide) rfl rfl
def F10_copies (a0 : Int32) (t : sr_t) : sr_Rs := (if a0 < 1 then f10_copies_10 a0 t else (if a0 ≤ 3 then (sr_lt (sr_u t 6 0 4 a0) (fun t1 => (some (.inl (some (sr_i (t.1 6 0 4))), t1)))) else f10_copies_10 a0 t))
theorem C10_copies (l : Launch) (a0 : Int32)  (t : sr_t) : sr_ct' l sr_m10_copies [sr_r 10 0, sr_i a0] t (F10_copies a0 t) 1 6 := by
  refine sr_T_of (L0 := [some (sr_r 10 0), some (sr_i a0), none]) rfl (by decide +kernel) (fun _ => rfl) (fun _ => Nat.le_of_ble_eq_true rfl) ?_
  unfold F10_copies
  refine sr_iloadn (pc := 0) (n := 1) (by decide +kernel) rfl ?_
  refine sr_iconst (pc := 1) (n := 1) (v := 1) (by decide +kernel) rfl ?_
  refine sr_icmp_lt (pc := 2) (off := 8) (tg := 10) (by decide +kernel) (by decide) (fun _ => ?_) (fun _ => ?_)
  · exact sr_wk (sr_mono (mc := 1) (ms := 6) (by omega) (by omega) (g10_copies_10 l a0 t)) ⟨rfl, ⟨rfl, trivial⟩⟩
  · refine sr_iloadn (pc := 5) (n := 1) (by decide +kernel) rfl ?_
    refine sr_iconst (pc := 6) (n := 3) (v := 3) (by decide +kernel) rfl ?_
    refine sr_icmp_le (pc := 7) (off := 14) (tg := 21) (by decide +kernel) (by decide) (fun _ => ?_) (fun _ => ?_)
    · refine sr_aloadn (pc := 21) (n := 0) (by decide +kernel) rfl ?_
      refine sr_gC (pc := 22) (i2 := 0) fg_10_19 (by decide +kernel) (sr_in10 _ (by omega)) (fun _ => rfl) ?_
      refine sr_gI (pc := 25) fg_10_324 (by decide +kernel) (sr_in6 _ (by omega)) (fun _ => rfl) ?_
      refine sr_istoren (pc := 28) (n := 2) (by decide +kernel) (by decide) rfl rfl ?_
      refine sr_aloadn (pc := 29) (n := 0) (by decide +kernel) rfl ?_
      refine sr_gC (pc := 30) (i2 := 0) fg_10_19 (by decide +kernel) (sr_in10 _ (by omega)) (fun _ => rfl) ?_
      refine sr_iloadn (pc := 33) (n := 1) (by decide +kernel) rfl ?_
      refine sr_pI (pc := 34) fg_10_324 ft_6_4 (by decide +kernel) (sr_in6 _ (by omega)) (fun _ => rfl) (fun t1 => ?_)
      refine sr_iloadn (pc := 37) (n := 2) (by decide +kernel) rfl ?_
      exact sr_iret (pc := 38) (by decide +kernel) rfl
    · exact sr_wk (sr_mono (mc := 1) (ms := 6) (by omega) (by omega) (g10_copies_10 l a0 t)) ⟨rfl, ⟨rfl, trivial⟩⟩
def sr_m6_entryOf : sr_M := (⟨"ShiftRing$Store", "entryOf", "(I)LShiftRing$Entry;"⟩, prog_8_method_3_code, 3, (some (.object "ShiftRing$Entry")), [], 1, 21)
def sr_m6_hasRoomFor : sr_M := (⟨"ShiftRing$Store", "hasRoomFor", "(I)Z"⟩, prog_8_method_4_code, 2, (some .boolean), [], 2, 43)
def sr_m10_endOfLookup : sr_M := (⟨"ShiftRing", "endOfLookup", "(II)LShiftRing$Node;"⟩, prog_1_method_42_code, 4, (some (.object "ShiftRing$Node")), [], 6, 96)
def sr_m6_entryToPut : sr_M := (⟨"ShiftRing$Store", "entryToPut", "(I)LShiftRing$Entry;"⟩, prog_8_method_5_code, 3, (some (.object "ShiftRing$Entry")), [], 2, 43)
def sr_m0_hold : sr_M := (⟨"ShiftRing$Entry", "hold", "(III)V"⟩, prog_2_method_5_code, 4, none, [], 0, 0)
def sr_m6_keepAt : sr_M := (⟨"ShiftRing$Store", "keepAt", "(LShiftRing$Ring;LShiftRing$Node;II)I"⟩, prog_8_method_6_code, 9, (some .int), [], 3, 65)
def sr_m10_put : sr_M := (⟨"ShiftRing", "put", "(III)I"⟩, prog_1_method_40_code, 4, (some .int), [], 7, 119)
theorem fg_0_15 : sr_FG "ShiftRing$Entry" 15 0 2 4 := ⟨RX0, TX0, tyX0, rfl, by decide, rfl, uw_0, tyX0_ok, nmX0, Or.inl (sr_tb (n := 212) (by decide +kernel) rfl)⟩
theorem fg_6_22 : sr_FG "ShiftRing$Store" 22 6 4 5 := ⟨RX6, TX6, tyX6, rfl, by decide, rfl, uw_6, tyX6_ok, nmX6, Or.inl (sr_tb (n := 229) (by decide +kernel) rfl)⟩
theorem fg_6_33 : sr_FG "ShiftRing$Store" 33 0 0 4 := ⟨RX0, TX0, tyX0, rfl, by decide, rfl, uw_0, tyX0_ok, nmX0, Or.inr ⟨"ShiftRing", sr_nb (n := 208) (by decide +kernel) rfl⟩⟩
theorem fg_6_42 : sr_FG "ShiftRing$Store" 42 6 3 5 := ⟨RX6, TX6, tyX6, rfl, by decide, rfl, uw_6, tyX6_ok, nmX6, Or.inl (sr_tb (n := 227) (by decide +kernel) rfl)⟩
theorem fg_6_45 : sr_FG "ShiftRing$Store" 45 0 1 4 := ⟨RX0, TX0, tyX0, rfl, by decide, rfl, uw_0, tyX0_ok, nmX0, Or.inr ⟨"ShiftRing", sr_nb (n := 209) (by decide +kernel) rfl⟩⟩
theorem fg_6_48 : sr_FG "ShiftRing$Store" 48 2 0 8 := ⟨RX2, TX2, tyX2, rfl, by decide, rfl, uw_2, tyX2_ok, nmX2, Or.inr ⟨"ShiftRing", sr_nb (n := 91) (by decide +kernel) rfl⟩⟩
theorem fg_6_57 : sr_FG "ShiftRing$Store" 57 2 4 8 := ⟨RX2, TX2, tyX2, rfl, by decide, rfl, uw_2, tyX2_ok, nmX2, Or.inr ⟨"ShiftRing", sr_nb (n := 111) (by decide +kernel) rfl⟩⟩
theorem fg_6_61 : sr_FG "ShiftRing$Store" 61 7 1 3 := ⟨RX7, TX7, tyX7, rfl, by decide, rfl, uw_7, tyX7_ok, nmX7, Or.inr ⟨"ShiftRing", sr_nb (n := 74) (by decide +kernel) rfl⟩⟩
theorem fg_6_67 : sr_FG "ShiftRing$Store" 67 4 1 2 := ⟨RX4, TX4, tyX4, rfl, by decide, rfl, uw_4, tyX4_ok, nmX4, Or.inr ⟨"ShiftRing", sr_nb (n := 58) (by decide +kernel) rfl⟩⟩
theorem fg_6_82 : sr_FG "ShiftRing$Store" 82 2 2 8 := ⟨RX2, TX2, tyX2, rfl, by decide, rfl, uw_2, tyX2_ok, nmX2, Or.inr ⟨"ShiftRing", sr_nb (n := 101) (by decide +kernel) rfl⟩⟩
theorem ft_0_0 : sr_FT 0 0 4 0 false := ⟨RX0, TX0, rfl, rfl, (fun h => nomatch h), (show parseFieldDescriptor (TX0 0).2.2.1 = some .int from by decide +kernel)⟩
theorem ft_0_1 : sr_FT 0 1 4 0 false := ⟨RX0, TX0, rfl, rfl, (fun h => nomatch h), (show parseFieldDescriptor (TX0 1).2.2.1 = some .int from by decide +kernel)⟩
theorem ft_6_2 : sr_FT 6 2 5 0 false := ⟨RX6, TX6, rfl, rfl, (fun h => nomatch h), (show parseFieldDescriptor (TX6 2).2.2.1 = some .int from by decide +kernel)⟩
theorem ft_6_3 : sr_FT 6 3 5 0 false := ⟨RX6, TX6, rfl, rfl, (fun h => nomatch h), (show parseFieldDescriptor (TX6 3).2.2.1 = some .int from by decide +kernel)⟩
theorem fl_10_329 : Cond.methodLink "ShiftRing" 329 (sr_My sr_m6_hasRoomFor) ∈ sr_TB := (sr_tb (n := 1289) (by decide +kernel) rfl)
theorem fm_10_329 : sr_FV "ShiftRing" 329 sr_m6_hasRoomFor 6 1 := ⟨⟨rfl, sr_tb (n := 1292) (by decide +kernel) rfl, sr_tb (n := 6) (by decide +kernel) rfl, ⟨by decide, by decide, by decide +kernel⟩, Or.inl fl_10_329⟩, ⟨TX6, 5, rfl, rfl⟩, sr_tb (n := 1290) (by decide +kernel) rfl, sr_tb (n := 1291) (by decide +kernel) rfl⟩
theorem fl_10_334 : Cond.methodLink "ShiftRing" 334 (sr_My sr_m10_endOfLookup) ∈ sr_TB := (sr_tb (n := 1298) (by decide +kernel) rfl)
theorem fm_10_334 : sr_FV "ShiftRing" 334 sr_m10_endOfLookup 10 2 := ⟨⟨rfl, sr_tb (n := 1301) (by decide +kernel) rfl, sr_tb (n := 1) (by decide +kernel) rfl, ⟨by decide, by decide, by decide +kernel⟩, Or.inl fl_10_334⟩, ⟨TX10, 7, rfl, rfl⟩, sr_tb (n := 1300) (by decide +kernel) rfl, sr_ts (n := 37) (by decide +kernel) rfl⟩
theorem fl_10_338 : Cond.methodLink "ShiftRing" 338 (sr_My sr_m6_keepAt) ∈ sr_TB := (sr_tb (n := 1303) (by decide +kernel) rfl)
theorem fm_10_338 : sr_FV "ShiftRing" 338 sr_m6_keepAt 6 4 := ⟨⟨rfl, sr_tb (n := 1306) (by decide +kernel) rfl, sr_tb (n := 6) (by decide +kernel) rfl, ⟨by decide, by decide, by decide +kernel⟩, Or.inl fl_10_338⟩, ⟨TX6, 5, rfl, rfl⟩, sr_tb (n := 1304) (by decide +kernel) rfl, sr_tb (n := 1305) (by decide +kernel) rfl⟩
theorem fl_6_36 : Cond.methodLink "ShiftRing$Store" 36 (sr_My sr_m6_entryOf) ∈ sr_TB := (sr_tb (n := 1293) (by decide +kernel) rfl)
theorem fm_6_36 : sr_FV "ShiftRing$Store" 36 sr_m6_entryOf 6 1 := ⟨⟨rfl, sr_tb (n := 1296) (by decide +kernel) rfl, sr_tb (n := 6) (by decide +kernel) rfl, ⟨by decide, by decide, by decide +kernel⟩, Or.inl fl_6_36⟩, ⟨TX6, 5, rfl, rfl⟩, sr_tb (n := 1294) (by decide +kernel) rfl, sr_tb (n := 1295) (by decide +kernel) rfl⟩
theorem fl_6_39 : Cond.methodLink "ShiftRing$Store" 39 (sr_My sr_m6_entryToPut) ∈ sr_TB := (sr_tb (n := 1307) (by decide +kernel) rfl)
theorem fm_6_39 : sr_FV "ShiftRing$Store" 39 sr_m6_entryToPut 6 1 := ⟨⟨rfl, sr_tb (n := 1310) (by decide +kernel) rfl, sr_tb (n := 6) (by decide +kernel) rfl, ⟨by decide, by decide, by decide +kernel⟩, Or.inl fl_6_39⟩, ⟨TX6, 5, rfl, rfl⟩, sr_tb (n := 1309) (by decide +kernel) rfl, sr_ts (n := 38) (by decide +kernel) rfl⟩
theorem fl_6_53 : Cond.methodLink "ShiftRing$Store" 53 (sr_My sr_m0_hold) ∈ sr_TB := (sr_tb (n := 1311) (by decide +kernel) rfl)
theorem fm_6_53 : sr_FV "ShiftRing$Store" 53 sr_m0_hold 0 3 := ⟨⟨rfl, sr_tb (n := 1314) (by decide +kernel) rfl, sr_tb (n := 7) (by decide +kernel) rfl, ⟨by decide, by decide, by decide +kernel⟩, Or.inl fl_6_53⟩, ⟨TX0, 4, rfl, rfl⟩, sr_tb (n := 1312) (by decide +kernel) rfl, sr_tb (n := 1313) (by decide +kernel) rfl⟩
theorem fl_6_72 : Cond.methodLink "ShiftRing$Store" 72 (sr_My sr_m4_at) ∈ sr_TB := (sr_tb (n := 1315) (by decide +kernel) rfl)
theorem fm_6_72 : sr_FV "ShiftRing$Store" 72 sr_m4_at 4 1 := ⟨⟨rfl, sr_tb (n := 477) (by decide +kernel) rfl, sr_tb (n := 5) (by decide +kernel) rfl, ⟨by decide, by decide, by decide +kernel⟩, Or.inl fl_6_72⟩, ⟨TX4, 2, rfl, rfl⟩, sr_tb (n := 475) (by decide +kernel) rfl, sr_tb (n := 476) (by decide +kernel) rfl⟩
theorem fl_6_76 : Cond.methodLink "ShiftRing$Store" 76 (sr_My sr_m3_of) ∈ sr_TB := (sr_tb (n := 1316) (by decide +kernel) rfl)
theorem fm_6_76 : sr_FV "ShiftRing$Store" 76 sr_m3_of 3 1 := ⟨⟨rfl, sr_tb (n := 438) (by decide +kernel) rfl, sr_tb (n := 2) (by decide +kernel) rfl, ⟨by decide, by decide, by decide +kernel⟩, Or.inl fl_6_76⟩, ⟨TX3, 9, rfl, rfl⟩, sr_tb (n := 436) (by decide +kernel) rfl, sr_tb (n := 437) (by decide +kernel) rfl⟩
theorem rm_10_endOfLookup_3_of : sr_RM sr_m10_endOfLookup sr_m3_of := ⟨Nat.le_of_ble_eq_true rfl, Nat.le_of_ble_eq_true rfl⟩
theorem rm_10_endOfLookup_8_travel : sr_RM sr_m10_endOfLookup sr_m8_travel := ⟨Nat.le_of_ble_eq_true rfl, Nat.le_of_ble_eq_true rfl⟩
theorem rm_10_put_10_endOfLookup : sr_RM sr_m10_put sr_m10_endOfLookup := ⟨Nat.le_of_ble_eq_true rfl, Nat.le_of_ble_eq_true rfl⟩
theorem rm_10_put_10_needNode : sr_RM sr_m10_put sr_m10_needNode := ⟨Nat.le_of_ble_eq_true rfl, Nat.le_of_ble_eq_true rfl⟩
theorem rm_10_put_10_needPlace : sr_RM sr_m10_put sr_m10_needPlace := ⟨Nat.le_of_ble_eq_true rfl, Nat.le_of_ble_eq_true rfl⟩
theorem rm_10_put_10_needUp : sr_RM sr_m10_put sr_m10_needUp := ⟨Nat.le_of_ble_eq_true rfl, Nat.le_of_ble_eq_true rfl⟩
theorem rm_10_put_6_hasRoomFor : sr_RM sr_m10_put sr_m6_hasRoomFor := ⟨Nat.le_of_ble_eq_true rfl, Nat.le_of_ble_eq_true rfl⟩
theorem rm_10_put_6_keepAt : sr_RM sr_m10_put sr_m6_keepAt := ⟨Nat.le_of_ble_eq_true rfl, Nat.le_of_ble_eq_true rfl⟩
theorem rm_6_entryOf_6_entryAt : sr_RM sr_m6_entryOf sr_m6_entryAt := ⟨Nat.le_of_ble_eq_true rfl, Nat.le_of_ble_eq_true rfl⟩
theorem rm_6_entryToPut_6_entryAt : sr_RM sr_m6_entryToPut sr_m6_entryAt := ⟨Nat.le_of_ble_eq_true rfl, Nat.le_of_ble_eq_true rfl⟩
theorem rm_6_entryToPut_6_entryOf : sr_RM sr_m6_entryToPut sr_m6_entryOf := ⟨Nat.le_of_ble_eq_true rfl, Nat.le_of_ble_eq_true rfl⟩
theorem rm_6_hasRoomFor_6_entryOf : sr_RM sr_m6_hasRoomFor sr_m6_entryOf := ⟨Nat.le_of_ble_eq_true rfl, Nat.le_of_ble_eq_true rfl⟩
theorem rm_6_keepAt_0_hold : sr_RM sr_m6_keepAt sr_m0_hold := ⟨Nat.le_of_ble_eq_true rfl, Nat.le_of_ble_eq_true rfl⟩
theorem rm_6_keepAt_3_of : sr_RM sr_m6_keepAt sr_m3_of := ⟨Nat.le_of_ble_eq_true rfl, Nat.le_of_ble_eq_true rfl⟩
theorem rm_6_keepAt_4_at : sr_RM sr_m6_keepAt sr_m4_at := ⟨Nat.le_of_ble_eq_true rfl, Nat.le_of_ble_eq_true rfl⟩
theorem rm_6_keepAt_6_entryToPut : sr_RM sr_m6_keepAt sr_m6_entryToPut := ⟨Nat.le_of_ble_eq_true rfl, Nat.le_of_ble_eq_true rfl⟩
def f6_entryOf_2 (a0 : Int32) (k22 : Int32 → sr_t → sr_Rs) (k34 : sr_t → sr_Rs) : Nat → Int32 → sr_t → sr_Rs
  | 0 => fun _ _ => none
  | n + 1 => fun x2 t => (if (t.1 6 0 2) ≤ x2 then k34 t else (sr_bR 0 33 (F6_entryAt x2 t) (fun n1 t1 => (if (t1.1 0 n1 0) = a0 then k22 x2 t1 else (f6_entryOf_2 a0 k22 k34 n) (x2 + 1) t1))))
theorem g6_entryOf_2 (l : Launch) (a0 : Int32)  (k22 : Int32 → sr_t → sr_Rs) (k34 : sr_t → sr_Rs) (hk22 : ∀ (x2 : Int32), ∀ (t : sr_t), sr_g l sr_m6_entryOf 22 [some (sr_r 6 0), some (sr_i a0), some (sr_i x2)] [] t (k22 x2 t) 0 0) (hk34 : ∀ (t : sr_t), sr_g l sr_m6_entryOf 34 [some (sr_r 6 0), some (sr_i a0), none] [] t (k34 t) 0 0) : ∀ (n : Nat) (x2 : Int32), ∀ (t : sr_t), sr_g l sr_m6_entryOf 2 [some (sr_r 6 0), some (sr_i a0), some (sr_i x2)] [] t (f6_entryOf_2 a0 k22 k34 n x2 t) 0 0 := by
  intro n
  induction n with
  | zero => intros; exact sr_Gn
  | succ n ih =>
    intro x2  t
    unfold f6_entryOf_2
    refine sr_iloadn (pc := 2) (n := 2) (by decide +kernel) rfl ?_
    refine sr_aloadn (pc := 3) (n := 0) (by decide +kernel) rfl ?_
    refine sr_gI (pc := 4) fg_6_26 (by decide +kernel) (sr_in6 _ (by omega)) (fun _ => rfl) ?_
    refine sr_icmp_ge (pc := 7) (off := 27) (tg := 34) (by decide +kernel) (by decide) (fun _ => ?_) (fun _ => ?_)
    · exact sr_wk (sr_mono (mc := 0) (ms := 0) (by omega) (by omega) (hk34 t)) ⟨rfl, ⟨rfl, trivial⟩⟩
    · refine sr_aloadn (pc := 10) (n := 0) (by decide +kernel) rfl ?_
      refine sr_iloadn (pc := 11) (n := 2) (by decide +kernel) rfl ?_
      refine sr_cV (pc := 12) (As := [sr_i x2]) (mc1 := 0) (ms1 := 0) (mc2 := 0) (ms2 := 0) fm_6_29 fl_6_29 (by decide +kernel) (sr_in6 _ (by omega)) (rm_6_entryOf_6_entryAt) rfl rfl rfl (C6_entryAt l x2 t) ?_
      refine sr_kR (fun n1 t1 hv_n1 => ?_)
      refine sr_gI (pc := 15) fg_6_33 (by decide +kernel) (sr_in0 _ (by omega)) (fun _ => rfl) ?_
      refine sr_iloadn (pc := 18) (n := 1) (by decide +kernel) rfl ?_
      refine sr_icmp_ne (pc := 19) (off := 9) (tg := 28) (by decide +kernel) (by decide) (fun _ => ?_) (fun _ => ?_)
      · refine sr_iinc (pc := 28) (i := 2) (n := 1) (w := x2 + 1) (by decide +kernel) rfl rfl (by decide) rfl rfl ?_
        refine sr_goto (pc := 31) (off := (-29)) (tg := 2) (by decide +kernel) (by decide) ?_
        exact sr_wk (sr_mono (mc := 0) (ms := 0) (by omega) (by omega) (ih (x2 + 1) t1)) ⟨rfl, ⟨rfl, ⟨rfl, trivial⟩⟩⟩
      · exact sr_wk (sr_mono (mc := 0) (ms := 0) (by omega) (by omega) (hk22 x2 t1)) ⟨rfl, ⟨rfl, ⟨rfl, trivial⟩⟩⟩
def f6_entryOf_22 (a0 : Int32)  : Int32 → sr_t → sr_Rs := fun x2 t => (sr_bR 0 33 (F6_entryAt x2 t) (fun n1 t1 => (some (.inl (some (sr_r 0 n1)), t1))))
theorem g6_entryOf_22 (l : Launch) (a0 : Int32)    : ∀ (x2 : Int32), ∀ (t : sr_t), sr_g l sr_m6_entryOf 22 [some (sr_r 6 0), some (sr_i a0), some (sr_i x2)] [] t (f6_entryOf_22 a0  x2 t) 0 0 := by
  intro x2  t
  unfold f6_entryOf_22
  refine sr_aloadn (pc := 22) (n := 0) (by decide +kernel) rfl ?_
  refine sr_iloadn (pc := 23) (n := 2) (by decide +kernel) rfl ?_
  refine sr_cV (pc := 24) (As := [sr_i x2]) (mc1 := 0) (ms1 := 0) (mc2 := 0) (ms2 := 0) fm_6_29 fl_6_29 (by decide +kernel) (sr_in6 _ (by omega)) (rm_6_entryOf_6_entryAt) rfl rfl rfl (C6_entryAt l x2 t) ?_
  refine sr_kR (fun n1 t1 hv_n1 => ?_)
  exact sr_aret (pc := 27) (by decide +kernel) rfl
def f6_entryOf_34 (a0 : Int32)  : sr_t → sr_Rs := fun  t => (some (.inl (some (sr_r 0 32)), t))
theorem g6_entryOf_34 (l : Launch) (a0 : Int32)    : ∀ (t : sr_t), sr_g l sr_m6_entryOf 34 [some (sr_r 6 0), some (sr_i a0), none] [] t (f6_entryOf_34 a0   t) 0 0 := by
  intro t
  unfold f6_entryOf_34
  refine sr_aloadn (pc := 34) (n := 0) (by decide +kernel) rfl ?_
  refine sr_gC (pc := 35) (i2 := 32) fg_6_18 (by decide +kernel) (sr_in6 _ (by omega)) (fun _ => rfl) ?_
  exact sr_aret (pc := 38) (by decide +kernel) rfl
def F6_entryOf (a0 : Int32) (t : sr_t) : sr_Rs := f6_entryOf_2 a0 (f6_entryOf_22 a0) (f6_entryOf_34 a0) sr_fu 0 t
theorem C6_entryOf (l : Launch) (a0 : Int32)  (t : sr_t) : sr_ct' l sr_m6_entryOf [sr_r 6 0, sr_i a0] t (F6_entryOf a0 t) 0 0 := by
  refine sr_T_of (L0 := [some (sr_r 6 0), some (sr_i a0), none]) rfl (by decide +kernel) (fun _ => rfl) (fun _ => Nat.le_of_ble_eq_true rfl) ?_
  unfold F6_entryOf
  refine sr_iconst (pc := 0) (n := 0) (v := 0) (by decide +kernel) rfl ?_
  refine sr_istoren (pc := 1) (n := 2) (by decide +kernel) (by decide) rfl rfl ?_
  exact sr_wk (sr_mono (mc := 0) (ms := 0) (by omega) (by omega) (g6_entryOf_2 l a0 (f6_entryOf_22 a0) (f6_entryOf_34 a0) (g6_entryOf_22 l a0) (g6_entryOf_34 l a0) sr_fu 0 t)) ⟨rfl, ⟨rfl, ⟨rfl, trivial⟩⟩⟩
def f6_hasRoomFor_26 (a0 : Int32)  : Int32 → sr_t → sr_Rs := fun xs0 t => (if xs0 = 0 ∨ xs0 = 1 then some (.inl (some (sr_i xs0)), t) else none)
theorem g6_hasRoomFor_26 (l : Launch) (a0 : Int32)    : ∀ (xs0 : Int32), ∀ (t : sr_t), sr_g l sr_m6_hasRoomFor 26 [some (sr_r 6 0), some (sr_i a0)] [sr_i xs0] t (f6_hasRoomFor_26 a0  xs0 t) 0 0 := by
  intro xs0  t
  unfold f6_hasRoomFor_26
  exact sr_zr (pc := 26) (by decide +kernel) rfl
def f6_hasRoomFor_21 (a0 : Int32)  : sr_t → sr_Rs := fun  t => f6_hasRoomFor_26 a0 1 t
theorem g6_hasRoomFor_21 (l : Launch) (a0 : Int32)    : ∀ (t : sr_t), sr_g l sr_m6_hasRoomFor 21 [some (sr_r 6 0), some (sr_i a0)] [] t (f6_hasRoomFor_21 a0   t) 0 0 := by
  intro t
  unfold f6_hasRoomFor_21
  refine sr_iconst (pc := 21) (n := 1) (v := 1) (by decide +kernel) rfl ?_
  refine sr_goto (pc := 22) (off := 4) (tg := 26) (by decide +kernel) (by decide) ?_
  exact sr_wk (sr_mono (mc := 0) (ms := 0) (by omega) (by omega) (g6_hasRoomFor_26 l a0 1 t)) ⟨rfl, ⟨rfl, trivial⟩⟩
def F6_hasRoomFor (a0 : Int32) (t : sr_t) : sr_Rs := (if (t.1 6 0 2) < 32 then f6_hasRoomFor_21 a0 t else (sr_bR 0 33 (F6_entryOf a0 t) (fun n1 t1 => (if n1 = 32 then f6_hasRoomFor_26 a0 0 t1 else f6_hasRoomFor_21 a0 t1))))
theorem C6_hasRoomFor (l : Launch) (a0 : Int32)  (t : sr_t) : sr_ct' l sr_m6_hasRoomFor [sr_r 6 0, sr_i a0] t (F6_hasRoomFor a0 t) 0 0 := by
  refine sr_T_of (L0 := [some (sr_r 6 0), some (sr_i a0)]) rfl (by decide +kernel) (fun _ => rfl) (fun _ => Nat.le_of_ble_eq_true rfl) ?_
  unfold F6_hasRoomFor
  refine sr_aloadn (pc := 0) (n := 0) (by decide +kernel) rfl ?_
  refine sr_gI (pc := 1) fg_6_26 (by decide +kernel) (sr_in6 _ (by omega)) (fun _ => rfl) ?_
  refine sr_bipush (pc := 4) (n := 32) (v := 32) (by decide +kernel) (by decide) ?_
  refine sr_icmp_lt (pc := 6) (off := 15) (tg := 21) (by decide +kernel) (by decide) (fun _ => ?_) (fun _ => ?_)
  · exact sr_wk (sr_mono (mc := 0) (ms := 0) (by omega) (by omega) (g6_hasRoomFor_21 l a0 t)) ⟨rfl, ⟨rfl, trivial⟩⟩
  · refine sr_aloadn (pc := 9) (n := 0) (by decide +kernel) rfl ?_
    refine sr_iloadn (pc := 10) (n := 1) (by decide +kernel) rfl ?_
    refine sr_cV (pc := 11) (As := [sr_i a0]) (mc1 := 0) (ms1 := 0) (mc2 := 0) (ms2 := 0) fm_6_36 fl_6_36 (by decide +kernel) (sr_in6 _ (by omega)) (rm_6_hasRoomFor_6_entryOf) rfl rfl rfl (C6_entryOf l a0 t) ?_
    refine sr_kR (fun n1 t1 hv_n1 => ?_)
    refine sr_aloadn (pc := 14) (n := 0) (by decide +kernel) rfl ?_
    refine sr_gC (pc := 15) (i2 := 32) fg_6_18 (by decide +kernel) (sr_in6 _ (by omega)) (fun _ => rfl) ?_
    refine sr_acmp_eq (pc := 18) (off := 7) (tg := 25) (by decide +kernel) (by decide) (sr_in0 _ (by omega)) (sr_in0 _ (by omega)) (fun _ => ?_) (fun _ => ?_)
    · refine sr_iconst (pc := 25) (n := 0) (v := 0) (by decide +kernel) rfl ?_
      exact sr_wk (sr_mono (mc := 0) (ms := 0) (by omega) (by omega) (g6_hasRoomFor_26 l a0 0 t1)) ⟨rfl, ⟨rfl, trivial⟩⟩
    · exact sr_wk (sr_mono (mc := 0) (ms := 0) (by omega) (by omega) (g6_hasRoomFor_21 l a0 t1)) ⟨rfl, ⟨rfl, trivial⟩⟩
def F10_endOfLookup (a0 : Int32) (a1 : Int32) (t : sr_t) : sr_Rs := (sr_bR 2 50 (F3_of 0 a0 t) (fun n1 t1 => (sr_bI (F8_travel 0 0 n1 a1 1 t1) (fun v2 t2 => (if 0 ≤ v2 then (sr_bR 2 50 (F3_of 0 v2 t2) (fun n3 t3 => (some (.inl (some (sr_r 2 n3)), t3)))) else (some (.inr 1, t2)))))))
theorem C10_endOfLookup (l : Launch) (a0 : Int32) (a1 : Int32)  (t : sr_t) : sr_ct' l sr_m10_endOfLookup [sr_r 10 0, sr_i a0, sr_i a1] t (F10_endOfLookup a0 a1 t) 1 6 := by
  refine sr_T_of (L0 := [some (sr_r 10 0), some (sr_i a0), some (sr_i a1), none]) rfl (by decide +kernel) (fun _ => rfl) (fun _ => Nat.le_of_ble_eq_true rfl) ?_
  unfold F10_endOfLookup
  refine sr_aloadn (pc := 0) (n := 0) (by decide +kernel) rfl ?_
  refine sr_gC (pc := 1) (i2 := 0) fg_10_28 (by decide +kernel) (sr_in10 _ (by omega)) (fun _ => rfl) ?_
  refine sr_aloadn (pc := 4) (n := 0) (by decide +kernel) rfl ?_
  refine sr_gC (pc := 5) (i2 := 0) fg_10_12 (by decide +kernel) (sr_in10 _ (by omega)) (fun _ => rfl) ?_
  refine sr_aloadn (pc := 8) (n := 0) (by decide +kernel) rfl ?_
  refine sr_gC (pc := 9) (i2 := 0) fg_10_12 (by decide +kernel) (sr_in10 _ (by omega)) (fun _ => rfl) ?_
  refine sr_iloadn (pc := 12) (n := 1) (by decide +kernel) rfl ?_
  refine sr_cV (pc := 13) (As := [sr_i a0]) (mc1 := 0) (ms1 := 0) (mc2 := 1) (ms2 := 6) fm_10_87 fl_10_87 (by decide +kernel) (sr_in3 _ (by omega)) (rm_10_endOfLookup_3_of) rfl rfl rfl (C3_of l 0 a0 (by omega) t) ?_
  refine sr_kR (fun n1 t1 hv_n1 => ?_)
  refine sr_iloadn (pc := 16) (n := 2) (by decide +kernel) rfl ?_
  refine sr_iconst (pc := 17) (n := 1) (v := 1) (by decide +kernel) rfl ?_
  refine sr_cV (pc := 18) (As := [sr_r 3 0, sr_r 2 n1, sr_i a1, sr_i 1]) (mc1 := 0) (ms1 := 0) (mc2 := 1) (ms2 := 6) fm_10_146 fl_10_146 (by decide +kernel) (sr_in8 _ (by omega)) (rm_10_endOfLookup_8_travel) rfl rfl rfl (C8_travel l 0 0 n1 a1 1 (by omega) (by omega) (by omega) t1) ?_
  refine sr_kI (fun v2 t2 => ?_)
  refine sr_istoren (pc := 21) (n := 3) (by decide +kernel) (by decide) rfl rfl ?_
  refine sr_iloadn (pc := 22) (n := 3) (by decide +kernel) rfl ?_
  refine sr_if_ge (pc := 23) (off := 14) (tg := 37) (by decide +kernel) (by decide) (fun _ => ?_) (fun _ => ?_)
  · refine sr_aloadn (pc := 37) (n := 0) (by decide +kernel) rfl ?_
    refine sr_gC (pc := 38) (i2 := 0) fg_10_12 (by decide +kernel) (sr_in10 _ (by omega)) (fun _ => rfl) ?_
    refine sr_iloadn (pc := 41) (n := 3) (by decide +kernel) rfl ?_
    refine sr_cV (pc := 42) (As := [sr_i v2]) (mc1 := 0) (ms1 := 0) (mc2 := 1) (ms2 := 6) fm_10_87 fl_10_87 (by decide +kernel) (sr_in3 _ (by omega)) (rm_10_endOfLookup_3_of) rfl rfl rfl (C3_of l 0 v2 (by omega) t2) ?_
    refine sr_kR (fun n3 t3 hv_n3 => ?_)
    exact sr_aret (pc := 45) (by decide +kernel) rfl
  · exact sr_thr (pc := 26) (ik := 70) (is := 345) (ic := 74) (tx := "the lookup is cut or lost") (z := 1) (mc := 0) (ms := 0) fx_70_74 (by decide +kernel) (by decide +kernel) (by decide +kernel) (Or.inr ⟨by decide +kernel, by decide +kernel, by decide +kernel⟩) rfl (by decide) (by decide) rfl rfl
def f6_entryToPut_47 (a0 : Int32)  : Nat → sr_t → sr_Rs := fun j2 t => (some (.inl (some (sr_r 0 j2)), t))
theorem g6_entryToPut_47 (l : Launch) (a0 : Int32)    : ∀ (j2 : Nat), j2 < 33 → ∀ (t : sr_t), sr_g l sr_m6_entryToPut 47 [some (sr_r 6 0), some (sr_i a0), some (sr_r 0 j2)] [] t (f6_entryToPut_47 a0  j2 t) 0 0 := by
  intro j2 hv_j2 t
  unfold f6_entryToPut_47
  refine sr_aloadn (pc := 47) (n := 2) (by decide +kernel) rfl ?_
  exact sr_aret (pc := 48) (by decide +kernel) rfl
def F6_entryToPut (a0 : Int32) (t : sr_t) : sr_Rs := (sr_bR 0 33 (F6_entryOf a0 t) (fun n1 t1 => (if n1 = 32 then (if 32 ≤ (t1.1 6 0 2) then f6_entryToPut_47 a0 n1 t1 else (sr_bR 0 33 (F6_entryAt (t1.1 6 0 2) t1) (fun n2 t2 => (sr_lt (sr_u t2 0 n2 0 a0) (fun t3 => (sr_lt (sr_u t3 6 0 2 ((t3.1 6 0 2) + 1)) (fun t4 => f6_entryToPut_47 a0 n2 t4))))))) else f6_entryToPut_47 a0 n1 t1)))
theorem C6_entryToPut (l : Launch) (a0 : Int32)  (t : sr_t) : sr_ct' l sr_m6_entryToPut [sr_r 6 0, sr_i a0] t (F6_entryToPut a0 t) 0 0 := by
  refine sr_T_of (L0 := [some (sr_r 6 0), some (sr_i a0), none]) rfl (by decide +kernel) (fun _ => rfl) (fun _ => Nat.le_of_ble_eq_true rfl) ?_
  unfold F6_entryToPut
  refine sr_aloadn (pc := 0) (n := 0) (by decide +kernel) rfl ?_
  refine sr_iloadn (pc := 1) (n := 1) (by decide +kernel) rfl ?_
  refine sr_cV (pc := 2) (As := [sr_i a0]) (mc1 := 0) (ms1 := 0) (mc2 := 0) (ms2 := 0) fm_6_36 fl_6_36 (by decide +kernel) (sr_in6 _ (by omega)) (rm_6_entryToPut_6_entryOf) rfl rfl rfl (C6_entryOf l a0 t) ?_
  refine sr_kR (fun n1 t1 hv_n1 => ?_)
  refine sr_astoren (pc := 5) (n := 2) (by decide +kernel) (by decide) rfl rfl ?_
  refine sr_aloadn (pc := 6) (n := 2) (by decide +kernel) rfl ?_
  refine sr_aloadn (pc := 7) (n := 0) (by decide +kernel) rfl ?_
  refine sr_gC (pc := 8) (i2 := 32) fg_6_18 (by decide +kernel) (sr_in6 _ (by omega)) (fun _ => rfl) ?_
  refine sr_acmp_ne (pc := 11) (off := 36) (tg := 47) (by decide +kernel) (by decide) (sr_in0 _ (by omega)) (sr_in0 _ (by omega)) (fun _ => ?_) (fun _ => ?_)
  · exact sr_wk (sr_mono (mc := 0) (ms := 0) (by omega) (by omega) (g6_entryToPut_47 l a0 n1 (by omega) t1)) ⟨rfl, ⟨rfl, ⟨rfl, trivial⟩⟩⟩
  · refine sr_aloadn (pc := 14) (n := 0) (by decide +kernel) rfl ?_
    refine sr_gI (pc := 15) fg_6_26 (by decide +kernel) (sr_in6 _ (by omega)) (fun _ => rfl) ?_
    refine sr_bipush (pc := 18) (n := 32) (v := 32) (by decide +kernel) (by decide) ?_
    refine sr_icmp_ge (pc := 20) (off := 27) (tg := 47) (by decide +kernel) (by decide) (fun _ => ?_) (fun _ => ?_)
    · exact sr_wk (sr_mono (mc := 0) (ms := 0) (by omega) (by omega) (g6_entryToPut_47 l a0 n1 (by omega) t1)) ⟨rfl, ⟨rfl, ⟨rfl, trivial⟩⟩⟩
    · refine sr_aloadn (pc := 23) (n := 0) (by decide +kernel) rfl ?_
      refine sr_aloadn (pc := 24) (n := 0) (by decide +kernel) rfl ?_
      refine sr_gI (pc := 25) fg_6_26 (by decide +kernel) (sr_in6 _ (by omega)) (fun _ => rfl) ?_
      refine sr_cV (pc := 28) (As := [sr_i (t1.1 6 0 2)]) (mc1 := 0) (ms1 := 0) (mc2 := 0) (ms2 := 0) fm_6_29 fl_6_29 (by decide +kernel) (sr_in6 _ (by omega)) (rm_6_entryToPut_6_entryAt) rfl rfl rfl (C6_entryAt l (t1.1 6 0 2) t1) ?_
      refine sr_kR (fun n2 t2 hv_n2 => ?_)
      refine sr_astoren (pc := 31) (n := 2) (by decide +kernel) (by decide) rfl rfl ?_
      refine sr_aloadn (pc := 32) (n := 2) (by decide +kernel) rfl ?_
      refine sr_iloadn (pc := 33) (n := 1) (by decide +kernel) rfl ?_
      refine sr_pI (pc := 34) fg_6_33 ft_0_0 (by decide +kernel) (sr_in0 _ (by omega)) (fun _ => rfl) (fun t3 => ?_)
      refine sr_aloadn (pc := 37) (n := 0) (by decide +kernel) rfl ?_
      refine sr_dup (pc := 38) (by decide +kernel) rfl ?_
      refine sr_gI (pc := 39) fg_6_26 (by decide +kernel) (sr_in6 _ (by omega)) (fun _ => rfl) ?_
      refine sr_iconst (pc := 42) (n := 1) (v := 1) (by decide +kernel) rfl ?_
      refine sr_iadd (pc := 43) (by decide +kernel) ?_
      refine sr_pI (pc := 44) fg_6_26 ft_6_2 (by decide +kernel) (sr_in6 _ (by omega)) (fun _ => rfl) (fun t4 => ?_)
      exact sr_wk (sr_mono (mc := 0) (ms := 0) (by omega) (by omega) (g6_entryToPut_47 l a0 n2 (by omega) t4)) ⟨rfl, ⟨rfl, ⟨rfl, trivial⟩⟩⟩
def f0_hold_36 (i0 : Nat) (a0 : Int32) (a1 : Int32) (a2 : Int32)  : sr_t → sr_Rs := fun  t => (some (.inl none, t))
theorem g0_hold_36 (l : Launch) (i0 : Nat) (a0 : Int32) (a1 : Int32) (a2 : Int32) (hv_i0 : i0 < 33)   : ∀ (t : sr_t), sr_g l sr_m0_hold 36 [some (sr_r 0 i0), some (sr_i a0), some (sr_i a1), some (sr_i a2)] [] t (f0_hold_36 i0 a0 a1 a2   t) 0 0 := by
  intro t
  unfold f0_hold_36
  exact sr_ret (pc := 36) (by decide +kernel) rfl
def F0_hold (i0 : Nat) (a0 : Int32) (a1 : Int32) (a2 : Int32) (t : sr_t) : sr_Rs := (if a0 < 0 then f0_hold_36 i0 a0 a1 a2 t else (if 24 ≤ a0 then f0_hold_36 i0 a0 a1 a2 t else (if 24 ≤ a0 then f0_hold_36 i0 a0 a1 a2 t else (if a0 < 0 ∨ 24 ≤ a0.toNatClampNeg then none else sr_lt (sr_u t 20 i0 a0.toNatClampNeg a1) (fun t1 => (if a0 < 0 ∨ 24 ≤ a0.toNatClampNeg then none else sr_lt (sr_u t1 21 i0 a0.toNatClampNeg a2) (fun t2 => f0_hold_36 i0 a0 a1 a2 t2)))))))
theorem C0_hold (l : Launch) (i0 : Nat) (a0 : Int32) (a1 : Int32) (a2 : Int32) (hv_i0 : i0 < 33) (t : sr_t) : sr_ct' l sr_m0_hold [sr_r 0 i0, sr_i a0, sr_i a1, sr_i a2] t (F0_hold i0 a0 a1 a2 t) 0 0 := by
  refine sr_T_of (L0 := [some (sr_r 0 i0), some (sr_i a0), some (sr_i a1), some (sr_i a2)]) rfl (by decide +kernel) (fun _ => rfl) (fun _ => Nat.le_of_ble_eq_true rfl) ?_
  unfold F0_hold
  refine sr_iloadn (pc := 0) (n := 1) (by decide +kernel) rfl ?_
  refine sr_if_lt (pc := 1) (off := 35) (tg := 36) (by decide +kernel) (by decide) (fun _ => ?_) (fun _ => ?_)
  · exact sr_wk (sr_mono (mc := 0) (ms := 0) (by omega) (by omega) (g0_hold_36 l i0 a0 a1 a2 hv_i0 t)) ⟨rfl, ⟨rfl, ⟨rfl, ⟨rfl, trivial⟩⟩⟩⟩
  · refine sr_iloadn (pc := 4) (n := 1) (by decide +kernel) rfl ?_
    refine sr_aloadn (pc := 5) (n := 0) (by decide +kernel) rfl ?_
    refine sr_gC (pc := 6) (i2 := i0) fg_0_15 (by decide +kernel) (sr_in0 _ (by omega)) (fun _ => rfl) ?_
    refine sr_al' (pc := 9) (ty := 0) (n := 24) (v := 24) rfl (by decide) (by decide +kernel) (sr_in20 _ (by omega)) (by decide) ?_
    refine sr_icmp_ge (pc := 10) (off := 26) (tg := 36) (by decide +kernel) (by decide) (fun _ => ?_) (fun _ => ?_)
    · exact sr_wk (sr_mono (mc := 0) (ms := 0) (by omega) (by omega) (g0_hold_36 l i0 a0 a1 a2 hv_i0 t)) ⟨rfl, ⟨rfl, ⟨rfl, ⟨rfl, trivial⟩⟩⟩⟩
    · refine sr_iloadn (pc := 13) (n := 1) (by decide +kernel) rfl ?_
      refine sr_aloadn (pc := 14) (n := 0) (by decide +kernel) rfl ?_
      refine sr_gC (pc := 15) (i2 := i0) fg_0_19 (by decide +kernel) (sr_in0 _ (by omega)) (fun _ => rfl) ?_
      refine sr_al' (pc := 18) (ty := 0) (n := 24) (v := 24) rfl (by decide) (by decide +kernel) (sr_in21 _ (by omega)) (by decide) ?_
      refine sr_icmp_ge (pc := 19) (off := 17) (tg := 36) (by decide +kernel) (by decide) (fun _ => ?_) (fun _ => ?_)
      · exact sr_wk (sr_mono (mc := 0) (ms := 0) (by omega) (by omega) (g0_hold_36 l i0 a0 a1 a2 hv_i0 t)) ⟨rfl, ⟨rfl, ⟨rfl, ⟨rfl, trivial⟩⟩⟩⟩
      · refine sr_aloadn (pc := 22) (n := 0) (by decide +kernel) rfl ?_
        refine sr_gC (pc := 23) (i2 := i0) fg_0_15 (by decide +kernel) (sr_in0 _ (by omega)) (fun _ => rfl) ?_
        refine sr_iloadn (pc := 26) (n := 1) (by decide +kernel) rfl ?_
        refine sr_iloadn (pc := 27) (n := 2) (by decide +kernel) rfl ?_
        refine sr_sI (pc := 28) (n := 24) rfl (by decide +kernel) (sr_in20 _ (by omega)) (fun _ _ => rfl) (fun t1 => ?_)
        refine sr_aloadn (pc := 29) (n := 0) (by decide +kernel) rfl ?_
        refine sr_gC (pc := 30) (i2 := i0) fg_0_19 (by decide +kernel) (sr_in0 _ (by omega)) (fun _ => rfl) ?_
        refine sr_iloadn (pc := 33) (n := 1) (by decide +kernel) rfl ?_
        refine sr_iloadn (pc := 34) (n := 3) (by decide +kernel) rfl ?_
        refine sr_sI (pc := 35) (n := 24) rfl (by decide +kernel) (sr_in21 _ (by omega)) (fun _ _ => rfl) (fun t2 => ?_)
        exact sr_wk (sr_mono (mc := 0) (ms := 0) (by omega) (by omega) (g0_hold_36 l i0 a0 a1 a2 hv_i0 t2)) ⟨rfl, ⟨rfl, ⟨rfl, ⟨rfl, trivial⟩⟩⟩⟩
def f6_keepAt_113 (i1 : Nat) (i2 : Nat) (a2 : Int32) (a3 : Int32) (k56 : Nat → Int32 → Nat → Int32 → sr_t → sr_Rs) (k119 : Int32 → sr_t → sr_Rs) : Nat → Int32 → Nat → Int32 → sr_t → sr_Rs := fun j5 x6 j7 x8 t => k56 j5 x6 j7 (x8 + 1) t
theorem g6_keepAt_113 (l : Launch) (i1 : Nat) (i2 : Nat) (a2 : Int32) (a3 : Int32) (hv_i1 : i1 < 2) (hv_i2 : i2 < 50) (k56 : Nat → Int32 → Nat → Int32 → sr_t → sr_Rs) (k119 : Int32 → sr_t → sr_Rs) (hk56 : ∀ (j5 : Nat) (x6 : Int32) (j7 : Nat) (x8 : Int32), j5 < 33 → j7 < 107 → ∀ (t : sr_t), sr_g l sr_m6_keepAt 56 [some (sr_r 6 0), some (sr_r 3 i1), some (sr_r 2 i2), some (sr_i a2), some (sr_i a3), some (sr_r 0 j5), some (sr_i x6), some (sr_r 4 j7), some (sr_i x8)] [] t (k56 j5 x6 j7 x8 t) 0 0) (hk119 : ∀ (x6 : Int32), ∀ (t : sr_t), sr_g l sr_m6_keepAt 119 [some (sr_r 6 0), some (sr_r 3 i1), some (sr_r 2 i2), some (sr_i a2), some (sr_i a3), none, some (sr_i x6), none, none] [] t (k119 x6 t) 0 0) : ∀ (j5 : Nat) (x6 : Int32) (j7 : Nat) (x8 : Int32), j5 < 33 → j7 < 107 → ∀ (t : sr_t), sr_g l sr_m6_keepAt 113 [some (sr_r 6 0), some (sr_r 3 i1), some (sr_r 2 i2), some (sr_i a2), some (sr_i a3), some (sr_r 0 j5), some (sr_i x6), some (sr_r 4 j7), some (sr_i x8)] [] t (f6_keepAt_113 i1 i2 a2 a3 k56 k119 j5 x6 j7 x8 t) 0 0 := by
  intro j5 x6 j7 x8 hv_j5 hv_j7 t
  unfold f6_keepAt_113
  refine sr_iinc (pc := 113) (i := 8) (n := 1) (w := x8 + 1) (by decide +kernel) rfl rfl (by decide) rfl rfl ?_
  refine sr_goto (pc := 116) (off := (-60)) (tg := 56) (by decide +kernel) (by decide) ?_
  exact sr_wk (sr_mono (mc := 0) (ms := 0) (by omega) (by omega) (hk56 j5 x6 j7 (x8 + 1) (by omega) (by omega) t)) ⟨rfl, ⟨rfl, ⟨rfl, ⟨rfl, ⟨rfl, ⟨rfl, ⟨rfl, ⟨rfl, ⟨rfl, trivial⟩⟩⟩⟩⟩⟩⟩⟩⟩
def f6_keepAt_56 (i1 : Nat) (i2 : Nat) (a2 : Int32) (a3 : Int32) (k119 : Int32 → sr_t → sr_Rs) : Nat → Nat → Int32 → Nat → Int32 → sr_t → sr_Rs
  | 0 => fun _ _ _ _ _ => none
  | n + 1 => fun j5 x6 j7 x8 t => (if (t.1 4 j7 1) ≤ x8 then k119 x6 t else (if (t.1 6 0 4) ≤ x6 then k119 x6 t else (sr_bI (F4_at j7 x8 t) (fun v1 t1 => (sr_bR 2 50 (F3_of i1 v1 t1) (fun n2 t2 => (if (t2.1 2 n2 2) = 0 then f6_keepAt_113 i1 i2 a2 a3 (f6_keepAt_56 i1 i2 a2 a3 k119 n) k119 j5 x6 j7 x8 t2 else (sr_bI (F4_at j7 x8 t2) (fun v3 t3 => (sr_bV (F0_hold j5 v3 a3 (t3.1 6 0 3) t3) (fun t4 => f6_keepAt_113 i1 i2 a2 a3 (f6_keepAt_56 i1 i2 a2 a3 k119 n) k119 j5 (x6 + 1) j7 x8 t4)))))))))))
theorem g6_keepAt_56 (l : Launch) (i1 : Nat) (i2 : Nat) (a2 : Int32) (a3 : Int32) (hv_i1 : i1 < 2) (hv_i2 : i2 < 50) (k119 : Int32 → sr_t → sr_Rs) (hk119 : ∀ (x6 : Int32), ∀ (t : sr_t), sr_g l sr_m6_keepAt 119 [some (sr_r 6 0), some (sr_r 3 i1), some (sr_r 2 i2), some (sr_i a2), some (sr_i a3), none, some (sr_i x6), none, none] [] t (k119 x6 t) 0 0) : ∀ (n : Nat) (j5 : Nat) (x6 : Int32) (j7 : Nat) (x8 : Int32), j5 < 33 → j7 < 107 → ∀ (t : sr_t), sr_g l sr_m6_keepAt 56 [some (sr_r 6 0), some (sr_r 3 i1), some (sr_r 2 i2), some (sr_i a2), some (sr_i a3), some (sr_r 0 j5), some (sr_i x6), some (sr_r 4 j7), some (sr_i x8)] [] t (f6_keepAt_56 i1 i2 a2 a3 k119 n j5 x6 j7 x8 t) 0 0 := by
  intro n
  induction n with
  | zero => intros; exact sr_Gn
  | succ n ih =>
    intro j5 x6 j7 x8 hv_j5 hv_j7 t
    unfold f6_keepAt_56
    refine sr_iload (pc := 56) (i := 8) (by decide +kernel) rfl ?_
    refine sr_aload (pc := 58) (i := 7) (by decide +kernel) rfl ?_
    refine sr_gI (pc := 60) fg_6_67 (by decide +kernel) (sr_in4 _ (by omega)) (fun _ => rfl) ?_
    refine sr_icmp_ge (pc := 63) (off := 56) (tg := 119) (by decide +kernel) (by decide) (fun _ => ?_) (fun _ => ?_)
    · exact sr_wk (sr_mono (mc := 0) (ms := 0) (by omega) (by omega) (hk119 x6 t)) ⟨rfl, ⟨rfl, ⟨rfl, ⟨rfl, ⟨rfl, ⟨rfl, trivial⟩⟩⟩⟩⟩⟩
    · refine sr_iload (pc := 66) (i := 6) (by decide +kernel) rfl ?_
      refine sr_aloadn (pc := 68) (n := 0) (by decide +kernel) rfl ?_
      refine sr_gI (pc := 69) fg_6_22 (by decide +kernel) (sr_in6 _ (by omega)) (fun _ => rfl) ?_
      refine sr_icmp_ge (pc := 72) (off := 47) (tg := 119) (by decide +kernel) (by decide) (fun _ => ?_) (fun _ => ?_)
      · exact sr_wk (sr_mono (mc := 0) (ms := 0) (by omega) (by omega) (hk119 x6 t)) ⟨rfl, ⟨rfl, ⟨rfl, ⟨rfl, ⟨rfl, ⟨rfl, trivial⟩⟩⟩⟩⟩⟩
      · refine sr_aloadn (pc := 75) (n := 1) (by decide +kernel) rfl ?_
        refine sr_aload (pc := 76) (i := 7) (by decide +kernel) rfl ?_
        refine sr_iload (pc := 78) (i := 8) (by decide +kernel) rfl ?_
        refine sr_cV (pc := 80) (As := [sr_i x8]) (mc1 := 0) (ms1 := 0) (mc2 := 0) (ms2 := 0) fm_6_72 fl_6_72 (by decide +kernel) (sr_in4 _ (by omega)) (rm_6_keepAt_4_at) rfl rfl rfl (C4_at l j7 x8 (by omega) t) ?_
        refine sr_kI (fun v1 t1 => ?_)
        refine sr_cV (pc := 83) (As := [sr_i v1]) (mc1 := 0) (ms1 := 0) (mc2 := 0) (ms2 := 0) fm_6_76 fl_6_76 (by decide +kernel) (sr_in3 _ (by omega)) (rm_6_keepAt_3_of) rfl rfl rfl (C3_of l i1 v1 (by omega) t1) ?_
        refine sr_kR (fun n2 t2 hv_n2 => ?_)
        refine sr_gI (pc := 86) fg_6_82 (by decide +kernel) (sr_in2 _ (by omega)) (fun _ => rfl) ?_
        refine sr_if_eq (pc := 89) (off := 24) (tg := 113) (by decide +kernel) (by decide) (fun _ => ?_) (fun _ => ?_)
        · exact sr_wk (sr_mono (mc := 0) (ms := 0) (by omega) (by omega) (g6_keepAt_113 l i1 i2 a2 a3 hv_i1 hv_i2 (f6_keepAt_56 i1 i2 a2 a3 k119 n) k119 ih hk119 j5 x6 j7 x8 (by omega) (by omega) t2)) ⟨rfl, ⟨rfl, ⟨rfl, ⟨rfl, ⟨rfl, ⟨rfl, ⟨rfl, ⟨rfl, ⟨rfl, trivial⟩⟩⟩⟩⟩⟩⟩⟩⟩
        · refine sr_aload (pc := 92) (i := 5) (by decide +kernel) rfl ?_
          refine sr_aload (pc := 94) (i := 7) (by decide +kernel) rfl ?_
          refine sr_iload (pc := 96) (i := 8) (by decide +kernel) rfl ?_
          refine sr_cV (pc := 98) (As := [sr_i x8]) (mc1 := 0) (ms1 := 0) (mc2 := 0) (ms2 := 0) fm_6_72 fl_6_72 (by decide +kernel) (sr_in4 _ (by omega)) (rm_6_keepAt_4_at) rfl rfl rfl (C4_at l j7 x8 (by omega) t2) ?_
          refine sr_kI (fun v3 t3 => ?_)
          refine sr_iload (pc := 101) (i := 4) (by decide +kernel) rfl ?_
          refine sr_aloadn (pc := 103) (n := 0) (by decide +kernel) rfl ?_
          refine sr_gI (pc := 104) fg_6_42 (by decide +kernel) (sr_in6 _ (by omega)) (fun _ => rfl) ?_
          refine sr_cV (pc := 107) (As := [sr_i v3, sr_i a3, sr_i (t3.1 6 0 3)]) (mc1 := 0) (ms1 := 0) (mc2 := 0) (ms2 := 0) fm_6_53 fl_6_53 (by decide +kernel) (sr_in0 _ (by omega)) (rm_6_keepAt_0_hold) rfl rfl rfl (C0_hold l j5 v3 a3 (t3.1 6 0 3) (by omega) t3) ?_
          refine sr_kV (fun t4 => ?_)
          refine sr_iinc (pc := 110) (i := 6) (n := 1) (w := x6 + 1) (by decide +kernel) rfl rfl (by decide) rfl rfl ?_
          exact sr_wk (sr_mono (mc := 0) (ms := 0) (by omega) (by omega) (g6_keepAt_113 l i1 i2 a2 a3 hv_i1 hv_i2 (f6_keepAt_56 i1 i2 a2 a3 k119 n) k119 ih hk119 j5 (x6 + 1) j7 x8 (by omega) (by omega) t4)) ⟨rfl, ⟨rfl, ⟨rfl, ⟨rfl, ⟨rfl, ⟨rfl, ⟨rfl, ⟨rfl, ⟨rfl, trivial⟩⟩⟩⟩⟩⟩⟩⟩⟩
def f6_keepAt_119 (i1 : Nat) (i2 : Nat) (a2 : Int32) (a3 : Int32)  : Int32 → sr_t → sr_Rs := fun x6 t => (some (.inl (some (sr_i x6)), t))
theorem g6_keepAt_119 (l : Launch) (i1 : Nat) (i2 : Nat) (a2 : Int32) (a3 : Int32) (hv_i1 : i1 < 2) (hv_i2 : i2 < 50)   : ∀ (x6 : Int32), ∀ (t : sr_t), sr_g l sr_m6_keepAt 119 [some (sr_r 6 0), some (sr_r 3 i1), some (sr_r 2 i2), some (sr_i a2), some (sr_i a3), none, some (sr_i x6), none, none] [] t (f6_keepAt_119 i1 i2 a2 a3  x6 t) 0 0 := by
  intro x6  t
  unfold f6_keepAt_119
  refine sr_iload (pc := 119) (i := 6) (by decide +kernel) rfl ?_
  exact sr_iret (pc := 121) (by decide +kernel) rfl
def F6_keepAt (i1 : Nat) (i2 : Nat) (a2 : Int32) (a3 : Int32) (t : sr_t) : sr_Rs := (sr_bR 0 33 (F6_entryToPut a2 t) (fun n1 t1 => (sr_lt (sr_u t1 6 0 3 ((t1.1 6 0 3) + 1)) (fun t2 => (sr_lt (sr_u t2 0 n1 1 (t2.1 6 0 3)) (fun t3 => (sr_bV (F0_hold n1 (t3.1 2 i2 0) a3 (t3.1 6 0 3) t3) (fun t4 => f6_keepAt_56 i1 i2 a2 a3 (f6_keepAt_119 i1 i2 a2 a3) sr_fu n1 1 (2 * i2) 0 t4))))))))
theorem C6_keepAt (l : Launch) (i1 : Nat) (i2 : Nat) (a2 : Int32) (a3 : Int32) (hv_i1 : i1 < 2) (hv_i2 : i2 < 50) (t : sr_t) : sr_ct' l sr_m6_keepAt [sr_r 6 0, sr_r 3 i1, sr_r 2 i2, sr_i a2, sr_i a3] t (F6_keepAt i1 i2 a2 a3 t) 0 0 := by
  refine sr_T_of (L0 := [some (sr_r 6 0), some (sr_r 3 i1), some (sr_r 2 i2), some (sr_i a2), some (sr_i a3), none, none, none, none]) rfl (by decide +kernel) (fun _ => rfl) (fun _ => Nat.le_of_ble_eq_true rfl) ?_
  unfold F6_keepAt
  refine sr_aloadn (pc := 0) (n := 0) (by decide +kernel) rfl ?_
  refine sr_iloadn (pc := 1) (n := 3) (by decide +kernel) rfl ?_
  refine sr_cV (pc := 2) (As := [sr_i a2]) (mc1 := 0) (ms1 := 0) (mc2 := 0) (ms2 := 0) fm_6_39 fl_6_39 (by decide +kernel) (sr_in6 _ (by omega)) (rm_6_keepAt_6_entryToPut) rfl rfl rfl (C6_entryToPut l a2 t) ?_
  refine sr_kR (fun n1 t1 hv_n1 => ?_)
  refine sr_astore (pc := 5) (i := 5) (by decide +kernel) (by decide) rfl rfl ?_
  refine sr_aloadn (pc := 7) (n := 0) (by decide +kernel) rfl ?_
  refine sr_dup (pc := 8) (by decide +kernel) rfl ?_
  refine sr_gI (pc := 9) fg_6_42 (by decide +kernel) (sr_in6 _ (by omega)) (fun _ => rfl) ?_
  refine sr_iconst (pc := 12) (n := 1) (v := 1) (by decide +kernel) rfl ?_
  refine sr_iadd (pc := 13) (by decide +kernel) ?_
  refine sr_pI (pc := 14) fg_6_42 ft_6_3 (by decide +kernel) (sr_in6 _ (by omega)) (fun _ => rfl) (fun t2 => ?_)
  refine sr_aload (pc := 17) (i := 5) (by decide +kernel) rfl ?_
  refine sr_aloadn (pc := 19) (n := 0) (by decide +kernel) rfl ?_
  refine sr_gI (pc := 20) fg_6_42 (by decide +kernel) (sr_in6 _ (by omega)) (fun _ => rfl) ?_
  refine sr_pI (pc := 23) fg_6_45 ft_0_1 (by decide +kernel) (sr_in0 _ (by omega)) (fun _ => rfl) (fun t3 => ?_)
  refine sr_aload (pc := 26) (i := 5) (by decide +kernel) rfl ?_
  refine sr_aloadn (pc := 28) (n := 2) (by decide +kernel) rfl ?_
  refine sr_gI (pc := 29) fg_6_48 (by decide +kernel) (sr_in2 _ (by omega)) (fun _ => rfl) ?_
  refine sr_iload (pc := 32) (i := 4) (by decide +kernel) rfl ?_
  refine sr_aloadn (pc := 34) (n := 0) (by decide +kernel) rfl ?_
  refine sr_gI (pc := 35) fg_6_42 (by decide +kernel) (sr_in6 _ (by omega)) (fun _ => rfl) ?_
  refine sr_cV (pc := 38) (As := [sr_i (t3.1 2 i2 0), sr_i a3, sr_i (t3.1 6 0 3)]) (mc1 := 0) (ms1 := 0) (mc2 := 0) (ms2 := 0) fm_6_53 fl_6_53 (by decide +kernel) (sr_in0 _ (by omega)) (rm_6_keepAt_0_hold) rfl rfl rfl (C0_hold l n1 (t3.1 2 i2 0) a3 (t3.1 6 0 3) (by omega) t3) ?_
  refine sr_kV (fun t4 => ?_)
  refine sr_iconst (pc := 41) (n := 1) (v := 1) (by decide +kernel) rfl ?_
  refine sr_istore (pc := 42) (i := 6) (by decide +kernel) (by decide) rfl rfl ?_
  refine sr_aloadn (pc := 44) (n := 2) (by decide +kernel) rfl ?_
  refine sr_gC (pc := 45) (i2 := i2) fg_6_57 (by decide +kernel) (sr_in2 _ (by omega)) (fun _ => rfl) ?_
  refine sr_gC (pc := 48) (i2 := 2 * i2) fg_6_61 (by decide +kernel) (sr_in7 _ (by omega)) (fun _ => rfl) ?_
  refine sr_astore (pc := 51) (i := 7) (by decide +kernel) (by decide) rfl rfl ?_
  refine sr_iconst (pc := 53) (n := 0) (v := 0) (by decide +kernel) rfl ?_
  refine sr_istore (pc := 54) (i := 8) (by decide +kernel) (by decide) rfl rfl ?_
  exact sr_wk (sr_mono (mc := 0) (ms := 0) (by omega) (by omega) (g6_keepAt_56 l i1 i2 a2 a3 hv_i1 hv_i2 (f6_keepAt_119 i1 i2 a2 a3) (g6_keepAt_119 l i1 i2 a2 a3 hv_i1 hv_i2) sr_fu n1 1 (2 * i2) 0 (by omega) (by omega) t4)) ⟨rfl, ⟨rfl, ⟨rfl, ⟨rfl, ⟨rfl, ⟨rfl, ⟨rfl, ⟨rfl, ⟨rfl, trivial⟩⟩⟩⟩⟩⟩⟩⟩⟩
