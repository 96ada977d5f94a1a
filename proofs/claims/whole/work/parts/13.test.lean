def sr_m3_of : sr_M := (⟨"ShiftRing$Ring", "of", "(I)LShiftRing$Node;"⟩, prog_5_method_4_code, 2, (some (.object "ShiftRing$Node")), [], 0, 0)
def sr_m10_onward : sr_M := (⟨"ShiftRing", "onward", "(II)I"⟩, prog_1_method_56_code, 2, (some .int), [], 0, 0)
def sr_m3_firstFrom : sr_M := (⟨"ShiftRing$Ring", "firstFrom", "(I)LShiftRing$Node;"⟩, prog_5_method_15_code, 6, (some (.object "ShiftRing$Node")), [], 1, 21)
theorem fg_3_11 : sr_FG "ShiftRing$Ring" 11 3 0 9 := ⟨RX3, TX3, tyX3, rfl, by decide, rfl, uw_3, tyX3_ok, nmX3, Or.inl (sr_tb (n := 151) (by decide +kernel) rfl)⟩
theorem fg_3_20 : sr_FG "ShiftRing$Ring" 20 3 1 9 := ⟨RX3, TX3, tyX3, rfl, by decide, rfl, uw_3, tyX3_ok, nmX3, Or.inl (sr_tb (n := 152) (by decide +kernel) rfl)⟩
theorem fg_3_51 : sr_FG "ShiftRing$Ring" 51 3 3 9 := ⟨RX3, TX3, tyX3, rfl, by decide, rfl, uw_3, tyX3_ok, nmX3, Or.inl (sr_tb (n := 157) (by decide +kernel) rfl)⟩
theorem fg_3_58 : sr_FG "ShiftRing$Ring" 58 2 1 8 := ⟨RX2, TX2, tyX2, rfl, by decide, rfl, uw_2, tyX2_ok, nmX2, Or.inr ⟨"ShiftRing", sr_nb (n := 96) (by decide +kernel) rfl⟩⟩
theorem fg_3_68 : sr_FG "ShiftRing$Ring" 68 2 2 8 := ⟨RX2, TX2, tyX2, rfl, by decide, rfl, uw_2, tyX2_ok, nmX2, Or.inr ⟨"ShiftRing", sr_nb (n := 103) (by decide +kernel) rfl⟩⟩
theorem fl_3_54 : Cond.methodLink "ShiftRing$Ring" 54 (sr_My sr_m3_of) ∈ sr_TB := (sr_tb (n := 435) (by decide +kernel) rfl)
theorem fm_3_54 : sr_FV "ShiftRing$Ring" 54 sr_m3_of 3 1 := ⟨⟨rfl, sr_tb (n := 438) (by decide +kernel) rfl, sr_tb (n := 2) (by decide +kernel) rfl, ⟨by decide, by decide, by decide +kernel⟩, Or.inl fl_3_54⟩, ⟨TX3, 9, rfl, rfl⟩, sr_tb (n := 436) (by decide +kernel) rfl, sr_tb (n := 437) (by decide +kernel) rfl⟩
theorem fl_3_134 : Cond.methodLinkNest "ShiftRing$Ring" 134 (sr_My sr_m10_onward) "ShiftRing" ∈ sr_NB := (sr_nb (n := 455) (by decide +kernel) rfl)
theorem fm_3_134 : sr_FS "ShiftRing$Ring" 134 sr_m10_onward 2 := ⟨⟨rfl, sr_tb (n := 457) (by decide +kernel) rfl, sr_tb (n := 1) (by decide +kernel) rfl, ⟨by decide, by decide, by decide +kernel⟩, Or.inr ⟨_, fl_3_134⟩⟩, sr_tb (n := 456) (by decide +kernel) rfl⟩
theorem rm_3_firstFrom_10_onward : sr_RM sr_m3_firstFrom sr_m10_onward := ⟨Nat.le_of_ble_eq_true rfl, Nat.le_of_ble_eq_true rfl⟩
theorem rm_3_firstFrom_3_of : sr_RM sr_m3_firstFrom sr_m3_of := ⟨Nat.le_of_ble_eq_true rfl, Nat.le_of_ble_eq_true rfl⟩
def f3_of_26 (i0 : Nat) (a0 : Int32)  : Nat → sr_t → sr_Rs := fun js0 t => (some (.inl (some (sr_r 2 js0)), t))
theorem g3_of_26 (l : Launch) (i0 : Nat) (a0 : Int32) (hv_i0 : i0 < 2)   : ∀ (js0 : Nat), js0 < 50 → ∀ (t : sr_t), sr_g l sr_m3_of 26 [some (sr_r 3 i0), some (sr_i a0)] [sr_r 2 js0] t (f3_of_26 i0 a0  js0 t) 0 0 := by
  intro js0 hv_js0 t
  unfold f3_of_26
  exact sr_aret (pc := 26) (by decide +kernel) rfl
def f3_of_22 (i0 : Nat) (a0 : Int32)  : sr_t → sr_Rs := fun  t => f3_of_26 i0 a0 (25 * i0 + 24) t
theorem g3_of_22 (l : Launch) (i0 : Nat) (a0 : Int32) (hv_i0 : i0 < 2)   : ∀ (t : sr_t), sr_g l sr_m3_of 22 [some (sr_r 3 i0), some (sr_i a0)] [] t (f3_of_22 i0 a0   t) 0 0 := by
  intro t
  unfold f3_of_22
  refine sr_aloadn (pc := 22) (n := 0) (by decide +kernel) rfl ?_
  refine sr_gC (pc := 23) (i2 := 25 * i0 + 24) fg_3_20 (by decide +kernel) (sr_in3 _ (by omega)) (fun _ => rfl) ?_
  exact sr_wk (sr_mono (mc := 0) (ms := 0) (by omega) (by omega) (g3_of_26 l i0 a0 hv_i0 (25 * i0 + 24) (by omega) t)) ⟨rfl, ⟨rfl, trivial⟩⟩
def F3_of (i0 : Nat) (a0 : Int32) (t : sr_t) : sr_Rs := (if a0 < 0 then f3_of_22 i0 a0 t else (if 24 ≤ a0 then f3_of_22 i0 a0 t else (if a0 < 0 ∨ 24 ≤ a0.toNatClampNeg then none else f3_of_26 i0 a0 (25 * i0 + a0.toNatClampNeg) t)))
theorem C3_of (l : Launch) (i0 : Nat) (a0 : Int32) (hv_i0 : i0 < 2) (t : sr_t) : sr_ct' l sr_m3_of [sr_r 3 i0, sr_i a0] t (F3_of i0 a0 t) 0 0 := by
  refine sr_T_of (L0 := [some (sr_r 3 i0), some (sr_i a0)]) rfl (by decide +kernel) (fun _ => rfl) (fun _ => Nat.le_of_ble_eq_true rfl) ?_
  unfold F3_of
  refine sr_iloadn (pc := 0) (n := 1) (by decide +kernel) rfl ?_
  refine sr_if_lt (pc := 1) (off := 21) (tg := 22) (by decide +kernel) (by decide) (fun _ => ?_) (fun _ => ?_)
  · exact sr_wk (sr_mono (mc := 0) (ms := 0) (by omega) (by omega) (g3_of_22 l i0 a0 hv_i0 t)) ⟨rfl, ⟨rfl, trivial⟩⟩
  · refine sr_iloadn (pc := 4) (n := 1) (by decide +kernel) rfl ?_
    refine sr_aloadn (pc := 5) (n := 0) (by decide +kernel) rfl ?_
    refine sr_gC (pc := 6) (i2 := i0) fg_3_11 (by decide +kernel) (sr_in3 _ (by omega)) (fun _ => rfl) ?_
    refine sr_al' (pc := 9) (ty := 2) (n := 24) (v := 24) rfl (by decide) (by decide +kernel) (sr_in13 _ (by omega)) (by decide) ?_
    refine sr_icmp_ge (pc := 10) (off := 12) (tg := 22) (by decide +kernel) (by decide) (fun _ => ?_) (fun _ => ?_)
    · exact sr_wk (sr_mono (mc := 0) (ms := 0) (by omega) (by omega) (g3_of_22 l i0 a0 hv_i0 t)) ⟨rfl, ⟨rfl, trivial⟩⟩
    · refine sr_aloadn (pc := 13) (n := 0) (by decide +kernel) rfl ?_
      refine sr_gC (pc := 14) (i2 := i0) fg_3_11 (by decide +kernel) (sr_in3 _ (by omega)) (fun _ => rfl) ?_
      refine sr_iloadn (pc := 17) (n := 1) (by decide +kernel) rfl ?_
      refine sr_aA (pc := 18) (n := 24) (f := (fun j => 25 * i0 + j)) rfl (by decide) (by decide +kernel) (sr_in13 _ (by omega)) (fun _ _ => rfl) (fun hv_x => ?_)
      refine sr_goto (pc := 19) (off := 7) (tg := 26) (by decide +kernel) (by decide) ?_
      exact sr_wk (sr_mono (mc := 0) (ms := 0) (by omega) (by omega) (g3_of_26 l i0 a0 hv_i0 (25 * i0 + a0.toNatClampNeg) (by omega) t)) ⟨rfl, ⟨rfl, trivial⟩⟩
def F10_onward (a0 : Int32) (a1 : Int32) (t : sr_t) : sr_Rs := (some (.inl (some (sr_i ((a1 - a0) &&& 4095))), t))
theorem C10_onward (l : Launch) (a0 : Int32) (a1 : Int32)  (t : sr_t) : sr_ct' l sr_m10_onward [sr_i a0, sr_i a1] t (F10_onward a0 a1 t) 0 0 := by
  refine sr_T_of (L0 := [some (sr_i a0), some (sr_i a1)]) rfl (by decide +kernel) (fun _ => rfl) (fun _ => Nat.le_of_ble_eq_true rfl) ?_
  unfold F10_onward
  refine sr_iloadn (pc := 0) (n := 1) (by decide +kernel) rfl ?_
  refine sr_iloadn (pc := 1) (n := 0) (by decide +kernel) rfl ?_
  refine sr_isub (pc := 2) (by decide +kernel) ?_
  refine sr_sipush (pc := 3) (n := 4095) (v := 4095) (by decide +kernel) (by decide) ?_
  refine sr_iand (pc := 6) (by decide +kernel) ?_
  exact sr_iret (pc := 7) (by decide +kernel) rfl
def f3_firstFrom_63 (i0 : Nat) (a0 : Int32) (k12 : Nat → Int32 → Int32 → sr_t → sr_Rs) (k69 : Nat → sr_t → sr_Rs) : Nat → Int32 → Int32 → sr_t → sr_Rs := fun j2 x3 x4 t => k12 j2 x3 (x4 + 1) t
theorem g3_firstFrom_63 (l : Launch) (i0 : Nat) (a0 : Int32) (hv_i0 : i0 < 2) (k12 : Nat → Int32 → Int32 → sr_t → sr_Rs) (k69 : Nat → sr_t → sr_Rs) (hk12 : ∀ (j2 : Nat) (x3 : Int32) (x4 : Int32), j2 < 50 → ∀ (t : sr_t), sr_g l sr_m3_firstFrom 12 [some (sr_r 3 i0), some (sr_i a0), some (sr_r 2 j2), some (sr_i x3), some (sr_i x4), none] [] t (k12 j2 x3 x4 t) 0 0) (hk69 : ∀ (j2 : Nat), j2 < 50 → ∀ (t : sr_t), sr_g l sr_m3_firstFrom 69 [some (sr_r 3 i0), some (sr_i a0), some (sr_r 2 j2), none, none, none] [] t (k69 j2 t) 0 0) : ∀ (j2 : Nat) (x3 : Int32) (x4 : Int32), j2 < 50 → ∀ (t : sr_t), sr_g l sr_m3_firstFrom 63 [some (sr_r 3 i0), some (sr_i a0), some (sr_r 2 j2), some (sr_i x3), some (sr_i x4), none] [] t (f3_firstFrom_63 i0 a0 k12 k69 j2 x3 x4 t) 0 0 := by
  intro j2 x3 x4 hv_j2 t
  unfold f3_firstFrom_63
  refine sr_iinc (pc := 63) (i := 4) (n := 1) (w := x4 + 1) (by decide +kernel) rfl rfl (by decide) rfl rfl ?_
  refine sr_goto (pc := 66) (off := (-54)) (tg := 12) (by decide +kernel) (by decide) ?_
  exact sr_wk (sr_mono (mc := 0) (ms := 0) (by omega) (by omega) (hk12 j2 x3 (x4 + 1) (by omega) t)) ⟨rfl, ⟨rfl, ⟨rfl, ⟨rfl, ⟨rfl, trivial⟩⟩⟩⟩⟩
def f3_firstFrom_12 (i0 : Nat) (a0 : Int32) (k69 : Nat → sr_t → sr_Rs) : Nat → Nat → Int32 → Int32 → sr_t → sr_Rs
  | 0 => fun _ _ _ _ => none
  | n + 1 => fun j2 x3 x4 t => (if (t.1 3 i0 3) ≤ x4 then k69 j2 t else (sr_bR 2 50 (F3_of i0 x4 t) (fun n1 t1 => (if (t1.1 2 n1 2) = 0 then f3_firstFrom_63 i0 a0 (f3_firstFrom_12 i0 a0 k69 n) k69 j2 x3 x4 t1 else (sr_bI (sr_nt (F10_onward a0 (t1.1 2 n1 1) t1)) (fun v2 t2 => (if x3 ≤ v2 then f3_firstFrom_63 i0 a0 (f3_firstFrom_12 i0 a0 k69 n) k69 j2 x3 x4 t2 else (sr_bI (sr_nt (F10_onward a0 (t2.1 2 n1 1) t2)) (fun v3 t3 => f3_firstFrom_63 i0 a0 (f3_firstFrom_12 i0 a0 k69 n) k69 n1 v3 x4 t3)))))))))
theorem g3_firstFrom_12 (l : Launch) (i0 : Nat) (a0 : Int32) (hv_i0 : i0 < 2) (k69 : Nat → sr_t → sr_Rs) (hk69 : ∀ (j2 : Nat), j2 < 50 → ∀ (t : sr_t), sr_g l sr_m3_firstFrom 69 [some (sr_r 3 i0), some (sr_i a0), some (sr_r 2 j2), none, none, none] [] t (k69 j2 t) 0 0) : ∀ (n : Nat) (j2 : Nat) (x3 : Int32) (x4 : Int32), j2 < 50 → ∀ (t : sr_t), sr_g l sr_m3_firstFrom 12 [some (sr_r 3 i0), some (sr_i a0), some (sr_r 2 j2), some (sr_i x3), some (sr_i x4), none] [] t (f3_firstFrom_12 i0 a0 k69 n j2 x3 x4 t) 0 0 := by
  intro n
  induction n with
  | zero => intros; exact sr_Gn
  | succ n ih =>
    intro j2 x3 x4 hv_j2 t
    unfold f3_firstFrom_12
    refine sr_iload (pc := 12) (i := 4) (by decide +kernel) rfl ?_
    refine sr_aloadn (pc := 14) (n := 0) (by decide +kernel) rfl ?_
    refine sr_gI (pc := 15) fg_3_51 (by decide +kernel) (sr_in3 _ (by omega)) (fun _ => rfl) ?_
    refine sr_icmp_ge (pc := 18) (off := 51) (tg := 69) (by decide +kernel) (by decide) (fun _ => ?_) (fun _ => ?_)
    · exact sr_wk (sr_mono (mc := 0) (ms := 0) (by omega) (by omega) (hk69 j2 (by omega) t)) ⟨rfl, ⟨rfl, ⟨rfl, trivial⟩⟩⟩
    · refine sr_aloadn (pc := 21) (n := 0) (by decide +kernel) rfl ?_
      refine sr_iload (pc := 22) (i := 4) (by decide +kernel) rfl ?_
      refine sr_cV (pc := 24) (As := [sr_i x4]) (mc1 := 0) (ms1 := 0) (mc2 := 0) (ms2 := 0) fm_3_54 fl_3_54 (by decide +kernel) (sr_in3 _ (by omega)) (rm_3_firstFrom_3_of) rfl rfl rfl (C3_of l i0 x4 (by omega) t) ?_
      refine sr_kR (fun n1 t1 hv_n1 => ?_)
      refine sr_astore (pc := 27) (i := 5) (by decide +kernel) (by decide) rfl rfl ?_
      refine sr_aload (pc := 29) (i := 5) (by decide +kernel) rfl ?_
      refine sr_gI (pc := 31) fg_3_68 (by decide +kernel) (sr_in2 _ (by omega)) (fun _ => rfl) ?_
      refine sr_if_eq (pc := 34) (off := 29) (tg := 63) (by decide +kernel) (by decide) (fun _ => ?_) (fun _ => ?_)
      · exact sr_wk (sr_mono (mc := 0) (ms := 0) (by omega) (by omega) (g3_firstFrom_63 l i0 a0 hv_i0 (f3_firstFrom_12 i0 a0 k69 n) k69 ih hk69 j2 x3 x4 (by omega) t1)) ⟨rfl, ⟨rfl, ⟨rfl, ⟨rfl, ⟨rfl, trivial⟩⟩⟩⟩⟩
      · refine sr_iloadn (pc := 37) (n := 1) (by decide +kernel) rfl ?_
        refine sr_aload (pc := 38) (i := 5) (by decide +kernel) rfl ?_
        refine sr_gI (pc := 40) fg_3_58 (by decide +kernel) (sr_in2 _ (by omega)) (fun _ => rfl) ?_
        refine sr_cSN (pc := 43) (As := [sr_i a0, sr_i (t1.1 2 n1 1)]) (mc1 := 0) (ms1 := 0) (mc2 := 0) (ms2 := 0) fm_3_134 fl_3_134 (by decide +kernel) (rm_3_firstFrom_10_onward) rfl rfl rfl (C10_onward l a0 (t1.1 2 n1 1) t1) ?_
        refine sr_kI (fun v2 t2 => ?_)
        refine sr_iloadn (pc := 46) (n := 3) (by decide +kernel) rfl ?_
        refine sr_icmp_ge (pc := 47) (off := 16) (tg := 63) (by decide +kernel) (by decide) (fun _ => ?_) (fun _ => ?_)
        · exact sr_wk (sr_mono (mc := 0) (ms := 0) (by omega) (by omega) (g3_firstFrom_63 l i0 a0 hv_i0 (f3_firstFrom_12 i0 a0 k69 n) k69 ih hk69 j2 x3 x4 (by omega) t2)) ⟨rfl, ⟨rfl, ⟨rfl, ⟨rfl, ⟨rfl, trivial⟩⟩⟩⟩⟩
        · refine sr_iloadn (pc := 50) (n := 1) (by decide +kernel) rfl ?_
          refine sr_aload (pc := 51) (i := 5) (by decide +kernel) rfl ?_
          refine sr_gI (pc := 53) fg_3_58 (by decide +kernel) (sr_in2 _ (by omega)) (fun _ => rfl) ?_
          refine sr_cSN (pc := 56) (As := [sr_i a0, sr_i (t2.1 2 n1 1)]) (mc1 := 0) (ms1 := 0) (mc2 := 0) (ms2 := 0) fm_3_134 fl_3_134 (by decide +kernel) (rm_3_firstFrom_10_onward) rfl rfl rfl (C10_onward l a0 (t2.1 2 n1 1) t2) ?_
          refine sr_kI (fun v3 t3 => ?_)
          refine sr_istoren (pc := 59) (n := 3) (by decide +kernel) (by decide) rfl rfl ?_
          refine sr_aload (pc := 60) (i := 5) (by decide +kernel) rfl ?_
          refine sr_astoren (pc := 62) (n := 2) (by decide +kernel) (by decide) rfl rfl ?_
          exact sr_wk (sr_mono (mc := 0) (ms := 0) (by omega) (by omega) (g3_firstFrom_63 l i0 a0 hv_i0 (f3_firstFrom_12 i0 a0 k69 n) k69 ih hk69 n1 v3 x4 (by omega) t3)) ⟨rfl, ⟨rfl, ⟨rfl, ⟨rfl, ⟨rfl, trivial⟩⟩⟩⟩⟩
def f3_firstFrom_69 (i0 : Nat) (a0 : Int32)  : Nat → sr_t → sr_Rs := fun j2 t => (some (.inl (some (sr_r 2 j2)), t))
theorem g3_firstFrom_69 (l : Launch) (i0 : Nat) (a0 : Int32) (hv_i0 : i0 < 2)   : ∀ (j2 : Nat), j2 < 50 → ∀ (t : sr_t), sr_g l sr_m3_firstFrom 69 [some (sr_r 3 i0), some (sr_i a0), some (sr_r 2 j2), none, none, none] [] t (f3_firstFrom_69 i0 a0  j2 t) 0 0 := by
  intro j2 hv_j2 t
  unfold f3_firstFrom_69
  refine sr_aloadn (pc := 69) (n := 2) (by decide +kernel) rfl ?_
  exact sr_aret (pc := 70) (by decide +kernel) rfl
def F3_firstFrom (i0 : Nat) (a0 : Int32) (t : sr_t) : sr_Rs := f3_firstFrom_12 i0 a0 (f3_firstFrom_69 i0 a0) sr_fu (25 * i0 + 24) 4096 0 t
theorem C3_firstFrom (l : Launch) (i0 : Nat) (a0 : Int32) (hv_i0 : i0 < 2) (t : sr_t) : sr_ct' l sr_m3_firstFrom [sr_r 3 i0, sr_i a0] t (F3_firstFrom i0 a0 t) 0 0 := by
  refine sr_T_of (L0 := [some (sr_r 3 i0), some (sr_i a0), none, none, none, none]) rfl (by decide +kernel) (fun _ => rfl) (fun _ => Nat.le_of_ble_eq_true rfl) ?_
  unfold F3_firstFrom
  refine sr_aloadn (pc := 0) (n := 0) (by decide +kernel) rfl ?_
  refine sr_gC (pc := 1) (i2 := 25 * i0 + 24) fg_3_20 (by decide +kernel) (sr_in3 _ (by omega)) (fun _ => rfl) ?_
  refine sr_astoren (pc := 4) (n := 2) (by decide +kernel) (by decide) rfl rfl ?_
  refine sr_sipush (pc := 5) (n := 4096) (v := 4096) (by decide +kernel) (by decide) ?_
  refine sr_istoren (pc := 8) (n := 3) (by decide +kernel) (by decide) rfl rfl ?_
  refine sr_iconst (pc := 9) (n := 0) (v := 0) (by decide +kernel) rfl ?_
  refine sr_istore (pc := 10) (i := 4) (by decide +kernel) (by decide) rfl rfl ?_
  exact sr_wk (sr_mono (mc := 0) (ms := 0) (by omega) (by omega) (g3_firstFrom_12 l i0 a0 hv_i0 (f3_firstFrom_69 i0 a0) (g3_firstFrom_69 l i0 a0 hv_i0) sr_fu (25 * i0 + 24) 4096 0 (by omega) t)) ⟨rfl, ⟨rfl, ⟨rfl, ⟨rfl, ⟨rfl, trivial⟩⟩⟩⟩⟩
