def f10_put_20 (a0 : Int32) (a1 : Int32) (a2 : Int32)  : sr_t → sr_Rs := fun  t => (some (.inr 0, t))
theorem g10_put_20 (l : Launch) (a0 : Int32) (a1 : Int32) (a2 : Int32)    : ∀ (t : sr_t), sr_g l sr_m10_put 20 [some (sr_r 10 0), some (sr_i a0), some (sr_i a1), some (sr_i a2)] [] t (f10_put_20 a0 a1 a2   t) 1 6 := by
  intro t
  unfold f10_put_20
  exact sr_thr (pc := 20) (ik := 138) (is := 327) (ic := 142) (tx := "there is no such value") (z := 0) (mc := 0) (ms := 0) fx_138_142 (by decide +kernel) (by decide +kernel) (by decide +kernel) (Or.inr ⟨by decide +kernel, by decide +kernel, by decide +kernel⟩) rfl (by decide) (by decide) rfl rfl
def F10_put (a0 : Int32) (a1 : Int32) (a2 : Int32) (t : sr_t) : sr_Rs := (sr_bV (F10_needNode a0 t) (fun t1 => (sr_bV (F10_needPlace a1 t1) (fun t2 => (if a2 < 0 then f10_put_20 a0 a1 a2 t2 else (if a2 ≤ 999 then (sr_bV (F10_needUp a0 t2) (fun t3 => (sr_bI (F6_hasRoomFor a1 t3) (fun v4 t4 => (if v4 = 0 then (some (.inr 1, t4)) else (sr_bR 2 50 (F10_endOfLookup a0 a1 t4) (fun n5 t5 => (sr_bI (F6_keepAt 0 n5 a1 a2 t5) (fun v6 t6 => (some (.inl (some (sr_i v6)), t6))))))))))) else f10_put_20 a0 a1 a2 t2))))))
theorem C10_put (l : Launch) (a0 : Int32) (a1 : Int32) (a2 : Int32)  (t : sr_t) : sr_ct' l sr_m10_put [sr_r 10 0, sr_i a0, sr_i a1, sr_i a2] t (F10_put a0 a1 a2 t) 4 24 := by
  refine sr_T_of (L0 := [some (sr_r 10 0), some (sr_i a0), some (sr_i a1), some (sr_i a2)]) rfl (by decide +kernel) (fun _ => rfl) (fun _ => Nat.le_of_ble_eq_true rfl) ?_
  unfold F10_put
  refine sr_aloadn (pc := 0) (n := 0) (by decide +kernel) rfl ?_
  refine sr_iloadn (pc := 1) (n := 1) (by decide +kernel) rfl ?_
  refine sr_cV (pc := 2) (As := [sr_i a0]) (mc1 := 1) (ms1 := 6) (mc2 := 3) (ms2 := 18) fm_10_81 fl_10_81 (by decide +kernel) (sr_in10 _ (by omega)) (rm_10_put_10_needNode) rfl rfl rfl (C10_needNode l a0 t) ?_
  refine sr_kV (fun t1 => ?_)
  refine sr_iloadn (pc := 5) (n := 2) (by decide +kernel) rfl ?_
  refine sr_cS (pc := 6) (As := [sr_i a1]) (mc1 := 1) (ms1 := 6) (mc2 := 2) (ms2 := 12) fm_10_58 fl_10_58 (by decide +kernel) (rm_10_put_10_needPlace) rfl rfl rfl (C10_needPlace l a1 t1) ?_
  refine sr_kV (fun t2 => ?_)
  refine sr_iloadn (pc := 9) (n := 3) (by decide +kernel) rfl ?_
  refine sr_if_lt (pc := 10) (off := 10) (tg := 20) (by decide +kernel) (by decide) (fun _ => ?_) (fun _ => ?_)
  · exact sr_wk (sr_mono (mc := 1) (ms := 6) (by omega) (by omega) (g10_put_20 l a0 a1 a2 t2)) ⟨rfl, ⟨rfl, ⟨rfl, ⟨rfl, trivial⟩⟩⟩⟩
  · refine sr_iloadn (pc := 13) (n := 3) (by decide +kernel) rfl ?_
    refine sr_sipush (pc := 14) (n := 999) (v := 999) (by decide +kernel) (by decide) ?_
    refine sr_icmp_le (pc := 17) (off := 14) (tg := 31) (by decide +kernel) (by decide) (fun _ => ?_) (fun _ => ?_)
    · refine sr_aloadn (pc := 31) (n := 0) (by decide +kernel) rfl ?_
      refine sr_iloadn (pc := 32) (n := 1) (by decide +kernel) rfl ?_
      refine sr_cV (pc := 33) (As := [sr_i a0]) (mc1 := 1) (ms1 := 6) (mc2 := 1) (ms2 := 6) fm_10_84 fl_10_84 (by decide +kernel) (sr_in10 _ (by omega)) (rm_10_put_10_needUp) rfl rfl rfl (C10_needUp l a0 t2) ?_
      refine sr_kV (fun t3 => ?_)
      refine sr_aloadn (pc := 36) (n := 0) (by decide +kernel) rfl ?_
      refine sr_gC (pc := 37) (i2 := 0) fg_10_19 (by decide +kernel) (sr_in10 _ (by omega)) (fun _ => rfl) ?_
      refine sr_iloadn (pc := 40) (n := 2) (by decide +kernel) rfl ?_
      refine sr_cV (pc := 41) (As := [sr_i a1]) (mc1 := 0) (ms1 := 0) (mc2 := 1) (ms2 := 6) fm_10_329 fl_10_329 (by decide +kernel) (sr_in6 _ (by omega)) (rm_10_put_6_hasRoomFor) rfl rfl rfl (C6_hasRoomFor l a1 t3) ?_
      refine sr_kI (fun v4 t4 => ?_)
      refine sr_if_ne (pc := 44) (off := 14) (tg := 58) (by decide +kernel) (by decide) (fun _ => ?_) (fun _ => ?_)
      · refine sr_aloadn (pc := 58) (n := 0) (by decide +kernel) rfl ?_
        refine sr_gC (pc := 59) (i2 := 0) fg_10_19 (by decide +kernel) (sr_in10 _ (by omega)) (fun _ => rfl) ?_
        refine sr_aloadn (pc := 62) (n := 0) (by decide +kernel) rfl ?_
        refine sr_gC (pc := 63) (i2 := 0) fg_10_12 (by decide +kernel) (sr_in10 _ (by omega)) (fun _ => rfl) ?_
        refine sr_aloadn (pc := 66) (n := 0) (by decide +kernel) rfl ?_
        refine sr_iloadn (pc := 67) (n := 1) (by decide +kernel) rfl ?_
        refine sr_iloadn (pc := 68) (n := 2) (by decide +kernel) rfl ?_
        refine sr_cV (pc := 69) (As := [sr_i a0, sr_i a1]) (mc1 := 1) (ms1 := 6) (mc2 := 0) (ms2 := 0) fm_10_334 fl_10_334 (by decide +kernel) (sr_in10 _ (by omega)) (rm_10_put_10_endOfLookup) rfl rfl rfl (C10_endOfLookup l a0 a1 t4) ?_
        refine sr_kR (fun n5 t5 hv_n5 => ?_)
        refine sr_iloadn (pc := 72) (n := 2) (by decide +kernel) rfl ?_
        refine sr_iloadn (pc := 73) (n := 3) (by decide +kernel) rfl ?_
        refine sr_cV (pc := 74) (As := [sr_r 3 0, sr_r 2 n5, sr_i a1, sr_i a2]) (mc1 := 0) (ms1 := 0) (mc2 := 0) (ms2 := 0) fm_10_338 fl_10_338 (by decide +kernel) (sr_in6 _ (by omega)) (rm_10_put_6_keepAt) rfl rfl rfl (C6_keepAt l 0 n5 a1 a2 (by omega) (by omega) t5) ?_
        refine sr_kI (fun v6 t6 => ?_)
        exact sr_iret (pc := 77) (by decide +kernel) rfl
      · exact sr_thr (pc := 47) (ik := 70) (is := 332) (ic := 74) (tx := "too many keys are known") (z := 1) (mc := 0) (ms := 0) fx_70_74 (by decide +kernel) (by decide +kernel) (by decide +kernel) (Or.inr ⟨by decide +kernel, by decide +kernel, by decide +kernel⟩) rfl (by decide) (by decide) rfl rfl
    · exact sr_wk (sr_mono (mc := 1) (ms := 6) (by omega) (by omega) (g10_put_20 l a0 a1 a2 t2)) ⟨rfl, ⟨rfl, ⟨rfl, ⟨rfl, trivial⟩⟩⟩⟩
def sr_m0_valueAt : sr_M := (⟨"ShiftRing$Entry", "valueAt", "(I)I"⟩, prog_2_method_3_code, 2, (some .int), [], 0, 0)
def sr_m6_tellAt : sr_M := (⟨"ShiftRing$Store", "tellAt", "(LShiftRing$Ring;LShiftRing$Node;I)I"⟩, prog_8_method_7_code, 8, (some .int), [], 2, 43)
def sr_m10_get : sr_M := (⟨"ShiftRing", "get", "(II)I"⟩, prog_1_method_41_code, 3, (some .int), [], 7, 119)
theorem fl_10_342 : Cond.methodLink "ShiftRing" 342 (sr_My sr_m6_tellAt) ∈ sr_TB := (sr_tb (n := 1324) (by decide +kernel) rfl)
theorem fm_10_342 : sr_FV "ShiftRing" 342 sr_m6_tellAt 6 3 := ⟨⟨rfl, sr_tb (n := 1327) (by decide +kernel) rfl, sr_tb (n := 6) (by decide +kernel) rfl, ⟨by decide, by decide, by decide +kernel⟩, Or.inl fl_10_342⟩, ⟨TX6, 5, rfl, rfl⟩, sr_tb (n := 1325) (by decide +kernel) rfl, sr_tb (n := 1326) (by decide +kernel) rfl⟩
theorem fl_6_86 : Cond.methodLink "ShiftRing$Store" 86 (sr_My sr_m0_isHeldBy) ∈ sr_TB := (sr_tb (n := 1328) (by decide +kernel) rfl)
theorem fm_6_86 : sr_FV "ShiftRing$Store" 86 sr_m0_isHeldBy 0 1 := ⟨⟨rfl, sr_tb (n := 736) (by decide +kernel) rfl, sr_tb (n := 7) (by decide +kernel) rfl, ⟨by decide, by decide, by decide +kernel⟩, Or.inl fl_6_86⟩, ⟨TX0, 4, rfl, rfl⟩, sr_tb (n := 734) (by decide +kernel) rfl, sr_tb (n := 735) (by decide +kernel) rfl⟩
theorem fl_6_90 : Cond.methodLink "ShiftRing$Store" 90 (sr_My sr_m0_valueAt) ∈ sr_TB := (sr_tb (n := 1329) (by decide +kernel) rfl)
theorem fm_6_90 : sr_FV "ShiftRing$Store" 90 sr_m0_valueAt 0 1 := ⟨⟨rfl, sr_tb (n := 1332) (by decide +kernel) rfl, sr_tb (n := 7) (by decide +kernel) rfl, ⟨by decide, by decide, by decide +kernel⟩, Or.inl fl_6_90⟩, ⟨TX0, 4, rfl, rfl⟩, sr_tb (n := 1330) (by decide +kernel) rfl, sr_tb (n := 1331) (by decide +kernel) rfl⟩
theorem rm_10_get_10_endOfLookup : sr_RM sr_m10_get sr_m10_endOfLookup := ⟨Nat.le_of_ble_eq_true rfl, Nat.le_of_ble_eq_true rfl⟩
theorem rm_10_get_10_needNode : sr_RM sr_m10_get sr_m10_needNode := ⟨Nat.le_of_ble_eq_true rfl, Nat.le_of_ble_eq_true rfl⟩
theorem rm_10_get_10_needPlace : sr_RM sr_m10_get sr_m10_needPlace := ⟨Nat.le_of_ble_eq_true rfl, Nat.le_of_ble_eq_true rfl⟩
theorem rm_10_get_10_needUp : sr_RM sr_m10_get sr_m10_needUp := ⟨Nat.le_of_ble_eq_true rfl, Nat.le_of_ble_eq_true rfl⟩
theorem rm_10_get_6_tellAt : sr_RM sr_m10_get sr_m6_tellAt := ⟨Nat.le_of_ble_eq_true rfl, Nat.le_of_ble_eq_true rfl⟩
theorem rm_6_tellAt_0_isHeldBy : sr_RM sr_m6_tellAt sr_m0_isHeldBy := ⟨Nat.le_of_ble_eq_true rfl, Nat.le_of_ble_eq_true rfl⟩
theorem rm_6_tellAt_0_valueAt : sr_RM sr_m6_tellAt sr_m0_valueAt := ⟨Nat.le_of_ble_eq_true rfl, Nat.le_of_ble_eq_true rfl⟩
theorem rm_6_tellAt_3_of : sr_RM sr_m6_tellAt sr_m3_of := ⟨Nat.le_of_ble_eq_true rfl, Nat.le_of_ble_eq_true rfl⟩
theorem rm_6_tellAt_4_at : sr_RM sr_m6_tellAt sr_m4_at := ⟨Nat.le_of_ble_eq_true rfl, Nat.le_of_ble_eq_true rfl⟩
theorem rm_6_tellAt_6_entryOf : sr_RM sr_m6_tellAt sr_m6_entryOf := ⟨Nat.le_of_ble_eq_true rfl, Nat.le_of_ble_eq_true rfl⟩
def f0_valueAt_23 (i0 : Nat) (a0 : Int32)  : Int32 → sr_t → sr_Rs := fun xs0 t => (some (.inl (some (sr_i xs0)), t))
theorem g0_valueAt_23 (l : Launch) (i0 : Nat) (a0 : Int32) (hv_i0 : i0 < 33)   : ∀ (xs0 : Int32), ∀ (t : sr_t), sr_g l sr_m0_valueAt 23 [some (sr_r 0 i0), some (sr_i a0)] [sr_i xs0] t (f0_valueAt_23 i0 a0  xs0 t) 0 0 := by
  intro xs0  t
  unfold f0_valueAt_23
  exact sr_iret (pc := 23) (by decide +kernel) rfl
def f0_valueAt_22 (i0 : Nat) (a0 : Int32)  : sr_t → sr_Rs := fun  t => f0_valueAt_23 i0 a0 ((-1)) t
theorem g0_valueAt_22 (l : Launch) (i0 : Nat) (a0 : Int32) (hv_i0 : i0 < 33)   : ∀ (t : sr_t), sr_g l sr_m0_valueAt 22 [some (sr_r 0 i0), some (sr_i a0)] [] t (f0_valueAt_22 i0 a0   t) 0 0 := by
  intro t
  unfold f0_valueAt_22
  refine sr_iconst (pc := 22) (n := (-1)) (v := (-1)) (by decide +kernel) rfl ?_
  exact sr_wk (sr_mono (mc := 0) (ms := 0) (by omega) (by omega) (g0_valueAt_23 l i0 a0 hv_i0 ((-1)) t)) ⟨rfl, ⟨rfl, trivial⟩⟩
def F0_valueAt (i0 : Nat) (a0 : Int32) (t : sr_t) : sr_Rs := (if a0 < 0 then f0_valueAt_22 i0 a0 t else (if 24 ≤ a0 then f0_valueAt_22 i0 a0 t else (if a0 < 0 ∨ 24 ≤ a0.toNatClampNeg then none else f0_valueAt_23 i0 a0 (t.1 20 i0 a0.toNatClampNeg) t)))
theorem C0_valueAt (l : Launch) (i0 : Nat) (a0 : Int32) (hv_i0 : i0 < 33) (t : sr_t) : sr_ct' l sr_m0_valueAt [sr_r 0 i0, sr_i a0] t (F0_valueAt i0 a0 t) 0 0 := by
  refine sr_T_of (L0 := [some (sr_r 0 i0), some (sr_i a0)]) rfl (by decide +kernel) (fun _ => rfl) (fun _ => Nat.le_of_ble_eq_true rfl) ?_
  unfold F0_valueAt
  refine sr_iloadn (pc := 0) (n := 1) (by decide +kernel) rfl ?_
  refine sr_if_lt (pc := 1) (off := 21) (tg := 22) (by decide +kernel) (by decide) (fun _ => ?_) (fun _ => ?_)
  · exact sr_wk (sr_mono (mc := 0) (ms := 0) (by omega) (by omega) (g0_valueAt_22 l i0 a0 hv_i0 t)) ⟨rfl, ⟨rfl, trivial⟩⟩
  · refine sr_iloadn (pc := 4) (n := 1) (by decide +kernel) rfl ?_
    refine sr_aloadn (pc := 5) (n := 0) (by decide +kernel) rfl ?_
    refine sr_gC (pc := 6) (i2 := i0) fg_0_15 (by decide +kernel) (sr_in0 _ (by omega)) (fun _ => rfl) ?_
    refine sr_al' (pc := 9) (ty := 0) (n := 24) (v := 24) rfl (by decide) (by decide +kernel) (sr_in20 _ (by omega)) (by decide) ?_
    refine sr_icmp_ge (pc := 10) (off := 12) (tg := 22) (by decide +kernel) (by decide) (fun _ => ?_) (fun _ => ?_)
    · exact sr_wk (sr_mono (mc := 0) (ms := 0) (by omega) (by omega) (g0_valueAt_22 l i0 a0 hv_i0 t)) ⟨rfl, ⟨rfl, trivial⟩⟩
    · refine sr_aloadn (pc := 13) (n := 0) (by decide +kernel) rfl ?_
      refine sr_gC (pc := 14) (i2 := i0) fg_0_15 (by decide +kernel) (sr_in0 _ (by omega)) (fun _ => rfl) ?_
      refine sr_iloadn (pc := 17) (n := 1) (by decide +kernel) rfl ?_
      refine sr_aI (pc := 18) (n := 24) rfl (by decide +kernel) (sr_in20 _ (by omega)) (fun _ _ => rfl) ?_
      refine sr_goto (pc := 19) (off := 4) (tg := 23) (by decide +kernel) (by decide) ?_
      exact sr_wk (sr_mono (mc := 0) (ms := 0) (by omega) (by omega) (g0_valueAt_23 l i0 a0 hv_i0 (t.1 20 i0 a0.toNatClampNeg) t)) ⟨rfl, ⟨rfl, trivial⟩⟩
def f6_tellAt_90 (i1 : Nat) (i2 : Nat) (a2 : Int32) (k41 : Nat → Nat → Int32 → sr_t → sr_Rs) (k82 : Nat → Int32 → sr_t → sr_Rs) (k96 : sr_t → sr_Rs) : Nat → Nat → Int32 → sr_t → sr_Rs := fun j4 j5 x6 t => k41 j4 j5 (x6 + 1) t
theorem g6_tellAt_90 (l : Launch) (i1 : Nat) (i2 : Nat) (a2 : Int32) (hv_i1 : i1 < 2) (hv_i2 : i2 < 50) (k41 : Nat → Nat → Int32 → sr_t → sr_Rs) (k82 : Nat → Int32 → sr_t → sr_Rs) (k96 : sr_t → sr_Rs) (hk41 : ∀ (j4 : Nat) (j5 : Nat) (x6 : Int32), j4 < 33 → j5 < 107 → ∀ (t : sr_t), sr_g l sr_m6_tellAt 41 [some (sr_r 6 0), some (sr_r 3 i1), some (sr_r 2 i2), some (sr_i a2), some (sr_r 0 j4), some (sr_r 4 j5), some (sr_i x6), none] [] t (k41 j4 j5 x6 t) 0 0) (hk82 : ∀ (j4 : Nat) (x7 : Int32), j4 < 33 → ∀ (t : sr_t), sr_g l sr_m6_tellAt 82 [some (sr_r 6 0), some (sr_r 3 i1), some (sr_r 2 i2), some (sr_i a2), some (sr_r 0 j4), none, none, some (sr_i x7)] [] t (k82 j4 x7 t) 0 0) (hk96 : ∀ (t : sr_t), sr_g l sr_m6_tellAt 96 [some (sr_r 6 0), some (sr_r 3 i1), some (sr_r 2 i2), some (sr_i a2), none, none, none, none] [] t (k96 t) 0 0) : ∀ (j4 : Nat) (j5 : Nat) (x6 : Int32), j4 < 33 → j5 < 107 → ∀ (t : sr_t), sr_g l sr_m6_tellAt 90 [some (sr_r 6 0), some (sr_r 3 i1), some (sr_r 2 i2), some (sr_i a2), some (sr_r 0 j4), some (sr_r 4 j5), some (sr_i x6), none] [] t (f6_tellAt_90 i1 i2 a2 k41 k82 k96 j4 j5 x6 t) 0 0 := by
  intro j4 j5 x6 hv_j4 hv_j5 t
  unfold f6_tellAt_90
  refine sr_iinc (pc := 90) (i := 6) (n := 1) (w := x6 + 1) (by decide +kernel) rfl rfl (by decide) rfl rfl ?_
  refine sr_goto (pc := 93) (off := (-52)) (tg := 41) (by decide +kernel) (by decide) ?_
  exact sr_wk (sr_mono (mc := 0) (ms := 0) (by omega) (by omega) (hk41 j4 j5 (x6 + 1) (by omega) (by omega) t)) ⟨rfl, ⟨rfl, ⟨rfl, ⟨rfl, ⟨rfl, ⟨rfl, ⟨rfl, trivial⟩⟩⟩⟩⟩⟩⟩
def f6_tellAt_41 (i1 : Nat) (i2 : Nat) (a2 : Int32) (k82 : Nat → Int32 → sr_t → sr_Rs) (k96 : sr_t → sr_Rs) : Nat → Nat → Nat → Int32 → sr_t → sr_Rs
  | 0 => fun _ _ _ _ => none
  | n + 1 => fun j4 j5 x6 t => (if (t.1 4 j5 1) ≤ x6 then k96 t else (sr_bI (F4_at j5 x6 t) (fun v1 t1 => (sr_bR 2 50 (F3_of i1 v1 t1) (fun n2 t2 => (if (t2.1 2 n2 2) = 0 then f6_tellAt_90 i1 i2 a2 (f6_tellAt_41 i1 i2 a2 k82 k96 n) k82 k96 j4 j5 x6 t2 else (sr_bI (F0_isHeldBy j4 v1 t2) (fun v3 t3 => (if v3 = 0 then f6_tellAt_90 i1 i2 a2 (f6_tellAt_41 i1 i2 a2 k82 k96 n) k82 k96 j4 j5 x6 t3 else k82 j4 v1 t3)))))))))
theorem g6_tellAt_41 (l : Launch) (i1 : Nat) (i2 : Nat) (a2 : Int32) (hv_i1 : i1 < 2) (hv_i2 : i2 < 50) (k82 : Nat → Int32 → sr_t → sr_Rs) (k96 : sr_t → sr_Rs) (hk82 : ∀ (j4 : Nat) (x7 : Int32), j4 < 33 → ∀ (t : sr_t), sr_g l sr_m6_tellAt 82 [some (sr_r 6 0), some (sr_r 3 i1), some (sr_r 2 i2), some (sr_i a2), some (sr_r 0 j4), none, none, some (sr_i x7)] [] t (k82 j4 x7 t) 0 0) (hk96 : ∀ (t : sr_t), sr_g l sr_m6_tellAt 96 [some (sr_r 6 0), some (sr_r 3 i1), some (sr_r 2 i2), some (sr_i a2), none, none, none, none] [] t (k96 t) 0 0) : ∀ (n : Nat) (j4 : Nat) (j5 : Nat) (x6 : Int32), j4 < 33 → j5 < 107 → ∀ (t : sr_t), sr_g l sr_m6_tellAt 41 [some (sr_r 6 0), some (sr_r 3 i1), some (sr_r 2 i2), some (sr_i a2), some (sr_r 0 j4), some (sr_r 4 j5), some (sr_i x6), none] [] t (f6_tellAt_41 i1 i2 a2 k82 k96 n j4 j5 x6 t) 0 0 := by
  intro n
  induction n with
  | zero => intros; exact sr_Gn
  | succ n ih =>
    intro j4 j5 x6 hv_j4 hv_j5 t
    unfold f6_tellAt_41
    refine sr_iload (pc := 41) (i := 6) (by decide +kernel) rfl ?_
    refine sr_aload (pc := 43) (i := 5) (by decide +kernel) rfl ?_
    refine sr_gI (pc := 45) fg_6_67 (by decide +kernel) (sr_in4 _ (by omega)) (fun _ => rfl) ?_
    refine sr_icmp_ge (pc := 48) (off := 48) (tg := 96) (by decide +kernel) (by decide) (fun _ => ?_) (fun _ => ?_)
    · exact sr_wk (sr_mono (mc := 0) (ms := 0) (by omega) (by omega) (hk96 t)) ⟨rfl, ⟨rfl, ⟨rfl, ⟨rfl, trivial⟩⟩⟩⟩
    · refine sr_aload (pc := 51) (i := 5) (by decide +kernel) rfl ?_
      refine sr_iload (pc := 53) (i := 6) (by decide +kernel) rfl ?_
      refine sr_cV (pc := 55) (As := [sr_i x6]) (mc1 := 0) (ms1 := 0) (mc2 := 0) (ms2 := 0) fm_6_72 fl_6_72 (by decide +kernel) (sr_in4 _ (by omega)) (rm_6_tellAt_4_at) rfl rfl rfl (C4_at l j5 x6 (by omega) t) ?_
      refine sr_kI (fun v1 t1 => ?_)
      refine sr_istore (pc := 58) (i := 7) (by decide +kernel) (by decide) rfl rfl ?_
      refine sr_aloadn (pc := 60) (n := 1) (by decide +kernel) rfl ?_
      refine sr_iload (pc := 61) (i := 7) (by decide +kernel) rfl ?_
      refine sr_cV (pc := 63) (As := [sr_i v1]) (mc1 := 0) (ms1 := 0) (mc2 := 0) (ms2 := 0) fm_6_76 fl_6_76 (by decide +kernel) (sr_in3 _ (by omega)) (rm_6_tellAt_3_of) rfl rfl rfl (C3_of l i1 v1 (by omega) t1) ?_
      refine sr_kR (fun n2 t2 hv_n2 => ?_)
      refine sr_gI (pc := 66) fg_6_82 (by decide +kernel) (sr_in2 _ (by omega)) (fun _ => rfl) ?_
      refine sr_if_eq (pc := 69) (off := 21) (tg := 90) (by decide +kernel) (by decide) (fun _ => ?_) (fun _ => ?_)
      · exact sr_wk (sr_mono (mc := 0) (ms := 0) (by omega) (by omega) (g6_tellAt_90 l i1 i2 a2 hv_i1 hv_i2 (f6_tellAt_41 i1 i2 a2 k82 k96 n) k82 k96 ih hk82 hk96 j4 j5 x6 (by omega) (by omega) t2)) ⟨rfl, ⟨rfl, ⟨rfl, ⟨rfl, ⟨rfl, ⟨rfl, ⟨rfl, trivial⟩⟩⟩⟩⟩⟩⟩
      · refine sr_aload (pc := 72) (i := 4) (by decide +kernel) rfl ?_
        refine sr_iload (pc := 74) (i := 7) (by decide +kernel) rfl ?_
        refine sr_cV (pc := 76) (As := [sr_i v1]) (mc1 := 0) (ms1 := 0) (mc2 := 0) (ms2 := 0) fm_6_86 fl_6_86 (by decide +kernel) (sr_in0 _ (by omega)) (rm_6_tellAt_0_isHeldBy) rfl rfl rfl (C0_isHeldBy l j4 v1 (by omega) t2) ?_
        refine sr_kI (fun v3 t3 => ?_)
        refine sr_if_eq (pc := 79) (off := 11) (tg := 90) (by decide +kernel) (by decide) (fun _ => ?_) (fun _ => ?_)
        · exact sr_wk (sr_mono (mc := 0) (ms := 0) (by omega) (by omega) (g6_tellAt_90 l i1 i2 a2 hv_i1 hv_i2 (f6_tellAt_41 i1 i2 a2 k82 k96 n) k82 k96 ih hk82 hk96 j4 j5 x6 (by omega) (by omega) t3)) ⟨rfl, ⟨rfl, ⟨rfl, ⟨rfl, ⟨rfl, ⟨rfl, ⟨rfl, trivial⟩⟩⟩⟩⟩⟩⟩
        · exact sr_wk (sr_mono (mc := 0) (ms := 0) (by omega) (by omega) (hk82 j4 v1 (by omega) t3)) ⟨rfl, ⟨rfl, ⟨rfl, ⟨rfl, ⟨rfl, ⟨rfl, trivial⟩⟩⟩⟩⟩⟩
def f6_tellAt_82 (i1 : Nat) (i2 : Nat) (a2 : Int32)  : Nat → Int32 → sr_t → sr_Rs := fun j4 x7 t => (sr_bI (F0_valueAt j4 x7 t) (fun v1 t1 => (some (.inl (some (sr_i v1)), t1))))
theorem g6_tellAt_82 (l : Launch) (i1 : Nat) (i2 : Nat) (a2 : Int32) (hv_i1 : i1 < 2) (hv_i2 : i2 < 50)   : ∀ (j4 : Nat) (x7 : Int32), j4 < 33 → ∀ (t : sr_t), sr_g l sr_m6_tellAt 82 [some (sr_r 6 0), some (sr_r 3 i1), some (sr_r 2 i2), some (sr_i a2), some (sr_r 0 j4), none, none, some (sr_i x7)] [] t (f6_tellAt_82 i1 i2 a2  j4 x7 t) 0 0 := by
  intro j4 x7 hv_j4 t
  unfold f6_tellAt_82
  refine sr_aload (pc := 82) (i := 4) (by decide +kernel) rfl ?_
  refine sr_iload (pc := 84) (i := 7) (by decide +kernel) rfl ?_
  refine sr_cV (pc := 86) (As := [sr_i x7]) (mc1 := 0) (ms1 := 0) (mc2 := 0) (ms2 := 0) fm_6_90 fl_6_90 (by decide +kernel) (sr_in0 _ (by omega)) (rm_6_tellAt_0_valueAt) rfl rfl rfl (C0_valueAt l j4 x7 (by omega) t) ?_
  refine sr_kI (fun v1 t1 => ?_)
  exact sr_iret (pc := 89) (by decide +kernel) rfl
def f6_tellAt_96 (i1 : Nat) (i2 : Nat) (a2 : Int32)  : sr_t → sr_Rs := fun  t => (some (.inl (some (sr_i ((-1)))), t))
theorem g6_tellAt_96 (l : Launch) (i1 : Nat) (i2 : Nat) (a2 : Int32) (hv_i1 : i1 < 2) (hv_i2 : i2 < 50)   : ∀ (t : sr_t), sr_g l sr_m6_tellAt 96 [some (sr_r 6 0), some (sr_r 3 i1), some (sr_r 2 i2), some (sr_i a2), none, none, none, none] [] t (f6_tellAt_96 i1 i2 a2   t) 0 0 := by
  intro t
  unfold f6_tellAt_96
  refine sr_iconst (pc := 96) (n := (-1)) (v := (-1)) (by decide +kernel) rfl ?_
  exact sr_iret (pc := 97) (by decide +kernel) rfl
def F6_tellAt (i1 : Nat) (i2 : Nat) (a2 : Int32) (t : sr_t) : sr_Rs := (sr_bR 0 33 (F6_entryOf a2 t) (fun n1 t1 => (sr_bI (F0_isHeldBy n1 (t1.1 2 i2 0) t1) (fun v2 t2 => (if v2 = 0 then f6_tellAt_41 i1 i2 a2 (f6_tellAt_82 i1 i2 a2) (f6_tellAt_96 i1 i2 a2) sr_fu n1 (2 * i2) 0 t2 else (sr_bI (F0_valueAt n1 (t2.1 2 i2 0) t2) (fun v3 t3 => (some (.inl (some (sr_i v3)), t3)))))))))
theorem C6_tellAt (l : Launch) (i1 : Nat) (i2 : Nat) (a2 : Int32) (hv_i1 : i1 < 2) (hv_i2 : i2 < 50) (t : sr_t) : sr_ct' l sr_m6_tellAt [sr_r 6 0, sr_r 3 i1, sr_r 2 i2, sr_i a2] t (F6_tellAt i1 i2 a2 t) 0 0 := by
  refine sr_T_of (L0 := [some (sr_r 6 0), some (sr_r 3 i1), some (sr_r 2 i2), some (sr_i a2), none, none, none, none]) rfl (by decide +kernel) (fun _ => rfl) (fun _ => Nat.le_of_ble_eq_true rfl) ?_
  unfold F6_tellAt
  refine sr_aloadn (pc := 0) (n := 0) (by decide +kernel) rfl ?_
  refine sr_iloadn (pc := 1) (n := 3) (by decide +kernel) rfl ?_
  refine sr_cV (pc := 2) (As := [sr_i a2]) (mc1 := 0) (ms1 := 0) (mc2 := 0) (ms2 := 0) fm_6_36 fl_6_36 (by decide +kernel) (sr_in6 _ (by omega)) (rm_6_tellAt_6_entryOf) rfl rfl rfl (C6_entryOf l a2 t) ?_
  refine sr_kR (fun n1 t1 hv_n1 => ?_)
  refine sr_astore (pc := 5) (i := 4) (by decide +kernel) (by decide) rfl rfl ?_
  refine sr_aload (pc := 7) (i := 4) (by decide +kernel) rfl ?_
  refine sr_aloadn (pc := 9) (n := 2) (by decide +kernel) rfl ?_
  refine sr_gI (pc := 10) fg_6_48 (by decide +kernel) (sr_in2 _ (by omega)) (fun _ => rfl) ?_
  refine sr_cV (pc := 13) (As := [sr_i (t1.1 2 i2 0)]) (mc1 := 0) (ms1 := 0) (mc2 := 0) (ms2 := 0) fm_6_86 fl_6_86 (by decide +kernel) (sr_in0 _ (by omega)) (rm_6_tellAt_0_isHeldBy) rfl rfl rfl (C0_isHeldBy l n1 (t1.1 2 i2 0) (by omega) t1) ?_
  refine sr_kI (fun v2 t2 => ?_)
  refine sr_if_eq (pc := 16) (off := 13) (tg := 29) (by decide +kernel) (by decide) (fun _ => ?_) (fun _ => ?_)
  · refine sr_aloadn (pc := 29) (n := 2) (by decide +kernel) rfl ?_
    refine sr_gC (pc := 30) (i2 := i2) fg_6_57 (by decide +kernel) (sr_in2 _ (by omega)) (fun _ => rfl) ?_
    refine sr_gC (pc := 33) (i2 := 2 * i2) fg_6_61 (by decide +kernel) (sr_in7 _ (by omega)) (fun _ => rfl) ?_
    refine sr_astore (pc := 36) (i := 5) (by decide +kernel) (by decide) rfl rfl ?_
    refine sr_iconst (pc := 38) (n := 0) (v := 0) (by decide +kernel) rfl ?_
    refine sr_istore (pc := 39) (i := 6) (by decide +kernel) (by decide) rfl rfl ?_
    exact sr_wk (sr_mono (mc := 0) (ms := 0) (by omega) (by omega) (g6_tellAt_41 l i1 i2 a2 hv_i1 hv_i2 (f6_tellAt_82 i1 i2 a2) (f6_tellAt_96 i1 i2 a2) (g6_tellAt_82 l i1 i2 a2 hv_i1 hv_i2) (g6_tellAt_96 l i1 i2 a2 hv_i1 hv_i2) sr_fu n1 (2 * i2) 0 (by omega) (by omega) t2)) ⟨rfl, ⟨rfl, ⟨rfl, ⟨rfl, ⟨rfl, ⟨rfl, ⟨rfl, trivial⟩⟩⟩⟩⟩⟩⟩
  · refine sr_aload (pc := 19) (i := 4) (by decide +kernel) rfl ?_
    refine sr_aloadn (pc := 21) (n := 2) (by decide +kernel) rfl ?_
    refine sr_gI (pc := 22) fg_6_48 (by decide +kernel) (sr_in2 _ (by omega)) (fun _ => rfl) ?_
    refine sr_cV (pc := 25) (As := [sr_i (t2.1 2 i2 0)]) (mc1 := 0) (ms1 := 0) (mc2 := 0) (ms2 := 0) fm_6_90 fl_6_90 (by decide +kernel) (sr_in0 _ (by omega)) (rm_6_tellAt_0_valueAt) rfl rfl rfl (C0_valueAt l n1 (t2.1 2 i2 0) (by omega) t2) ?_
    refine sr_kI (fun v3 t3 => ?_)
    exact sr_iret (pc := 28) (by decide +kernel) rfl
def F10_get (a0 : Int32) (a1 : Int32) (t : sr_t) : sr_Rs := (sr_bV (F10_needNode a0 t) (fun t1 => (sr_bV (F10_needPlace a1 t1) (fun t2 => (sr_bV (F10_needUp a0 t2) (fun t3 => (sr_bR 2 50 (F10_endOfLookup a0 a1 t3) (fun n4 t4 => (sr_bI (F6_tellAt 0 n4 a1 t4) (fun v5 t5 => (some (.inl (some (sr_i v5)), t5))))))))))))
theorem C10_get (l : Launch) (a0 : Int32) (a1 : Int32)  (t : sr_t) : sr_ct' l sr_m10_get [sr_r 10 0, sr_i a0, sr_i a1] t (F10_get a0 a1 t) 4 24 := by
  refine sr_T_of (L0 := [some (sr_r 10 0), some (sr_i a0), some (sr_i a1)]) rfl (by decide +kernel) (fun _ => rfl) (fun _ => Nat.le_of_ble_eq_true rfl) ?_
  unfold F10_get
  refine sr_aloadn (pc := 0) (n := 0) (by decide +kernel) rfl ?_
  refine sr_iloadn (pc := 1) (n := 1) (by decide +kernel) rfl ?_
  refine sr_cV (pc := 2) (As := [sr_i a0]) (mc1 := 1) (ms1 := 6) (mc2 := 3) (ms2 := 18) fm_10_81 fl_10_81 (by decide +kernel) (sr_in10 _ (by omega)) (rm_10_get_10_needNode) rfl rfl rfl (C10_needNode l a0 t) ?_
  refine sr_kV (fun t1 => ?_)
  refine sr_iloadn (pc := 5) (n := 2) (by decide +kernel) rfl ?_
  refine sr_cS (pc := 6) (As := [sr_i a1]) (mc1 := 1) (ms1 := 6) (mc2 := 2) (ms2 := 12) fm_10_58 fl_10_58 (by decide +kernel) (rm_10_get_10_needPlace) rfl rfl rfl (C10_needPlace l a1 t1) ?_
  refine sr_kV (fun t2 => ?_)
  refine sr_aloadn (pc := 9) (n := 0) (by decide +kernel) rfl ?_
  refine sr_iloadn (pc := 10) (n := 1) (by decide +kernel) rfl ?_
  refine sr_cV (pc := 11) (As := [sr_i a0]) (mc1 := 1) (ms1 := 6) (mc2 := 1) (ms2 := 6) fm_10_84 fl_10_84 (by decide +kernel) (sr_in10 _ (by omega)) (rm_10_get_10_needUp) rfl rfl rfl (C10_needUp l a0 t2) ?_
  refine sr_kV (fun t3 => ?_)
  refine sr_aloadn (pc := 14) (n := 0) (by decide +kernel) rfl ?_
  refine sr_gC (pc := 15) (i2 := 0) fg_10_19 (by decide +kernel) (sr_in10 _ (by omega)) (fun _ => rfl) ?_
  refine sr_aloadn (pc := 18) (n := 0) (by decide +kernel) rfl ?_
  refine sr_gC (pc := 19) (i2 := 0) fg_10_12 (by decide +kernel) (sr_in10 _ (by omega)) (fun _ => rfl) ?_
  refine sr_aloadn (pc := 22) (n := 0) (by decide +kernel) rfl ?_
  refine sr_iloadn (pc := 23) (n := 1) (by decide +kernel) rfl ?_
  refine sr_iloadn (pc := 24) (n := 2) (by decide +kernel) rfl ?_
  refine sr_cV (pc := 25) (As := [sr_i a0, sr_i a1]) (mc1 := 1) (ms1 := 6) (mc2 := 0) (ms2 := 0) fm_10_334 fl_10_334 (by decide +kernel) (sr_in10 _ (by omega)) (rm_10_get_10_endOfLookup) rfl rfl rfl (C10_endOfLookup l a0 a1 t3) ?_
  refine sr_kR (fun n4 t4 hv_n4 => ?_)
  refine sr_iloadn (pc := 28) (n := 2) (by decide +kernel) rfl ?_
  refine sr_cV (pc := 29) (As := [sr_r 3 0, sr_r 2 n4, sr_i a1]) (mc1 := 0) (ms1 := 0) (mc2 := 0) (ms2 := 0) fm_10_342 fl_10_342 (by decide +kernel) (sr_in6 _ (by omega)) (rm_10_get_6_tellAt) rfl rfl rfl (C6_tellAt l 0 n4 a1 (by omega) (by omega) t4) ?_
  refine sr_kI (fun v5 t5 => ?_)
  exact sr_iret (pc := 32) (by decide +kernel) rfl
def sr_m3_keeperBits : sr_M := (⟨"ShiftRing$Ring", "keeperBits", "(II)I"⟩, prog_5_method_22_code, 6, (some .int), [], 2, 46)
def sr_m0_drop : sr_M := (⟨"ShiftRing$Entry", "drop", "(I)V"⟩, prog_2_method_6_code, 2, none, [], 1, 23)
def sr_m6_settleEntry : sr_M := (⟨"ShiftRing$Store", "settleEntry", "(LShiftRing$Ring;LShiftRing$Entry;I)I"⟩, prog_8_method_9_code, 8, (some .int), [], 3, 71)
def sr_m6_settleFrom : sr_M := (⟨"ShiftRing$Store", "settleFrom", "(LShiftRing$Ring;I)I"⟩, prog_8_method_8_code, 5, (some .int), [], 4, 98)
def sr_m10_settle : sr_M := (⟨"ShiftRing", "settle", "(I)I"⟩, prog_1_method_43_code, 2, (some .int), [], 7, 122)
theorem fg_6_104 : sr_FG "ShiftRing$Store" 104 3 3 9 := ⟨RX3, TX3, tyX3, rfl, by decide, rfl, uw_3, tyX3_ok, nmX3, Or.inr ⟨"ShiftRing", sr_nb (n := 160) (by decide +kernel) rfl⟩⟩
theorem fl_10_347 : Cond.methodLink "ShiftRing" 347 (sr_My sr_m6_settleFrom) ∈ sr_TB := (sr_tb (n := 1340) (by decide +kernel) rfl)
theorem fm_10_347 : sr_FV "ShiftRing" 347 sr_m6_settleFrom 6 2 := ⟨⟨rfl, sr_tb (n := 1343) (by decide +kernel) rfl, sr_tb (n := 6) (by decide +kernel) rfl, ⟨by decide, by decide, by decide +kernel⟩, Or.inl fl_10_347⟩, ⟨TX6, 5, rfl, rfl⟩, sr_tb (n := 1341) (by decide +kernel) rfl, sr_tb (n := 1342) (by decide +kernel) rfl⟩
theorem fl_0_26 : Cond.methodLink "ShiftRing$Entry" 26 (sr_My sr_m0_hold) ∈ sr_TB := (sr_tb (n := 1358) (by decide +kernel) rfl)
theorem fm_0_26 : sr_FV "ShiftRing$Entry" 26 sr_m0_hold 0 3 := ⟨⟨rfl, sr_tb (n := 1314) (by decide +kernel) rfl, sr_tb (n := 7) (by decide +kernel) rfl, ⟨by decide, by decide, by decide +kernel⟩, Or.inl fl_0_26⟩, ⟨TX0, 4, rfl, rfl⟩, sr_tb (n := 1312) (by decide +kernel) rfl, sr_tb (n := 1313) (by decide +kernel) rfl⟩
theorem fl_6_93 : Cond.methodLink "ShiftRing$Store" 93 (sr_My sr_m6_settleEntry) ∈ sr_TB := (sr_tb (n := 1344) (by decide +kernel) rfl)
theorem fm_6_93 : sr_FV "ShiftRing$Store" 93 sr_m6_settleEntry 6 3 := ⟨⟨rfl, sr_tb (n := 1347) (by decide +kernel) rfl, sr_tb (n := 6) (by decide +kernel) rfl, ⟨by decide, by decide, by decide +kernel⟩, Or.inl fl_6_93⟩, ⟨TX6, 5, rfl, rfl⟩, sr_tb (n := 1346) (by decide +kernel) rfl, sr_ts (n := 39) (by decide +kernel) rfl⟩
theorem fl_6_97 : Cond.methodLink "ShiftRing$Store" 97 (sr_My sr_m3_keeperBits) ∈ sr_TB := (sr_tb (n := 1348) (by decide +kernel) rfl)
theorem fm_6_97 : sr_FV "ShiftRing$Store" 97 sr_m3_keeperBits 3 2 := ⟨⟨rfl, sr_tb (n := 1351) (by decide +kernel) rfl, sr_tb (n := 2) (by decide +kernel) rfl, ⟨by decide, by decide, by decide +kernel⟩, Or.inl fl_6_97⟩, ⟨TX3, 9, rfl, rfl⟩, sr_tb (n := 1349) (by decide +kernel) rfl, sr_tb (n := 1350) (by decide +kernel) rfl⟩
theorem fl_6_101 : Cond.methodLink "ShiftRing$Store" 101 (sr_My sr_m0_versionAt) ∈ sr_TB := (sr_tb (n := 1352) (by decide +kernel) rfl)
theorem fm_6_101 : sr_FV "ShiftRing$Store" 101 sr_m0_versionAt 0 1 := ⟨⟨rfl, sr_tb (n := 740) (by decide +kernel) rfl, sr_tb (n := 7) (by decide +kernel) rfl, ⟨by decide, by decide, by decide +kernel⟩, Or.inl fl_6_101⟩, ⟨TX0, 4, rfl, rfl⟩, sr_tb (n := 738) (by decide +kernel) rfl, sr_tb (n := 739) (by decide +kernel) rfl⟩
theorem fl_6_105 : Cond.methodLinkNest "ShiftRing$Store" 105 (sr_My sr_m10_hasBit) "ShiftRing" ∈ sr_NB := (sr_nb (n := 1353) (by decide +kernel) rfl)
theorem fm_6_105 : sr_FS "ShiftRing$Store" 105 sr_m10_hasBit 2 := ⟨⟨rfl, sr_tb (n := 525) (by decide +kernel) rfl, sr_tb (n := 1) (by decide +kernel) rfl, ⟨by decide, by decide, by decide +kernel⟩, Or.inr ⟨_, fl_6_105⟩⟩, sr_tb (n := 524) (by decide +kernel) rfl⟩
theorem fl_6_109 : Cond.methodLink "ShiftRing$Store" 109 (sr_My sr_m0_drop) ∈ sr_TB := (sr_tb (n := 1354) (by decide +kernel) rfl)
theorem fm_6_109 : sr_FV "ShiftRing$Store" 109 sr_m0_drop 0 1 := ⟨⟨rfl, sr_tb (n := 1357) (by decide +kernel) rfl, sr_tb (n := 7) (by decide +kernel) rfl, ⟨by decide, by decide, by decide +kernel⟩, Or.inl fl_6_109⟩, ⟨TX0, 4, rfl, rfl⟩, sr_tb (n := 1355) (by decide +kernel) rfl, sr_tb (n := 1356) (by decide +kernel) rfl⟩
theorem rm_0_drop_0_hold : sr_RM sr_m0_drop sr_m0_hold := ⟨Nat.le_of_ble_eq_true rfl, Nat.le_of_ble_eq_true rfl⟩
theorem rm_10_settle_10_needNode : sr_RM sr_m10_settle sr_m10_needNode := ⟨Nat.le_of_ble_eq_true rfl, Nat.le_of_ble_eq_true rfl⟩
theorem rm_10_settle_10_needUp : sr_RM sr_m10_settle sr_m10_needUp := ⟨Nat.le_of_ble_eq_true rfl, Nat.le_of_ble_eq_true rfl⟩
theorem rm_10_settle_6_settleFrom : sr_RM sr_m10_settle sr_m6_settleFrom := ⟨Nat.le_of_ble_eq_true rfl, Nat.le_of_ble_eq_true rfl⟩
theorem rm_3_keeperBits_10_bit : sr_RM sr_m3_keeperBits sr_m10_bit := ⟨Nat.le_of_ble_eq_true rfl, Nat.le_of_ble_eq_true rfl⟩
theorem rm_3_keeperBits_3_firstFrom : sr_RM sr_m3_keeperBits sr_m3_firstFrom := ⟨Nat.le_of_ble_eq_true rfl, Nat.le_of_ble_eq_true rfl⟩
theorem rm_6_settleEntry_0_drop : sr_RM sr_m6_settleEntry sr_m0_drop := ⟨Nat.le_of_ble_eq_true rfl, Nat.le_of_ble_eq_true rfl⟩
theorem rm_6_settleEntry_0_hold : sr_RM sr_m6_settleEntry sr_m0_hold := ⟨Nat.le_of_ble_eq_true rfl, Nat.le_of_ble_eq_true rfl⟩
theorem rm_6_settleEntry_0_valueAt : sr_RM sr_m6_settleEntry sr_m0_valueAt := ⟨Nat.le_of_ble_eq_true rfl, Nat.le_of_ble_eq_true rfl⟩
theorem rm_6_settleEntry_0_versionAt : sr_RM sr_m6_settleEntry sr_m0_versionAt := ⟨Nat.le_of_ble_eq_true rfl, Nat.le_of_ble_eq_true rfl⟩
theorem rm_6_settleEntry_10_hasBit : sr_RM sr_m6_settleEntry sr_m10_hasBit := ⟨Nat.le_of_ble_eq_true rfl, Nat.le_of_ble_eq_true rfl⟩
theorem rm_6_settleEntry_3_keeperBits : sr_RM sr_m6_settleEntry sr_m3_keeperBits := ⟨Nat.le_of_ble_eq_true rfl, Nat.le_of_ble_eq_true rfl⟩
theorem rm_6_settleFrom_0_isHeldBy : sr_RM sr_m6_settleFrom sr_m0_isHeldBy := ⟨Nat.le_of_ble_eq_true rfl, Nat.le_of_ble_eq_true rfl⟩
theorem rm_6_settleFrom_6_entryAt : sr_RM sr_m6_settleFrom sr_m6_entryAt := ⟨Nat.le_of_ble_eq_true rfl, Nat.le_of_ble_eq_true rfl⟩
theorem rm_6_settleFrom_6_settleEntry : sr_RM sr_m6_settleFrom sr_m6_settleEntry := ⟨Nat.le_of_ble_eq_true rfl, Nat.le_of_ble_eq_true rfl⟩
def f3_keeperBits_12 (i0 : Nat) (a0 : Int32) (a1 : Int32) (k57 : Int32 → sr_t → sr_Rs) : Nat → Int32 → Nat → Int32 → sr_t → sr_Rs
  | 0 => fun _ _ _ _ => none
  | n + 1 => fun x3 j4 x5 t => (if a1 ≤ x5 then k57 x3 t else (if j4 = (25 * i0 + 24) then k57 x3 t else (sr_bI (sr_nt (F10_bit (t.1 2 j4 0) t)) (fun v1 t1 => (sr_bR 2 50 (F3_firstFrom i0 ((t1.1 2 j4 1) + 1) t1) (fun n2 t2 => (f3_keeperBits_12 i0 a0 a1 k57 n) (x3 ||| v1) n2 (x5 + 1) t2))))))
theorem g3_keeperBits_12 (l : Launch) (i0 : Nat) (a0 : Int32) (a1 : Int32) (hv_i0 : i0 < 2) (k57 : Int32 → sr_t → sr_Rs) (hk57 : ∀ (x3 : Int32), ∀ (t : sr_t), sr_g l sr_m3_keeperBits 57 [some (sr_r 3 i0), some (sr_i a0), some (sr_i a1), some (sr_i x3), none, none] [] t (k57 x3 t) 0 0) : ∀ (n : Nat) (x3 : Int32) (j4 : Nat) (x5 : Int32), j4 < 50 → ∀ (t : sr_t), sr_g l sr_m3_keeperBits 12 [some (sr_r 3 i0), some (sr_i a0), some (sr_i a1), some (sr_i x3), some (sr_r 2 j4), some (sr_i x5)] [] t (f3_keeperBits_12 i0 a0 a1 k57 n x3 j4 x5 t) 0 0 := by
  intro n
  induction n with
  | zero => intros; exact sr_Gn
  | succ n ih =>
    intro x3 j4 x5 hv_j4 t
    unfold f3_keeperBits_12
    refine sr_iload (pc := 12) (i := 5) (by decide +kernel) rfl ?_
    refine sr_iloadn (pc := 14) (n := 2) (by decide +kernel) rfl ?_
    refine sr_icmp_ge (pc := 15) (off := 42) (tg := 57) (by decide +kernel) (by decide) (fun _ => ?_) (fun _ => ?_)
    · exact sr_wk (sr_mono (mc := 0) (ms := 0) (by omega) (by omega) (hk57 x3 t)) ⟨rfl, ⟨rfl, ⟨rfl, ⟨rfl, trivial⟩⟩⟩⟩
    · refine sr_aload (pc := 18) (i := 4) (by decide +kernel) rfl ?_
      refine sr_aloadn (pc := 20) (n := 0) (by decide +kernel) rfl ?_
      refine sr_gC (pc := 21) (i2 := 25 * i0 + 24) fg_3_20 (by decide +kernel) (sr_in3 _ (by omega)) (fun _ => rfl) ?_
      refine sr_acmp_eq (pc := 24) (off := 33) (tg := 57) (by decide +kernel) (by decide) (sr_in2 _ (by omega)) (sr_in2 _ (by omega)) (fun _ => ?_) (fun _ => ?_)
      · exact sr_wk (sr_mono (mc := 0) (ms := 0) (by omega) (by omega) (hk57 x3 t)) ⟨rfl, ⟨rfl, ⟨rfl, ⟨rfl, trivial⟩⟩⟩⟩
      · refine sr_iloadn (pc := 27) (n := 3) (by decide +kernel) rfl ?_
        refine sr_aload (pc := 28) (i := 4) (by decide +kernel) rfl ?_
        refine sr_gI (pc := 30) fg_3_65 (by decide +kernel) (sr_in2 _ (by omega)) (fun _ => rfl) ?_
        refine sr_cSN (pc := 33) (As := [sr_i (t.1 2 j4 0)]) (mc1 := 0) (ms1 := 0) (mc2 := 0) (ms2 := 0) fm_3_152 fl_3_152 (by decide +kernel) (rm_3_keeperBits_10_bit) rfl rfl rfl (C10_bit l (t.1 2 j4 0) t) ?_
        refine sr_kI (fun v1 t1 => ?_)
        refine sr_ior (pc := 36) (by decide +kernel) ?_
        refine sr_istoren (pc := 37) (n := 3) (by decide +kernel) (by decide) rfl rfl ?_
        refine sr_aloadn (pc := 38) (n := 0) (by decide +kernel) rfl ?_
        refine sr_aload (pc := 39) (i := 4) (by decide +kernel) rfl ?_
        refine sr_gI (pc := 41) fg_3_58 (by decide +kernel) (sr_in2 _ (by omega)) (fun _ => rfl) ?_
        refine sr_iconst (pc := 44) (n := 1) (v := 1) (by decide +kernel) rfl ?_
        refine sr_iadd (pc := 45) (by decide +kernel) ?_
        refine sr_cV (pc := 46) (As := [sr_i ((t1.1 2 j4 1) + 1)]) (mc1 := 0) (ms1 := 0) (mc2 := 0) (ms2 := 0) fm_3_95 fl_3_95 (by decide +kernel) (sr_in3 _ (by omega)) (rm_3_keeperBits_3_firstFrom) rfl rfl rfl (C3_firstFrom l i0 ((t1.1 2 j4 1) + 1) (by omega) t1) ?_
        refine sr_kR (fun n2 t2 hv_n2 => ?_)
        refine sr_astore (pc := 49) (i := 4) (by decide +kernel) (by decide) rfl rfl ?_
        refine sr_iinc (pc := 51) (i := 5) (n := 1) (w := x5 + 1) (by decide +kernel) rfl rfl (by decide) rfl rfl ?_
        refine sr_goto (pc := 54) (off := (-42)) (tg := 12) (by decide +kernel) (by decide) ?_
        exact sr_wk (sr_mono (mc := 0) (ms := 0) (by omega) (by omega) (ih (x3 ||| v1) n2 (x5 + 1) (by omega) t2)) ⟨rfl, ⟨rfl, ⟨rfl, ⟨rfl, ⟨rfl, ⟨rfl, trivial⟩⟩⟩⟩⟩⟩
def f3_keeperBits_57 (i0 : Nat) (a0 : Int32) (a1 : Int32)  : Int32 → sr_t → sr_Rs := fun x3 t => (some (.inl (some (sr_i x3)), t))
theorem g3_keeperBits_57 (l : Launch) (i0 : Nat) (a0 : Int32) (a1 : Int32) (hv_i0 : i0 < 2)   : ∀ (x3 : Int32), ∀ (t : sr_t), sr_g l sr_m3_keeperBits 57 [some (sr_r 3 i0), some (sr_i a0), some (sr_i a1), some (sr_i x3), none, none] [] t (f3_keeperBits_57 i0 a0 a1  x3 t) 0 0 := by
  intro x3  t
  unfold f3_keeperBits_57
  refine sr_iloadn (pc := 57) (n := 3) (by decide +kernel) rfl ?_
  exact sr_iret (pc := 58) (by decide +kernel) rfl
def F3_keeperBits (i0 : Nat) (a0 : Int32) (a1 : Int32) (t : sr_t) : sr_Rs := (sr_bR 2 50 (F3_firstFrom i0 a0 t) (fun n1 t1 => f3_keeperBits_12 i0 a0 a1 (f3_keeperBits_57 i0 a0 a1) sr_fu 0 n1 0 t1))
theorem C3_keeperBits (l : Launch) (i0 : Nat) (a0 : Int32) (a1 : Int32) (hv_i0 : i0 < 2) (t : sr_t) : sr_ct' l sr_m3_keeperBits [sr_r 3 i0, sr_i a0, sr_i a1] t (F3_keeperBits i0 a0 a1 t) 0 0 := by
  refine sr_T_of (L0 := [some (sr_r 3 i0), some (sr_i a0), some (sr_i a1), none, none, none]) rfl (by decide +kernel) (fun _ => rfl) (fun _ => Nat.le_of_ble_eq_true rfl) ?_
  unfold F3_keeperBits
  refine sr_iconst (pc := 0) (n := 0) (v := 0) (by decide +kernel) rfl ?_
  refine sr_istoren (pc := 1) (n := 3) (by decide +kernel) (by decide) rfl rfl ?_
  refine sr_aloadn (pc := 2) (n := 0) (by decide +kernel) rfl ?_
  refine sr_iloadn (pc := 3) (n := 1) (by decide +kernel) rfl ?_
  refine sr_cV (pc := 4) (As := [sr_i a0]) (mc1 := 0) (ms1 := 0) (mc2 := 0) (ms2 := 0) fm_3_95 fl_3_95 (by decide +kernel) (sr_in3 _ (by omega)) (rm_3_keeperBits_3_firstFrom) rfl rfl rfl (C3_firstFrom l i0 a0 (by omega) t) ?_
  refine sr_kR (fun n1 t1 hv_n1 => ?_)
  refine sr_astore (pc := 7) (i := 4) (by decide +kernel) (by decide) rfl rfl ?_
  refine sr_iconst (pc := 9) (n := 0) (v := 0) (by decide +kernel) rfl ?_
  refine sr_istore (pc := 10) (i := 5) (by decide +kernel) (by decide) rfl rfl ?_
  exact sr_wk (sr_mono (mc := 0) (ms := 0) (by omega) (by omega) (g3_keeperBits_12 l i0 a0 a1 hv_i0 (f3_keeperBits_57 i0 a0 a1) (g3_keeperBits_57 l i0 a0 a1 hv_i0) sr_fu 0 n1 0 (by omega) t1)) ⟨rfl, ⟨rfl, ⟨rfl, ⟨rfl, ⟨rfl, ⟨rfl, trivial⟩⟩⟩⟩⟩⟩
def F0_drop (i0 : Nat) (a0 : Int32) (t : sr_t) : sr_Rs := (sr_bV (F0_hold i0 a0 0 0 t) (fun t1 => (some (.inl none, t1))))
theorem C0_drop (l : Launch) (i0 : Nat) (a0 : Int32) (hv_i0 : i0 < 33) (t : sr_t) : sr_ct' l sr_m0_drop [sr_r 0 i0, sr_i a0] t (F0_drop i0 a0 t) 0 0 := by
  refine sr_T_of (L0 := [some (sr_r 0 i0), some (sr_i a0)]) rfl (by decide +kernel) (fun _ => rfl) (fun _ => Nat.le_of_ble_eq_true rfl) ?_
  unfold F0_drop
  refine sr_aloadn (pc := 0) (n := 0) (by decide +kernel) rfl ?_
  refine sr_iloadn (pc := 1) (n := 1) (by decide +kernel) rfl ?_
  refine sr_iconst (pc := 2) (n := 0) (v := 0) (by decide +kernel) rfl ?_
  refine sr_iconst (pc := 3) (n := 0) (v := 0) (by decide +kernel) rfl ?_
  refine sr_cV (pc := 4) (As := [sr_i a0, sr_i 0, sr_i 0]) (mc1 := 0) (ms1 := 0) (mc2 := 0) (ms2 := 0) fm_0_26 fl_0_26 (by decide +kernel) (sr_in0 _ (by omega)) (rm_0_drop_0_hold) rfl rfl rfl (C0_hold l i0 a0 0 0 (by omega) t) ?_
  refine sr_kV (fun t1 => ?_)
  exact sr_ret (pc := 7) (by decide +kernel) rfl
def f6_settleEntry_73 (i1 : Nat) (i2 : Nat) (a2 : Int32) (k27 : Int32 → Int32 → Int32 → Int32 → sr_t → sr_Rs) (k79 : Int32 → Int32 → sr_t → sr_Rs) : Int32 → Int32 → Int32 → Int32 → sr_t → sr_Rs := fun x4 x5 x6 x7 t => k27 x4 x5 x6 (x7 + 1) t
theorem g6_settleEntry_73 (l : Launch) (i1 : Nat) (i2 : Nat) (a2 : Int32) (hv_i1 : i1 < 2) (hv_i2 : i2 < 33) (k27 : Int32 → Int32 → Int32 → Int32 → sr_t → sr_Rs) (k79 : Int32 → Int32 → sr_t → sr_Rs) (hk27 : ∀ (x4 : Int32) (x5 : Int32) (x6 : Int32) (x7 : Int32), ∀ (t : sr_t), sr_g l sr_m6_settleEntry 27 [some (sr_r 6 0), some (sr_r 3 i1), some (sr_r 0 i2), some (sr_i a2), some (sr_i x4), some (sr_i x5), some (sr_i x6), some (sr_i x7)] [] t (k27 x4 x5 x6 x7 t) 0 0) (hk79 : ∀ (x4 : Int32) (x5 : Int32), ∀ (t : sr_t), sr_g l sr_m6_settleEntry 79 [some (sr_r 6 0), some (sr_r 3 i1), some (sr_r 0 i2), some (sr_i a2), some (sr_i x4), some (sr_i x5), none, none] [] t (k79 x4 x5 t) 0 0) : ∀ (x4 : Int32) (x5 : Int32) (x6 : Int32) (x7 : Int32), ∀ (t : sr_t), sr_g l sr_m6_settleEntry 73 [some (sr_r 6 0), some (sr_r 3 i1), some (sr_r 0 i2), some (sr_i a2), some (sr_i x4), some (sr_i x5), some (sr_i x6), some (sr_i x7)] [] t (f6_settleEntry_73 i1 i2 a2 k27 k79 x4 x5 x6 x7 t) 0 0 := by
  intro x4 x5 x6 x7  t
  unfold f6_settleEntry_73
  refine sr_iinc (pc := 73) (i := 7) (n := 1) (w := x7 + 1) (by decide +kernel) rfl rfl (by decide) rfl rfl ?_
  refine sr_goto (pc := 76) (off := (-49)) (tg := 27) (by decide +kernel) (by decide) ?_
  exact sr_wk (sr_mono (mc := 0) (ms := 0) (by omega) (by omega) (hk27 x4 x5 x6 (x7 + 1) t)) ⟨rfl, ⟨rfl, ⟨rfl, ⟨rfl, ⟨rfl, ⟨rfl, ⟨rfl, ⟨rfl, trivial⟩⟩⟩⟩⟩⟩⟩⟩
def f6_settleEntry_27 (i1 : Nat) (i2 : Nat) (a2 : Int32) (k79 : Int32 → Int32 → sr_t → sr_Rs) : Nat → Int32 → Int32 → Int32 → Int32 → sr_t → sr_Rs
  | 0 => fun _ _ _ _ _ => none
  | n + 1 => fun x4 x5 x6 x7 t => (if (t.1 3 i1 3) ≤ x7 then k79 x4 x5 t else (sr_bI (sr_nt (F10_hasBit x5 x7 t)) (fun v1 t1 => (if v1 = 0 then f6_settleEntry_73 i1 i2 a2 (f6_settleEntry_27 i1 i2 a2 k79 n) k79 x4 x5 x6 x7 t1 else (sr_bI (F0_versionAt i2 x7 t1) (fun v2 t2 => (if x6 ≤ v2 then f6_settleEntry_73 i1 i2 a2 (f6_settleEntry_27 i1 i2 a2 k79 n) k79 x4 x5 x6 x7 t2 else (sr_bI (F0_valueAt i2 a2 t2) (fun v3 t3 => (sr_bV (F0_hold i2 x7 v3 x6 t3) (fun t4 => f6_settleEntry_73 i1 i2 a2 (f6_settleEntry_27 i1 i2 a2 k79 n) k79 (x4 + 1) x5 x6 x7 t4)))))))))))
theorem g6_settleEntry_27 (l : Launch) (i1 : Nat) (i2 : Nat) (a2 : Int32) (hv_i1 : i1 < 2) (hv_i2 : i2 < 33) (k79 : Int32 → Int32 → sr_t → sr_Rs) (hk79 : ∀ (x4 : Int32) (x5 : Int32), ∀ (t : sr_t), sr_g l sr_m6_settleEntry 79 [some (sr_r 6 0), some (sr_r 3 i1), some (sr_r 0 i2), some (sr_i a2), some (sr_i x4), some (sr_i x5), none, none] [] t (k79 x4 x5 t) 0 0) : ∀ (n : Nat) (x4 : Int32) (x5 : Int32) (x6 : Int32) (x7 : Int32), ∀ (t : sr_t), sr_g l sr_m6_settleEntry 27 [some (sr_r 6 0), some (sr_r 3 i1), some (sr_r 0 i2), some (sr_i a2), some (sr_i x4), some (sr_i x5), some (sr_i x6), some (sr_i x7)] [] t (f6_settleEntry_27 i1 i2 a2 k79 n x4 x5 x6 x7 t) 0 0 := by
  intro n
  induction n with
  | zero => intros; exact sr_Gn
  | succ n ih =>
    intro x4 x5 x6 x7  t
    unfold f6_settleEntry_27
    refine sr_iload (pc := 27) (i := 7) (by decide +kernel) rfl ?_
    refine sr_aloadn (pc := 29) (n := 1) (by decide +kernel) rfl ?_
    refine sr_gI (pc := 30) fg_6_104 (by decide +kernel) (sr_in3 _ (by omega)) (fun _ => rfl) ?_
    refine sr_icmp_ge (pc := 33) (off := 46) (tg := 79) (by decide +kernel) (by decide) (fun _ => ?_) (fun _ => ?_)
    · exact sr_wk (sr_mono (mc := 0) (ms := 0) (by omega) (by omega) (hk79 x4 x5 t)) ⟨rfl, ⟨rfl, ⟨rfl, ⟨rfl, ⟨rfl, ⟨rfl, trivial⟩⟩⟩⟩⟩⟩
    · refine sr_iload (pc := 36) (i := 5) (by decide +kernel) rfl ?_
      refine sr_iload (pc := 38) (i := 7) (by decide +kernel) rfl ?_
      refine sr_cSN (pc := 40) (As := [sr_i x5, sr_i x7]) (mc1 := 0) (ms1 := 0) (mc2 := 0) (ms2 := 0) fm_6_105 fl_6_105 (by decide +kernel) (rm_6_settleEntry_10_hasBit) rfl rfl rfl (C10_hasBit l x5 x7 t) ?_
      refine sr_kI (fun v1 t1 => ?_)
      refine sr_if_eq (pc := 43) (off := 30) (tg := 73) (by decide +kernel) (by decide) (fun _ => ?_) (fun _ => ?_)
      · exact sr_wk (sr_mono (mc := 0) (ms := 0) (by omega) (by omega) (g6_settleEntry_73 l i1 i2 a2 hv_i1 hv_i2 (f6_settleEntry_27 i1 i2 a2 k79 n) k79 ih hk79 x4 x5 x6 x7 t1)) ⟨rfl, ⟨rfl, ⟨rfl, ⟨rfl, ⟨rfl, ⟨rfl, ⟨rfl, ⟨rfl, trivial⟩⟩⟩⟩⟩⟩⟩⟩
      · refine sr_aloadn (pc := 46) (n := 2) (by decide +kernel) rfl ?_
        refine sr_iload (pc := 47) (i := 7) (by decide +kernel) rfl ?_
        refine sr_cV (pc := 49) (As := [sr_i x7]) (mc1 := 0) (ms1 := 0) (mc2 := 0) (ms2 := 0) fm_6_101 fl_6_101 (by decide +kernel) (sr_in0 _ (by omega)) (rm_6_settleEntry_0_versionAt) rfl rfl rfl (C0_versionAt l i2 x7 (by omega) t1) ?_
        refine sr_kI (fun v2 t2 => ?_)
        refine sr_iload (pc := 52) (i := 6) (by decide +kernel) rfl ?_
        refine sr_icmp_ge (pc := 54) (off := 19) (tg := 73) (by decide +kernel) (by decide) (fun _ => ?_) (fun _ => ?_)
        · exact sr_wk (sr_mono (mc := 0) (ms := 0) (by omega) (by omega) (g6_settleEntry_73 l i1 i2 a2 hv_i1 hv_i2 (f6_settleEntry_27 i1 i2 a2 k79 n) k79 ih hk79 x4 x5 x6 x7 t2)) ⟨rfl, ⟨rfl, ⟨rfl, ⟨rfl, ⟨rfl, ⟨rfl, ⟨rfl, ⟨rfl, trivial⟩⟩⟩⟩⟩⟩⟩⟩
        · refine sr_aloadn (pc := 57) (n := 2) (by decide +kernel) rfl ?_
          refine sr_iload (pc := 58) (i := 7) (by decide +kernel) rfl ?_
          refine sr_aloadn (pc := 60) (n := 2) (by decide +kernel) rfl ?_
          refine sr_iloadn (pc := 61) (n := 3) (by decide +kernel) rfl ?_
          refine sr_cV (pc := 62) (As := [sr_i a2]) (mc1 := 0) (ms1 := 0) (mc2 := 0) (ms2 := 0) fm_6_90 fl_6_90 (by decide +kernel) (sr_in0 _ (by omega)) (rm_6_settleEntry_0_valueAt) rfl rfl rfl (C0_valueAt l i2 a2 (by omega) t2) ?_
          refine sr_kI (fun v3 t3 => ?_)
          refine sr_iload (pc := 65) (i := 6) (by decide +kernel) rfl ?_
          refine sr_cV (pc := 67) (As := [sr_i x7, sr_i v3, sr_i x6]) (mc1 := 0) (ms1 := 0) (mc2 := 0) (ms2 := 0) fm_6_53 fl_6_53 (by decide +kernel) (sr_in0 _ (by omega)) (rm_6_settleEntry_0_hold) rfl rfl rfl (C0_hold l i2 x7 v3 x6 (by omega) t3) ?_
          refine sr_kV (fun t4 => ?_)
          refine sr_iinc (pc := 70) (i := 4) (n := 1) (w := x4 + 1) (by decide +kernel) rfl rfl (by decide) rfl rfl ?_
          exact sr_wk (sr_mono (mc := 0) (ms := 0) (by omega) (by omega) (g6_settleEntry_73 l i1 i2 a2 hv_i1 hv_i2 (f6_settleEntry_27 i1 i2 a2 k79 n) k79 ih hk79 (x4 + 1) x5 x6 x7 t4)) ⟨rfl, ⟨rfl, ⟨rfl, ⟨rfl, ⟨rfl, ⟨rfl, ⟨rfl, ⟨rfl, trivial⟩⟩⟩⟩⟩⟩⟩⟩
def f6_settleEntry_96 (i1 : Nat) (i2 : Nat) (a2 : Int32)  : Int32 → sr_t → sr_Rs := fun x4 t => (some (.inl (some (sr_i x4)), t))
theorem g6_settleEntry_96 (l : Launch) (i1 : Nat) (i2 : Nat) (a2 : Int32) (hv_i1 : i1 < 2) (hv_i2 : i2 < 33)   : ∀ (x4 : Int32), ∀ (t : sr_t), sr_g l sr_m6_settleEntry 96 [some (sr_r 6 0), some (sr_r 3 i1), some (sr_r 0 i2), some (sr_i a2), some (sr_i x4), none, none, none] [] t (f6_settleEntry_96 i1 i2 a2  x4 t) 0 0 := by
  intro x4  t
  unfold f6_settleEntry_96
  refine sr_iload (pc := 96) (i := 4) (by decide +kernel) rfl ?_
  exact sr_iret (pc := 98) (by decide +kernel) rfl
def f6_settleEntry_79 (i1 : Nat) (i2 : Nat) (a2 : Int32)  : Int32 → Int32 → sr_t → sr_Rs := fun x4 x5 t => (sr_bI (sr_nt (F10_hasBit x5 a2 t)) (fun v1 t1 => (if v1 = 0 then (sr_bV (F0_drop i2 a2 t1) (fun t2 => f6_settleEntry_96 i1 i2 a2 (x4 + 1) t2)) else f6_settleEntry_96 i1 i2 a2 x4 t1)))
theorem g6_settleEntry_79 (l : Launch) (i1 : Nat) (i2 : Nat) (a2 : Int32) (hv_i1 : i1 < 2) (hv_i2 : i2 < 33)   : ∀ (x4 : Int32) (x5 : Int32), ∀ (t : sr_t), sr_g l sr_m6_settleEntry 79 [some (sr_r 6 0), some (sr_r 3 i1), some (sr_r 0 i2), some (sr_i a2), some (sr_i x4), some (sr_i x5), none, none] [] t (f6_settleEntry_79 i1 i2 a2  x4 x5 t) 0 0 := by
  intro x4 x5  t
  unfold f6_settleEntry_79
  refine sr_iload (pc := 79) (i := 5) (by decide +kernel) rfl ?_
  refine sr_iloadn (pc := 81) (n := 3) (by decide +kernel) rfl ?_
  refine sr_cSN (pc := 82) (As := [sr_i x5, sr_i a2]) (mc1 := 0) (ms1 := 0) (mc2 := 0) (ms2 := 0) fm_6_105 fl_6_105 (by decide +kernel) (rm_6_settleEntry_10_hasBit) rfl rfl rfl (C10_hasBit l x5 a2 t) ?_
  refine sr_kI (fun v1 t1 => ?_)
  refine sr_if_ne (pc := 85) (off := 11) (tg := 96) (by decide +kernel) (by decide) (fun _ => ?_) (fun _ => ?_)
  · exact sr_wk (sr_mono (mc := 0) (ms := 0) (by omega) (by omega) (g6_settleEntry_96 l i1 i2 a2 hv_i1 hv_i2 x4 t1)) ⟨rfl, ⟨rfl, ⟨rfl, ⟨rfl, ⟨rfl, trivial⟩⟩⟩⟩⟩
  · refine sr_aloadn (pc := 88) (n := 2) (by decide +kernel) rfl ?_
    refine sr_iloadn (pc := 89) (n := 3) (by decide +kernel) rfl ?_
    refine sr_cV (pc := 90) (As := [sr_i a2]) (mc1 := 0) (ms1 := 0) (mc2 := 0) (ms2 := 0) fm_6_109 fl_6_109 (by decide +kernel) (sr_in0 _ (by omega)) (rm_6_settleEntry_0_drop) rfl rfl rfl (C0_drop l i2 a2 (by omega) t1) ?_
    refine sr_kV (fun t2 => ?_)
    refine sr_iinc (pc := 93) (i := 4) (n := 1) (w := x4 + 1) (by decide +kernel) rfl rfl (by decide) rfl rfl ?_
    exact sr_wk (sr_mono (mc := 0) (ms := 0) (by omega) (by omega) (g6_settleEntry_96 l i1 i2 a2 hv_i1 hv_i2 (x4 + 1) t2)) ⟨rfl, ⟨rfl, ⟨rfl, ⟨rfl, ⟨rfl, trivial⟩⟩⟩⟩⟩
def F6_settleEntry (i1 : Nat) (i2 : Nat) (a2 : Int32) (t : sr_t) : sr_Rs := (sr_bI (F3_keeperBits i1 (t.1 0 i2 0) (t.1 6 0 4) t) (fun v1 t1 => (sr_bI (F0_versionAt i2 a2 t1) (fun v2 t2 => f6_settleEntry_27 i1 i2 a2 (f6_settleEntry_79 i1 i2 a2) sr_fu 0 v1 v2 0 t2))))
theorem C6_settleEntry (l : Launch) (i1 : Nat) (i2 : Nat) (a2 : Int32) (hv_i1 : i1 < 2) (hv_i2 : i2 < 33) (t : sr_t) : sr_ct' l sr_m6_settleEntry [sr_r 6 0, sr_r 3 i1, sr_r 0 i2, sr_i a2] t (F6_settleEntry i1 i2 a2 t) 0 0 := by
  refine sr_T_of (L0 := [some (sr_r 6 0), some (sr_r 3 i1), some (sr_r 0 i2), some (sr_i a2), none, none, none, none]) rfl (by decide +kernel) (fun _ => rfl) (fun _ => Nat.le_of_ble_eq_true rfl) ?_
  unfold F6_settleEntry
  refine sr_iconst (pc := 0) (n := 0) (v := 0) (by decide +kernel) rfl ?_
  refine sr_istore (pc := 1) (i := 4) (by decide +kernel) (by decide) rfl rfl ?_
  refine sr_aloadn (pc := 3) (n := 1) (by decide +kernel) rfl ?_
  refine sr_aloadn (pc := 4) (n := 2) (by decide +kernel) rfl ?_
  refine sr_gI (pc := 5) fg_6_33 (by decide +kernel) (sr_in0 _ (by omega)) (fun _ => rfl) ?_
  refine sr_aloadn (pc := 8) (n := 0) (by decide +kernel) rfl ?_
  refine sr_gI (pc := 9) fg_6_22 (by decide +kernel) (sr_in6 _ (by omega)) (fun _ => rfl) ?_
  refine sr_cV (pc := 12) (As := [sr_i (t.1 0 i2 0), sr_i (t.1 6 0 4)]) (mc1 := 0) (ms1 := 0) (mc2 := 0) (ms2 := 0) fm_6_97 fl_6_97 (by decide +kernel) (sr_in3 _ (by omega)) (rm_6_settleEntry_3_keeperBits) rfl rfl rfl (C3_keeperBits l i1 (t.1 0 i2 0) (t.1 6 0 4) (by omega) t) ?_
  refine sr_kI (fun v1 t1 => ?_)
  refine sr_istore (pc := 15) (i := 5) (by decide +kernel) (by decide) rfl rfl ?_
  refine sr_aloadn (pc := 17) (n := 2) (by decide +kernel) rfl ?_
  refine sr_iloadn (pc := 18) (n := 3) (by decide +kernel) rfl ?_
  refine sr_cV (pc := 19) (As := [sr_i a2]) (mc1 := 0) (ms1 := 0) (mc2 := 0) (ms2 := 0) fm_6_101 fl_6_101 (by decide +kernel) (sr_in0 _ (by omega)) (rm_6_settleEntry_0_versionAt) rfl rfl rfl (C0_versionAt l i2 a2 (by omega) t1) ?_
  refine sr_kI (fun v2 t2 => ?_)
  refine sr_istore (pc := 22) (i := 6) (by decide +kernel) (by decide) rfl rfl ?_
  refine sr_iconst (pc := 24) (n := 0) (v := 0) (by decide +kernel) rfl ?_
  refine sr_istore (pc := 25) (i := 7) (by decide +kernel) (by decide) rfl rfl ?_
  exact sr_wk (sr_mono (mc := 0) (ms := 0) (by omega) (by omega) (g6_settleEntry_27 l i1 i2 a2 hv_i1 hv_i2 (f6_settleEntry_79 i1 i2 a2) (g6_settleEntry_79 l i1 i2 a2 hv_i1 hv_i2) sr_fu 0 v1 v2 0 t2)) ⟨rfl, ⟨rfl, ⟨rfl, ⟨rfl, ⟨rfl, ⟨rfl, ⟨rfl, ⟨rfl, trivial⟩⟩⟩⟩⟩⟩⟩⟩
def f6_settleFrom_42 (i1 : Nat) (a1 : Int32) (k5 : Int32 → Int32 → sr_t → sr_Rs) (k48 : Int32 → sr_t → sr_Rs) : Int32 → Int32 → sr_t → sr_Rs := fun x3 x4 t => k5 x3 (x4 + 1) t
theorem g6_settleFrom_42 (l : Launch) (i1 : Nat) (a1 : Int32) (hv_i1 : i1 < 2) (k5 : Int32 → Int32 → sr_t → sr_Rs) (k48 : Int32 → sr_t → sr_Rs) (hk5 : ∀ (x3 : Int32) (x4 : Int32), ∀ (t : sr_t), sr_g l sr_m6_settleFrom 5 [some (sr_r 6 0), some (sr_r 3 i1), some (sr_i a1), some (sr_i x3), some (sr_i x4)] [] t (k5 x3 x4 t) 0 0) (hk48 : ∀ (x3 : Int32), ∀ (t : sr_t), sr_g l sr_m6_settleFrom 48 [some (sr_r 6 0), some (sr_r 3 i1), some (sr_i a1), some (sr_i x3), none] [] t (k48 x3 t) 0 0) : ∀ (x3 : Int32) (x4 : Int32), ∀ (t : sr_t), sr_g l sr_m6_settleFrom 42 [some (sr_r 6 0), some (sr_r 3 i1), some (sr_i a1), some (sr_i x3), some (sr_i x4)] [] t (f6_settleFrom_42 i1 a1 k5 k48 x3 x4 t) 0 0 := by
  intro x3 x4  t
  unfold f6_settleFrom_42
  refine sr_iinc (pc := 42) (i := 4) (n := 1) (w := x4 + 1) (by decide +kernel) rfl rfl (by decide) rfl rfl ?_
  refine sr_goto (pc := 45) (off := (-40)) (tg := 5) (by decide +kernel) (by decide) ?_
  exact sr_wk (sr_mono (mc := 0) (ms := 0) (by omega) (by omega) (hk5 x3 (x4 + 1) t)) ⟨rfl, ⟨rfl, ⟨rfl, ⟨rfl, ⟨rfl, trivial⟩⟩⟩⟩⟩
def f6_settleFrom_5 (i1 : Nat) (a1 : Int32) (k48 : Int32 → sr_t → sr_Rs) : Nat → Int32 → Int32 → sr_t → sr_Rs
  | 0 => fun _ _ _ => none
  | n + 1 => fun x3 x4 t => (if (t.1 6 0 2) ≤ x4 then k48 x3 t else (sr_bR 0 33 (F6_entryAt x4 t) (fun n1 t1 => (sr_bI (F0_isHeldBy n1 a1 t1) (fun v2 t2 => (if v2 = 0 then f6_settleFrom_42 i1 a1 (f6_settleFrom_5 i1 a1 k48 n) k48 x3 x4 t2 else (sr_bR 0 33 (F6_entryAt x4 t2) (fun n3 t3 => (sr_bI (F6_settleEntry i1 n3 a1 t3) (fun v4 t4 => f6_settleFrom_42 i1 a1 (f6_settleFrom_5 i1 a1 k48 n) k48 (x3 + v4) x4 t4))))))))))
theorem g6_settleFrom_5 (l : Launch) (i1 : Nat) (a1 : Int32) (hv_i1 : i1 < 2) (k48 : Int32 → sr_t → sr_Rs) (hk48 : ∀ (x3 : Int32), ∀ (t : sr_t), sr_g l sr_m6_settleFrom 48 [some (sr_r 6 0), some (sr_r 3 i1), some (sr_i a1), some (sr_i x3), none] [] t (k48 x3 t) 0 0) : ∀ (n : Nat) (x3 : Int32) (x4 : Int32), ∀ (t : sr_t), sr_g l sr_m6_settleFrom 5 [some (sr_r 6 0), some (sr_r 3 i1), some (sr_i a1), some (sr_i x3), some (sr_i x4)] [] t (f6_settleFrom_5 i1 a1 k48 n x3 x4 t) 0 0 := by
  intro n
  induction n with
  | zero => intros; exact sr_Gn
  | succ n ih =>
    intro x3 x4  t
    unfold f6_settleFrom_5
    refine sr_iload (pc := 5) (i := 4) (by decide +kernel) rfl ?_
    refine sr_aloadn (pc := 7) (n := 0) (by decide +kernel) rfl ?_
    refine sr_gI (pc := 8) fg_6_26 (by decide +kernel) (sr_in6 _ (by omega)) (fun _ => rfl) ?_
    refine sr_icmp_ge (pc := 11) (off := 37) (tg := 48) (by decide +kernel) (by decide) (fun _ => ?_) (fun _ => ?_)
    · exact sr_wk (sr_mono (mc := 0) (ms := 0) (by omega) (by omega) (hk48 x3 t)) ⟨rfl, ⟨rfl, ⟨rfl, ⟨rfl, trivial⟩⟩⟩⟩
    · refine sr_aloadn (pc := 14) (n := 0) (by decide +kernel) rfl ?_
      refine sr_iload (pc := 15) (i := 4) (by decide +kernel) rfl ?_
      refine sr_cV (pc := 17) (As := [sr_i x4]) (mc1 := 0) (ms1 := 0) (mc2 := 0) (ms2 := 0) fm_6_29 fl_6_29 (by decide +kernel) (sr_in6 _ (by omega)) (rm_6_settleFrom_6_entryAt) rfl rfl rfl (C6_entryAt l x4 t) ?_
      refine sr_kR (fun n1 t1 hv_n1 => ?_)
      refine sr_iloadn (pc := 20) (n := 2) (by decide +kernel) rfl ?_
      refine sr_cV (pc := 21) (As := [sr_i a1]) (mc1 := 0) (ms1 := 0) (mc2 := 0) (ms2 := 0) fm_6_86 fl_6_86 (by decide +kernel) (sr_in0 _ (by omega)) (rm_6_settleFrom_0_isHeldBy) rfl rfl rfl (C0_isHeldBy l n1 a1 (by omega) t1) ?_
      refine sr_kI (fun v2 t2 => ?_)
      refine sr_if_eq (pc := 24) (off := 18) (tg := 42) (by decide +kernel) (by decide) (fun _ => ?_) (fun _ => ?_)
      · exact sr_wk (sr_mono (mc := 0) (ms := 0) (by omega) (by omega) (g6_settleFrom_42 l i1 a1 hv_i1 (f6_settleFrom_5 i1 a1 k48 n) k48 ih hk48 x3 x4 t2)) ⟨rfl, ⟨rfl, ⟨rfl, ⟨rfl, ⟨rfl, trivial⟩⟩⟩⟩⟩
      · refine sr_iloadn (pc := 27) (n := 3) (by decide +kernel) rfl ?_
        refine sr_aloadn (pc := 28) (n := 0) (by decide +kernel) rfl ?_
        refine sr_aloadn (pc := 29) (n := 1) (by decide +kernel) rfl ?_
        refine sr_aloadn (pc := 30) (n := 0) (by decide +kernel) rfl ?_
        refine sr_iload (pc := 31) (i := 4) (by decide +kernel) rfl ?_
        refine sr_cV (pc := 33) (As := [sr_i x4]) (mc1 := 0) (ms1 := 0) (mc2 := 0) (ms2 := 0) fm_6_29 fl_6_29 (by decide +kernel) (sr_in6 _ (by omega)) (rm_6_settleFrom_6_entryAt) rfl rfl rfl (C6_entryAt l x4 t2) ?_
        refine sr_kR (fun n3 t3 hv_n3 => ?_)
        refine sr_iloadn (pc := 36) (n := 2) (by decide +kernel) rfl ?_
        refine sr_cV (pc := 37) (As := [sr_r 3 i1, sr_r 0 n3, sr_i a1]) (mc1 := 0) (ms1 := 0) (mc2 := 0) (ms2 := 0) fm_6_93 fl_6_93 (by decide +kernel) (sr_in6 _ (by omega)) (rm_6_settleFrom_6_settleEntry) rfl rfl rfl (C6_settleEntry l i1 n3 a1 (by omega) (by omega) t3) ?_
        refine sr_kI (fun v4 t4 => ?_)
        refine sr_iadd (pc := 40) (by decide +kernel) ?_
        refine sr_istoren (pc := 41) (n := 3) (by decide +kernel) (by decide) rfl rfl ?_
        exact sr_wk (sr_mono (mc := 0) (ms := 0) (by omega) (by omega) (g6_settleFrom_42 l i1 a1 hv_i1 (f6_settleFrom_5 i1 a1 k48 n) k48 ih hk48 (x3 + v4) x4 t4)) ⟨rfl, ⟨rfl, ⟨rfl, ⟨rfl, ⟨rfl, trivial⟩⟩⟩⟩⟩
def f6_settleFrom_48 (i1 : Nat) (a1 : Int32)  : Int32 → sr_t → sr_Rs := fun x3 t => (some (.inl (some (sr_i x3)), t))
theorem g6_settleFrom_48 (l : Launch) (i1 : Nat) (a1 : Int32) (hv_i1 : i1 < 2)   : ∀ (x3 : Int32), ∀ (t : sr_t), sr_g l sr_m6_settleFrom 48 [some (sr_r 6 0), some (sr_r 3 i1), some (sr_i a1), some (sr_i x3), none] [] t (f6_settleFrom_48 i1 a1  x3 t) 0 0 := by
  intro x3  t
  unfold f6_settleFrom_48
  refine sr_iloadn (pc := 48) (n := 3) (by decide +kernel) rfl ?_
  exact sr_iret (pc := 49) (by decide +kernel) rfl
def F6_settleFrom (i1 : Nat) (a1 : Int32) (t : sr_t) : sr_Rs := f6_settleFrom_5 i1 a1 (f6_settleFrom_48 i1 a1) sr_fu 0 0 t
theorem C6_settleFrom (l : Launch) (i1 : Nat) (a1 : Int32) (hv_i1 : i1 < 2) (t : sr_t) : sr_ct' l sr_m6_settleFrom [sr_r 6 0, sr_r 3 i1, sr_i a1] t (F6_settleFrom i1 a1 t) 0 0 := by
  refine sr_T_of (L0 := [some (sr_r 6 0), some (sr_r 3 i1), some (sr_i a1), none, none]) rfl (by decide +kernel) (fun _ => rfl) (fun _ => Nat.le_of_ble_eq_true rfl) ?_
  unfold F6_settleFrom
  refine sr_iconst (pc := 0) (n := 0) (v := 0) (by decide +kernel) rfl ?_
  refine sr_istoren (pc := 1) (n := 3) (by decide +kernel) (by decide) rfl rfl ?_
  refine sr_iconst (pc := 2) (n := 0) (v := 0) (by decide +kernel) rfl ?_
  refine sr_istore (pc := 3) (i := 4) (by decide +kernel) (by decide) rfl rfl ?_
  exact sr_wk (sr_mono (mc := 0) (ms := 0) (by omega) (by omega) (g6_settleFrom_5 l i1 a1 hv_i1 (f6_settleFrom_48 i1 a1) (g6_settleFrom_48 l i1 a1 hv_i1) sr_fu 0 0 t)) ⟨rfl, ⟨rfl, ⟨rfl, ⟨rfl, ⟨rfl, trivial⟩⟩⟩⟩⟩
def F10_settle (a0 : Int32) (t : sr_t) : sr_Rs := (sr_bV (F10_needNode a0 t) (fun t1 => (sr_bV (F10_needUp a0 t1) (fun t2 => (sr_bI (F6_settleFrom 0 a0 t2) (fun v3 t3 => (some (.inl (some (sr_i v3)), t3))))))))
theorem C10_settle (l : Launch) (a0 : Int32)  (t : sr_t) : sr_ct' l sr_m10_settle [sr_r 10 0, sr_i a0] t (F10_settle a0 t) 2 12 := by
  refine sr_T_of (L0 := [some (sr_r 10 0), some (sr_i a0)]) rfl (by decide +kernel) (fun _ => rfl) (fun _ => Nat.le_of_ble_eq_true rfl) ?_
  unfold F10_settle
  refine sr_aloadn (pc := 0) (n := 0) (by decide +kernel) rfl ?_
  refine sr_iloadn (pc := 1) (n := 1) (by decide +kernel) rfl ?_
  refine sr_cV (pc := 2) (As := [sr_i a0]) (mc1 := 1) (ms1 := 6) (mc2 := 1) (ms2 := 6) fm_10_81 fl_10_81 (by decide +kernel) (sr_in10 _ (by omega)) (rm_10_settle_10_needNode) rfl rfl rfl (C10_needNode l a0 t) ?_
  refine sr_kV (fun t1 => ?_)
  refine sr_aloadn (pc := 5) (n := 0) (by decide +kernel) rfl ?_
  refine sr_iloadn (pc := 6) (n := 1) (by decide +kernel) rfl ?_
  refine sr_cV (pc := 7) (As := [sr_i a0]) (mc1 := 1) (ms1 := 6) (mc2 := 0) (ms2 := 0) fm_10_84 fl_10_84 (by decide +kernel) (sr_in10 _ (by omega)) (rm_10_settle_10_needUp) rfl rfl rfl (C10_needUp l a0 t1) ?_
  refine sr_kV (fun t2 => ?_)
  refine sr_aloadn (pc := 10) (n := 0) (by decide +kernel) rfl ?_
  refine sr_gC (pc := 11) (i2 := 0) fg_10_19 (by decide +kernel) (sr_in10 _ (by omega)) (fun _ => rfl) ?_
  refine sr_aloadn (pc := 14) (n := 0) (by decide +kernel) rfl ?_
  refine sr_gC (pc := 15) (i2 := 0) fg_10_12 (by decide +kernel) (sr_in10 _ (by omega)) (fun _ => rfl) ?_
  refine sr_iloadn (pc := 18) (n := 1) (by decide +kernel) rfl ?_
  refine sr_cV (pc := 19) (As := [sr_r 3 0, sr_i a0]) (mc1 := 0) (ms1 := 0) (mc2 := 0) (ms2 := 0) fm_10_347 fl_10_347 (by decide +kernel) (sr_in6 _ (by omega)) (rm_10_settle_6_settleFrom) rfl rfl rfl (C6_settleFrom l 0 a0 (by omega) t2) ?_
  refine sr_kI (fun v3 t3 => ?_)
  exact sr_iret (pc := 22) (by decide +kernel) rfl
def sr_m10_held : sr_M := (⟨"ShiftRing", "held", "(III)I"⟩, prog_1_method_44_code, 5, (some .int), [], 7, 111)
theorem fl_10_350 : Cond.methodLink "ShiftRing" 350 (sr_My sr_m6_entryOf) ∈ sr_TB := (sr_tb (n := 1366) (by decide +kernel) rfl)
theorem fm_10_350 : sr_FV "ShiftRing" 350 sr_m6_entryOf 6 1 := ⟨⟨rfl, sr_tb (n := 1296) (by decide +kernel) rfl, sr_tb (n := 6) (by decide +kernel) rfl, ⟨by decide, by decide, by decide +kernel⟩, Or.inl fl_10_350⟩, ⟨TX6, 5, rfl, rfl⟩, sr_tb (n := 1294) (by decide +kernel) rfl, sr_tb (n := 1295) (by decide +kernel) rfl⟩
theorem fl_10_354 : Cond.methodLink "ShiftRing" 354 (sr_My sr_m0_isHeldBy) ∈ sr_TB := (sr_tb (n := 1367) (by decide +kernel) rfl)
theorem fm_10_354 : sr_FV "ShiftRing" 354 sr_m0_isHeldBy 0 1 := ⟨⟨rfl, sr_tb (n := 736) (by decide +kernel) rfl, sr_tb (n := 7) (by decide +kernel) rfl, ⟨by decide, by decide, by decide +kernel⟩, Or.inl fl_10_354⟩, ⟨TX0, 4, rfl, rfl⟩, sr_tb (n := 734) (by decide +kernel) rfl, sr_tb (n := 735) (by decide +kernel) rfl⟩
theorem fl_10_359 : Cond.methodLink "ShiftRing" 359 (sr_My sr_m0_valueAt) ∈ sr_TB := (sr_tb (n := 1368) (by decide +kernel) rfl)
theorem fm_10_359 : sr_FV "ShiftRing" 359 sr_m0_valueAt 0 1 := ⟨⟨rfl, sr_tb (n := 1332) (by decide +kernel) rfl, sr_tb (n := 7) (by decide +kernel) rfl, ⟨by decide, by decide, by decide +kernel⟩, Or.inl fl_10_359⟩, ⟨TX0, 4, rfl, rfl⟩, sr_tb (n := 1330) (by decide +kernel) rfl, sr_tb (n := 1331) (by decide +kernel) rfl⟩
theorem fl_10_362 : Cond.methodLink "ShiftRing" 362 (sr_My sr_m0_versionAt) ∈ sr_TB := (sr_tb (n := 1369) (by decide +kernel) rfl)
theorem fm_10_362 : sr_FV "ShiftRing" 362 sr_m0_versionAt 0 1 := ⟨⟨rfl, sr_tb (n := 740) (by decide +kernel) rfl, sr_tb (n := 7) (by decide +kernel) rfl, ⟨by decide, by decide, by decide +kernel⟩, Or.inl fl_10_362⟩, ⟨TX0, 4, rfl, rfl⟩, sr_tb (n := 738) (by decide +kernel) rfl, sr_tb (n := 739) (by decide +kernel) rfl⟩
theorem rm_10_held_0_isHeldBy : sr_RM sr_m10_held sr_m0_isHeldBy := ⟨Nat.le_of_ble_eq_true rfl, Nat.le_of_ble_eq_true rfl⟩
theorem rm_10_held_0_valueAt : sr_RM sr_m10_held sr_m0_valueAt := ⟨Nat.le_of_ble_eq_true rfl, Nat.le_of_ble_eq_true rfl⟩
theorem rm_10_held_0_versionAt : sr_RM sr_m10_held sr_m0_versionAt := ⟨Nat.le_of_ble_eq_true rfl, Nat.le_of_ble_eq_true rfl⟩
theorem rm_10_held_10_needNode : sr_RM sr_m10_held sr_m10_needNode := ⟨Nat.le_of_ble_eq_true rfl, Nat.le_of_ble_eq_true rfl⟩
theorem rm_10_held_10_needPlace : sr_RM sr_m10_held sr_m10_needPlace := ⟨Nat.le_of_ble_eq_true rfl, Nat.le_of_ble_eq_true rfl⟩
theorem rm_10_held_10_needWhat : sr_RM sr_m10_held sr_m10_needWhat := ⟨Nat.le_of_ble_eq_true rfl, Nat.le_of_ble_eq_true rfl⟩
theorem rm_10_held_6_entryOf : sr_RM sr_m10_held sr_m6_entryOf := ⟨Nat.le_of_ble_eq_true rfl, Nat.le_of_ble_eq_true rfl⟩
def f10_held_54 (a0 : Int32) (a1 : Int32) (a2 : Int32)  : Int32 → sr_t → sr_Rs := fun xs0 t => (some (.inl (some (sr_i xs0)), t))
theorem g10_held_54 (l : Launch) (a0 : Int32) (a1 : Int32) (a2 : Int32)    : ∀ (xs0 : Int32), ∀ (t : sr_t), sr_g l sr_m10_held 54 [some (sr_r 10 0), some (sr_i a0), some (sr_i a1), some (sr_i a2), none] [sr_i xs0] t (f10_held_54 a0 a1 a2  xs0 t) 0 0 := by
  intro xs0  t
  unfold f10_held_54
  exact sr_iret (pc := 54) (by decide +kernel) rfl
def F10_held (a0 : Int32) (a1 : Int32) (a2 : Int32) (t : sr_t) : sr_Rs := (sr_bV (F10_needNode a0 t) (fun t1 => (sr_bV (F10_needWhat a2 1 t1) (fun t2 => (sr_bV (F10_needPlace a1 t2) (fun t3 => (sr_bR 0 33 (F6_entryOf a1 t3) (fun n4 t4 => (sr_bI (F0_isHeldBy n4 a0 t4) (fun v5 t5 => (if v5 = 0 then (some (.inl (some (sr_i ((-1)))), t5)) else (if a2 = 0 then (sr_bI (F0_valueAt n4 a0 t5) (fun v7 t7 => f10_held_54 a0 a1 a2 v7 t7)) else (sr_bI (F0_versionAt n4 a0 t5) (fun v6 t6 => f10_held_54 a0 a1 a2 v6 t6))))))))))))))
theorem C10_held (l : Launch) (a0 : Int32) (a1 : Int32) (a2 : Int32)  (t : sr_t) : sr_ct' l sr_m10_held [sr_r 10 0, sr_i a0, sr_i a1, sr_i a2] t (F10_held a0 a1 a2 t) 3 18 := by
  refine sr_T_of (L0 := [some (sr_r 10 0), some (sr_i a0), some (sr_i a1), some (sr_i a2), none]) rfl (by decide +kernel) (fun _ => rfl) (fun _ => Nat.le_of_ble_eq_true rfl) ?_
  unfold F10_held
  refine sr_aloadn (pc := 0) (n := 0) (by decide +kernel) rfl ?_
  refine sr_iloadn (pc := 1) (n := 1) (by decide +kernel) rfl ?_
  refine sr_cV (pc := 2) (As := [sr_i a0]) (mc1 := 1) (ms1 := 6) (mc2 := 2) (ms2 := 12) fm_10_81 fl_10_81 (by decide +kernel) (sr_in10 _ (by omega)) (rm_10_held_10_needNode) rfl rfl rfl (C10_needNode l a0 t) ?_
  refine sr_kV (fun t1 => ?_)
  refine sr_iloadn (pc := 5) (n := 3) (by decide +kernel) rfl ?_
  refine sr_iconst (pc := 6) (n := 1) (v := 1) (by decide +kernel) rfl ?_
  refine sr_cS (pc := 7) (As := [sr_i a2, sr_i 1]) (mc1 := 1) (ms1 := 6) (mc2 := 1) (ms2 := 6) fm_10_150 fl_10_150 (by decide +kernel) (rm_10_held_10_needWhat) rfl rfl rfl (C10_needWhat l a2 1 t1) ?_
  refine sr_kV (fun t2 => ?_)
  refine sr_iloadn (pc := 10) (n := 2) (by decide +kernel) rfl ?_
  refine sr_cS (pc := 11) (As := [sr_i a1]) (mc1 := 1) (ms1 := 6) (mc2 := 0) (ms2 := 0) fm_10_58 fl_10_58 (by decide +kernel) (rm_10_held_10_needPlace) rfl rfl rfl (C10_needPlace l a1 t2) ?_
  refine sr_kV (fun t3 => ?_)
  refine sr_aloadn (pc := 14) (n := 0) (by decide +kernel) rfl ?_
  refine sr_gC (pc := 15) (i2 := 0) fg_10_19 (by decide +kernel) (sr_in10 _ (by omega)) (fun _ => rfl) ?_
  refine sr_iloadn (pc := 18) (n := 2) (by decide +kernel) rfl ?_
  refine sr_cV (pc := 19) (As := [sr_i a1]) (mc1 := 0) (ms1 := 0) (mc2 := 0) (ms2 := 0) fm_10_350 fl_10_350 (by decide +kernel) (sr_in6 _ (by omega)) (rm_10_held_6_entryOf) rfl rfl rfl (C6_entryOf l a1 t3) ?_
  refine sr_kR (fun n4 t4 hv_n4 => ?_)
  refine sr_astore (pc := 22) (i := 4) (by decide +kernel) (by decide) rfl rfl ?_
  refine sr_aload (pc := 24) (i := 4) (by decide +kernel) rfl ?_
  refine sr_iloadn (pc := 26) (n := 1) (by decide +kernel) rfl ?_
  refine sr_cV (pc := 27) (As := [sr_i a0]) (mc1 := 0) (ms1 := 0) (mc2 := 0) (ms2 := 0) fm_10_354 fl_10_354 (by decide +kernel) (sr_in0 _ (by omega)) (rm_10_held_0_isHeldBy) rfl rfl rfl (C0_isHeldBy l n4 a0 (by omega) t4) ?_
  refine sr_kI (fun v5 t5 => ?_)
  refine sr_if_ne (pc := 30) (off := 5) (tg := 35) (by decide +kernel) (by decide) (fun _ => ?_) (fun _ => ?_)
  · refine sr_iloadn (pc := 35) (n := 3) (by decide +kernel) rfl ?_
    refine sr_if_ne (pc := 36) (off := 12) (tg := 48) (by decide +kernel) (by decide) (fun _ => ?_) (fun _ => ?_)
    · refine sr_aload (pc := 48) (i := 4) (by decide +kernel) rfl ?_
      refine sr_iloadn (pc := 50) (n := 1) (by decide +kernel) rfl ?_
      refine sr_cV (pc := 51) (As := [sr_i a0]) (mc1 := 0) (ms1 := 0) (mc2 := 0) (ms2 := 0) fm_10_362 fl_10_362 (by decide +kernel) (sr_in0 _ (by omega)) (rm_10_held_0_versionAt) rfl rfl rfl (C0_versionAt l n4 a0 (by omega) t5) ?_
      refine sr_kI (fun v6 t6 => ?_)
      exact sr_wk (sr_mono (mc := 0) (ms := 0) (by omega) (by omega) (g10_held_54 l a0 a1 a2 v6 t6)) ⟨rfl, ⟨rfl, ⟨rfl, ⟨rfl, trivial⟩⟩⟩⟩
    · refine sr_aload (pc := 39) (i := 4) (by decide +kernel) rfl ?_
      refine sr_iloadn (pc := 41) (n := 1) (by decide +kernel) rfl ?_
      refine sr_cV (pc := 42) (As := [sr_i a0]) (mc1 := 0) (ms1 := 0) (mc2 := 0) (ms2 := 0) fm_10_359 fl_10_359 (by decide +kernel) (sr_in0 _ (by omega)) (rm_10_held_0_valueAt) rfl rfl rfl (C0_valueAt l n4 a0 (by omega) t5) ?_
      refine sr_kI (fun v7 t7 => ?_)
      refine sr_goto (pc := 45) (off := 9) (tg := 54) (by decide +kernel) (by decide) ?_
      exact sr_wk (sr_mono (mc := 0) (ms := 0) (by omega) (by omega) (g10_held_54 l a0 a1 a2 v7 t7)) ⟨rfl, ⟨rfl, ⟨rfl, ⟨rfl, trivial⟩⟩⟩⟩
  · refine sr_iconst (pc := 33) (n := (-1)) (v := (-1)) (by decide +kernel) rfl ?_
    exact sr_iret (pc := 34) (by decide +kernel) rfl
def sr_m10_about : sr_M := (⟨"ShiftRing", "about", "(II)I"⟩, prog_1_method_45_code, 3, (some .int), [], 7, 111)
theorem fg_10_372 : sr_FG "ShiftRing" 372 0 1 4 := ⟨RX0, TX0, tyX0, rfl, by decide, rfl, uw_0, tyX0_ok, nmX0, Or.inr ⟨"ShiftRing", sr_nb (n := 211) (by decide +kernel) rfl⟩⟩
theorem fl_10_365 : Cond.methodLink "ShiftRing" 365 (sr_My sr_m3_keeperBits) ∈ sr_TB := (sr_tb (n := 1377) (by decide +kernel) rfl)
theorem fm_10_365 : sr_FV "ShiftRing" 365 sr_m3_keeperBits 3 2 := ⟨⟨rfl, sr_tb (n := 1351) (by decide +kernel) rfl, sr_tb (n := 2) (by decide +kernel) rfl, ⟨by decide, by decide, by decide +kernel⟩, Or.inl fl_10_365⟩, ⟨TX3, 9, rfl, rfl⟩, sr_tb (n := 1349) (by decide +kernel) rfl, sr_tb (n := 1350) (by decide +kernel) rfl⟩
theorem fl_10_368 : Cond.methodLink "ShiftRing" 368 (sr_My sr_m0_bitsOfHolders) ∈ sr_TB := (sr_tb (n := 1378) (by decide +kernel) rfl)
theorem fm_10_368 : sr_FV "ShiftRing" 368 sr_m0_bitsOfHolders 0 1 := ⟨⟨rfl, sr_tb (n := 732) (by decide +kernel) rfl, sr_tb (n := 7) (by decide +kernel) rfl, ⟨by decide, by decide, by decide +kernel⟩, Or.inl fl_10_368⟩, ⟨TX0, 4, rfl, rfl⟩, sr_tb (n := 730) (by decide +kernel) rfl, sr_tb (n := 731) (by decide +kernel) rfl⟩
theorem rm_10_about_0_bitsOfHolders : sr_RM sr_m10_about sr_m0_bitsOfHolders := ⟨Nat.le_of_ble_eq_true rfl, Nat.le_of_ble_eq_true rfl⟩
theorem rm_10_about_10_needPlace : sr_RM sr_m10_about sr_m10_needPlace := ⟨Nat.le_of_ble_eq_true rfl, Nat.le_of_ble_eq_true rfl⟩
theorem rm_10_about_10_needWhat : sr_RM sr_m10_about sr_m10_needWhat := ⟨Nat.le_of_ble_eq_true rfl, Nat.le_of_ble_eq_true rfl⟩
theorem rm_10_about_3_keeperBits : sr_RM sr_m10_about sr_m3_keeperBits := ⟨Nat.le_of_ble_eq_true rfl, Nat.le_of_ble_eq_true rfl⟩
theorem rm_10_about_6_entryOf : sr_RM sr_m10_about sr_m6_entryOf := ⟨Nat.le_of_ble_eq_true rfl, Nat.le_of_ble_eq_true rfl⟩
def F10_about (a0 : Int32) (a1 : Int32) (t : sr_t) : sr_Rs := (sr_bV (F10_needWhat a1 3 t) (fun t1 => (sr_bV (F10_needPlace a0 t1) (fun t2 => (sr_sw 0 2 a1 ((sr_bR 0 33 (F6_entryOf a0 t2) (fun n3 t3 => (some (.inl (some (sr_i (t3.1 0 n3 1))), t3))))) (fun j => match j with | 0 => (sr_bI (F3_keeperBits 0 a0 (t2.1 6 0 4) t2) (fun v4 t4 => (some (.inl (some (sr_i v4)), t4)))) | 1 => (sr_bR 0 33 (F6_entryOf a0 t2) (fun n5 t5 => (sr_bI (F0_bitsOfHolders n5 1 t5) (fun v6 t6 => (some (.inl (some (sr_i v6)), t6)))))) | 2 => (sr_bR 0 33 (F6_entryOf a0 t2) (fun n7 t7 => (sr_bI (F0_bitsOfHolders n7 0 t7) (fun v8 t8 => (some (.inl (some (sr_i v8)), t8)))))) | _ => none))))))
theorem C10_about (l : Launch) (a0 : Int32) (a1 : Int32)  (t : sr_t) : sr_ct' l sr_m10_about [sr_r 10 0, sr_i a0, sr_i a1] t (F10_about a0 a1 t) 2 12 := by
  refine sr_T_of (L0 := [some (sr_r 10 0), some (sr_i a0), some (sr_i a1)]) rfl (by decide +kernel) (fun _ => rfl) (fun _ => Nat.le_of_ble_eq_true rfl) ?_
  unfold F10_about
  refine sr_iloadn (pc := 0) (n := 2) (by decide +kernel) rfl ?_
  refine sr_iconst (pc := 1) (n := 3) (v := 3) (by decide +kernel) rfl ?_
  refine sr_cS (pc := 2) (As := [sr_i a1, sr_i 3]) (mc1 := 1) (ms1 := 6) (mc2 := 1) (ms2 := 6) fm_10_150 fl_10_150 (by decide +kernel) (rm_10_about_10_needWhat) rfl rfl rfl (C10_needWhat l a1 3 t) ?_
  refine sr_kV (fun t1 => ?_)
  refine sr_iloadn (pc := 5) (n := 1) (by decide +kernel) rfl ?_
  refine sr_cS (pc := 6) (As := [sr_i a0]) (mc1 := 1) (ms1 := 6) (mc2 := 0) (ms2 := 0) fm_10_58 fl_10_58 (by decide +kernel) (rm_10_about_10_needPlace) rfl rfl rfl (C10_needPlace l a0 t1) ?_
  refine sr_kV (fun t2 => ?_)
  refine sr_iloadn (pc := 9) (n := 2) (by decide +kernel) rfl ?_
  refine sr_tsw2 (pc := 10) (u := a1) (dflt := 68) (lo := 0) (hi := 2) (offs := #[26, 42, 55]) (len := 26) (tg := 78) (by decide +kernel) (by decide) (by decide) (fun _ => ?_) (fun j off ho _ => ?_)
  · refine sr_aloadn (pc := 78) (n := 0) (by decide +kernel) rfl ?_
    refine sr_gC (pc := 79) (i2 := 0) fg_10_19 (by decide +kernel) (sr_in10 _ (by omega)) (fun _ => rfl) ?_
    refine sr_iloadn (pc := 82) (n := 1) (by decide +kernel) rfl ?_
    refine sr_cV (pc := 83) (As := [sr_i a0]) (mc1 := 0) (ms1 := 0) (mc2 := 0) (ms2 := 0) fm_10_350 fl_10_350 (by decide +kernel) (sr_in6 _ (by omega)) (rm_10_about_6_entryOf) rfl rfl rfl (C6_entryOf l a0 t2) ?_
    refine sr_kR (fun n3 t3 hv_n3 => ?_)
    refine sr_gI (pc := 86) fg_10_372 (by decide +kernel) (sr_in0 _ (by omega)) (fun _ => rfl) ?_
    exact sr_iret (pc := 89) (by decide +kernel) rfl
  · rcases j with _ | _ | _ | j
    · cases ho
      refine ⟨36, by decide, ?_⟩
      refine sr_aloadn (pc := 36) (n := 0) (by decide +kernel) rfl ?_
      refine sr_gC (pc := 37) (i2 := 0) fg_10_12 (by decide +kernel) (sr_in10 _ (by omega)) (fun _ => rfl) ?_
      refine sr_iloadn (pc := 40) (n := 1) (by decide +kernel) rfl ?_
      refine sr_aloadn (pc := 41) (n := 0) (by decide +kernel) rfl ?_
      refine sr_gC (pc := 42) (i2 := 0) fg_10_19 (by decide +kernel) (sr_in10 _ (by omega)) (fun _ => rfl) ?_
      refine sr_gI (pc := 45) fg_10_324 (by decide +kernel) (sr_in6 _ (by omega)) (fun _ => rfl) ?_
      refine sr_cV (pc := 48) (As := [sr_i a0, sr_i (t2.1 6 0 4)]) (mc1 := 0) (ms1 := 0) (mc2 := 0) (ms2 := 0) fm_10_365 fl_10_365 (by decide +kernel) (sr_in3 _ (by omega)) (rm_10_about_3_keeperBits) rfl rfl rfl (C3_keeperBits l 0 a0 (t2.1 6 0 4) (by omega) t2) ?_
      refine sr_kI (fun v4 t4 => ?_)
      exact sr_iret (pc := 51) (by decide +kernel) rfl
    · cases ho
      refine ⟨52, by decide, ?_⟩
      refine sr_aloadn (pc := 52) (n := 0) (by decide +kernel) rfl ?_
      refine sr_gC (pc := 53) (i2 := 0) fg_10_19 (by decide +kernel) (sr_in10 _ (by omega)) (fun _ => rfl) ?_
      refine sr_iloadn (pc := 56) (n := 1) (by decide +kernel) rfl ?_
      refine sr_cV (pc := 57) (As := [sr_i a0]) (mc1 := 0) (ms1 := 0) (mc2 := 0) (ms2 := 0) fm_10_350 fl_10_350 (by decide +kernel) (sr_in6 _ (by omega)) (rm_10_about_6_entryOf) rfl rfl rfl (C6_entryOf l a0 t2) ?_
      refine sr_kR (fun n5 t5 hv_n5 => ?_)
      refine sr_iconst (pc := 60) (n := 1) (v := 1) (by decide +kernel) rfl ?_
      refine sr_cV (pc := 61) (As := [sr_i 1]) (mc1 := 0) (ms1 := 0) (mc2 := 0) (ms2 := 0) fm_10_368 fl_10_368 (by decide +kernel) (sr_in0 _ (by omega)) (rm_10_about_0_bitsOfHolders) rfl rfl rfl (C0_bitsOfHolders l n5 1 (by omega) t5) ?_
      refine sr_kI (fun v6 t6 => ?_)
      exact sr_iret (pc := 64) (by decide +kernel) rfl
    · cases ho
      refine ⟨65, by decide, ?_⟩
      refine sr_aloadn (pc := 65) (n := 0) (by decide +kernel) rfl ?_
      refine sr_gC (pc := 66) (i2 := 0) fg_10_19 (by decide +kernel) (sr_in10 _ (by omega)) (fun _ => rfl) ?_
      refine sr_iloadn (pc := 69) (n := 1) (by decide +kernel) rfl ?_
      refine sr_cV (pc := 70) (As := [sr_i a0]) (mc1 := 0) (ms1 := 0) (mc2 := 0) (ms2 := 0) fm_10_350 fl_10_350 (by decide +kernel) (sr_in6 _ (by omega)) (rm_10_about_6_entryOf) rfl rfl rfl (C6_entryOf l a0 t2) ?_
      refine sr_kR (fun n7 t7 hv_n7 => ?_)
      refine sr_iconst (pc := 73) (n := 0) (v := 0) (by decide +kernel) rfl ?_
      refine sr_cV (pc := 74) (As := [sr_i 0]) (mc1 := 0) (ms1 := 0) (mc2 := 0) (ms2 := 0) fm_10_368 fl_10_368 (by decide +kernel) (sr_in0 _ (by omega)) (rm_10_about_0_bitsOfHolders) rfl rfl rfl (C0_bitsOfHolders l n7 0 (by omega) t7) ?_
      refine sr_kI (fun v8 t8 => ?_)
      exact sr_iret (pc := 77) (by decide +kernel) rfl
    · simp at ho
