def f11_lookup_28 (a0 : Int32) (a1 : Int32) (a2 : Int32)  : Int32 → sr_t → sr_Rs := fun xs0 t => (some (.inl (some (sr_i xs0)), t))
theorem g11_lookup_28 (l : Launch) (a0 : Int32) (a1 : Int32) (a2 : Int32)    : ∀ (xs0 : Int32), ∀ (t : sr_t), sr_g l sr_m11_lookup 28 [some (sr_r 11 0), some (sr_i a0), some (sr_i a1), some (sr_i a2)] [sr_i xs0] t (f11_lookup_28 a0 a1 a2  xs0 t) 0 0 := by
  intro xs0  t
  unfold f11_lookup_28
  exact sr_iret (pc := 28) (by decide +kernel) rfl
def F11_lookup (a0 : Int32) (a1 : Int32) (a2 : Int32) (t : sr_t) : sr_Rs := (sr_bI (F11_wrongLook a0 a1 t) (fun v1 t1 => (sr_lt (sr_u t1 11 0 0 v1) (fun t2 => (if (t2.1 11 0 0) ≤ 0 then (sr_bI (F11_latestLook a0 a1 a2 t2) (fun v3 t3 => f11_lookup_28 a0 a1 a2 v3 t3)) else f11_lookup_28 a0 a1 a2 0 t2)))))
theorem C11_lookup (l : Launch) (a0 : Int32) (a1 : Int32) (a2 : Int32)  (t : sr_t) : sr_ct' l sr_m11_lookup [sr_r 11 0, sr_i a0, sr_i a1, sr_i a2] t (F11_lookup a0 a1 a2 t) 0 0 := by
  refine sr_T_of (L0 := [some (sr_r 11 0), some (sr_i a0), some (sr_i a1), some (sr_i a2)]) rfl (by decide +kernel) (fun _ => rfl) (fun _ => Nat.le_of_ble_eq_true rfl) ?_
  unfold F11_lookup
  refine sr_aloadn (pc := 0) (n := 0) (by decide +kernel) rfl ?_
  refine sr_aloadn (pc := 1) (n := 0) (by decide +kernel) rfl ?_
  refine sr_iloadn (pc := 2) (n := 1) (by decide +kernel) rfl ?_
  refine sr_iloadn (pc := 3) (n := 2) (by decide +kernel) rfl ?_
  refine sr_cV (pc := 4) (As := [sr_i a0, sr_i a1]) (mc1 := 0) (ms1 := 0) (mc2 := 0) (ms2 := 0) fm_11_234 fl_11_234 (by decide +kernel) (sr_in11 _ (by omega)) (rm_11_lookup_11_wrongLook) rfl rfl rfl (C11_wrongLook l a0 a1 t) ?_
  refine sr_kI (fun v1 t1 => ?_)
  refine sr_pI (pc := 7) fg_11_93 ft_11_0 (by decide +kernel) (sr_in11 _ (by omega)) (fun _ => rfl) (fun t2 => ?_)
  refine sr_aloadn (pc := 10) (n := 0) (by decide +kernel) rfl ?_
  refine sr_gI (pc := 11) fg_11_93 (by decide +kernel) (sr_in11 _ (by omega)) (fun _ => rfl) ?_
  refine sr_if_le (pc := 14) (off := 7) (tg := 21) (by decide +kernel) (by decide) (fun _ => ?_) (fun _ => ?_)
  · refine sr_aloadn (pc := 21) (n := 0) (by decide +kernel) rfl ?_
    refine sr_iloadn (pc := 22) (n := 1) (by decide +kernel) rfl ?_
    refine sr_iloadn (pc := 23) (n := 2) (by decide +kernel) rfl ?_
    refine sr_iloadn (pc := 24) (n := 3) (by decide +kernel) rfl ?_
    refine sr_cV (pc := 25) (As := [sr_i a0, sr_i a1, sr_i a2]) (mc1 := 0) (ms1 := 0) (mc2 := 0) (ms2 := 0) fm_11_237 fl_11_237 (by decide +kernel) (sr_in11 _ (by omega)) (rm_11_lookup_11_latestLook) rfl rfl rfl (C11_latestLook l a0 a1 a2 t2) ?_
    refine sr_kI (fun v3 t3 => ?_)
    exact sr_wk (sr_mono (mc := 0) (ms := 0) (by omega) (by omega) (g11_lookup_28 l a0 a1 a2 v3 t3)) ⟨rfl, ⟨rfl, ⟨rfl, ⟨rfl, trivial⟩⟩⟩⟩
  · refine sr_iconst (pc := 17) (n := 0) (v := 0) (by decide +kernel) rfl ?_
    refine sr_goto (pc := 18) (off := 10) (tg := 28) (by decide +kernel) (by decide) ?_
    exact sr_wk (sr_mono (mc := 0) (ms := 0) (by omega) (by omega) (g11_lookup_28 l a0 a1 a2 0 t2)) ⟨rfl, ⟨rfl, ⟨rfl, ⟨rfl, trivial⟩⟩⟩⟩
def sr_m11_latest : sr_M := (⟨"ShiftRingModel", "latest", "(I)I"⟩, prog_13_method_48_code, 2, (some .int), [], 1, 22)
theorem rm_11_latest_11_isIn : sr_RM sr_m11_latest sr_m11_isIn := ⟨Nat.le_of_ble_eq_true rfl, Nat.le_of_ble_eq_true rfl⟩
def f11_latest_36 (a0 : Int32)  : Int32 → sr_t → sr_Rs := fun xs0 t => (some (.inl (some (sr_i xs0)), t))
theorem g11_latest_36 (l : Launch) (a0 : Int32)    : ∀ (xs0 : Int32), ∀ (t : sr_t), sr_g l sr_m11_latest 36 [some (sr_r 11 0), some (sr_i a0)] [sr_i xs0] t (f11_latest_36 a0  xs0 t) 0 0 := by
  intro xs0  t
  unfold f11_latest_36
  exact sr_iret (pc := 36) (by decide +kernel) rfl
def f11_latest_16 (a0 : Int32)  : Int32 → sr_t → sr_Rs := fun xs0 t => (sr_lt (sr_u t 11 0 0 xs0) (fun t1 => (if (t1.1 11 0 0) ≤ 0 then (if a0 < 0 ∨ 9 ≤ a0.toNatClampNeg then none else f11_latest_36 a0 (t1.1 33 0 a0.toNatClampNeg) t1) else f11_latest_36 a0 0 t1)))
theorem g11_latest_16 (l : Launch) (a0 : Int32)    : ∀ (xs0 : Int32), ∀ (t : sr_t), sr_g l sr_m11_latest 16 [some (sr_r 11 0), some (sr_i a0)] [sr_i xs0, sr_r 11 0] t (f11_latest_16 a0  xs0 t) 0 0 := by
  intro xs0  t
  unfold f11_latest_16
  refine sr_pI (pc := 16) fg_11_93 ft_11_0 (by decide +kernel) (sr_in11 _ (by omega)) (fun _ => rfl) (fun t1 => ?_)
  refine sr_aloadn (pc := 19) (n := 0) (by decide +kernel) rfl ?_
  refine sr_gI (pc := 20) fg_11_93 (by decide +kernel) (sr_in11 _ (by omega)) (fun _ => rfl) ?_
  refine sr_if_le (pc := 23) (off := 7) (tg := 30) (by decide +kernel) (by decide) (fun _ => ?_) (fun _ => ?_)
  · refine sr_aloadn (pc := 30) (n := 0) (by decide +kernel) rfl ?_
    refine sr_gC (pc := 31) (i2 := 0) fg_11_47 (by decide +kernel) (sr_in11 _ (by omega)) (fun _ => rfl) ?_
    refine sr_iloadn (pc := 34) (n := 1) (by decide +kernel) rfl ?_
    refine sr_aI (pc := 35) (n := 9) rfl (by decide +kernel) (sr_in33 _ (by omega)) (fun _ _ => rfl) ?_
    exact sr_wk (sr_mono (mc := 0) (ms := 0) (by omega) (by omega) (g11_latest_36 l a0 (t1.1 33 0 a0.toNatClampNeg) t1)) ⟨rfl, ⟨rfl, trivial⟩⟩
  · refine sr_iconst (pc := 26) (n := 0) (v := 0) (by decide +kernel) rfl ?_
    refine sr_goto (pc := 27) (off := 9) (tg := 36) (by decide +kernel) (by decide) ?_
    exact sr_wk (sr_mono (mc := 0) (ms := 0) (by omega) (by omega) (g11_latest_36 l a0 0 t1)) ⟨rfl, ⟨rfl, trivial⟩⟩
def F11_latest (a0 : Int32) (t : sr_t) : sr_Rs := (sr_bI (F11_isIn a0 0 8 t) (fun v1 t1 => (if v1 = 0 then f11_latest_16 a0 1 t1 else f11_latest_16 a0 0 t1)))
theorem C11_latest (l : Launch) (a0 : Int32)  (t : sr_t) : sr_ct' l sr_m11_latest [sr_r 11 0, sr_i a0] t (F11_latest a0 t) 0 0 := by
  refine sr_T_of (L0 := [some (sr_r 11 0), some (sr_i a0)]) rfl (by decide +kernel) (fun _ => rfl) (fun _ => Nat.le_of_ble_eq_true rfl) ?_
  unfold F11_latest
  refine sr_aloadn (pc := 0) (n := 0) (by decide +kernel) rfl ?_
  refine sr_iloadn (pc := 1) (n := 1) (by decide +kernel) rfl ?_
  refine sr_iconst (pc := 2) (n := 0) (v := 0) (by decide +kernel) rfl ?_
  refine sr_bipush (pc := 3) (n := 8) (v := 8) (by decide +kernel) (by decide) ?_
  refine sr_cS (pc := 5) (As := [sr_i a0, sr_i 0, sr_i 8]) (mc1 := 0) (ms1 := 0) (mc2 := 0) (ms2 := 0) fm_11_96 fl_11_96 (by decide +kernel) (rm_11_latest_11_isIn) rfl rfl rfl (C11_isIn l a0 0 8 t) ?_
  refine sr_kI (fun v1 t1 => ?_)
  refine sr_if_eq (pc := 8) (off := 7) (tg := 15) (by decide +kernel) (by decide) (fun _ => ?_) (fun _ => ?_)
  · refine sr_iconst (pc := 15) (n := 1) (v := 1) (by decide +kernel) rfl ?_
    exact sr_wk (sr_mono (mc := 0) (ms := 0) (by omega) (by omega) (g11_latest_16 l a0 1 t1)) ⟨rfl, ⟨rfl, trivial⟩⟩
  · refine sr_iconst (pc := 11) (n := 0) (v := 0) (by decide +kernel) rfl ?_
    refine sr_goto (pc := 12) (off := 4) (tg := 16) (by decide +kernel) (by decide) ?_
    exact sr_wk (sr_mono (mc := 0) (ms := 0) (by omega) (by omega) (g11_latest_16 l a0 0 t1)) ⟨rfl, ⟨rfl, trivial⟩⟩
def sr_m11_step : sr_M := (⟨"ShiftRingModel", "step", "(II)I"⟩, prog_13_method_49_code, 3, (some .int), [], 1, 22)
theorem rm_11_step_11_isIn : sr_RM sr_m11_step sr_m11_isIn := ⟨Nat.le_of_ble_eq_true rfl, Nat.le_of_ble_eq_true rfl⟩
def f11_step_90 (a0 : Int32) (a1 : Int32)  : Int32 → sr_t → sr_Rs := fun xs0 t => (some (.inl (some (sr_i xs0)), t))
theorem g11_step_90 (l : Launch) (a0 : Int32) (a1 : Int32)    : ∀ (xs0 : Int32), ∀ (t : sr_t), sr_g l sr_m11_step 90 [some (sr_r 11 0), some (sr_i a0), some (sr_i a1)] [sr_i xs0] t (f11_step_90 a0 a1  xs0 t) 0 0 := by
  intro xs0  t
  unfold f11_step_90
  exact sr_iret (pc := 90) (by decide +kernel) rfl
def f11_step_15 (a0 : Int32) (a1 : Int32)  : Int32 → sr_t → sr_Rs := fun xs0 t => (sr_lt (sr_u t 11 0 0 xs0) (fun t1 => (if (t1.1 11 0 0) ≤ 0 then (sr_bI (F11_isIn a0 0 ((t1.1 11 0 28) - 1) t1) (fun v2 t2 => (if v2 = 0 then (some (.inl (some (sr_i ((-1)))), t2)) else (if a1 = 0 then (if a0 < 0 ∨ 200 ≤ a0.toNatClampNeg then none else f11_step_90 a0 a1 (t2.1 29 0 a0.toNatClampNeg) t2) else (if a1 = 1 then (if a0 < 0 ∨ 200 ≤ a0.toNatClampNeg then none else f11_step_90 a0 a1 (t2.1 30 0 a0.toNatClampNeg) t2) else (if a1 = 2 then (if a0 < 0 ∨ 200 ≤ a0.toNatClampNeg then none else f11_step_90 a0 a1 (t2.1 31 0 a0.toNatClampNeg) t2) else (if a0 < 0 ∨ 200 ≤ a0.toNatClampNeg then none else f11_step_90 a0 a1 (t2.1 32 0 a0.toNatClampNeg) t2))))))) else (some (.inl (some (sr_i 0)), t1)))))
theorem g11_step_15 (l : Launch) (a0 : Int32) (a1 : Int32)    : ∀ (xs0 : Int32), ∀ (t : sr_t), sr_g l sr_m11_step 15 [some (sr_r 11 0), some (sr_i a0), some (sr_i a1)] [sr_i xs0, sr_r 11 0] t (f11_step_15 a0 a1  xs0 t) 0 0 := by
  intro xs0  t
  unfold f11_step_15
  refine sr_pI (pc := 15) fg_11_93 ft_11_0 (by decide +kernel) (sr_in11 _ (by omega)) (fun _ => rfl) (fun t1 => ?_)
  refine sr_aloadn (pc := 18) (n := 0) (by decide +kernel) rfl ?_
  refine sr_gI (pc := 19) fg_11_93 (by decide +kernel) (sr_in11 _ (by omega)) (fun _ => rfl) ?_
  refine sr_if_le (pc := 22) (off := 5) (tg := 27) (by decide +kernel) (by decide) (fun _ => ?_) (fun _ => ?_)
  · refine sr_iloadn (pc := 27) (n := 1) (by decide +kernel) rfl ?_
    refine sr_iconst (pc := 28) (n := 0) (v := 0) (by decide +kernel) rfl ?_
    refine sr_aloadn (pc := 29) (n := 0) (by decide +kernel) rfl ?_
    refine sr_gI (pc := 30) fg_11_228 (by decide +kernel) (sr_in11 _ (by omega)) (fun _ => rfl) ?_
    refine sr_iconst (pc := 33) (n := 1) (v := 1) (by decide +kernel) rfl ?_
    refine sr_isub (pc := 34) (by decide +kernel) ?_
    refine sr_cS (pc := 35) (As := [sr_i a0, sr_i 0, sr_i ((t1.1 11 0 28) - 1)]) (mc1 := 0) (ms1 := 0) (mc2 := 0) (ms2 := 0) fm_11_96 fl_11_96 (by decide +kernel) (rm_11_step_11_isIn) rfl rfl rfl (C11_isIn l a0 0 ((t1.1 11 0 28) - 1) t1) ?_
    refine sr_kI (fun v2 t2 => ?_)
    refine sr_if_ne (pc := 38) (off := 5) (tg := 43) (by decide +kernel) (by decide) (fun _ => ?_) (fun _ => ?_)
    · refine sr_iloadn (pc := 43) (n := 2) (by decide +kernel) rfl ?_
      refine sr_if_ne (pc := 44) (off := 12) (tg := 56) (by decide +kernel) (by decide) (fun _ => ?_) (fun _ => ?_)
      · refine sr_iloadn (pc := 56) (n := 2) (by decide +kernel) rfl ?_
        refine sr_iconst (pc := 57) (n := 1) (v := 1) (by decide +kernel) rfl ?_
        refine sr_icmp_ne (pc := 58) (off := 12) (tg := 70) (by decide +kernel) (by decide) (fun _ => ?_) (fun _ => ?_)
        · refine sr_iloadn (pc := 70) (n := 2) (by decide +kernel) rfl ?_
          refine sr_iconst (pc := 71) (n := 2) (v := 2) (by decide +kernel) rfl ?_
          refine sr_icmp_ne (pc := 72) (off := 12) (tg := 84) (by decide +kernel) (by decide) (fun _ => ?_) (fun _ => ?_)
          · refine sr_aloadn (pc := 84) (n := 0) (by decide +kernel) rfl ?_
            refine sr_gC (pc := 85) (i2 := 0) fg_11_44 (by decide +kernel) (sr_in11 _ (by omega)) (fun _ => rfl) ?_
            refine sr_iloadn (pc := 88) (n := 1) (by decide +kernel) rfl ?_
            refine sr_aI (pc := 89) (n := 200) rfl (by decide +kernel) (sr_in32 _ (by omega)) (fun _ _ => rfl) ?_
            exact sr_wk (sr_mono (mc := 0) (ms := 0) (by omega) (by omega) (g11_step_90 l a0 a1 (t2.1 32 0 a0.toNatClampNeg) t2)) ⟨rfl, ⟨rfl, ⟨rfl, trivial⟩⟩⟩
          · refine sr_aloadn (pc := 75) (n := 0) (by decide +kernel) rfl ?_
            refine sr_gC (pc := 76) (i2 := 0) fg_11_41 (by decide +kernel) (sr_in11 _ (by omega)) (fun _ => rfl) ?_
            refine sr_iloadn (pc := 79) (n := 1) (by decide +kernel) rfl ?_
            refine sr_aI (pc := 80) (n := 200) rfl (by decide +kernel) (sr_in31 _ (by omega)) (fun _ _ => rfl) ?_
            refine sr_goto (pc := 81) (off := 9) (tg := 90) (by decide +kernel) (by decide) ?_
            exact sr_wk (sr_mono (mc := 0) (ms := 0) (by omega) (by omega) (g11_step_90 l a0 a1 (t2.1 31 0 a0.toNatClampNeg) t2)) ⟨rfl, ⟨rfl, ⟨rfl, trivial⟩⟩⟩
        · refine sr_aloadn (pc := 61) (n := 0) (by decide +kernel) rfl ?_
          refine sr_gC (pc := 62) (i2 := 0) fg_11_38 (by decide +kernel) (sr_in11 _ (by omega)) (fun _ => rfl) ?_
          refine sr_iloadn (pc := 65) (n := 1) (by decide +kernel) rfl ?_
          refine sr_aI (pc := 66) (n := 200) rfl (by decide +kernel) (sr_in30 _ (by omega)) (fun _ _ => rfl) ?_
          refine sr_goto (pc := 67) (off := 23) (tg := 90) (by decide +kernel) (by decide) ?_
          exact sr_wk (sr_mono (mc := 0) (ms := 0) (by omega) (by omega) (g11_step_90 l a0 a1 (t2.1 30 0 a0.toNatClampNeg) t2)) ⟨rfl, ⟨rfl, ⟨rfl, trivial⟩⟩⟩
      · refine sr_aloadn (pc := 47) (n := 0) (by decide +kernel) rfl ?_
        refine sr_gC (pc := 48) (i2 := 0) fg_11_35 (by decide +kernel) (sr_in11 _ (by omega)) (fun _ => rfl) ?_
        refine sr_iloadn (pc := 51) (n := 1) (by decide +kernel) rfl ?_
        refine sr_aI (pc := 52) (n := 200) rfl (by decide +kernel) (sr_in29 _ (by omega)) (fun _ _ => rfl) ?_
        refine sr_goto (pc := 53) (off := 37) (tg := 90) (by decide +kernel) (by decide) ?_
        exact sr_wk (sr_mono (mc := 0) (ms := 0) (by omega) (by omega) (g11_step_90 l a0 a1 (t2.1 29 0 a0.toNatClampNeg) t2)) ⟨rfl, ⟨rfl, ⟨rfl, trivial⟩⟩⟩
    · refine sr_iconst (pc := 41) (n := (-1)) (v := (-1)) (by decide +kernel) rfl ?_
      exact sr_iret (pc := 42) (by decide +kernel) rfl
  · refine sr_iconst (pc := 25) (n := 0) (v := 0) (by decide +kernel) rfl ?_
    exact sr_iret (pc := 26) (by decide +kernel) rfl
def F11_step (a0 : Int32) (a1 : Int32) (t : sr_t) : sr_Rs := (sr_bI (F11_isIn a1 0 3 t) (fun v1 t1 => (if v1 = 0 then f11_step_15 a0 a1 1 t1 else f11_step_15 a0 a1 0 t1)))
theorem C11_step (l : Launch) (a0 : Int32) (a1 : Int32)  (t : sr_t) : sr_ct' l sr_m11_step [sr_r 11 0, sr_i a0, sr_i a1] t (F11_step a0 a1 t) 0 0 := by
  refine sr_T_of (L0 := [some (sr_r 11 0), some (sr_i a0), some (sr_i a1)]) rfl (by decide +kernel) (fun _ => rfl) (fun _ => Nat.le_of_ble_eq_true rfl) ?_
  unfold F11_step
  refine sr_aloadn (pc := 0) (n := 0) (by decide +kernel) rfl ?_
  refine sr_iloadn (pc := 1) (n := 2) (by decide +kernel) rfl ?_
  refine sr_iconst (pc := 2) (n := 0) (v := 0) (by decide +kernel) rfl ?_
  refine sr_iconst (pc := 3) (n := 3) (v := 3) (by decide +kernel) rfl ?_
  refine sr_cS (pc := 4) (As := [sr_i a1, sr_i 0, sr_i 3]) (mc1 := 0) (ms1 := 0) (mc2 := 0) (ms2 := 0) fm_11_96 fl_11_96 (by decide +kernel) (rm_11_step_11_isIn) rfl rfl rfl (C11_isIn l a1 0 3 t) ?_
  refine sr_kI (fun v1 t1 => ?_)
  refine sr_if_eq (pc := 7) (off := 7) (tg := 14) (by decide +kernel) (by decide) (fun _ => ?_) (fun _ => ?_)
  · refine sr_iconst (pc := 14) (n := 1) (v := 1) (by decide +kernel) rfl ?_
    exact sr_wk (sr_mono (mc := 0) (ms := 0) (by omega) (by omega) (g11_step_15 l a0 a1 1 t1)) ⟨rfl, ⟨rfl, ⟨rfl, trivial⟩⟩⟩
  · refine sr_iconst (pc := 10) (n := 0) (v := 0) (by decide +kernel) rfl ?_
    refine sr_goto (pc := 11) (off := 4) (tg := 15) (by decide +kernel) (by decide) ?_
    exact sr_wk (sr_mono (mc := 0) (ms := 0) (by omega) (by omega) (g11_step_15 l a0 a1 0 t1)) ⟨rfl, ⟨rfl, ⟨rfl, trivial⟩⟩⟩
def sr_m11_why : sr_M := (⟨"ShiftRingModel", "why", "(I)I"⟩, prog_13_method_50_code, 2, (some .int), [], 1, 22)
theorem rm_11_why_11_isIn : sr_RM sr_m11_why sr_m11_isIn := ⟨Nat.le_of_ble_eq_true rfl, Nat.le_of_ble_eq_true rfl⟩
def f11_why_29 (a0 : Int32)  : Int32 → sr_t → sr_Rs := fun xs0 t => (some (.inl (some (sr_i xs0)), t))
theorem g11_why_29 (l : Launch) (a0 : Int32)    : ∀ (xs0 : Int32), ∀ (t : sr_t), sr_g l sr_m11_why 29 [some (sr_r 11 0), some (sr_i a0)] [sr_i xs0] t (f11_why_29 a0  xs0 t) 0 0 := by
  intro xs0  t
  unfold f11_why_29
  exact sr_iret (pc := 29) (by decide +kernel) rfl
def F11_why (a0 : Int32) (t : sr_t) : sr_Rs := (sr_lt (sr_u t 11 0 0 0) (fun t1 => (sr_bI (F11_isIn a0 0 ((t1.1 11 0 30) - 1) t1) (fun v2 t2 => (if v2 = 0 then f11_why_29 a0 ((-1)) t2 else (if a0 < 0 ∨ 4 ≤ a0.toNatClampNeg then none else f11_why_29 a0 (t2.1 34 0 a0.toNatClampNeg) t2))))))
theorem C11_why (l : Launch) (a0 : Int32)  (t : sr_t) : sr_ct' l sr_m11_why [sr_r 11 0, sr_i a0] t (F11_why a0 t) 0 0 := by
  refine sr_T_of (L0 := [some (sr_r 11 0), some (sr_i a0)]) rfl (by decide +kernel) (fun _ => rfl) (fun _ => Nat.le_of_ble_eq_true rfl) ?_
  unfold F11_why
  refine sr_aloadn (pc := 0) (n := 0) (by decide +kernel) rfl ?_
  refine sr_iconst (pc := 1) (n := 0) (v := 0) (by decide +kernel) rfl ?_
  refine sr_pI (pc := 2) fg_11_93 ft_11_0 (by decide +kernel) (sr_in11 _ (by omega)) (fun _ => rfl) (fun t1 => ?_)
  refine sr_iloadn (pc := 5) (n := 1) (by decide +kernel) rfl ?_
  refine sr_iconst (pc := 6) (n := 0) (v := 0) (by decide +kernel) rfl ?_
  refine sr_aloadn (pc := 7) (n := 0) (by decide +kernel) rfl ?_
  refine sr_gI (pc := 8) fg_11_231 (by decide +kernel) (sr_in11 _ (by omega)) (fun _ => rfl) ?_
  refine sr_iconst (pc := 11) (n := 1) (v := 1) (by decide +kernel) rfl ?_
  refine sr_isub (pc := 12) (by decide +kernel) ?_
  refine sr_cS (pc := 13) (As := [sr_i a0, sr_i 0, sr_i ((t1.1 11 0 30) - 1)]) (mc1 := 0) (ms1 := 0) (mc2 := 0) (ms2 := 0) fm_11_96 fl_11_96 (by decide +kernel) (rm_11_why_11_isIn) rfl rfl rfl (C11_isIn l a0 0 ((t1.1 11 0 30) - 1) t1) ?_
  refine sr_kI (fun v2 t2 => ?_)
  refine sr_if_eq (pc := 16) (off := 12) (tg := 28) (by decide +kernel) (by decide) (fun _ => ?_) (fun _ => ?_)
  · refine sr_iconst (pc := 28) (n := (-1)) (v := (-1)) (by decide +kernel) rfl ?_
    exact sr_wk (sr_mono (mc := 0) (ms := 0) (by omega) (by omega) (g11_why_29 l a0 ((-1)) t2)) ⟨rfl, ⟨rfl, trivial⟩⟩
  · refine sr_aloadn (pc := 19) (n := 0) (by decide +kernel) rfl ?_
    refine sr_gC (pc := 20) (i2 := 0) fg_11_50 (by decide +kernel) (sr_in11 _ (by omega)) (fun _ => rfl) ?_
    refine sr_iloadn (pc := 23) (n := 1) (by decide +kernel) rfl ?_
    refine sr_aI (pc := 24) (n := 4) rfl (by decide +kernel) (sr_in34 _ (by omega)) (fun _ _ => rfl) ?_
    refine sr_goto (pc := 25) (off := 4) (tg := 29) (by decide +kernel) (by decide) ?_
    exact sr_wk (sr_mono (mc := 0) (ms := 0) (by omega) (by omega) (g11_why_29 l a0 (t2.1 34 0 a0.toNatClampNeg) t2)) ⟨rfl, ⟨rfl, trivial⟩⟩
def sr_m11_owner : sr_M := (⟨"ShiftRingModel", "owner", "(I)I"⟩, prog_13_method_51_code, 2, (some .int), [], 2, 45)
theorem rm_11_owner_11_isPlace : sr_RM sr_m11_owner sr_m11_isPlace := ⟨Nat.le_of_ble_eq_true rfl, Nat.le_of_ble_eq_true rfl⟩
theorem rm_11_owner_11_upFrom : sr_RM sr_m11_owner sr_m11_upFrom := ⟨Nat.le_of_ble_eq_true rfl, Nat.le_of_ble_eq_true rfl⟩
def f11_owner_33 (a0 : Int32)  : Int32 → sr_t → sr_Rs := fun xs0 t => (some (.inl (some (sr_i xs0)), t))
theorem g11_owner_33 (l : Launch) (a0 : Int32)    : ∀ (xs0 : Int32), ∀ (t : sr_t), sr_g l sr_m11_owner 33 [some (sr_r 11 0), some (sr_i a0)] [sr_i xs0] t (f11_owner_33 a0  xs0 t) 0 0 := by
  intro xs0  t
  unfold f11_owner_33
  exact sr_iret (pc := 33) (by decide +kernel) rfl
def f11_owner_13 (a0 : Int32)  : Int32 → sr_t → sr_Rs := fun xs0 t => (sr_lt (sr_u t 11 0 0 xs0) (fun t1 => (if (t1.1 11 0 0) ≤ 0 then (sr_bI (F11_upFrom a0 1 t1) (fun v2 t2 => f11_owner_33 a0 v2 t2)) else f11_owner_33 a0 0 t1)))
theorem g11_owner_13 (l : Launch) (a0 : Int32)    : ∀ (xs0 : Int32), ∀ (t : sr_t), sr_g l sr_m11_owner 13 [some (sr_r 11 0), some (sr_i a0)] [sr_i xs0, sr_r 11 0] t (f11_owner_13 a0  xs0 t) 0 0 := by
  intro xs0  t
  unfold f11_owner_13
  refine sr_pI (pc := 13) fg_11_93 ft_11_0 (by decide +kernel) (sr_in11 _ (by omega)) (fun _ => rfl) (fun t1 => ?_)
  refine sr_aloadn (pc := 16) (n := 0) (by decide +kernel) rfl ?_
  refine sr_gI (pc := 17) fg_11_93 (by decide +kernel) (sr_in11 _ (by omega)) (fun _ => rfl) ?_
  refine sr_if_le (pc := 20) (off := 7) (tg := 27) (by decide +kernel) (by decide) (fun _ => ?_) (fun _ => ?_)
  · refine sr_aloadn (pc := 27) (n := 0) (by decide +kernel) rfl ?_
    refine sr_iloadn (pc := 28) (n := 1) (by decide +kernel) rfl ?_
    refine sr_iconst (pc := 29) (n := 1) (v := 1) (by decide +kernel) rfl ?_
    refine sr_cV (pc := 30) (As := [sr_i a0, sr_i 1]) (mc1 := 0) (ms1 := 0) (mc2 := 0) (ms2 := 0) fm_11_107 fl_11_107 (by decide +kernel) (sr_in11 _ (by omega)) (rm_11_owner_11_upFrom) rfl rfl rfl (C11_upFrom l a0 1 t1) ?_
    refine sr_kI (fun v2 t2 => ?_)
    exact sr_wk (sr_mono (mc := 0) (ms := 0) (by omega) (by omega) (g11_owner_33 l a0 v2 t2)) ⟨rfl, ⟨rfl, trivial⟩⟩
  · refine sr_iconst (pc := 23) (n := 0) (v := 0) (by decide +kernel) rfl ?_
    refine sr_goto (pc := 24) (off := 9) (tg := 33) (by decide +kernel) (by decide) ?_
    exact sr_wk (sr_mono (mc := 0) (ms := 0) (by omega) (by omega) (g11_owner_33 l a0 0 t1)) ⟨rfl, ⟨rfl, trivial⟩⟩
def F11_owner (a0 : Int32) (t : sr_t) : sr_Rs := (sr_bI (F11_isPlace a0 t) (fun v1 t1 => (if v1 = 0 then f11_owner_13 a0 1 t1 else f11_owner_13 a0 0 t1)))
theorem C11_owner (l : Launch) (a0 : Int32)  (t : sr_t) : sr_ct' l sr_m11_owner [sr_r 11 0, sr_i a0] t (F11_owner a0 t) 0 0 := by
  refine sr_T_of (L0 := [some (sr_r 11 0), some (sr_i a0)]) rfl (by decide +kernel) (fun _ => rfl) (fun _ => Nat.le_of_ble_eq_true rfl) ?_
  unfold F11_owner
  refine sr_aloadn (pc := 0) (n := 0) (by decide +kernel) rfl ?_
  refine sr_iloadn (pc := 1) (n := 1) (by decide +kernel) rfl ?_
  refine sr_cS (pc := 2) (As := [sr_i a0]) (mc1 := 0) (ms1 := 0) (mc2 := 0) (ms2 := 0) fm_11_133 fl_11_133 (by decide +kernel) (rm_11_owner_11_isPlace) rfl rfl rfl (C11_isPlace l a0 t) ?_
  refine sr_kI (fun v1 t1 => ?_)
  refine sr_if_eq (pc := 5) (off := 7) (tg := 12) (by decide +kernel) (by decide) (fun _ => ?_) (fun _ => ?_)
  · refine sr_iconst (pc := 12) (n := 1) (v := 1) (by decide +kernel) rfl ?_
    exact sr_wk (sr_mono (mc := 0) (ms := 0) (by omega) (by omega) (g11_owner_13 l a0 1 t1)) ⟨rfl, ⟨rfl, trivial⟩⟩
  · refine sr_iconst (pc := 8) (n := 0) (v := 0) (by decide +kernel) rfl ?_
    refine sr_goto (pc := 9) (off := 4) (tg := 13) (by decide +kernel) (by decide) ?_
    exact sr_wk (sr_mono (mc := 0) (ms := 0) (by omega) (by omega) (g11_owner_13 l a0 0 t1)) ⟨rfl, ⟨rfl, trivial⟩⟩
def sr_m11_host : sr_M := (⟨"ShiftRingModel", "host", "(I)I"⟩, prog_13_method_52_code, 2, (some .int), [], 2, 44)
theorem rm_11_host_11_hostOf : sr_RM sr_m11_host sr_m11_hostOf := ⟨Nat.le_of_ble_eq_true rfl, Nat.le_of_ble_eq_true rfl⟩
theorem rm_11_host_11_isPlace : sr_RM sr_m11_host sr_m11_isPlace := ⟨Nat.le_of_ble_eq_true rfl, Nat.le_of_ble_eq_true rfl⟩
def f11_host_32 (a0 : Int32)  : Int32 → sr_t → sr_Rs := fun xs0 t => (some (.inl (some (sr_i xs0)), t))
theorem g11_host_32 (l : Launch) (a0 : Int32)    : ∀ (xs0 : Int32), ∀ (t : sr_t), sr_g l sr_m11_host 32 [some (sr_r 11 0), some (sr_i a0)] [sr_i xs0] t (f11_host_32 a0  xs0 t) 0 0 := by
  intro xs0  t
  unfold f11_host_32
  exact sr_iret (pc := 32) (by decide +kernel) rfl
def f11_host_13 (a0 : Int32)  : Int32 → sr_t → sr_Rs := fun xs0 t => (sr_lt (sr_u t 11 0 0 xs0) (fun t1 => (if (t1.1 11 0 0) ≤ 0 then (sr_bI (F11_hostOf a0 t1) (fun v2 t2 => f11_host_32 a0 v2 t2)) else f11_host_32 a0 0 t1)))
theorem g11_host_13 (l : Launch) (a0 : Int32)    : ∀ (xs0 : Int32), ∀ (t : sr_t), sr_g l sr_m11_host 13 [some (sr_r 11 0), some (sr_i a0)] [sr_i xs0, sr_r 11 0] t (f11_host_13 a0  xs0 t) 0 0 := by
  intro xs0  t
  unfold f11_host_13
  refine sr_pI (pc := 13) fg_11_93 ft_11_0 (by decide +kernel) (sr_in11 _ (by omega)) (fun _ => rfl) (fun t1 => ?_)
  refine sr_aloadn (pc := 16) (n := 0) (by decide +kernel) rfl ?_
  refine sr_gI (pc := 17) fg_11_93 (by decide +kernel) (sr_in11 _ (by omega)) (fun _ => rfl) ?_
  refine sr_if_le (pc := 20) (off := 7) (tg := 27) (by decide +kernel) (by decide) (fun _ => ?_) (fun _ => ?_)
  · refine sr_aloadn (pc := 27) (n := 0) (by decide +kernel) rfl ?_
    refine sr_iloadn (pc := 28) (n := 1) (by decide +kernel) rfl ?_
    refine sr_cV (pc := 29) (As := [sr_i a0]) (mc1 := 0) (ms1 := 0) (mc2 := 0) (ms2 := 0) fm_11_111 fl_11_111 (by decide +kernel) (sr_in11 _ (by omega)) (rm_11_host_11_hostOf) rfl rfl rfl (C11_hostOf l a0 t1) ?_
    refine sr_kI (fun v2 t2 => ?_)
    exact sr_wk (sr_mono (mc := 0) (ms := 0) (by omega) (by omega) (g11_host_32 l a0 v2 t2)) ⟨rfl, ⟨rfl, trivial⟩⟩
  · refine sr_iconst (pc := 23) (n := 0) (v := 0) (by decide +kernel) rfl ?_
    refine sr_goto (pc := 24) (off := 8) (tg := 32) (by decide +kernel) (by decide) ?_
    exact sr_wk (sr_mono (mc := 0) (ms := 0) (by omega) (by omega) (g11_host_32 l a0 0 t1)) ⟨rfl, ⟨rfl, trivial⟩⟩
def F11_host (a0 : Int32) (t : sr_t) : sr_Rs := (sr_bI (F11_isPlace a0 t) (fun v1 t1 => (if v1 = 0 then f11_host_13 a0 1 t1 else f11_host_13 a0 0 t1)))
theorem C11_host (l : Launch) (a0 : Int32)  (t : sr_t) : sr_ct' l sr_m11_host [sr_r 11 0, sr_i a0] t (F11_host a0 t) 0 0 := by
  refine sr_T_of (L0 := [some (sr_r 11 0), some (sr_i a0)]) rfl (by decide +kernel) (fun _ => rfl) (fun _ => Nat.le_of_ble_eq_true rfl) ?_
  unfold F11_host
  refine sr_aloadn (pc := 0) (n := 0) (by decide +kernel) rfl ?_
  refine sr_iloadn (pc := 1) (n := 1) (by decide +kernel) rfl ?_
  refine sr_cS (pc := 2) (As := [sr_i a0]) (mc1 := 0) (ms1 := 0) (mc2 := 0) (ms2 := 0) fm_11_133 fl_11_133 (by decide +kernel) (rm_11_host_11_isPlace) rfl rfl rfl (C11_isPlace l a0 t) ?_
  refine sr_kI (fun v1 t1 => ?_)
  refine sr_if_eq (pc := 5) (off := 7) (tg := 12) (by decide +kernel) (by decide) (fun _ => ?_) (fun _ => ?_)
  · refine sr_iconst (pc := 12) (n := 1) (v := 1) (by decide +kernel) rfl ?_
    exact sr_wk (sr_mono (mc := 0) (ms := 0) (by omega) (by omega) (g11_host_13 l a0 1 t1)) ⟨rfl, ⟨rfl, trivial⟩⟩
  · refine sr_iconst (pc := 8) (n := 0) (v := 0) (by decide +kernel) rfl ?_
    refine sr_goto (pc := 9) (off := 4) (tg := 13) (by decide +kernel) (by decide) ?_
    exact sr_wk (sr_mono (mc := 0) (ms := 0) (by omega) (by omega) (g11_host_13 l a0 0 t1)) ⟨rfl, ⟨rfl, trivial⟩⟩
def sr_m11_sampled : sr_M := (⟨"ShiftRingModel", "sampled", "(IIZ)V"⟩, prog_13_method_54_code, 6, none, [], 6, 144)
def sr_m11_samples : sr_M := (⟨"ShiftRingModel", "samples", "(Z)V"⟩, prog_13_method_53_code, 3, none, [], 7, 169)
def sr_m11_sample : sr_M := (⟨"ShiftRingModel", "sample", "(ZI)I"⟩, prog_13_method_55_code, 3, (some .int), [], 8, 191)
theorem fg_11_74 : sr_FG "ShiftRingModel" 74 11 48 53 := ⟨RX11, TX11, tyX11, rfl, by decide, rfl, uw_11, tyX11_ok, nmX11, Or.inl (sr_tb (n := 1431) (by decide +kernel) rfl)⟩
theorem fg_11_240 : sr_FG "ShiftRingModel" 240 11 40 53 := ⟨RX11, TX11, tyX11, rfl, by decide, rfl, uw_11, tyX11_ok, nmX11, Or.inl (sr_tb (n := 1423) (by decide +kernel) rfl)⟩
theorem fg_11_243 : sr_FG "ShiftRingModel" 243 11 41 53 := ⟨RX11, TX11, tyX11, rfl, by decide, rfl, uw_11, tyX11_ok, nmX11, Or.inl (sr_tb (n := 1424) (by decide +kernel) rfl)⟩
theorem fg_11_246 : sr_FG "ShiftRingModel" 246 11 42 53 := ⟨RX11, TX11, tyX11, rfl, by decide, rfl, uw_11, tyX11_ok, nmX11, Or.inl (sr_tb (n := 1425) (by decide +kernel) rfl)⟩
theorem fg_11_249 : sr_FG "ShiftRingModel" 249 11 43 53 := ⟨RX11, TX11, tyX11, rfl, by decide, rfl, uw_11, tyX11_ok, nmX11, Or.inl (sr_tb (n := 1426) (by decide +kernel) rfl)⟩
theorem fg_11_252 : sr_FG "ShiftRingModel" 252 11 44 53 := ⟨RX11, TX11, tyX11, rfl, by decide, rfl, uw_11, tyX11_ok, nmX11, Or.inl (sr_tb (n := 1427) (by decide +kernel) rfl)⟩
theorem fg_11_255 : sr_FG "ShiftRingModel" 255 11 45 53 := ⟨RX11, TX11, tyX11, rfl, by decide, rfl, uw_11, tyX11_ok, nmX11, Or.inl (sr_tb (n := 1428) (by decide +kernel) rfl)⟩
theorem fg_11_258 : sr_FG "ShiftRingModel" 258 11 46 53 := ⟨RX11, TX11, tyX11, rfl, by decide, rfl, uw_11, tyX11_ok, nmX11, Or.inl (sr_tb (n := 1429) (by decide +kernel) rfl)⟩
theorem fg_11_261 : sr_FG "ShiftRingModel" 261 11 47 53 := ⟨RX11, TX11, tyX11, rfl, by decide, rfl, uw_11, tyX11_ok, nmX11, Or.inl (sr_tb (n := 1430) (by decide +kernel) rfl)⟩
theorem ft_11_40 : sr_FT 11 40 53 0 false := ⟨RX11, TX11, rfl, rfl, (fun h => nomatch h), (show parseFieldDescriptor (TX11 40).2.2.1 = some .int from by decide +kernel)⟩
theorem ft_11_41 : sr_FT 11 41 53 0 false := ⟨RX11, TX11, rfl, rfl, (fun h => nomatch h), (show parseFieldDescriptor (TX11 41).2.2.1 = some .int from by decide +kernel)⟩
theorem ft_11_42 : sr_FT 11 42 53 0 false := ⟨RX11, TX11, rfl, rfl, (fun h => nomatch h), (show parseFieldDescriptor (TX11 42).2.2.1 = some .int from by decide +kernel)⟩
theorem ft_11_43 : sr_FT 11 43 53 0 false := ⟨RX11, TX11, rfl, rfl, (fun h => nomatch h), (show parseFieldDescriptor (TX11 43).2.2.1 = some .int from by decide +kernel)⟩
theorem ft_11_44 : sr_FT 11 44 53 0 false := ⟨RX11, TX11, rfl, rfl, (fun h => nomatch h), (show parseFieldDescriptor (TX11 44).2.2.1 = some .int from by decide +kernel)⟩
theorem ft_11_45 : sr_FT 11 45 53 0 false := ⟨RX11, TX11, rfl, rfl, (fun h => nomatch h), (show parseFieldDescriptor (TX11 45).2.2.1 = some .int from by decide +kernel)⟩
theorem ft_11_46 : sr_FT 11 46 53 0 false := ⟨RX11, TX11, rfl, rfl, (fun h => nomatch h), (show parseFieldDescriptor (TX11 46).2.2.1 = some .int from by decide +kernel)⟩
theorem ft_11_47 : sr_FT 11 47 53 0 false := ⟨RX11, TX11, rfl, rfl, (fun h => nomatch h), (show parseFieldDescriptor (TX11 47).2.2.1 = some .int from by decide +kernel)⟩
theorem fl_11_264 : Cond.methodLink "ShiftRingModel" 264 (sr_My sr_m11_sampled) ∈ sr_TB := (sr_tb (n := 1743) (by decide +kernel) rfl)
theorem fm_11_264 : sr_FV "ShiftRingModel" 264 sr_m11_sampled 11 3 := ⟨⟨rfl, sr_tb (n := 1746) (by decide +kernel) rfl, sr_tb (n := 12) (by decide +kernel) rfl, ⟨by decide, by decide, by decide +kernel⟩, Or.inl fl_11_264⟩, ⟨TX11, 53, rfl, rfl⟩, sr_tb (n := 1745) (by decide +kernel) rfl, sr_ts (n := 68) (by decide +kernel) rfl⟩
theorem fl_11_268 : Cond.methodLink "ShiftRingModel" 268 (sr_My sr_m11_samples) ∈ sr_TB := (sr_tb (n := 1739) (by decide +kernel) rfl)
theorem fm_11_268 : sr_FV "ShiftRingModel" 268 sr_m11_samples 11 1 := ⟨⟨rfl, sr_tb (n := 1742) (by decide +kernel) rfl, sr_tb (n := 12) (by decide +kernel) rfl, ⟨by decide, by decide, by decide +kernel⟩, Or.inl fl_11_268⟩, ⟨TX11, 53, rfl, rfl⟩, sr_tb (n := 1741) (by decide +kernel) rfl, sr_ts (n := 67) (by decide +kernel) rfl⟩
theorem rm_11_sample_11_isIn : sr_RM sr_m11_sample sr_m11_isIn := ⟨Nat.le_of_ble_eq_true rfl, Nat.le_of_ble_eq_true rfl⟩
theorem rm_11_sample_11_samples : sr_RM sr_m11_sample sr_m11_samples := ⟨Nat.le_of_ble_eq_true rfl, Nat.le_of_ble_eq_true rfl⟩
theorem rm_11_sampled_11_isRight : sr_RM sr_m11_sampled sr_m11_isRight := ⟨Nat.le_of_ble_eq_true rfl, Nat.le_of_ble_eq_true rfl⟩
theorem rm_11_sampled_11_looks : sr_RM sr_m11_sampled sr_m11_looks := ⟨Nat.le_of_ble_eq_true rfl, Nat.le_of_ble_eq_true rfl⟩
theorem rm_11_samples_11_sampled : sr_RM sr_m11_samples sr_m11_sampled := ⟨Nat.le_of_ble_eq_true rfl, Nat.le_of_ble_eq_true rfl⟩
def f11_sampled_139 (a0 : Int32) (a1 : Int32) (a2 : Int32) (k171 : sr_t → sr_Rs) : Nat → Int32 → sr_t → sr_Rs
  | 0 => fun _ _ => none
  | n + 1 => fun x5 t => (if (t.1 11 0 1) ≤ x5 then k171 t else (if x5 < 0 ∨ 24 ≤ x5.toNatClampNeg then none else (if x5 < 0 ∨ 24 ≤ x5.toNatClampNeg then none else (if x5 < 0 ∨ 24 ≤ x5.toNatClampNeg then none else sr_lt (sr_u t 42 0 x5.toNatClampNeg ((t.1 42 0 x5.toNatClampNeg) + (t.1 35 0 x5.toNatClampNeg))) (fun t1 => (f11_sampled_139 a0 a1 a2 k171 n) (x5 + 1) t1)))))
theorem g11_sampled_139 (l : Launch) (a0 : Int32) (a1 : Int32) (a2 : Int32)  (k171 : sr_t → sr_Rs) (hk171 : ∀ (t : sr_t), sr_g l sr_m11_sampled 171 [some (sr_r 11 0), some (sr_i a0), some (sr_i a1), some (sr_i a2), none, none] [] t (k171 t) 0 0) : ∀ (n : Nat) (x5 : Int32), ∀ (t : sr_t), sr_g l sr_m11_sampled 139 [some (sr_r 11 0), some (sr_i a0), some (sr_i a1), some (sr_i a2), none, some (sr_i x5)] [] t (f11_sampled_139 a0 a1 a2 k171 n x5 t) 0 0 := by
  intro n
  induction n with
  | zero => intros; exact sr_Gn
  | succ n ih =>
    intro x5  t
    unfold f11_sampled_139
    refine sr_iload (pc := 139) (i := 5) (by decide +kernel) rfl ?_
    refine sr_aloadn (pc := 141) (n := 0) (by decide +kernel) rfl ?_
    refine sr_gI (pc := 142) fg_11_100 (by decide +kernel) (sr_in11 _ (by omega)) (fun _ => rfl) ?_
    refine sr_icmp_ge (pc := 145) (off := 26) (tg := 171) (by decide +kernel) (by decide) (fun _ => ?_) (fun _ => ?_)
    · exact sr_wk (sr_mono (mc := 0) (ms := 0) (by omega) (by omega) (hk171 t)) ⟨rfl, ⟨rfl, ⟨rfl, ⟨rfl, trivial⟩⟩⟩⟩
    · refine sr_aloadn (pc := 148) (n := 0) (by decide +kernel) rfl ?_
      refine sr_gC (pc := 149) (i2 := 0) fg_11_74 (by decide +kernel) (sr_in11 _ (by omega)) (fun _ => rfl) ?_
      refine sr_iload (pc := 152) (i := 5) (by decide +kernel) rfl ?_
      refine sr_dup2 (pc := 154) (by decide +kernel) rfl rfl ?_
      refine sr_aI (pc := 155) (n := 24) rfl (by decide +kernel) (sr_in42 _ (by omega)) (fun _ _ => rfl) ?_
      refine sr_aloadn (pc := 156) (n := 0) (by decide +kernel) rfl ?_
      refine sr_gC (pc := 157) (i2 := 0) fg_11_53 (by decide +kernel) (sr_in11 _ (by omega)) (fun _ => rfl) ?_
      refine sr_iload (pc := 160) (i := 5) (by decide +kernel) rfl ?_
      refine sr_aI (pc := 162) (n := 24) rfl (by decide +kernel) (sr_in35 _ (by omega)) (fun _ _ => rfl) ?_
      refine sr_iadd (pc := 163) (by decide +kernel) ?_
      refine sr_sI (pc := 164) (n := 24) rfl (by decide +kernel) (sr_in42 _ (by omega)) (fun _ _ => rfl) (fun t1 => ?_)
      refine sr_iinc (pc := 165) (i := 5) (n := 1) (w := x5 + 1) (by decide +kernel) rfl rfl (by decide) rfl rfl ?_
      refine sr_goto (pc := 168) (off := (-29)) (tg := 139) (by decide +kernel) (by decide) ?_
      exact sr_wk (sr_mono (mc := 0) (ms := 0) (by omega) (by omega) (ih (x5 + 1) t1)) ⟨rfl, ⟨rfl, ⟨rfl, ⟨rfl, ⟨rfl, trivial⟩⟩⟩⟩⟩
def f11_sampled_171 (a0 : Int32) (a1 : Int32) (a2 : Int32)  : sr_t → sr_Rs := fun  t => (some (.inl none, t))
theorem g11_sampled_171 (l : Launch) (a0 : Int32) (a1 : Int32) (a2 : Int32)    : ∀ (t : sr_t), sr_g l sr_m11_sampled 171 [some (sr_r 11 0), some (sr_i a0), some (sr_i a1), some (sr_i a2), none, none] [] t (f11_sampled_171 a0 a1 a2   t) 0 0 := by
  intro t
  unfold f11_sampled_171
  exact sr_ret (pc := 171) (by decide +kernel) rfl
def f11_sampled_136 (a0 : Int32) (a1 : Int32) (a2 : Int32)  : sr_t → sr_Rs := fun  t => f11_sampled_139 a0 a1 a2 (f11_sampled_171 a0 a1 a2) sr_fu 0 t
theorem g11_sampled_136 (l : Launch) (a0 : Int32) (a1 : Int32) (a2 : Int32)    : ∀ (t : sr_t), sr_g l sr_m11_sampled 136 [some (sr_r 11 0), some (sr_i a0), some (sr_i a1), some (sr_i a2), none, none] [] t (f11_sampled_136 a0 a1 a2   t) 0 0 := by
  intro t
  unfold f11_sampled_136
  refine sr_iconst (pc := 136) (n := 0) (v := 0) (by decide +kernel) rfl ?_
  refine sr_istore (pc := 137) (i := 5) (by decide +kernel) (by decide) rfl rfl ?_
  exact sr_wk (sr_mono (mc := 0) (ms := 0) (by omega) (by omega) (g11_sampled_139 l a0 a1 a2 (f11_sampled_171 a0 a1 a2) (g11_sampled_171 l a0 a1 a2) sr_fu 0 t)) ⟨rfl, ⟨rfl, ⟨rfl, ⟨rfl, ⟨rfl, trivial⟩⟩⟩⟩⟩
def f11_sampled_117 (a0 : Int32) (a1 : Int32) (a2 : Int32)  : sr_t → sr_Rs := fun  t => (if (t.1 11 0 19) ≤ (t.1 11 0 47) then f11_sampled_136 a0 a1 a2 t else (sr_lt (sr_u t 11 0 47 (t.1 11 0 19)) (fun t1 => f11_sampled_136 a0 a1 a2 t1)))
theorem g11_sampled_117 (l : Launch) (a0 : Int32) (a1 : Int32) (a2 : Int32)    : ∀ (t : sr_t), sr_g l sr_m11_sampled 117 [some (sr_r 11 0), some (sr_i a0), some (sr_i a1), some (sr_i a2), none, none] [] t (f11_sampled_117 a0 a1 a2   t) 0 0 := by
  intro t
  unfold f11_sampled_117
  refine sr_aloadn (pc := 117) (n := 0) (by decide +kernel) rfl ?_
  refine sr_gI (pc := 118) fg_11_186 (by decide +kernel) (sr_in11 _ (by omega)) (fun _ => rfl) ?_
  refine sr_aloadn (pc := 121) (n := 0) (by decide +kernel) rfl ?_
  refine sr_gI (pc := 122) fg_11_261 (by decide +kernel) (sr_in11 _ (by omega)) (fun _ => rfl) ?_
  refine sr_icmp_le (pc := 125) (off := 11) (tg := 136) (by decide +kernel) (by decide) (fun _ => ?_) (fun _ => ?_)
  · exact sr_wk (sr_mono (mc := 0) (ms := 0) (by omega) (by omega) (g11_sampled_136 l a0 a1 a2 t)) ⟨rfl, ⟨rfl, ⟨rfl, ⟨rfl, trivial⟩⟩⟩⟩
  · refine sr_aloadn (pc := 128) (n := 0) (by decide +kernel) rfl ?_
    refine sr_aloadn (pc := 129) (n := 0) (by decide +kernel) rfl ?_
    refine sr_gI (pc := 130) fg_11_186 (by decide +kernel) (sr_in11 _ (by omega)) (fun _ => rfl) ?_
    refine sr_pI (pc := 133) fg_11_261 ft_11_47 (by decide +kernel) (sr_in11 _ (by omega)) (fun _ => rfl) (fun t1 => ?_)
    exact sr_wk (sr_mono (mc := 0) (ms := 0) (by omega) (by omega) (g11_sampled_136 l a0 a1 a2 t1)) ⟨rfl, ⟨rfl, ⟨rfl, ⟨rfl, trivial⟩⟩⟩⟩
def f11_sampled_94 (a0 : Int32) (a1 : Int32) (a2 : Int32)  : Int32 → Int32 → sr_t → sr_Rs := fun xs0 xs1 t => (sr_lt (sr_u t 11 0 44 (xs1 + xs0)) (fun t1 => (if (t1.1 11 0 13) ≤ (t1.1 11 0 46) then f11_sampled_117 a0 a1 a2 t1 else (sr_lt (sr_u t1 11 0 46 (t1.1 11 0 13)) (fun t2 => f11_sampled_117 a0 a1 a2 t2)))))
theorem g11_sampled_94 (l : Launch) (a0 : Int32) (a1 : Int32) (a2 : Int32)    : ∀ (xs0 : Int32) (xs1 : Int32), ∀ (t : sr_t), sr_g l sr_m11_sampled 94 [some (sr_r 11 0), some (sr_i a0), some (sr_i a1), some (sr_i a2), none, none] [sr_i xs0, sr_i xs1, sr_r 11 0] t (f11_sampled_94 a0 a1 a2  xs0 xs1 t) 0 0 := by
  intro xs0 xs1  t
  unfold f11_sampled_94
  refine sr_iadd (pc := 94) (by decide +kernel) ?_
  refine sr_pI (pc := 95) fg_11_252 ft_11_44 (by decide +kernel) (sr_in11 _ (by omega)) (fun _ => rfl) (fun t1 => ?_)
  refine sr_aloadn (pc := 98) (n := 0) (by decide +kernel) rfl ?_
  refine sr_gI (pc := 99) fg_11_183 (by decide +kernel) (sr_in11 _ (by omega)) (fun _ => rfl) ?_
  refine sr_aloadn (pc := 102) (n := 0) (by decide +kernel) rfl ?_
  refine sr_gI (pc := 103) fg_11_258 (by decide +kernel) (sr_in11 _ (by omega)) (fun _ => rfl) ?_
  refine sr_icmp_le (pc := 106) (off := 11) (tg := 117) (by decide +kernel) (by decide) (fun _ => ?_) (fun _ => ?_)
  · exact sr_wk (sr_mono (mc := 0) (ms := 0) (by omega) (by omega) (g11_sampled_117 l a0 a1 a2 t1)) ⟨rfl, ⟨rfl, ⟨rfl, ⟨rfl, trivial⟩⟩⟩⟩
  · refine sr_aloadn (pc := 109) (n := 0) (by decide +kernel) rfl ?_
    refine sr_aloadn (pc := 110) (n := 0) (by decide +kernel) rfl ?_
    refine sr_gI (pc := 111) fg_11_183 (by decide +kernel) (sr_in11 _ (by omega)) (fun _ => rfl) ?_
    refine sr_pI (pc := 114) fg_11_258 ft_11_46 (by decide +kernel) (sr_in11 _ (by omega)) (fun _ => rfl) (fun t2 => ?_)
    exact sr_wk (sr_mono (mc := 0) (ms := 0) (by omega) (by omega) (g11_sampled_117 l a0 a1 a2 t2)) ⟨rfl, ⟨rfl, ⟨rfl, ⟨rfl, trivial⟩⟩⟩⟩
def F11_sampled (a0 : Int32) (a1 : Int32) (a2 : Int32) (t : sr_t) : sr_Rs := (sr_bI (F11_looks a0 a1 a2 t) (fun v1 t1 => (sr_lt (sr_u t1 11 0 40 ((t1.1 11 0 40) + (t1.1 11 0 13))) (fun t2 => (sr_lt (sr_u t2 11 0 41 ((t2.1 11 0 41) + (t2.1 11 0 14))) (fun t3 => (sr_lt (sr_u t3 11 0 42 ((t3.1 11 0 42) + (t3.1 11 0 15))) (fun t4 => (sr_lt (sr_u t4 11 0 43 ((t4.1 11 0 43) + (t4.1 11 0 16))) (fun t5 => (sr_lt (sr_u t5 11 0 45 ((t5.1 11 0 45) + (t5.1 11 0 19))) (fun t6 => (sr_bI (F11_isRight a1 v1 t6) (fun v7 t7 => (if v7 = 0 then f11_sampled_94 a0 a1 a2 1 (t6.1 11 0 44) t7 else f11_sampled_94 a0 a1 a2 0 (t6.1 11 0 44) t7)))))))))))))))
theorem C11_sampled (l : Launch) (a0 : Int32) (a1 : Int32) (a2 : Int32)  (t : sr_t) : sr_ct' l sr_m11_sampled [sr_r 11 0, sr_i a0, sr_i a1, sr_i a2] t (F11_sampled a0 a1 a2 t) 0 0 := by
  refine sr_T_of (L0 := [some (sr_r 11 0), some (sr_i a0), some (sr_i a1), some (sr_i a2), none, none]) rfl (by decide +kernel) (fun _ => rfl) (fun _ => Nat.le_of_ble_eq_true rfl) ?_
  unfold F11_sampled
  refine sr_aloadn (pc := 0) (n := 0) (by decide +kernel) rfl ?_
  refine sr_iloadn (pc := 1) (n := 1) (by decide +kernel) rfl ?_
  refine sr_iloadn (pc := 2) (n := 2) (by decide +kernel) rfl ?_
  refine sr_iloadn (pc := 3) (n := 3) (by decide +kernel) rfl ?_
  refine sr_cV (pc := 4) (As := [sr_i a0, sr_i a1, sr_i a2]) (mc1 := 0) (ms1 := 0) (mc2 := 0) (ms2 := 0) fm_11_221 fl_11_221 (by decide +kernel) (sr_in11 _ (by omega)) (rm_11_sampled_11_looks) rfl rfl rfl (C11_looks l a0 a1 a2 t) ?_
  refine sr_kI (fun v1 t1 => ?_)
  refine sr_istore (pc := 7) (i := 4) (by decide +kernel) (by decide) rfl rfl ?_
  refine sr_aloadn (pc := 9) (n := 0) (by decide +kernel) rfl ?_
  refine sr_dup (pc := 10) (by decide +kernel) rfl ?_
  refine sr_gI (pc := 11) fg_11_240 (by decide +kernel) (sr_in11 _ (by omega)) (fun _ => rfl) ?_
  refine sr_aloadn (pc := 14) (n := 0) (by decide +kernel) rfl ?_
  refine sr_gI (pc := 15) fg_11_183 (by decide +kernel) (sr_in11 _ (by omega)) (fun _ => rfl) ?_
  refine sr_iadd (pc := 18) (by decide +kernel) ?_
  refine sr_pI (pc := 19) fg_11_240 ft_11_40 (by decide +kernel) (sr_in11 _ (by omega)) (fun _ => rfl) (fun t2 => ?_)
  refine sr_aloadn (pc := 22) (n := 0) (by decide +kernel) rfl ?_
  refine sr_dup (pc := 23) (by decide +kernel) rfl ?_
  refine sr_gI (pc := 24) fg_11_243 (by decide +kernel) (sr_in11 _ (by omega)) (fun _ => rfl) ?_
  refine sr_aloadn (pc := 27) (n := 0) (by decide +kernel) rfl ?_
  refine sr_gI (pc := 28) fg_11_203 (by decide +kernel) (sr_in11 _ (by omega)) (fun _ => rfl) ?_
  refine sr_iadd (pc := 31) (by decide +kernel) ?_
  refine sr_pI (pc := 32) fg_11_243 ft_11_41 (by decide +kernel) (sr_in11 _ (by omega)) (fun _ => rfl) (fun t3 => ?_)
  refine sr_aloadn (pc := 35) (n := 0) (by decide +kernel) rfl ?_
  refine sr_dup (pc := 36) (by decide +kernel) rfl ?_
  refine sr_gI (pc := 37) fg_11_246 (by decide +kernel) (sr_in11 _ (by omega)) (fun _ => rfl) ?_
  refine sr_aloadn (pc := 40) (n := 0) (by decide +kernel) rfl ?_
  refine sr_gI (pc := 41) fg_11_206 (by decide +kernel) (sr_in11 _ (by omega)) (fun _ => rfl) ?_
  refine sr_iadd (pc := 44) (by decide +kernel) ?_
  refine sr_pI (pc := 45) fg_11_246 ft_11_42 (by decide +kernel) (sr_in11 _ (by omega)) (fun _ => rfl) (fun t4 => ?_)
  refine sr_aloadn (pc := 48) (n := 0) (by decide +kernel) rfl ?_
  refine sr_dup (pc := 49) (by decide +kernel) rfl ?_
  refine sr_gI (pc := 50) fg_11_249 (by decide +kernel) (sr_in11 _ (by omega)) (fun _ => rfl) ?_
  refine sr_aloadn (pc := 53) (n := 0) (by decide +kernel) rfl ?_
  refine sr_gI (pc := 54) fg_11_209 (by decide +kernel) (sr_in11 _ (by omega)) (fun _ => rfl) ?_
  refine sr_iadd (pc := 57) (by decide +kernel) ?_
  refine sr_pI (pc := 58) fg_11_249 ft_11_43 (by decide +kernel) (sr_in11 _ (by omega)) (fun _ => rfl) (fun t5 => ?_)
  refine sr_aloadn (pc := 61) (n := 0) (by decide +kernel) rfl ?_
  refine sr_dup (pc := 62) (by decide +kernel) rfl ?_
  refine sr_gI (pc := 63) fg_11_255 (by decide +kernel) (sr_in11 _ (by omega)) (fun _ => rfl) ?_
  refine sr_aloadn (pc := 66) (n := 0) (by decide +kernel) rfl ?_
  refine sr_gI (pc := 67) fg_11_186 (by decide +kernel) (sr_in11 _ (by omega)) (fun _ => rfl) ?_
  refine sr_iadd (pc := 70) (by decide +kernel) ?_
  refine sr_pI (pc := 71) fg_11_255 ft_11_45 (by decide +kernel) (sr_in11 _ (by omega)) (fun _ => rfl) (fun t6 => ?_)
  refine sr_aloadn (pc := 74) (n := 0) (by decide +kernel) rfl ?_
  refine sr_dup (pc := 75) (by decide +kernel) rfl ?_
  refine sr_gI (pc := 76) fg_11_252 (by decide +kernel) (sr_in11 _ (by omega)) (fun _ => rfl) ?_
  refine sr_aloadn (pc := 79) (n := 0) (by decide +kernel) rfl ?_
  refine sr_iloadn (pc := 80) (n := 2) (by decide +kernel) rfl ?_
  refine sr_iload (pc := 81) (i := 4) (by decide +kernel) rfl ?_
  refine sr_cV (pc := 83) (As := [sr_i a1, sr_i v1]) (mc1 := 0) (ms1 := 0) (mc2 := 0) (ms2 := 0) fm_11_225 fl_11_225 (by decide +kernel) (sr_in11 _ (by omega)) (rm_11_sampled_11_isRight) rfl rfl rfl (C11_isRight l a1 v1 t6) ?_
  refine sr_kI (fun v7 t7 => ?_)
  refine sr_if_eq (pc := 86) (off := 7) (tg := 93) (by decide +kernel) (by decide) (fun _ => ?_) (fun _ => ?_)
  · refine sr_iconst (pc := 93) (n := 1) (v := 1) (by decide +kernel) rfl ?_
    exact sr_wk (sr_mono (mc := 0) (ms := 0) (by omega) (by omega) (g11_sampled_94 l a0 a1 a2 1 (t6.1 11 0 44) t7)) ⟨rfl, ⟨rfl, ⟨rfl, ⟨rfl, trivial⟩⟩⟩⟩
  · refine sr_iconst (pc := 89) (n := 0) (v := 0) (by decide +kernel) rfl ?_
    refine sr_goto (pc := 90) (off := 4) (tg := 94) (by decide +kernel) (by decide) ?_
    exact sr_wk (sr_mono (mc := 0) (ms := 0) (by omega) (by omega) (g11_sampled_94 l a0 a1 a2 0 (t6.1 11 0 44) t7)) ⟨rfl, ⟨rfl, ⟨rfl, ⟨rfl, trivial⟩⟩⟩⟩
def f11_samples_42 (a0 : Int32) (k61 : sr_t → sr_Rs) : Nat → Int32 → sr_t → sr_Rs
  | 0 => fun _ _ => none
  | n + 1 => fun x2 t => (if 24 ≤ x2 then k61 t else (if x2 < 0 ∨ 24 ≤ x2.toNatClampNeg then none else sr_lt (sr_u t 42 0 x2.toNatClampNeg 0) (fun t1 => (f11_samples_42 a0 k61 n) (x2 + 1) t1)))
theorem g11_samples_42 (l : Launch) (a0 : Int32)  (k61 : sr_t → sr_Rs) (hk61 : ∀ (t : sr_t), sr_g l sr_m11_samples 61 [some (sr_r 11 0), some (sr_i a0), none] [] t (k61 t) 0 0) : ∀ (n : Nat) (x2 : Int32), ∀ (t : sr_t), sr_g l sr_m11_samples 42 [some (sr_r 11 0), some (sr_i a0), some (sr_i x2)] [] t (f11_samples_42 a0 k61 n x2 t) 0 0 := by
  intro n
  induction n with
  | zero => intros; exact sr_Gn
  | succ n ih =>
    intro x2  t
    unfold f11_samples_42
    refine sr_iloadn (pc := 42) (n := 2) (by decide +kernel) rfl ?_
    refine sr_bipush (pc := 43) (n := 24) (v := 24) (by decide +kernel) (by decide) ?_
    refine sr_icmp_ge (pc := 45) (off := 16) (tg := 61) (by decide +kernel) (by decide) (fun _ => ?_) (fun _ => ?_)
    · exact sr_wk (sr_mono (mc := 0) (ms := 0) (by omega) (by omega) (hk61 t)) ⟨rfl, ⟨rfl, trivial⟩⟩
    · refine sr_aloadn (pc := 48) (n := 0) (by decide +kernel) rfl ?_
      refine sr_gC (pc := 49) (i2 := 0) fg_11_74 (by decide +kernel) (sr_in11 _ (by omega)) (fun _ => rfl) ?_
      refine sr_iloadn (pc := 52) (n := 2) (by decide +kernel) rfl ?_
      refine sr_iconst (pc := 53) (n := 0) (v := 0) (by decide +kernel) rfl ?_
      refine sr_sI (pc := 54) (n := 24) rfl (by decide +kernel) (sr_in42 _ (by omega)) (fun _ _ => rfl) (fun t1 => ?_)
      refine sr_iinc (pc := 55) (i := 2) (n := 1) (w := x2 + 1) (by decide +kernel) rfl rfl (by decide) rfl rfl ?_
      refine sr_goto (pc := 58) (off := (-16)) (tg := 42) (by decide +kernel) (by decide) ?_
      exact sr_wk (sr_mono (mc := 0) (ms := 0) (by omega) (by omega) (ih (x2 + 1) t1)) ⟨rfl, ⟨rfl, ⟨rfl, trivial⟩⟩⟩
def f11_samples_63 (a0 : Int32) (k83 : sr_t → sr_Rs) : Nat → Int32 → sr_t → sr_Rs
  | 0 => fun _ _ => none
  | n + 1 => fun x2 t => (if 576 ≤ x2 then k83 t else (if x2 < 0 ∨ 576 ≤ x2.toNatClampNeg then none else sr_lt (sr_u t 36 0 x2.toNatClampNeg 0) (fun t1 => (f11_samples_63 a0 k83 n) (x2 + 1) t1)))
theorem g11_samples_63 (l : Launch) (a0 : Int32)  (k83 : sr_t → sr_Rs) (hk83 : ∀ (t : sr_t), sr_g l sr_m11_samples 83 [some (sr_r 11 0), some (sr_i a0), none] [] t (k83 t) 0 0) : ∀ (n : Nat) (x2 : Int32), ∀ (t : sr_t), sr_g l sr_m11_samples 63 [some (sr_r 11 0), some (sr_i a0), some (sr_i x2)] [] t (f11_samples_63 a0 k83 n x2 t) 0 0 := by
  intro n
  induction n with
  | zero => intros; exact sr_Gn
  | succ n ih =>
    intro x2  t
    unfold f11_samples_63
    refine sr_iloadn (pc := 63) (n := 2) (by decide +kernel) rfl ?_
    refine sr_sipush (pc := 64) (n := 576) (v := 576) (by decide +kernel) (by decide) ?_
    refine sr_icmp_ge (pc := 67) (off := 16) (tg := 83) (by decide +kernel) (by decide) (fun _ => ?_) (fun _ => ?_)
    · exact sr_wk (sr_mono (mc := 0) (ms := 0) (by omega) (by omega) (hk83 t)) ⟨rfl, ⟨rfl, trivial⟩⟩
    · refine sr_aloadn (pc := 70) (n := 0) (by decide +kernel) rfl ?_
      refine sr_gC (pc := 71) (i2 := 0) fg_11_56 (by decide +kernel) (sr_in11 _ (by omega)) (fun _ => rfl) ?_
      refine sr_iloadn (pc := 74) (n := 2) (by decide +kernel) rfl ?_
      refine sr_iconst (pc := 75) (n := 0) (v := 0) (by decide +kernel) rfl ?_
      refine sr_sI (pc := 76) (n := 576) rfl (by decide +kernel) (sr_in36 _ (by omega)) (fun _ _ => rfl) (fun t1 => ?_)
      refine sr_iinc (pc := 77) (i := 2) (n := 1) (w := x2 + 1) (by decide +kernel) rfl rfl (by decide) rfl rfl ?_
      refine sr_goto (pc := 80) (off := (-17)) (tg := 63) (by decide +kernel) (by decide) ?_
      exact sr_wk (sr_mono (mc := 0) (ms := 0) (by omega) (by omega) (ih (x2 + 1) t1)) ⟨rfl, ⟨rfl, ⟨rfl, trivial⟩⟩⟩
def f11_samples_125 (a0 : Int32) (k85 : Int32 → sr_t → sr_Rs) (k131 : sr_t → sr_Rs) : Int32 → sr_t → sr_Rs := fun x2 t => k85 (x2 + 1) t
theorem g11_samples_125 (l : Launch) (a0 : Int32)  (k85 : Int32 → sr_t → sr_Rs) (k131 : sr_t → sr_Rs) (hk85 : ∀ (x2 : Int32), ∀ (t : sr_t), sr_g l sr_m11_samples 85 [some (sr_r 11 0), some (sr_i a0), some (sr_i x2)] [] t (k85 x2 t) 0 0) (hk131 : ∀ (t : sr_t), sr_g l sr_m11_samples 131 [some (sr_r 11 0), some (sr_i a0), none] [] t (k131 t) 0 0) : ∀ (x2 : Int32), ∀ (t : sr_t), sr_g l sr_m11_samples 125 [some (sr_r 11 0), some (sr_i a0), some (sr_i x2)] [] t (f11_samples_125 a0 k85 k131 x2 t) 0 0 := by
  intro x2  t
  unfold f11_samples_125
  refine sr_iinc (pc := 125) (i := 2) (n := 1) (w := x2 + 1) (by decide +kernel) rfl rfl (by decide) rfl rfl ?_
  refine sr_goto (pc := 128) (off := (-43)) (tg := 85) (by decide +kernel) (by decide) ?_
  exact sr_wk (sr_mono (mc := 0) (ms := 0) (by omega) (by omega) (hk85 (x2 + 1) t)) ⟨rfl, ⟨rfl, ⟨rfl, trivial⟩⟩⟩
def f11_samples_85 (a0 : Int32) (k131 : sr_t → sr_Rs) : Nat → Int32 → sr_t → sr_Rs
  | 0 => fun _ _ => none
  | n + 1 => fun x2 t => (if (64 * (t.1 11 0 1)) ≤ x2 then k131 t else (if 64 = 0 then none else (if x2 / 64 < 0 ∨ 24 ≤ (x2 / 64).toNatClampNeg then none else (if (t.1 25 0 (x2 / 64).toNatClampNeg) = 1 then (if 64 = 0 then none else (if 64 = 0 then none else (sr_bV (F11_sampled (x2 / 64) (64 * (x2 - x2 / 64 * 64)) a0 t) (fun t1 => f11_samples_125 a0 (f11_samples_85 a0 k131 n) k131 x2 t1)))) else f11_samples_125 a0 (f11_samples_85 a0 k131 n) k131 x2 t))))
theorem g11_samples_85 (l : Launch) (a0 : Int32)  (k131 : sr_t → sr_Rs) (hk131 : ∀ (t : sr_t), sr_g l sr_m11_samples 131 [some (sr_r 11 0), some (sr_i a0), none] [] t (k131 t) 0 0) : ∀ (n : Nat) (x2 : Int32), ∀ (t : sr_t), sr_g l sr_m11_samples 85 [some (sr_r 11 0), some (sr_i a0), some (sr_i x2)] [] t (f11_samples_85 a0 k131 n x2 t) 0 0 := by
  intro n
  induction n with
  | zero => intros; exact sr_Gn
  | succ n ih =>
    intro x2  t
    unfold f11_samples_85
    refine sr_iloadn (pc := 85) (n := 2) (by decide +kernel) rfl ?_
    refine sr_bipush (pc := 86) (n := 64) (v := 64) (by decide +kernel) (by decide) ?_
    refine sr_aloadn (pc := 88) (n := 0) (by decide +kernel) rfl ?_
    refine sr_gI (pc := 89) fg_11_100 (by decide +kernel) (sr_in11 _ (by omega)) (fun _ => rfl) ?_
    refine sr_imul (pc := 92) (by decide +kernel) ?_
    refine sr_icmp_ge (pc := 93) (off := 38) (tg := 131) (by decide +kernel) (by decide) (fun _ => ?_) (fun _ => ?_)
    · exact sr_wk (sr_mono (mc := 0) (ms := 0) (by omega) (by omega) (hk131 t)) ⟨rfl, ⟨rfl, trivial⟩⟩
    · refine sr_aloadn (pc := 96) (n := 0) (by decide +kernel) rfl ?_
      refine sr_gC (pc := 97) (i2 := 0) fg_11_13 (by decide +kernel) (sr_in11 _ (by omega)) (fun _ => rfl) ?_
      refine sr_iloadn (pc := 100) (n := 2) (by decide +kernel) rfl ?_
      refine sr_bipush (pc := 101) (n := 64) (v := 64) (by decide +kernel) (by decide) ?_
      refine sr_idiv (pc := 103) (by decide +kernel) (fun _ => ?_)
      refine sr_aI (pc := 104) (n := 24) rfl (by decide +kernel) (sr_in25 _ (by omega)) (fun _ _ => rfl) ?_
      refine sr_iconst (pc := 105) (n := 1) (v := 1) (by decide +kernel) rfl ?_
      refine sr_icmp_ne (pc := 106) (off := 19) (tg := 125) (by decide +kernel) (by decide) (fun _ => ?_) (fun _ => ?_)
      · exact sr_wk (sr_mono (mc := 0) (ms := 0) (by omega) (by omega) (g11_samples_125 l a0 (f11_samples_85 a0 k131 n) k131 ih hk131 x2 t)) ⟨rfl, ⟨rfl, ⟨rfl, trivial⟩⟩⟩
      · refine sr_aloadn (pc := 109) (n := 0) (by decide +kernel) rfl ?_
        refine sr_iloadn (pc := 110) (n := 2) (by decide +kernel) rfl ?_
        refine sr_bipush (pc := 111) (n := 64) (v := 64) (by decide +kernel) (by decide) ?_
        refine sr_idiv (pc := 113) (by decide +kernel) (fun _ => ?_)
        refine sr_bipush (pc := 114) (n := 64) (v := 64) (by decide +kernel) (by decide) ?_
        refine sr_iloadn (pc := 116) (n := 2) (by decide +kernel) rfl ?_
        refine sr_bipush (pc := 117) (n := 64) (v := 64) (by decide +kernel) (by decide) ?_
        refine sr_irem (pc := 119) (by decide +kernel) (fun _ => ?_)
        refine sr_imul (pc := 120) (by decide +kernel) ?_
        refine sr_iloadn (pc := 121) (n := 1) (by decide +kernel) rfl ?_
        refine sr_cV (pc := 122) (As := [sr_i (x2 / 64), sr_i (64 * (x2 - x2 / 64 * 64)), sr_i a0]) (mc1 := 0) (ms1 := 0) (mc2 := 0) (ms2 := 0) fm_11_264 fl_11_264 (by decide +kernel) (sr_in11 _ (by omega)) (rm_11_samples_11_sampled) rfl rfl rfl (C11_sampled l (x2 / 64) (64 * (x2 - x2 / 64 * 64)) a0 t) ?_
        refine sr_kV (fun t1 => ?_)
        exact sr_wk (sr_mono (mc := 0) (ms := 0) (by omega) (by omega) (g11_samples_125 l a0 (f11_samples_85 a0 k131 n) k131 ih hk131 x2 t1)) ⟨rfl, ⟨rfl, ⟨rfl, trivial⟩⟩⟩
def f11_samples_131 (a0 : Int32)  : sr_t → sr_Rs := fun  t => (some (.inl none, t))
theorem g11_samples_131 (l : Launch) (a0 : Int32)    : ∀ (t : sr_t), sr_g l sr_m11_samples 131 [some (sr_r 11 0), some (sr_i a0), none] [] t (f11_samples_131 a0   t) 0 0 := by
  intro t
  unfold f11_samples_131
  exact sr_ret (pc := 131) (by decide +kernel) rfl
def f11_samples_83 (a0 : Int32)  : sr_t → sr_Rs := fun  t => f11_samples_85 a0 (f11_samples_131 a0) sr_fu 0 t
theorem g11_samples_83 (l : Launch) (a0 : Int32)    : ∀ (t : sr_t), sr_g l sr_m11_samples 83 [some (sr_r 11 0), some (sr_i a0), none] [] t (f11_samples_83 a0   t) 0 0 := by
  intro t
  unfold f11_samples_83
  refine sr_iconst (pc := 83) (n := 0) (v := 0) (by decide +kernel) rfl ?_
  refine sr_istoren (pc := 84) (n := 2) (by decide +kernel) (by decide) rfl rfl ?_
  exact sr_wk (sr_mono (mc := 0) (ms := 0) (by omega) (by omega) (g11_samples_85 l a0 (f11_samples_131 a0) (g11_samples_131 l a0) sr_fu 0 t)) ⟨rfl, ⟨rfl, ⟨rfl, trivial⟩⟩⟩
def f11_samples_61 (a0 : Int32)  : sr_t → sr_Rs := fun  t => f11_samples_63 a0 (f11_samples_83 a0) sr_fu 0 t
theorem g11_samples_61 (l : Launch) (a0 : Int32)    : ∀ (t : sr_t), sr_g l sr_m11_samples 61 [some (sr_r 11 0), some (sr_i a0), none] [] t (f11_samples_61 a0   t) 0 0 := by
  intro t
  unfold f11_samples_61
  refine sr_iconst (pc := 61) (n := 0) (v := 0) (by decide +kernel) rfl ?_
  refine sr_istoren (pc := 62) (n := 2) (by decide +kernel) (by decide) rfl rfl ?_
  exact sr_wk (sr_mono (mc := 0) (ms := 0) (by omega) (by omega) (g11_samples_63 l a0 (f11_samples_83 a0) (g11_samples_83 l a0) sr_fu 0 t)) ⟨rfl, ⟨rfl, ⟨rfl, trivial⟩⟩⟩
def F11_samples (a0 : Int32) (t : sr_t) : sr_Rs := (sr_lt (sr_u t 11 0 40 0) (fun t1 => (sr_lt (sr_u t1 11 0 41 0) (fun t2 => (sr_lt (sr_u t2 11 0 42 0) (fun t3 => (sr_lt (sr_u t3 11 0 43 0) (fun t4 => (sr_lt (sr_u t4 11 0 44 0) (fun t5 => (sr_lt (sr_u t5 11 0 45 0) (fun t6 => (sr_lt (sr_u t6 11 0 46 0) (fun t7 => (sr_lt (sr_u t7 11 0 47 0) (fun t8 => f11_samples_42 a0 (f11_samples_61 a0) sr_fu 0 t8))))))))))))))))
theorem C11_samples (l : Launch) (a0 : Int32)  (t : sr_t) : sr_ct' l sr_m11_samples [sr_r 11 0, sr_i a0] t (F11_samples a0 t) 0 0 := by
  refine sr_T_of (L0 := [some (sr_r 11 0), some (sr_i a0), none]) rfl (by decide +kernel) (fun _ => rfl) (fun _ => Nat.le_of_ble_eq_true rfl) ?_
  unfold F11_samples
  refine sr_aloadn (pc := 0) (n := 0) (by decide +kernel) rfl ?_
  refine sr_iconst (pc := 1) (n := 0) (v := 0) (by decide +kernel) rfl ?_
  refine sr_pI (pc := 2) fg_11_240 ft_11_40 (by decide +kernel) (sr_in11 _ (by omega)) (fun _ => rfl) (fun t1 => ?_)
  refine sr_aloadn (pc := 5) (n := 0) (by decide +kernel) rfl ?_
  refine sr_iconst (pc := 6) (n := 0) (v := 0) (by decide +kernel) rfl ?_
  refine sr_pI (pc := 7) fg_11_243 ft_11_41 (by decide +kernel) (sr_in11 _ (by omega)) (fun _ => rfl) (fun t2 => ?_)
  refine sr_aloadn (pc := 10) (n := 0) (by decide +kernel) rfl ?_
  refine sr_iconst (pc := 11) (n := 0) (v := 0) (by decide +kernel) rfl ?_
  refine sr_pI (pc := 12) fg_11_246 ft_11_42 (by decide +kernel) (sr_in11 _ (by omega)) (fun _ => rfl) (fun t3 => ?_)
  refine sr_aloadn (pc := 15) (n := 0) (by decide +kernel) rfl ?_
  refine sr_iconst (pc := 16) (n := 0) (v := 0) (by decide +kernel) rfl ?_
  refine sr_pI (pc := 17) fg_11_249 ft_11_43 (by decide +kernel) (sr_in11 _ (by omega)) (fun _ => rfl) (fun t4 => ?_)
  refine sr_aloadn (pc := 20) (n := 0) (by decide +kernel) rfl ?_
  refine sr_iconst (pc := 21) (n := 0) (v := 0) (by decide +kernel) rfl ?_
  refine sr_pI (pc := 22) fg_11_252 ft_11_44 (by decide +kernel) (sr_in11 _ (by omega)) (fun _ => rfl) (fun t5 => ?_)
  refine sr_aloadn (pc := 25) (n := 0) (by decide +kernel) rfl ?_
  refine sr_iconst (pc := 26) (n := 0) (v := 0) (by decide +kernel) rfl ?_
  refine sr_pI (pc := 27) fg_11_255 ft_11_45 (by decide +kernel) (sr_in11 _ (by omega)) (fun _ => rfl) (fun t6 => ?_)
  refine sr_aloadn (pc := 30) (n := 0) (by decide +kernel) rfl ?_
  refine sr_iconst (pc := 31) (n := 0) (v := 0) (by decide +kernel) rfl ?_
  refine sr_pI (pc := 32) fg_11_258 ft_11_46 (by decide +kernel) (sr_in11 _ (by omega)) (fun _ => rfl) (fun t7 => ?_)
  refine sr_aloadn (pc := 35) (n := 0) (by decide +kernel) rfl ?_
  refine sr_iconst (pc := 36) (n := 0) (v := 0) (by decide +kernel) rfl ?_
  refine sr_pI (pc := 37) fg_11_261 ft_11_47 (by decide +kernel) (sr_in11 _ (by omega)) (fun _ => rfl) (fun t8 => ?_)
  refine sr_iconst (pc := 40) (n := 0) (v := 0) (by decide +kernel) rfl ?_
  refine sr_istoren (pc := 41) (n := 2) (by decide +kernel) (by decide) rfl rfl ?_
  exact sr_wk (sr_mono (mc := 0) (ms := 0) (by omega) (by omega) (g11_samples_42 l a0 (f11_samples_61 a0) (g11_samples_61 l a0) sr_fu 0 t8)) ⟨rfl, ⟨rfl, ⟨rfl, trivial⟩⟩⟩
def f11_sample_16 (a0 : Int32) (a1 : Int32)  : Int32 → sr_t → sr_Rs := fun xs0 t => (sr_lt (sr_u t 11 0 0 xs0) (fun t1 => (if (t1.1 11 0 0) ≤ 0 then (sr_bV (F11_samples a0 t1) (fun t2 => (sr_sw 0 6 a1 ((some (.inl (some (sr_i (t2.1 11 0 47))), t2))) (fun j => match j with | 0 => (some (.inl (some (sr_i (t2.1 11 0 40))), t2)) | 1 => (some (.inl (some (sr_i (t2.1 11 0 41))), t2)) | 2 => (some (.inl (some (sr_i (t2.1 11 0 42))), t2)) | 3 => (some (.inl (some (sr_i (t2.1 11 0 43))), t2)) | 4 => (some (.inl (some (sr_i (t2.1 11 0 44))), t2)) | 5 => (some (.inl (some (sr_i (t2.1 11 0 46))), t2)) | 6 => (some (.inl (some (sr_i (t2.1 11 0 45))), t2)) | _ => none)))) else (some (.inl (some (sr_i 0)), t1)))))
theorem g11_sample_16 (l : Launch) (a0 : Int32) (a1 : Int32)    : ∀ (xs0 : Int32), ∀ (t : sr_t), sr_g l sr_m11_sample 16 [some (sr_r 11 0), some (sr_i a0), some (sr_i a1)] [sr_i xs0, sr_r 11 0] t (f11_sample_16 a0 a1  xs0 t) 0 0 := by
  intro xs0  t
  unfold f11_sample_16
  refine sr_pI (pc := 16) fg_11_93 ft_11_0 (by decide +kernel) (sr_in11 _ (by omega)) (fun _ => rfl) (fun t1 => ?_)
  refine sr_aloadn (pc := 19) (n := 0) (by decide +kernel) rfl ?_
  refine sr_gI (pc := 20) fg_11_93 (by decide +kernel) (sr_in11 _ (by omega)) (fun _ => rfl) ?_
  refine sr_if_le (pc := 23) (off := 5) (tg := 28) (by decide +kernel) (by decide) (fun _ => ?_) (fun _ => ?_)
  · refine sr_aloadn (pc := 28) (n := 0) (by decide +kernel) rfl ?_
    refine sr_iloadn (pc := 29) (n := 1) (by decide +kernel) rfl ?_
    refine sr_cV (pc := 30) (As := [sr_i a0]) (mc1 := 0) (ms1 := 0) (mc2 := 0) (ms2 := 0) fm_11_268 fl_11_268 (by decide +kernel) (sr_in11 _ (by omega)) (rm_11_sample_11_samples) rfl rfl rfl (C11_samples l a0 t1) ?_
    refine sr_kV (fun t2 => ?_)
    refine sr_iloadn (pc := 33) (n := 2) (by decide +kernel) rfl ?_
    refine sr_tsw2 (pc := 34) (u := a1) (dflt := 77) (lo := 0) (hi := 6) (offs := #[42, 47, 52, 57, 62, 67, 72]) (len := 42) (tg := 111) (by decide +kernel) (by decide) (by decide) (fun _ => ?_) (fun j off ho _ => ?_)
    · refine sr_aloadn (pc := 111) (n := 0) (by decide +kernel) rfl ?_
      refine sr_gI (pc := 112) fg_11_261 (by decide +kernel) (sr_in11 _ (by omega)) (fun _ => rfl) ?_
      exact sr_iret (pc := 115) (by decide +kernel) rfl
    · rcases j with _ | _ | _ | _ | _ | _ | _ | j
      · cases ho
        refine ⟨76, by decide, ?_⟩
        refine sr_aloadn (pc := 76) (n := 0) (by decide +kernel) rfl ?_
        refine sr_gI (pc := 77) fg_11_240 (by decide +kernel) (sr_in11 _ (by omega)) (fun _ => rfl) ?_
        exact sr_iret (pc := 80) (by decide +kernel) rfl
      · cases ho
        refine ⟨81, by decide, ?_⟩
        refine sr_aloadn (pc := 81) (n := 0) (by decide +kernel) rfl ?_
        refine sr_gI (pc := 82) fg_11_243 (by decide +kernel) (sr_in11 _ (by omega)) (fun _ => rfl) ?_
        exact sr_iret (pc := 85) (by decide +kernel) rfl
      · cases ho
        refine ⟨86, by decide, ?_⟩
        refine sr_aloadn (pc := 86) (n := 0) (by decide +kernel) rfl ?_
        refine sr_gI (pc := 87) fg_11_246 (by decide +kernel) (sr_in11 _ (by omega)) (fun _ => rfl) ?_
        exact sr_iret (pc := 90) (by decide +kernel) rfl
      · cases ho
        refine ⟨91, by decide, ?_⟩
        refine sr_aloadn (pc := 91) (n := 0) (by decide +kernel) rfl ?_
        refine sr_gI (pc := 92) fg_11_249 (by decide +kernel) (sr_in11 _ (by omega)) (fun _ => rfl) ?_
        exact sr_iret (pc := 95) (by decide +kernel) rfl
      · cases ho
        refine ⟨96, by decide, ?_⟩
        refine sr_aloadn (pc := 96) (n := 0) (by decide +kernel) rfl ?_
        refine sr_gI (pc := 97) fg_11_252 (by decide +kernel) (sr_in11 _ (by omega)) (fun _ => rfl) ?_
        exact sr_iret (pc := 100) (by decide +kernel) rfl
      · cases ho
        refine ⟨101, by decide, ?_⟩
        refine sr_aloadn (pc := 101) (n := 0) (by decide +kernel) rfl ?_
        refine sr_gI (pc := 102) fg_11_258 (by decide +kernel) (sr_in11 _ (by omega)) (fun _ => rfl) ?_
        exact sr_iret (pc := 105) (by decide +kernel) rfl
      · cases ho
        refine ⟨106, by decide, ?_⟩
        refine sr_aloadn (pc := 106) (n := 0) (by decide +kernel) rfl ?_
        refine sr_gI (pc := 107) fg_11_255 (by decide +kernel) (sr_in11 _ (by omega)) (fun _ => rfl) ?_
        exact sr_iret (pc := 110) (by decide +kernel) rfl
      · simp at ho
  · refine sr_iconst (pc := 26) (n := 0) (v := 0) (by decide +kernel) rfl ?_
    exact sr_iret (pc := 27) (by decide +kernel) rfl
def F11_sample (a0 : Int32) (a1 : Int32) (t : sr_t) : sr_Rs := (sr_bI (F11_isIn a1 0 7 t) (fun v1 t1 => (if v1 = 0 then f11_sample_16 a0 a1 1 t1 else f11_sample_16 a0 a1 0 t1)))
theorem C11_sample (l : Launch) (a0 : Int32) (a1 : Int32)  (t : sr_t) : sr_ct' l sr_m11_sample [sr_r 11 0, sr_i a0, sr_i a1] t (F11_sample a0 a1 t) 0 0 := by
  refine sr_T_of (L0 := [some (sr_r 11 0), some (sr_i a0), some (sr_i a1)]) rfl (by decide +kernel) (fun _ => rfl) (fun _ => Nat.le_of_ble_eq_true rfl) ?_
  unfold F11_sample
  refine sr_aloadn (pc := 0) (n := 0) (by decide +kernel) rfl ?_
  refine sr_iloadn (pc := 1) (n := 2) (by decide +kernel) rfl ?_
  refine sr_iconst (pc := 2) (n := 0) (v := 0) (by decide +kernel) rfl ?_
  refine sr_bipush (pc := 3) (n := 7) (v := 7) (by decide +kernel) (by decide) ?_
  refine sr_cS (pc := 5) (As := [sr_i a1, sr_i 0, sr_i 7]) (mc1 := 0) (ms1 := 0) (mc2 := 0) (ms2 := 0) fm_11_96 fl_11_96 (by decide +kernel) (rm_11_sample_11_isIn) rfl rfl rfl (C11_isIn l a1 0 7 t) ?_
  refine sr_kI (fun v1 t1 => ?_)
  refine sr_if_eq (pc := 8) (off := 7) (tg := 15) (by decide +kernel) (by decide) (fun _ => ?_) (fun _ => ?_)
  · refine sr_iconst (pc := 15) (n := 1) (v := 1) (by decide +kernel) rfl ?_
    exact sr_wk (sr_mono (mc := 0) (ms := 0) (by omega) (by omega) (g11_sample_16 l a0 a1 1 t1)) ⟨rfl, ⟨rfl, ⟨rfl, trivial⟩⟩⟩
  · refine sr_iconst (pc := 11) (n := 0) (v := 0) (by decide +kernel) rfl ?_
    refine sr_goto (pc := 12) (off := 4) (tg := 16) (by decide +kernel) (by decide) ?_
    exact sr_wk (sr_mono (mc := 0) (ms := 0) (by omega) (by omega) (g11_sample_16 l a0 a1 0 t1)) ⟨rfl, ⟨rfl, ⟨rfl, trivial⟩⟩⟩
def sr_m11_putsAside : sr_M := (⟨"ShiftRingModel", "putsAside", "()V"⟩, prog_13_method_17_code, 2, none, [], 0, 0)
def sr_m11_putsBack : sr_M := (⟨"ShiftRingModel", "putsBack", "()V"⟩, prog_13_method_18_code, 2, none, [], 0, 0)
def sr_m11_samplesBy : sr_M := (⟨"ShiftRingModel", "samplesBy", "(II)V"⟩, prog_13_method_56_code, 5, none, [], 8, 191)
def sr_m11_cost : sr_M := (⟨"ShiftRingModel", "cost", "(II)I"⟩, prog_13_method_57_code, 3, (some .int), [], 9, 215)
theorem fg_11_22 : sr_FG "ShiftRingModel" 22 11 6 53 := ⟨RX11, TX11, tyX11, rfl, by decide, rfl, uw_11, tyX11_ok, nmX11, Or.inl (sr_tb (n := 1391) (by decide +kernel) rfl)⟩
theorem fl_11_272 : Cond.methodLink "ShiftRingModel" 272 (sr_My sr_m11_putsAside) ∈ sr_TB := (sr_tb (n := 1755) (by decide +kernel) rfl)
theorem fm_11_272 : sr_FV "ShiftRingModel" 272 sr_m11_putsAside 11 0 := ⟨⟨rfl, sr_tb (n := 1758) (by decide +kernel) rfl, sr_tb (n := 12) (by decide +kernel) rfl, ⟨by decide, by decide, by decide +kernel⟩, Or.inl fl_11_272⟩, ⟨TX11, 53, rfl, rfl⟩, sr_tb (n := 1757) (by decide +kernel) rfl, sr_ts (n := 70) (by decide +kernel) rfl⟩
theorem fl_11_275 : Cond.methodLink "ShiftRingModel" 275 (sr_My sr_m11_putsBack) ∈ sr_TB := (sr_tb (n := 1759) (by decide +kernel) rfl)
theorem fm_11_275 : sr_FV "ShiftRingModel" 275 sr_m11_putsBack 11 0 := ⟨⟨rfl, sr_tb (n := 1762) (by decide +kernel) rfl, sr_tb (n := 12) (by decide +kernel) rfl, ⟨by decide, by decide, by decide +kernel⟩, Or.inl fl_11_275⟩, ⟨TX11, 53, rfl, rfl⟩, sr_tb (n := 1761) (by decide +kernel) rfl, sr_ts (n := 71) (by decide +kernel) rfl⟩
theorem fl_11_278 : Cond.methodLink "ShiftRingModel" 278 (sr_My sr_m11_samplesBy) ∈ sr_TB := (sr_tb (n := 1751) (by decide +kernel) rfl)
theorem fm_11_278 : sr_FV "ShiftRingModel" 278 sr_m11_samplesBy 11 2 := ⟨⟨rfl, sr_tb (n := 1754) (by decide +kernel) rfl, sr_tb (n := 12) (by decide +kernel) rfl, ⟨by decide, by decide, by decide +kernel⟩, Or.inl fl_11_278⟩, ⟨TX11, 53, rfl, rfl⟩, sr_tb (n := 1753) (by decide +kernel) rfl, sr_ts (n := 69) (by decide +kernel) rfl⟩
theorem rm_11_cost_11_isBase : sr_RM sr_m11_cost sr_m11_isBase := ⟨Nat.le_of_ble_eq_true rfl, Nat.le_of_ble_eq_true rfl⟩
theorem rm_11_cost_11_isIn : sr_RM sr_m11_cost sr_m11_isIn := ⟨Nat.le_of_ble_eq_true rfl, Nat.le_of_ble_eq_true rfl⟩
theorem rm_11_cost_11_samplesBy : sr_RM sr_m11_cost sr_m11_samplesBy := ⟨Nat.le_of_ble_eq_true rfl, Nat.le_of_ble_eq_true rfl⟩
theorem rm_11_samplesBy_11_lays : sr_RM sr_m11_samplesBy sr_m11_lays := ⟨Nat.le_of_ble_eq_true rfl, Nat.le_of_ble_eq_true rfl⟩
theorem rm_11_samplesBy_11_putsAside : sr_RM sr_m11_samplesBy sr_m11_putsAside := ⟨Nat.le_of_ble_eq_true rfl, Nat.le_of_ble_eq_true rfl⟩
theorem rm_11_samplesBy_11_putsBack : sr_RM sr_m11_samplesBy sr_m11_putsBack := ⟨Nat.le_of_ble_eq_true rfl, Nat.le_of_ble_eq_true rfl⟩
theorem rm_11_samplesBy_11_samples : sr_RM sr_m11_samplesBy sr_m11_samples := ⟨Nat.le_of_ble_eq_true rfl, Nat.le_of_ble_eq_true rfl⟩
def f11_putsAside_2  (k27 : sr_t → sr_Rs) : Nat → Int32 → sr_t → sr_Rs
  | 0 => fun _ _ => none
  | n + 1 => fun x1 t => (if 336 ≤ x1 then k27 t else (if x1 < 0 ∨ 336 ≤ x1.toNatClampNeg then none else (if x1 < 0 ∨ 336 ≤ x1.toNatClampNeg then none else sr_lt (sr_u t 28 0 x1.toNatClampNeg (t.1 27 0 x1.toNatClampNeg)) (fun t1 => (f11_putsAside_2 k27 n) (x1 + 1) t1))))
theorem g11_putsAside_2 (l : Launch)   (k27 : sr_t → sr_Rs) (hk27 : ∀ (t : sr_t), sr_g l sr_m11_putsAside 27 [some (sr_r 11 0), none] [] t (k27 t) 0 0) : ∀ (n : Nat) (x1 : Int32), ∀ (t : sr_t), sr_g l sr_m11_putsAside 2 [some (sr_r 11 0), some (sr_i x1)] [] t (f11_putsAside_2  k27 n x1 t) 0 0 := by
  intro n
  induction n with
  | zero => intros; exact sr_Gn
  | succ n ih =>
    intro x1  t
    unfold f11_putsAside_2
    refine sr_iloadn (pc := 2) (n := 1) (by decide +kernel) rfl ?_
    refine sr_sipush (pc := 3) (n := 336) (v := 336) (by decide +kernel) (by decide) ?_
    refine sr_icmp_ge (pc := 6) (off := 21) (tg := 27) (by decide +kernel) (by decide) (fun _ => ?_) (fun _ => ?_)
    · exact sr_wk (sr_mono (mc := 0) (ms := 0) (by omega) (by omega) (hk27 t)) ⟨rfl, trivial⟩
    · refine sr_aloadn (pc := 9) (n := 0) (by decide +kernel) rfl ?_
      refine sr_gC (pc := 10) (i2 := 0) fg_11_22 (by decide +kernel) (sr_in11 _ (by omega)) (fun _ => rfl) ?_
      refine sr_iloadn (pc := 13) (n := 1) (by decide +kernel) rfl ?_
      refine sr_aloadn (pc := 14) (n := 0) (by decide +kernel) rfl ?_
      refine sr_gC (pc := 15) (i2 := 0) fg_11_19 (by decide +kernel) (sr_in11 _ (by omega)) (fun _ => rfl) ?_
      refine sr_iloadn (pc := 18) (n := 1) (by decide +kernel) rfl ?_
      refine sr_aI (pc := 19) (n := 336) rfl (by decide +kernel) (sr_in27 _ (by omega)) (fun _ _ => rfl) ?_
      refine sr_sI (pc := 20) (n := 336) rfl (by decide +kernel) (sr_in28 _ (by omega)) (fun _ _ => rfl) (fun t1 => ?_)
      refine sr_iinc (pc := 21) (i := 1) (n := 1) (w := x1 + 1) (by decide +kernel) rfl rfl (by decide) rfl rfl ?_
      refine sr_goto (pc := 24) (off := (-22)) (tg := 2) (by decide +kernel) (by decide) ?_
      exact sr_wk (sr_mono (mc := 0) (ms := 0) (by omega) (by omega) (ih (x1 + 1) t1)) ⟨rfl, ⟨rfl, trivial⟩⟩
def f11_putsAside_27   : sr_t → sr_Rs := fun  t => (some (.inl none, t))
theorem g11_putsAside_27 (l : Launch)     : ∀ (t : sr_t), sr_g l sr_m11_putsAside 27 [some (sr_r 11 0), none] [] t (f11_putsAside_27    t) 0 0 := by
  intro t
  unfold f11_putsAside_27
  exact sr_ret (pc := 27) (by decide +kernel) rfl
def F11_putsAside  (t : sr_t) : sr_Rs := f11_putsAside_2 f11_putsAside_27 sr_fu 0 t
theorem C11_putsAside (l : Launch)   (t : sr_t) : sr_ct' l sr_m11_putsAside [sr_r 11 0] t (F11_putsAside  t) 0 0 := by
  refine sr_T_of (L0 := [some (sr_r 11 0), none]) rfl (by decide +kernel) (fun _ => rfl) (fun _ => Nat.le_of_ble_eq_true rfl) ?_
  unfold F11_putsAside
  refine sr_iconst (pc := 0) (n := 0) (v := 0) (by decide +kernel) rfl ?_
  refine sr_istoren (pc := 1) (n := 1) (by decide +kernel) (by decide) rfl rfl ?_
  exact sr_wk (sr_mono (mc := 0) (ms := 0) (by omega) (by omega) (g11_putsAside_2 l f11_putsAside_27 (g11_putsAside_27 l) sr_fu 0 t)) ⟨rfl, ⟨rfl, trivial⟩⟩
def f11_putsBack_2  (k27 : sr_t → sr_Rs) : Nat → Int32 → sr_t → sr_Rs
  | 0 => fun _ _ => none
  | n + 1 => fun x1 t => (if 336 ≤ x1 then k27 t else (if x1 < 0 ∨ 336 ≤ x1.toNatClampNeg then none else (if x1 < 0 ∨ 336 ≤ x1.toNatClampNeg then none else sr_lt (sr_u t 27 0 x1.toNatClampNeg (t.1 28 0 x1.toNatClampNeg)) (fun t1 => (f11_putsBack_2 k27 n) (x1 + 1) t1))))
theorem g11_putsBack_2 (l : Launch)   (k27 : sr_t → sr_Rs) (hk27 : ∀ (t : sr_t), sr_g l sr_m11_putsBack 27 [some (sr_r 11 0), none] [] t (k27 t) 0 0) : ∀ (n : Nat) (x1 : Int32), ∀ (t : sr_t), sr_g l sr_m11_putsBack 2 [some (sr_r 11 0), some (sr_i x1)] [] t (f11_putsBack_2  k27 n x1 t) 0 0 := by
  intro n
  induction n with
  | zero => intros; exact sr_Gn
  | succ n ih =>
    intro x1  t
    unfold f11_putsBack_2
    refine sr_iloadn (pc := 2) (n := 1) (by decide +kernel) rfl ?_
    refine sr_sipush (pc := 3) (n := 336) (v := 336) (by decide +kernel) (by decide) ?_
    refine sr_icmp_ge (pc := 6) (off := 21) (tg := 27) (by decide +kernel) (by decide) (fun _ => ?_) (fun _ => ?_)
    · exact sr_wk (sr_mono (mc := 0) (ms := 0) (by omega) (by omega) (hk27 t)) ⟨rfl, trivial⟩
    · refine sr_aloadn (pc := 9) (n := 0) (by decide +kernel) rfl ?_
      refine sr_gC (pc := 10) (i2 := 0) fg_11_19 (by decide +kernel) (sr_in11 _ (by omega)) (fun _ => rfl) ?_
      refine sr_iloadn (pc := 13) (n := 1) (by decide +kernel) rfl ?_
      refine sr_aloadn (pc := 14) (n := 0) (by decide +kernel) rfl ?_
      refine sr_gC (pc := 15) (i2 := 0) fg_11_22 (by decide +kernel) (sr_in11 _ (by omega)) (fun _ => rfl) ?_
      refine sr_iloadn (pc := 18) (n := 1) (by decide +kernel) rfl ?_
      refine sr_aI (pc := 19) (n := 336) rfl (by decide +kernel) (sr_in28 _ (by omega)) (fun _ _ => rfl) ?_
      refine sr_sI (pc := 20) (n := 336) rfl (by decide +kernel) (sr_in27 _ (by omega)) (fun _ _ => rfl) (fun t1 => ?_)
      refine sr_iinc (pc := 21) (i := 1) (n := 1) (w := x1 + 1) (by decide +kernel) rfl rfl (by decide) rfl rfl ?_
      refine sr_goto (pc := 24) (off := (-22)) (tg := 2) (by decide +kernel) (by decide) ?_
      exact sr_wk (sr_mono (mc := 0) (ms := 0) (by omega) (by omega) (ih (x1 + 1) t1)) ⟨rfl, ⟨rfl, trivial⟩⟩
def f11_putsBack_27   : sr_t → sr_Rs := fun  t => (some (.inl none, t))
theorem g11_putsBack_27 (l : Launch)     : ∀ (t : sr_t), sr_g l sr_m11_putsBack 27 [some (sr_r 11 0), none] [] t (f11_putsBack_27    t) 0 0 := by
  intro t
  unfold f11_putsBack_27
  exact sr_ret (pc := 27) (by decide +kernel) rfl
def F11_putsBack  (t : sr_t) : sr_Rs := f11_putsBack_2 f11_putsBack_27 sr_fu 0 t
theorem C11_putsBack (l : Launch)   (t : sr_t) : sr_ct' l sr_m11_putsBack [sr_r 11 0] t (F11_putsBack  t) 0 0 := by
  refine sr_T_of (L0 := [some (sr_r 11 0), none]) rfl (by decide +kernel) (fun _ => rfl) (fun _ => Nat.le_of_ble_eq_true rfl) ?_
  unfold F11_putsBack
  refine sr_iconst (pc := 0) (n := 0) (v := 0) (by decide +kernel) rfl ?_
  refine sr_istoren (pc := 1) (n := 1) (by decide +kernel) (by decide) rfl rfl ?_
  exact sr_wk (sr_mono (mc := 0) (ms := 0) (by omega) (by omega) (g11_putsBack_2 l f11_putsBack_27 (g11_putsBack_27 l) sr_fu 0 t)) ⟨rfl, ⟨rfl, trivial⟩⟩
def f11_samplesBy_54 (a0 : Int32) (a1 : Int32) (k17 : Int32 → Int32 → sr_t → sr_Rs) (k60 : Int32 → sr_t → sr_Rs) : Int32 → Int32 → sr_t → sr_Rs := fun x3 x4 t => k17 x3 (x4 + 1) t
theorem g11_samplesBy_54 (l : Launch) (a0 : Int32) (a1 : Int32)  (k17 : Int32 → Int32 → sr_t → sr_Rs) (k60 : Int32 → sr_t → sr_Rs) (hk17 : ∀ (x3 : Int32) (x4 : Int32), ∀ (t : sr_t), sr_g l sr_m11_samplesBy 17 [some (sr_r 11 0), some (sr_i a0), some (sr_i a1), some (sr_i x3), some (sr_i x4)] [] t (k17 x3 x4 t) 0 0) (hk60 : ∀ (x3 : Int32), ∀ (t : sr_t), sr_g l sr_m11_samplesBy 60 [some (sr_r 11 0), some (sr_i a0), some (sr_i a1), some (sr_i x3), none] [] t (k60 x3 t) 0 0) : ∀ (x3 : Int32) (x4 : Int32), ∀ (t : sr_t), sr_g l sr_m11_samplesBy 54 [some (sr_r 11 0), some (sr_i a0), some (sr_i a1), some (sr_i x3), some (sr_i x4)] [] t (f11_samplesBy_54 a0 a1 k17 k60 x3 x4 t) 0 0 := by
  intro x3 x4  t
  unfold f11_samplesBy_54
  refine sr_iinc (pc := 54) (i := 4) (n := 1) (w := x4 + 1) (by decide +kernel) rfl rfl (by decide) rfl rfl ?_
  refine sr_goto (pc := 57) (off := (-40)) (tg := 17) (by decide +kernel) (by decide) ?_
  exact sr_wk (sr_mono (mc := 0) (ms := 0) (by omega) (by omega) (hk17 x3 (x4 + 1) t)) ⟨rfl, ⟨rfl, ⟨rfl, ⟨rfl, ⟨rfl, trivial⟩⟩⟩⟩⟩
def f11_samplesBy_17 (a0 : Int32) (a1 : Int32) (k60 : Int32 → sr_t → sr_Rs) : Nat → Int32 → Int32 → sr_t → sr_Rs
  | 0 => fun _ _ _ => none
  | n + 1 => fun x3 x4 t => (if (t.1 11 0 1) ≤ x4 then k60 x3 t else (if x4 < 0 ∨ 24 ≤ x4.toNatClampNeg then none else (if (t.1 25 0 x4.toNatClampNeg) = 1 then (sr_bV (F11_lays_27 x4 a0 a1 (14 * x4) t) (fun t1 => f11_samplesBy_54 a0 a1 (f11_samplesBy_17 a0 a1 k60 n) k60 x3 x4 t1)) else f11_samplesBy_54 a0 a1 (f11_samplesBy_17 a0 a1 k60 n) k60 x3 x4 t)))
theorem g11_samplesBy_17 (l : Launch) (a0 : Int32) (a1 : Int32)  (k60 : Int32 → sr_t → sr_Rs) (hk60 : ∀ (x3 : Int32), ∀ (t : sr_t), sr_g l sr_m11_samplesBy 60 [some (sr_r 11 0), some (sr_i a0), some (sr_i a1), some (sr_i x3), none] [] t (k60 x3 t) 0 0) : ∀ (n : Nat) (x3 : Int32) (x4 : Int32), ∀ (t : sr_t), sr_g l sr_m11_samplesBy 17 [some (sr_r 11 0), some (sr_i a0), some (sr_i a1), some (sr_i x3), some (sr_i x4)] [] t (f11_samplesBy_17 a0 a1 k60 n x3 x4 t) 0 0 := by
  intro n
  induction n with
  | zero => intros; exact sr_Gn
  | succ n ih =>
    intro x3 x4  t
    unfold f11_samplesBy_17
    refine sr_iload (pc := 17) (i := 4) (by decide +kernel) rfl ?_
    refine sr_aloadn (pc := 19) (n := 0) (by decide +kernel) rfl ?_
    refine sr_gI (pc := 20) fg_11_100 (by decide +kernel) (sr_in11 _ (by omega)) (fun _ => rfl) ?_
    refine sr_icmp_ge (pc := 23) (off := 37) (tg := 60) (by decide +kernel) (by decide) (fun _ => ?_) (fun _ => ?_)
    · exact sr_wk (sr_mono (mc := 0) (ms := 0) (by omega) (by omega) (hk60 x3 t)) ⟨rfl, ⟨rfl, ⟨rfl, ⟨rfl, trivial⟩⟩⟩⟩
    · refine sr_aloadn (pc := 26) (n := 0) (by decide +kernel) rfl ?_
      refine sr_gC (pc := 27) (i2 := 0) fg_11_13 (by decide +kernel) (sr_in11 _ (by omega)) (fun _ => rfl) ?_
      refine sr_iload (pc := 30) (i := 4) (by decide +kernel) rfl ?_
      refine sr_aI (pc := 32) (n := 24) rfl (by decide +kernel) (sr_in25 _ (by omega)) (fun _ _ => rfl) ?_
      refine sr_iconst (pc := 33) (n := 1) (v := 1) (by decide +kernel) rfl ?_
      refine sr_icmp_ne (pc := 34) (off := 20) (tg := 54) (by decide +kernel) (by decide) (fun _ => ?_) (fun _ => ?_)
      · exact sr_wk (sr_mono (mc := 0) (ms := 0) (by omega) (by omega) (g11_samplesBy_54 l a0 a1 (f11_samplesBy_17 a0 a1 k60 n) k60 ih hk60 x3 x4 t)) ⟨rfl, ⟨rfl, ⟨rfl, ⟨rfl, ⟨rfl, trivial⟩⟩⟩⟩⟩
      · refine sr_aloadn (pc := 37) (n := 0) (by decide +kernel) rfl ?_
        refine sr_iload (pc := 38) (i := 4) (by decide +kernel) rfl ?_
        refine sr_iloadn (pc := 40) (n := 1) (by decide +kernel) rfl ?_
        refine sr_iloadn (pc := 41) (n := 2) (by decide +kernel) rfl ?_
        refine sr_aloadn (pc := 42) (n := 0) (by decide +kernel) rfl ?_
        refine sr_gC (pc := 43) (i2 := 0) fg_11_19 (by decide +kernel) (sr_in11 _ (by omega)) (fun _ => rfl) ?_
        refine sr_bipush (pc := 46) (n := 14) (v := 14) (by decide +kernel) (by decide) ?_
        refine sr_iload (pc := 48) (i := 4) (by decide +kernel) rfl ?_
        refine sr_imul (pc := 50) (by decide +kernel) ?_
        refine sr_cV (pc := 51) (As := [sr_i x4, sr_i a0, sr_i a1, sr_r 27 0, sr_i (14 * x4)]) (mc1 := 0) (ms1 := 0) (mc2 := 0) (ms2 := 0) fm_11_119 fl_11_119 (by decide +kernel) (sr_in11 _ (by omega)) (rm_11_samplesBy_11_lays) rfl rfl rfl (C11_lays_27 l x4 a0 a1 (14 * x4) t) ?_
        refine sr_kV (fun t1 => ?_)
        exact sr_wk (sr_mono (mc := 0) (ms := 0) (by omega) (by omega) (g11_samplesBy_54 l a0 a1 (f11_samplesBy_17 a0 a1 k60 n) k60 ih hk60 x3 x4 t1)) ⟨rfl, ⟨rfl, ⟨rfl, ⟨rfl, ⟨rfl, trivial⟩⟩⟩⟩⟩
def f11_samplesBy_60 (a0 : Int32) (a1 : Int32)  : Int32 → sr_t → sr_Rs := fun x3 t => (sr_bV (F11_samples 1 t) (fun t1 => (sr_lt (sr_u t1 11 0 7 x3) (fun t2 => (sr_bV (F11_putsBack t2) (fun t3 => (some (.inl none, t3))))))))
theorem g11_samplesBy_60 (l : Launch) (a0 : Int32) (a1 : Int32)    : ∀ (x3 : Int32), ∀ (t : sr_t), sr_g l sr_m11_samplesBy 60 [some (sr_r 11 0), some (sr_i a0), some (sr_i a1), some (sr_i x3), none] [] t (f11_samplesBy_60 a0 a1  x3 t) 0 0 := by
  intro x3  t
  unfold f11_samplesBy_60
  refine sr_aloadn (pc := 60) (n := 0) (by decide +kernel) rfl ?_
  refine sr_iconst (pc := 61) (n := 1) (v := 1) (by decide +kernel) rfl ?_
  refine sr_cV (pc := 62) (As := [sr_i 1]) (mc1 := 0) (ms1 := 0) (mc2 := 0) (ms2 := 0) fm_11_268 fl_11_268 (by decide +kernel) (sr_in11 _ (by omega)) (rm_11_samplesBy_11_samples) rfl rfl rfl (C11_samples l 1 t) ?_
  refine sr_kV (fun t1 => ?_)
  refine sr_aloadn (pc := 65) (n := 0) (by decide +kernel) rfl ?_
  refine sr_iloadn (pc := 66) (n := 3) (by decide +kernel) rfl ?_
  refine sr_pI (pc := 67) fg_11_25 ft_11_7 (by decide +kernel) (sr_in11 _ (by omega)) (fun _ => rfl) (fun t2 => ?_)
  refine sr_aloadn (pc := 70) (n := 0) (by decide +kernel) rfl ?_
  refine sr_cV (pc := 71) (As := []) (mc1 := 0) (ms1 := 0) (mc2 := 0) (ms2 := 0) fm_11_275 fl_11_275 (by decide +kernel) (sr_in11 _ (by omega)) (rm_11_samplesBy_11_putsBack) rfl rfl rfl (C11_putsBack l t2) ?_
  refine sr_kV (fun t3 => ?_)
  exact sr_ret (pc := 74) (by decide +kernel) rfl
def F11_samplesBy (a0 : Int32) (a1 : Int32) (t : sr_t) : sr_Rs := (sr_bV (F11_putsAside t) (fun t1 => (sr_lt (sr_u t1 11 0 7 a0) (fun t2 => f11_samplesBy_17 a0 a1 (f11_samplesBy_60 a0 a1) sr_fu (t.1 11 0 7) 0 t2))))
theorem C11_samplesBy (l : Launch) (a0 : Int32) (a1 : Int32)  (t : sr_t) : sr_ct' l sr_m11_samplesBy [sr_r 11 0, sr_i a0, sr_i a1] t (F11_samplesBy a0 a1 t) 0 0 := by
  refine sr_T_of (L0 := [some (sr_r 11 0), some (sr_i a0), some (sr_i a1), none, none]) rfl (by decide +kernel) (fun _ => rfl) (fun _ => Nat.le_of_ble_eq_true rfl) ?_
  unfold F11_samplesBy
  refine sr_aloadn (pc := 0) (n := 0) (by decide +kernel) rfl ?_
  refine sr_gI (pc := 1) fg_11_25 (by decide +kernel) (sr_in11 _ (by omega)) (fun _ => rfl) ?_
  refine sr_istoren (pc := 4) (n := 3) (by decide +kernel) (by decide) rfl rfl ?_
  refine sr_aloadn (pc := 5) (n := 0) (by decide +kernel) rfl ?_
  refine sr_cV (pc := 6) (As := []) (mc1 := 0) (ms1 := 0) (mc2 := 0) (ms2 := 0) fm_11_272 fl_11_272 (by decide +kernel) (sr_in11 _ (by omega)) (rm_11_samplesBy_11_putsAside) rfl rfl rfl (C11_putsAside l t) ?_
  refine sr_kV (fun t1 => ?_)
  refine sr_aloadn (pc := 9) (n := 0) (by decide +kernel) rfl ?_
  refine sr_iloadn (pc := 10) (n := 1) (by decide +kernel) rfl ?_
  refine sr_pI (pc := 11) fg_11_25 ft_11_7 (by decide +kernel) (sr_in11 _ (by omega)) (fun _ => rfl) (fun t2 => ?_)
  refine sr_iconst (pc := 14) (n := 0) (v := 0) (by decide +kernel) rfl ?_
  refine sr_istore (pc := 15) (i := 4) (by decide +kernel) (by decide) rfl rfl ?_
  exact sr_wk (sr_mono (mc := 0) (ms := 0) (by omega) (by omega) (g11_samplesBy_17 l a0 a1 (f11_samplesBy_60 a0 a1) (g11_samplesBy_60 l a0 a1) sr_fu (t.1 11 0 7) 0 t2)) ⟨rfl, ⟨rfl, ⟨rfl, ⟨rfl, ⟨rfl, trivial⟩⟩⟩⟩⟩
def f11_cost_23 (a0 : Int32) (a1 : Int32)  : Int32 → sr_t → sr_Rs := fun xs0 t => (sr_lt (sr_u t 11 0 0 xs0) (fun t1 => (if (t1.1 11 0 0) ≤ 0 then (sr_bV (F11_samplesBy a0 a1 t1) (fun t2 => (some (.inl (some (sr_i (t2.1 11 0 40))), t2)))) else (some (.inl (some (sr_i 0)), t1)))))
theorem g11_cost_23 (l : Launch) (a0 : Int32) (a1 : Int32)    : ∀ (xs0 : Int32), ∀ (t : sr_t), sr_g l sr_m11_cost 23 [some (sr_r 11 0), some (sr_i a0), some (sr_i a1)] [sr_i xs0, sr_r 11 0] t (f11_cost_23 a0 a1  xs0 t) 0 0 := by
  intro xs0  t
  unfold f11_cost_23
  refine sr_pI (pc := 23) fg_11_93 ft_11_0 (by decide +kernel) (sr_in11 _ (by omega)) (fun _ => rfl) (fun t1 => ?_)
  refine sr_aloadn (pc := 26) (n := 0) (by decide +kernel) rfl ?_
  refine sr_gI (pc := 27) fg_11_93 (by decide +kernel) (sr_in11 _ (by omega)) (fun _ => rfl) ?_
  refine sr_if_le (pc := 30) (off := 5) (tg := 35) (by decide +kernel) (by decide) (fun _ => ?_) (fun _ => ?_)
  · refine sr_aloadn (pc := 35) (n := 0) (by decide +kernel) rfl ?_
    refine sr_iloadn (pc := 36) (n := 1) (by decide +kernel) rfl ?_
    refine sr_iloadn (pc := 37) (n := 2) (by decide +kernel) rfl ?_
    refine sr_cV (pc := 38) (As := [sr_i a0, sr_i a1]) (mc1 := 0) (ms1 := 0) (mc2 := 0) (ms2 := 0) fm_11_278 fl_11_278 (by decide +kernel) (sr_in11 _ (by omega)) (rm_11_cost_11_samplesBy) rfl rfl rfl (C11_samplesBy l a0 a1 t1) ?_
    refine sr_kV (fun t2 => ?_)
    refine sr_aloadn (pc := 41) (n := 0) (by decide +kernel) rfl ?_
    refine sr_gI (pc := 42) fg_11_240 (by decide +kernel) (sr_in11 _ (by omega)) (fun _ => rfl) ?_
    exact sr_iret (pc := 45) (by decide +kernel) rfl
  · refine sr_iconst (pc := 33) (n := 0) (v := 0) (by decide +kernel) rfl ?_
    exact sr_iret (pc := 34) (by decide +kernel) rfl
def f11_cost_22 (a0 : Int32) (a1 : Int32)  : sr_t → sr_Rs := fun  t => f11_cost_23 a0 a1 1 t
theorem g11_cost_22 (l : Launch) (a0 : Int32) (a1 : Int32)    : ∀ (t : sr_t), sr_g l sr_m11_cost 22 [some (sr_r 11 0), some (sr_i a0), some (sr_i a1)] [sr_r 11 0] t (f11_cost_22 a0 a1   t) 0 0 := by
  intro t
  unfold f11_cost_22
  refine sr_iconst (pc := 22) (n := 1) (v := 1) (by decide +kernel) rfl ?_
  exact sr_wk (sr_mono (mc := 0) (ms := 0) (by omega) (by omega) (g11_cost_23 l a0 a1 1 t)) ⟨rfl, ⟨rfl, ⟨rfl, trivial⟩⟩⟩
def F11_cost (a0 : Int32) (a1 : Int32) (t : sr_t) : sr_Rs := (sr_bI (F11_isBase a0 t) (fun v1 t1 => (if v1 = 0 then f11_cost_22 a0 a1 t1 else (sr_bI (F11_isIn a1 1 8 t1) (fun v2 t2 => (if v2 = 0 then f11_cost_22 a0 a1 t2 else f11_cost_23 a0 a1 0 t2))))))
theorem C11_cost (l : Launch) (a0 : Int32) (a1 : Int32)  (t : sr_t) : sr_ct' l sr_m11_cost [sr_r 11 0, sr_i a0, sr_i a1] t (F11_cost a0 a1 t) 0 0 := by
  refine sr_T_of (L0 := [some (sr_r 11 0), some (sr_i a0), some (sr_i a1)]) rfl (by decide +kernel) (fun _ => rfl) (fun _ => Nat.le_of_ble_eq_true rfl) ?_
  unfold F11_cost
  refine sr_aloadn (pc := 0) (n := 0) (by decide +kernel) rfl ?_
  refine sr_iloadn (pc := 1) (n := 1) (by decide +kernel) rfl ?_
  refine sr_cS (pc := 2) (As := [sr_i a0]) (mc1 := 0) (ms1 := 0) (mc2 := 0) (ms2 := 0) fm_11_150 fl_11_150 (by decide +kernel) (rm_11_cost_11_isBase) rfl rfl rfl (C11_isBase l a0 t) ?_
  refine sr_kI (fun v1 t1 => ?_)
  refine sr_if_eq (pc := 5) (off := 17) (tg := 22) (by decide +kernel) (by decide) (fun _ => ?_) (fun _ => ?_)
  · exact sr_wk (sr_mono (mc := 0) (ms := 0) (by omega) (by omega) (g11_cost_22 l a0 a1 t1)) ⟨rfl, ⟨rfl, ⟨rfl, trivial⟩⟩⟩
  · refine sr_iloadn (pc := 8) (n := 2) (by decide +kernel) rfl ?_
    refine sr_iconst (pc := 9) (n := 1) (v := 1) (by decide +kernel) rfl ?_
    refine sr_bipush (pc := 10) (n := 8) (v := 8) (by decide +kernel) (by decide) ?_
    refine sr_cS (pc := 12) (As := [sr_i a1, sr_i 1, sr_i 8]) (mc1 := 0) (ms1 := 0) (mc2 := 0) (ms2 := 0) fm_11_96 fl_11_96 (by decide +kernel) (rm_11_cost_11_isIn) rfl rfl rfl (C11_isIn l a1 1 8 t1) ?_
    refine sr_kI (fun v2 t2 => ?_)
    refine sr_if_eq (pc := 15) (off := 7) (tg := 22) (by decide +kernel) (by decide) (fun _ => ?_) (fun _ => ?_)
    · exact sr_wk (sr_mono (mc := 0) (ms := 0) (by omega) (by omega) (g11_cost_22 l a0 a1 t2)) ⟨rfl, ⟨rfl, ⟨rfl, trivial⟩⟩⟩
    · refine sr_iconst (pc := 18) (n := 0) (v := 0) (by decide +kernel) rfl ?_
      refine sr_goto (pc := 19) (off := 4) (tg := 23) (by decide +kernel) (by decide) ?_
      exact sr_wk (sr_mono (mc := 0) (ms := 0) (by omega) (by omega) (g11_cost_23 l a0 a1 0 t2)) ⟨rfl, ⟨rfl, ⟨rfl, trivial⟩⟩⟩
def sr_m11_choice : sr_M := (⟨"ShiftRingModel", "choice", "(I)I"⟩, prog_13_method_58_code, 6, (some .int), [], 9, 215)
theorem rm_11_choice_11_isIn : sr_RM sr_m11_choice sr_m11_isIn := ⟨Nat.le_of_ble_eq_true rfl, Nat.le_of_ble_eq_true rfl⟩
theorem rm_11_choice_11_samplesBy : sr_RM sr_m11_choice sr_m11_samplesBy := ⟨Nat.le_of_ble_eq_true rfl, Nat.le_of_ble_eq_true rfl⟩
def f11_choice_88 (a0 : Int32) (k48 : Int32 → Int32 → Int32 → Int32 → sr_t → sr_Rs) (k97 : Int32 → Int32 → Int32 → sr_t → sr_Rs) : Int32 → Int32 → Int32 → Int32 → sr_t → sr_Rs := fun x2 x3 x4 x5 t => k48 x2 x3 x4 (x5 * 2) t
theorem g11_choice_88 (l : Launch) (a0 : Int32)  (k48 : Int32 → Int32 → Int32 → Int32 → sr_t → sr_Rs) (k97 : Int32 → Int32 → Int32 → sr_t → sr_Rs) (hk48 : ∀ (x2 : Int32) (x3 : Int32) (x4 : Int32) (x5 : Int32), ∀ (t : sr_t), sr_g l sr_m11_choice 48 [some (sr_r 11 0), some (sr_i a0), some (sr_i x2), some (sr_i x3), some (sr_i x4), some (sr_i x5)] [] t (k48 x2 x3 x4 x5 t) 0 0) (hk97 : ∀ (x2 : Int32) (x3 : Int32) (x4 : Int32), ∀ (t : sr_t), sr_g l sr_m11_choice 97 [some (sr_r 11 0), some (sr_i a0), some (sr_i x2), some (sr_i x3), some (sr_i x4), none] [] t (k97 x2 x3 x4 t) 0 0) : ∀ (x2 : Int32) (x3 : Int32) (x4 : Int32) (x5 : Int32), ∀ (t : sr_t), sr_g l sr_m11_choice 88 [some (sr_r 11 0), some (sr_i a0), some (sr_i x2), some (sr_i x3), some (sr_i x4), some (sr_i x5)] [] t (f11_choice_88 a0 k48 k97 x2 x3 x4 x5 t) 0 0 := by
  intro x2 x3 x4 x5  t
  unfold f11_choice_88
  refine sr_iload (pc := 88) (i := 5) (by decide +kernel) rfl ?_
  refine sr_iconst (pc := 90) (n := 2) (v := 2) (by decide +kernel) rfl ?_
  refine sr_imul (pc := 91) (by decide +kernel) ?_
  refine sr_istore (pc := 92) (i := 5) (by decide +kernel) (by decide) rfl rfl ?_
  refine sr_goto (pc := 94) (off := (-46)) (tg := 48) (by decide +kernel) (by decide) ?_
  exact sr_wk (sr_mono (mc := 0) (ms := 0) (by omega) (by omega) (hk48 x2 x3 x4 (x5 * 2) t)) ⟨rfl, ⟨rfl, ⟨rfl, ⟨rfl, ⟨rfl, ⟨rfl, trivial⟩⟩⟩⟩⟩⟩
def f11_choice_48 (a0 : Int32) (k97 : Int32 → Int32 → Int32 → sr_t → sr_Rs) : Nat → Int32 → Int32 → Int32 → Int32 → sr_t → sr_Rs
  | 0 => fun _ _ _ _ _ => none
  | n + 1 => fun x2 x3 x4 x5 t => (if 16 < x5 then k97 x2 x3 x4 t else (sr_bV (F11_samplesBy x5 x4 t) (fun t1 => (if (t1.1 11 0 40) < x3 then f11_choice_88 a0 (f11_choice_48 a0 k97 n) k97 ((100 * x5) + x4) (t1.1 11 0 40) x4 x5 t1 else f11_choice_88 a0 (f11_choice_48 a0 k97 n) k97 x2 x3 x4 x5 t1))))
theorem g11_choice_48 (l : Launch) (a0 : Int32)  (k97 : Int32 → Int32 → Int32 → sr_t → sr_Rs) (hk97 : ∀ (x2 : Int32) (x3 : Int32) (x4 : Int32), ∀ (t : sr_t), sr_g l sr_m11_choice 97 [some (sr_r 11 0), some (sr_i a0), some (sr_i x2), some (sr_i x3), some (sr_i x4), none] [] t (k97 x2 x3 x4 t) 0 0) : ∀ (n : Nat) (x2 : Int32) (x3 : Int32) (x4 : Int32) (x5 : Int32), ∀ (t : sr_t), sr_g l sr_m11_choice 48 [some (sr_r 11 0), some (sr_i a0), some (sr_i x2), some (sr_i x3), some (sr_i x4), some (sr_i x5)] [] t (f11_choice_48 a0 k97 n x2 x3 x4 x5 t) 0 0 := by
  intro n
  induction n with
  | zero => intros; exact sr_Gn
  | succ n ih =>
    intro x2 x3 x4 x5  t
    unfold f11_choice_48
    refine sr_iload (pc := 48) (i := 5) (by decide +kernel) rfl ?_
    refine sr_bipush (pc := 50) (n := 16) (v := 16) (by decide +kernel) (by decide) ?_
    refine sr_icmp_gt (pc := 52) (off := 45) (tg := 97) (by decide +kernel) (by decide) (fun _ => ?_) (fun _ => ?_)
    · exact sr_wk (sr_mono (mc := 0) (ms := 0) (by omega) (by omega) (hk97 x2 x3 x4 t)) ⟨rfl, ⟨rfl, ⟨rfl, ⟨rfl, ⟨rfl, trivial⟩⟩⟩⟩⟩
    · refine sr_aloadn (pc := 55) (n := 0) (by decide +kernel) rfl ?_
      refine sr_iload (pc := 56) (i := 5) (by decide +kernel) rfl ?_
      refine sr_iload (pc := 58) (i := 4) (by decide +kernel) rfl ?_
      refine sr_cV (pc := 60) (As := [sr_i x5, sr_i x4]) (mc1 := 0) (ms1 := 0) (mc2 := 0) (ms2 := 0) fm_11_278 fl_11_278 (by decide +kernel) (sr_in11 _ (by omega)) (rm_11_choice_11_samplesBy) rfl rfl rfl (C11_samplesBy l x5 x4 t) ?_
      refine sr_kV (fun t1 => ?_)
      refine sr_aloadn (pc := 63) (n := 0) (by decide +kernel) rfl ?_
      refine sr_gI (pc := 64) fg_11_240 (by decide +kernel) (sr_in11 _ (by omega)) (fun _ => rfl) ?_
      refine sr_iloadn (pc := 67) (n := 3) (by decide +kernel) rfl ?_
      refine sr_icmp_lt (pc := 68) (off := 6) (tg := 74) (by decide +kernel) (by decide) (fun _ => ?_) (fun _ => ?_)
      · refine sr_aloadn (pc := 74) (n := 0) (by decide +kernel) rfl ?_
        refine sr_gI (pc := 75) fg_11_240 (by decide +kernel) (sr_in11 _ (by omega)) (fun _ => rfl) ?_
        refine sr_istoren (pc := 78) (n := 3) (by decide +kernel) (by decide) rfl rfl ?_
        refine sr_bipush (pc := 79) (n := 100) (v := 100) (by decide +kernel) (by decide) ?_
        refine sr_iload (pc := 81) (i := 5) (by decide +kernel) rfl ?_
        refine sr_imul (pc := 83) (by decide +kernel) ?_
        refine sr_iload (pc := 84) (i := 4) (by decide +kernel) rfl ?_
        refine sr_iadd (pc := 86) (by decide +kernel) ?_
        refine sr_istoren (pc := 87) (n := 2) (by decide +kernel) (by decide) rfl rfl ?_
        exact sr_wk (sr_mono (mc := 0) (ms := 0) (by omega) (by omega) (g11_choice_88 l a0 (f11_choice_48 a0 k97 n) k97 ih hk97 ((100 * x5) + x4) (t1.1 11 0 40) x4 x5 t1)) ⟨rfl, ⟨rfl, ⟨rfl, ⟨rfl, ⟨rfl, ⟨rfl, trivial⟩⟩⟩⟩⟩⟩
      · refine sr_goto (pc := 71) (off := 17) (tg := 88) (by decide +kernel) (by decide) ?_
        exact sr_wk (sr_mono (mc := 0) (ms := 0) (by omega) (by omega) (g11_choice_88 l a0 (f11_choice_48 a0 k97 n) k97 ih hk97 x2 x3 x4 x5 t1)) ⟨rfl, ⟨rfl, ⟨rfl, ⟨rfl, ⟨rfl, ⟨rfl, trivial⟩⟩⟩⟩⟩⟩
def f11_choice_97 (a0 : Int32) (k37 : Int32 → Int32 → Int32 → sr_t → sr_Rs) (k103 : Int32 → sr_t → sr_Rs) : Int32 → Int32 → Int32 → sr_t → sr_Rs := fun x2 x3 x4 t => k37 x2 x3 (x4 + 1) t
theorem g11_choice_97 (l : Launch) (a0 : Int32)  (k37 : Int32 → Int32 → Int32 → sr_t → sr_Rs) (k103 : Int32 → sr_t → sr_Rs) (hk37 : ∀ (x2 : Int32) (x3 : Int32) (x4 : Int32), ∀ (t : sr_t), sr_g l sr_m11_choice 37 [some (sr_r 11 0), some (sr_i a0), some (sr_i x2), some (sr_i x3), some (sr_i x4), none] [] t (k37 x2 x3 x4 t) 0 0) (hk103 : ∀ (x2 : Int32), ∀ (t : sr_t), sr_g l sr_m11_choice 103 [some (sr_r 11 0), some (sr_i a0), some (sr_i x2), none, none, none] [] t (k103 x2 t) 0 0) : ∀ (x2 : Int32) (x3 : Int32) (x4 : Int32), ∀ (t : sr_t), sr_g l sr_m11_choice 97 [some (sr_r 11 0), some (sr_i a0), some (sr_i x2), some (sr_i x3), some (sr_i x4), none] [] t (f11_choice_97 a0 k37 k103 x2 x3 x4 t) 0 0 := by
  intro x2 x3 x4  t
  unfold f11_choice_97
  refine sr_iinc (pc := 97) (i := 4) (n := 1) (w := x4 + 1) (by decide +kernel) rfl rfl (by decide) rfl rfl ?_
  refine sr_goto (pc := 100) (off := (-63)) (tg := 37) (by decide +kernel) (by decide) ?_
  exact sr_wk (sr_mono (mc := 0) (ms := 0) (by omega) (by omega) (hk37 x2 x3 (x4 + 1) t)) ⟨rfl, ⟨rfl, ⟨rfl, ⟨rfl, ⟨rfl, trivial⟩⟩⟩⟩⟩
def f11_choice_37 (a0 : Int32) (k103 : Int32 → sr_t → sr_Rs) : Nat → Int32 → Int32 → Int32 → sr_t → sr_Rs
  | 0 => fun _ _ _ _ => none
  | n + 1 => fun x2 x3 x4 t => (if a0 < (x4 + 3) then k103 x2 t else f11_choice_48 a0 (f11_choice_97 a0 (f11_choice_37 a0 k103 n) k103) sr_fu x2 x3 x4 2 t)
theorem g11_choice_37 (l : Launch) (a0 : Int32)  (k103 : Int32 → sr_t → sr_Rs) (hk103 : ∀ (x2 : Int32), ∀ (t : sr_t), sr_g l sr_m11_choice 103 [some (sr_r 11 0), some (sr_i a0), some (sr_i x2), none, none, none] [] t (k103 x2 t) 0 0) : ∀ (n : Nat) (x2 : Int32) (x3 : Int32) (x4 : Int32), ∀ (t : sr_t), sr_g l sr_m11_choice 37 [some (sr_r 11 0), some (sr_i a0), some (sr_i x2), some (sr_i x3), some (sr_i x4), none] [] t (f11_choice_37 a0 k103 n x2 x3 x4 t) 0 0 := by
  intro n
  induction n with
  | zero => intros; exact sr_Gn
  | succ n ih =>
    intro x2 x3 x4  t
    unfold f11_choice_37
    refine sr_iload (pc := 37) (i := 4) (by decide +kernel) rfl ?_
    refine sr_iconst (pc := 39) (n := 3) (v := 3) (by decide +kernel) rfl ?_
    refine sr_iadd (pc := 40) (by decide +kernel) ?_
    refine sr_iloadn (pc := 41) (n := 1) (by decide +kernel) rfl ?_
    refine sr_icmp_gt (pc := 42) (off := 61) (tg := 103) (by decide +kernel) (by decide) (fun _ => ?_) (fun _ => ?_)
    · exact sr_wk (sr_mono (mc := 0) (ms := 0) (by omega) (by omega) (hk103 x2 t)) ⟨rfl, ⟨rfl, ⟨rfl, trivial⟩⟩⟩
    · refine sr_iconst (pc := 45) (n := 2) (v := 2) (by decide +kernel) rfl ?_
      refine sr_istore (pc := 46) (i := 5) (by decide +kernel) (by decide) rfl rfl ?_
      exact sr_wk (sr_mono (mc := 0) (ms := 0) (by omega) (by omega) (g11_choice_48 l a0 (f11_choice_97 a0 (f11_choice_37 a0 k103 n) k103) (g11_choice_97 l a0 (f11_choice_37 a0 k103 n) k103 ih hk103) sr_fu x2 x3 x4 2 t)) ⟨rfl, ⟨rfl, ⟨rfl, ⟨rfl, ⟨rfl, ⟨rfl, trivial⟩⟩⟩⟩⟩⟩
def f11_choice_103 (a0 : Int32)  : Int32 → sr_t → sr_Rs := fun x2 t => (some (.inl (some (sr_i x2)), t))
theorem g11_choice_103 (l : Launch) (a0 : Int32)    : ∀ (x2 : Int32), ∀ (t : sr_t), sr_g l sr_m11_choice 103 [some (sr_r 11 0), some (sr_i a0), some (sr_i x2), none, none, none] [] t (f11_choice_103 a0  x2 t) 0 0 := by
  intro x2  t
  unfold f11_choice_103
  refine sr_iloadn (pc := 103) (n := 2) (by decide +kernel) rfl ?_
  exact sr_iret (pc := 104) (by decide +kernel) rfl
def f11_choice_16 (a0 : Int32)  : Int32 → sr_t → sr_Rs := fun xs0 t => (sr_lt (sr_u t 11 0 0 xs0) (fun t1 => (if (t1.1 11 0 0) ≤ 0 then f11_choice_37 a0 (f11_choice_103 a0) sr_fu ((-1)) 100000000 1 t1 else (some (.inl (some (sr_i 0)), t1)))))
theorem g11_choice_16 (l : Launch) (a0 : Int32)    : ∀ (xs0 : Int32), ∀ (t : sr_t), sr_g l sr_m11_choice 16 [some (sr_r 11 0), some (sr_i a0), none, none, none, none] [sr_i xs0, sr_r 11 0] t (f11_choice_16 a0  xs0 t) 0 0 := by
  intro xs0  t
  unfold f11_choice_16
  refine sr_pI (pc := 16) fg_11_93 ft_11_0 (by decide +kernel) (sr_in11 _ (by omega)) (fun _ => rfl) (fun t1 => ?_)
  refine sr_aloadn (pc := 19) (n := 0) (by decide +kernel) rfl ?_
  refine sr_gI (pc := 20) fg_11_93 (by decide +kernel) (sr_in11 _ (by omega)) (fun _ => rfl) ?_
  refine sr_if_le (pc := 23) (off := 5) (tg := 28) (by decide +kernel) (by decide) (fun _ => ?_) (fun _ => ?_)
  · refine sr_iconst (pc := 28) (n := (-1)) (v := (-1)) (by decide +kernel) rfl ?_
    refine sr_istoren (pc := 29) (n := 2) (by decide +kernel) (by decide) rfl rfl ?_
    refine sr_ldcw (pc := 30) (n := 282) (v := 100000000) (by decide +kernel) (sr_tb (n := 1767) (by decide +kernel) rfl) ?_
    refine sr_istoren (pc := 33) (n := 3) (by decide +kernel) (by decide) rfl rfl ?_
    refine sr_iconst (pc := 34) (n := 1) (v := 1) (by decide +kernel) rfl ?_
    refine sr_istore (pc := 35) (i := 4) (by decide +kernel) (by decide) rfl rfl ?_
    exact sr_wk (sr_mono (mc := 0) (ms := 0) (by omega) (by omega) (g11_choice_37 l a0 (f11_choice_103 a0) (g11_choice_103 l a0) sr_fu ((-1)) 100000000 1 t1)) ⟨rfl, ⟨rfl, ⟨rfl, ⟨rfl, ⟨rfl, trivial⟩⟩⟩⟩⟩
  · refine sr_iconst (pc := 26) (n := 0) (v := 0) (by decide +kernel) rfl ?_
    exact sr_iret (pc := 27) (by decide +kernel) rfl
def F11_choice (a0 : Int32) (t : sr_t) : sr_Rs := (sr_bI (F11_isIn a0 4 11 t) (fun v1 t1 => (if v1 = 0 then f11_choice_16 a0 1 t1 else f11_choice_16 a0 0 t1)))
theorem C11_choice (l : Launch) (a0 : Int32)  (t : sr_t) : sr_ct' l sr_m11_choice [sr_r 11 0, sr_i a0] t (F11_choice a0 t) 0 0 := by
  refine sr_T_of (L0 := [some (sr_r 11 0), some (sr_i a0), none, none, none, none]) rfl (by decide +kernel) (fun _ => rfl) (fun _ => Nat.le_of_ble_eq_true rfl) ?_
  unfold F11_choice
  refine sr_aloadn (pc := 0) (n := 0) (by decide +kernel) rfl ?_
  refine sr_iloadn (pc := 1) (n := 1) (by decide +kernel) rfl ?_
  refine sr_iconst (pc := 2) (n := 4) (v := 4) (by decide +kernel) rfl ?_
  refine sr_bipush (pc := 3) (n := 11) (v := 11) (by decide +kernel) (by decide) ?_
  refine sr_cS (pc := 5) (As := [sr_i a0, sr_i 4, sr_i 11]) (mc1 := 0) (ms1 := 0) (mc2 := 0) (ms2 := 0) fm_11_96 fl_11_96 (by decide +kernel) (rm_11_choice_11_isIn) rfl rfl rfl (C11_isIn l a0 4 11 t) ?_
  refine sr_kI (fun v1 t1 => ?_)
  refine sr_if_eq (pc := 8) (off := 7) (tg := 15) (by decide +kernel) (by decide) (fun _ => ?_) (fun _ => ?_)
  · refine sr_iconst (pc := 15) (n := 1) (v := 1) (by decide +kernel) rfl ?_
    exact sr_wk (sr_mono (mc := 0) (ms := 0) (by omega) (by omega) (g11_choice_16 l a0 1 t1)) ⟨rfl, ⟨rfl, trivial⟩⟩
  · refine sr_iconst (pc := 11) (n := 0) (v := 0) (by decide +kernel) rfl ?_
    refine sr_goto (pc := 12) (off := 4) (tg := 16) (by decide +kernel) (by decide) ?_
    exact sr_wk (sr_mono (mc := 0) (ms := 0) (by omega) (by omega) (g11_choice_16 l a0 0 t1)) ⟨rfl, ⟨rfl, trivial⟩⟩
