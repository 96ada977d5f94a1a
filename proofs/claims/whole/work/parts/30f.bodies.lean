def f11_takes_27 (a0 : Int32) (a1 : Int32)  : Int32 → sr_t → sr_Rs := fun xs0 t => (some (.inl (some (sr_i xs0)), t))
theorem g11_takes_27 (l : Launch) (a0 : Int32) (a1 : Int32)    : ∀ (xs0 : Int32), ∀ (t : sr_t), sr_g l sr_m11_takes 27 [some (sr_r 11 0), some (sr_i a0), some (sr_i a1)] [sr_i xs0] t (f11_takes_27 a0 a1  xs0 t) 0 0 := by
  intro xs0  t
  unfold f11_takes_27
  exact sr_iret (pc := 27) (by decide +kernel) rfl
def F11_takes (a0 : Int32) (a1 : Int32) (t : sr_t) : sr_Rs := (sr_bI (F11_wrongLook a0 a1 t) (fun v1 t1 => (sr_lt (sr_u t1 11 0 0 v1) (fun t2 => (if (t2.1 11 0 0) ≤ 0 then (sr_bI (F11_takesOf a0 a1 t2) (fun v3 t3 => f11_takes_27 a0 a1 v3 t3)) else f11_takes_27 a0 a1 0 t2)))))
theorem C11_takes (l : Launch) (a0 : Int32) (a1 : Int32)  (t : sr_t) : sr_ct' l sr_m11_takes [sr_r 11 0, sr_i a0, sr_i a1] t (F11_takes a0 a1 t) 0 0 := by
  refine sr_T_of (L0 := [some (sr_r 11 0), some (sr_i a0), some (sr_i a1)]) rfl (by decide +kernel) (fun _ => rfl) (fun _ => Nat.le_of_ble_eq_true rfl) ?_
  unfold F11_takes
  refine sr_aloadn (pc := 0) (n := 0) (by decide +kernel) rfl ?_
  refine sr_aloadn (pc := 1) (n := 0) (by decide +kernel) rfl ?_
  refine sr_iloadn (pc := 2) (n := 1) (by decide +kernel) rfl ?_
  refine sr_iloadn (pc := 3) (n := 2) (by decide +kernel) rfl ?_
  refine sr_cV (pc := 4) (As := [sr_i a0, sr_i a1]) (mc1 := 0) (ms1 := 0) (mc2 := 0) (ms2 := 0) fm_11_234 fl_11_234 (by decide +kernel) (sr_in11 _ (by omega)) (rm_11_takes_11_wrongLook) rfl rfl rfl (C11_wrongLook l a0 a1 t) ?_
  refine sr_kI (fun v1 t1 => ?_)
  refine sr_pI (pc := 7) fg_11_93 ft_11_0 (by decide +kernel) (sr_in11 _ (by omega)) (fun _ => rfl) (fun t2 => ?_)
  refine sr_aloadn (pc := 10) (n := 0) (by decide +kernel) rfl ?_
  refine sr_gI (pc := 11) fg_11_93 (by decide +kernel) (sr_in11 _ (by omega)) (fun _ => rfl) ?_
  refine sr_if_le (pc := 14) (off := 7) (tg := 21) (by decide +kernel) (by decide) (fun _ => ?_) (fun _ => ?_)
  · refine sr_aloadn (pc := 21) (n := 0) (by decide +kernel) rfl ?_
    refine sr_iloadn (pc := 22) (n := 1) (by decide +kernel) rfl ?_
    refine sr_iloadn (pc := 23) (n := 2) (by decide +kernel) rfl ?_
    refine sr_cV (pc := 24) (As := [sr_i a0, sr_i a1]) (mc1 := 0) (ms1 := 0) (mc2 := 0) (ms2 := 0) fm_11_301 fl_11_301 (by decide +kernel) (sr_in11 _ (by omega)) (rm_11_takes_11_takesOf) rfl rfl rfl (C11_takesOf l a0 a1 t2) ?_
    refine sr_kI (fun v3 t3 => ?_)
    exact sr_wk (sr_mono (mc := 0) (ms := 0) (by omega) (by omega) (g11_takes_27 l a0 a1 v3 t3)) ⟨rfl, ⟨rfl, ⟨rfl, trivial⟩⟩⟩
  · refine sr_iconst (pc := 17) (n := 0) (v := 0) (by decide +kernel) rfl ?_
    refine sr_goto (pc := 18) (off := 9) (tg := 27) (by decide +kernel) (by decide) ?_
    exact sr_wk (sr_mono (mc := 0) (ms := 0) (by omega) (by omega) (g11_takes_27 l a0 a1 0 t2)) ⟨rfl, ⟨rfl, ⟨rfl, trivial⟩⟩⟩
def sr_m11_worst : sr_M := (⟨"ShiftRingModel", "worst", "(I)I"⟩, prog_13_method_73_code, 6, (some .int), [], 7, 167)
theorem rm_11_worst_11_takesOf : sr_RM sr_m11_worst sr_m11_takesOf := ⟨Nat.le_of_ble_eq_true rfl, Nat.le_of_ble_eq_true rfl⟩
theorem rm_11_worst_11_wrongUp : sr_RM sr_m11_worst sr_m11_wrongUp := ⟨Nat.le_of_ble_eq_true rfl, Nat.le_of_ble_eq_true rfl⟩
def f11_worst_62 (a0 : Int32) (k25 : Int32 → Int32 → Int32 → sr_t → sr_Rs) (k68 : Int32 → sr_t → sr_Rs) : Int32 → Int32 → Int32 → sr_t → sr_Rs := fun x2 x3 x4 t => k25 x2 x3 (x4 + 1) t
theorem g11_worst_62 (l : Launch) (a0 : Int32)  (k25 : Int32 → Int32 → Int32 → sr_t → sr_Rs) (k68 : Int32 → sr_t → sr_Rs) (hk25 : ∀ (x2 : Int32) (x3 : Int32) (x4 : Int32), ∀ (t : sr_t), sr_g l sr_m11_worst 25 [some (sr_r 11 0), some (sr_i a0), some (sr_i x2), some (sr_i x3), some (sr_i x4), none] [] t (k25 x2 x3 x4 t) 0 0) (hk68 : ∀ (x2 : Int32), ∀ (t : sr_t), sr_g l sr_m11_worst 68 [some (sr_r 11 0), some (sr_i a0), some (sr_i x2), none, none, none] [] t (k68 x2 t) 0 0) : ∀ (x2 : Int32) (x3 : Int32) (x4 : Int32), ∀ (t : sr_t), sr_g l sr_m11_worst 62 [some (sr_r 11 0), some (sr_i a0), some (sr_i x2), some (sr_i x3), some (sr_i x4), none] [] t (f11_worst_62 a0 k25 k68 x2 x3 x4 t) 0 0 := by
  intro x2 x3 x4  t
  unfold f11_worst_62
  refine sr_iinc (pc := 62) (i := 4) (n := 1) (w := x4 + 1) (by decide +kernel) rfl rfl (by decide) rfl rfl ?_
  refine sr_goto (pc := 65) (off := (-40)) (tg := 25) (by decide +kernel) (by decide) ?_
  exact sr_wk (sr_mono (mc := 0) (ms := 0) (by omega) (by omega) (hk25 x2 x3 (x4 + 1) t)) ⟨rfl, ⟨rfl, ⟨rfl, ⟨rfl, ⟨rfl, trivial⟩⟩⟩⟩⟩
def f11_worst_25 (a0 : Int32) (k68 : Int32 → sr_t → sr_Rs) : Nat → Int32 → Int32 → Int32 → sr_t → sr_Rs
  | 0 => fun _ _ _ _ => none
  | n + 1 => fun x2 x3 x4 t => (if 64 ≤ x4 then k68 x2 t else (sr_bI (F11_takesOf a0 (64 * x4) t) (fun v1 t1 => (if x3 < v1 then f11_worst_62 a0 (f11_worst_25 a0 k68 n) k68 (64 * x4) v1 x4 t1 else f11_worst_62 a0 (f11_worst_25 a0 k68 n) k68 x2 x3 x4 t1))))
theorem g11_worst_25 (l : Launch) (a0 : Int32)  (k68 : Int32 → sr_t → sr_Rs) (hk68 : ∀ (x2 : Int32), ∀ (t : sr_t), sr_g l sr_m11_worst 68 [some (sr_r 11 0), some (sr_i a0), some (sr_i x2), none, none, none] [] t (k68 x2 t) 0 0) : ∀ (n : Nat) (x2 : Int32) (x3 : Int32) (x4 : Int32), ∀ (t : sr_t), sr_g l sr_m11_worst 25 [some (sr_r 11 0), some (sr_i a0), some (sr_i x2), some (sr_i x3), some (sr_i x4), none] [] t (f11_worst_25 a0 k68 n x2 x3 x4 t) 0 0 := by
  intro n
  induction n with
  | zero => intros; exact sr_Gn
  | succ n ih =>
    intro x2 x3 x4  t
    unfold f11_worst_25
    refine sr_iload (pc := 25) (i := 4) (by decide +kernel) rfl ?_
    refine sr_bipush (pc := 27) (n := 64) (v := 64) (by decide +kernel) (by decide) ?_
    refine sr_icmp_ge (pc := 29) (off := 39) (tg := 68) (by decide +kernel) (by decide) (fun _ => ?_) (fun _ => ?_)
    · exact sr_wk (sr_mono (mc := 0) (ms := 0) (by omega) (by omega) (hk68 x2 t)) ⟨rfl, ⟨rfl, ⟨rfl, trivial⟩⟩⟩
    · refine sr_aloadn (pc := 32) (n := 0) (by decide +kernel) rfl ?_
      refine sr_iloadn (pc := 33) (n := 1) (by decide +kernel) rfl ?_
      refine sr_bipush (pc := 34) (n := 64) (v := 64) (by decide +kernel) (by decide) ?_
      refine sr_iload (pc := 36) (i := 4) (by decide +kernel) rfl ?_
      refine sr_imul (pc := 38) (by decide +kernel) ?_
      refine sr_cV (pc := 39) (As := [sr_i a0, sr_i (64 * x4)]) (mc1 := 0) (ms1 := 0) (mc2 := 0) (ms2 := 0) fm_11_301 fl_11_301 (by decide +kernel) (sr_in11 _ (by omega)) (rm_11_worst_11_takesOf) rfl rfl rfl (C11_takesOf l a0 (64 * x4) t) ?_
      refine sr_kI (fun v1 t1 => ?_)
      refine sr_istore (pc := 42) (i := 5) (by decide +kernel) (by decide) rfl rfl ?_
      refine sr_iload (pc := 44) (i := 5) (by decide +kernel) rfl ?_
      refine sr_iloadn (pc := 46) (n := 3) (by decide +kernel) rfl ?_
      refine sr_icmp_gt (pc := 47) (off := 6) (tg := 53) (by decide +kernel) (by decide) (fun _ => ?_) (fun _ => ?_)
      · refine sr_iload (pc := 53) (i := 5) (by decide +kernel) rfl ?_
        refine sr_istoren (pc := 55) (n := 3) (by decide +kernel) (by decide) rfl rfl ?_
        refine sr_bipush (pc := 56) (n := 64) (v := 64) (by decide +kernel) (by decide) ?_
        refine sr_iload (pc := 58) (i := 4) (by decide +kernel) rfl ?_
        refine sr_imul (pc := 60) (by decide +kernel) ?_
        refine sr_istoren (pc := 61) (n := 2) (by decide +kernel) (by decide) rfl rfl ?_
        exact sr_wk (sr_mono (mc := 0) (ms := 0) (by omega) (by omega) (g11_worst_62 l a0 (f11_worst_25 a0 k68 n) k68 ih hk68 (64 * x4) v1 x4 t1)) ⟨rfl, ⟨rfl, ⟨rfl, ⟨rfl, ⟨rfl, trivial⟩⟩⟩⟩⟩
      · refine sr_goto (pc := 50) (off := 12) (tg := 62) (by decide +kernel) (by decide) ?_
        exact sr_wk (sr_mono (mc := 0) (ms := 0) (by omega) (by omega) (g11_worst_62 l a0 (f11_worst_25 a0 k68 n) k68 ih hk68 x2 x3 x4 t1)) ⟨rfl, ⟨rfl, ⟨rfl, ⟨rfl, ⟨rfl, trivial⟩⟩⟩⟩⟩
def f11_worst_68 (a0 : Int32)  : Int32 → sr_t → sr_Rs := fun x2 t => (some (.inl (some (sr_i x2)), t))
theorem g11_worst_68 (l : Launch) (a0 : Int32)    : ∀ (x2 : Int32), ∀ (t : sr_t), sr_g l sr_m11_worst 68 [some (sr_r 11 0), some (sr_i a0), some (sr_i x2), none, none, none] [] t (f11_worst_68 a0  x2 t) 0 0 := by
  intro x2  t
  unfold f11_worst_68
  refine sr_iloadn (pc := 68) (n := 2) (by decide +kernel) rfl ?_
  exact sr_iret (pc := 69) (by decide +kernel) rfl
def F11_worst (a0 : Int32) (t : sr_t) : sr_Rs := (sr_bI (F11_wrongUp a0 t) (fun v1 t1 => (sr_lt (sr_u t1 11 0 0 v1) (fun t2 => (if (t2.1 11 0 0) ≤ 0 then f11_worst_25 a0 (f11_worst_68 a0) sr_fu ((-1)) ((-1)) 0 t2 else (some (.inl (some (sr_i 0)), t2)))))))
theorem C11_worst (l : Launch) (a0 : Int32)  (t : sr_t) : sr_ct' l sr_m11_worst [sr_r 11 0, sr_i a0] t (F11_worst a0 t) 0 0 := by
  refine sr_T_of (L0 := [some (sr_r 11 0), some (sr_i a0), none, none, none, none]) rfl (by decide +kernel) (fun _ => rfl) (fun _ => Nat.le_of_ble_eq_true rfl) ?_
  unfold F11_worst
  refine sr_aloadn (pc := 0) (n := 0) (by decide +kernel) rfl ?_
  refine sr_aloadn (pc := 1) (n := 0) (by decide +kernel) rfl ?_
  refine sr_iloadn (pc := 2) (n := 1) (by decide +kernel) rfl ?_
  refine sr_cV (pc := 3) (As := [sr_i a0]) (mc1 := 0) (ms1 := 0) (mc2 := 0) (ms2 := 0) fm_11_144 fl_11_144 (by decide +kernel) (sr_in11 _ (by omega)) (rm_11_worst_11_wrongUp) rfl rfl rfl (C11_wrongUp l a0 t) ?_
  refine sr_kI (fun v1 t1 => ?_)
  refine sr_pI (pc := 6) fg_11_93 ft_11_0 (by decide +kernel) (sr_in11 _ (by omega)) (fun _ => rfl) (fun t2 => ?_)
  refine sr_aloadn (pc := 9) (n := 0) (by decide +kernel) rfl ?_
  refine sr_gI (pc := 10) fg_11_93 (by decide +kernel) (sr_in11 _ (by omega)) (fun _ => rfl) ?_
  refine sr_if_le (pc := 13) (off := 5) (tg := 18) (by decide +kernel) (by decide) (fun _ => ?_) (fun _ => ?_)
  · refine sr_iconst (pc := 18) (n := (-1)) (v := (-1)) (by decide +kernel) rfl ?_
    refine sr_istoren (pc := 19) (n := 2) (by decide +kernel) (by decide) rfl rfl ?_
    refine sr_iconst (pc := 20) (n := (-1)) (v := (-1)) (by decide +kernel) rfl ?_
    refine sr_istoren (pc := 21) (n := 3) (by decide +kernel) (by decide) rfl rfl ?_
    refine sr_iconst (pc := 22) (n := 0) (v := 0) (by decide +kernel) rfl ?_
    refine sr_istore (pc := 23) (i := 4) (by decide +kernel) (by decide) rfl rfl ?_
    exact sr_wk (sr_mono (mc := 0) (ms := 0) (by omega) (by omega) (g11_worst_25 l a0 (f11_worst_68 a0) (g11_worst_68 l a0) sr_fu ((-1)) ((-1)) 0 t2)) ⟨rfl, ⟨rfl, ⟨rfl, ⟨rfl, ⟨rfl, trivial⟩⟩⟩⟩⟩
  · refine sr_iconst (pc := 16) (n := 0) (v := 0) (by decide +kernel) rfl ?_
    exact sr_iret (pc := 17) (by decide +kernel) rfl
def sr_m11_traffic : sr_M := (⟨"ShiftRingModel", "traffic", "(I)I"⟩, prog_13_method_74_code, 2, (some .int), [], 8, 191)
theorem rm_11_traffic_11_samples : sr_RM sr_m11_traffic sr_m11_samples := ⟨Nat.le_of_ble_eq_true rfl, Nat.le_of_ble_eq_true rfl⟩
theorem rm_11_traffic_11_wrongUp : sr_RM sr_m11_traffic sr_m11_wrongUp := ⟨Nat.le_of_ble_eq_true rfl, Nat.le_of_ble_eq_true rfl⟩
def F11_traffic (a0 : Int32) (t : sr_t) : sr_Rs := (sr_bI (F11_wrongUp a0 t) (fun v1 t1 => (sr_lt (sr_u t1 11 0 0 v1) (fun t2 => (if (t2.1 11 0 0) ≤ 0 then (sr_bV (F11_samples 1 t2) (fun t3 => (if a0 < 0 ∨ 24 ≤ a0.toNatClampNeg then none else (some (.inl (some (sr_i (t3.1 42 0 a0.toNatClampNeg))), t3))))) else (some (.inl (some (sr_i 0)), t2)))))))
theorem C11_traffic (l : Launch) (a0 : Int32)  (t : sr_t) : sr_ct' l sr_m11_traffic [sr_r 11 0, sr_i a0] t (F11_traffic a0 t) 0 0 := by
  refine sr_T_of (L0 := [some (sr_r 11 0), some (sr_i a0)]) rfl (by decide +kernel) (fun _ => rfl) (fun _ => Nat.le_of_ble_eq_true rfl) ?_
  unfold F11_traffic
  refine sr_aloadn (pc := 0) (n := 0) (by decide +kernel) rfl ?_
  refine sr_aloadn (pc := 1) (n := 0) (by decide +kernel) rfl ?_
  refine sr_iloadn (pc := 2) (n := 1) (by decide +kernel) rfl ?_
  refine sr_cV (pc := 3) (As := [sr_i a0]) (mc1 := 0) (ms1 := 0) (mc2 := 0) (ms2 := 0) fm_11_144 fl_11_144 (by decide +kernel) (sr_in11 _ (by omega)) (rm_11_traffic_11_wrongUp) rfl rfl rfl (C11_wrongUp l a0 t) ?_
  refine sr_kI (fun v1 t1 => ?_)
  refine sr_pI (pc := 6) fg_11_93 ft_11_0 (by decide +kernel) (sr_in11 _ (by omega)) (fun _ => rfl) (fun t2 => ?_)
  refine sr_aloadn (pc := 9) (n := 0) (by decide +kernel) rfl ?_
  refine sr_gI (pc := 10) fg_11_93 (by decide +kernel) (sr_in11 _ (by omega)) (fun _ => rfl) ?_
  refine sr_if_le (pc := 13) (off := 5) (tg := 18) (by decide +kernel) (by decide) (fun _ => ?_) (fun _ => ?_)
  · refine sr_aloadn (pc := 18) (n := 0) (by decide +kernel) rfl ?_
    refine sr_iconst (pc := 19) (n := 1) (v := 1) (by decide +kernel) rfl ?_
    refine sr_cV (pc := 20) (As := [sr_i 1]) (mc1 := 0) (ms1 := 0) (mc2 := 0) (ms2 := 0) fm_11_268 fl_11_268 (by decide +kernel) (sr_in11 _ (by omega)) (rm_11_traffic_11_samples) rfl rfl rfl (C11_samples l 1 t2) ?_
    refine sr_kV (fun t3 => ?_)
    refine sr_aloadn (pc := 23) (n := 0) (by decide +kernel) rfl ?_
    refine sr_gC (pc := 24) (i2 := 0) fg_11_74 (by decide +kernel) (sr_in11 _ (by omega)) (fun _ => rfl) ?_
    refine sr_iloadn (pc := 27) (n := 1) (by decide +kernel) rfl ?_
    refine sr_aI (pc := 28) (n := 24) rfl (by decide +kernel) (sr_in42 _ (by omega)) (fun _ _ => rfl) ?_
    exact sr_iret (pc := 29) (by decide +kernel) rfl
  · refine sr_iconst (pc := 16) (n := 0) (v := 0) (by decide +kernel) rfl ?_
    exact sr_iret (pc := 17) (by decide +kernel) rfl
def sr_m11_detour : sr_M := (⟨"ShiftRingModel", "detour", "(I)I"⟩, prog_13_method_75_code, 5, (some .int), [], 7, 167)
theorem rm_11_detour_11_idealOf : sr_RM sr_m11_detour sr_m11_idealOf := ⟨Nat.le_of_ble_eq_true rfl, Nat.le_of_ble_eq_true rfl⟩
theorem rm_11_detour_11_isPlace : sr_RM sr_m11_detour sr_m11_isPlace := ⟨Nat.le_of_ble_eq_true rfl, Nat.le_of_ble_eq_true rfl⟩
theorem rm_11_detour_11_takesOf : sr_RM sr_m11_detour sr_m11_takesOf := ⟨Nat.le_of_ble_eq_true rfl, Nat.le_of_ble_eq_true rfl⟩
def f11_detour_77 (a0 : Int32) (k29 : Int32 → Int32 → sr_t → sr_Rs) (k83 : Int32 → sr_t → sr_Rs) : Int32 → Int32 → sr_t → sr_Rs := fun x2 x3 t => k29 x2 (x3 + 1) t
theorem g11_detour_77 (l : Launch) (a0 : Int32)  (k29 : Int32 → Int32 → sr_t → sr_Rs) (k83 : Int32 → sr_t → sr_Rs) (hk29 : ∀ (x2 : Int32) (x3 : Int32), ∀ (t : sr_t), sr_g l sr_m11_detour 29 [some (sr_r 11 0), some (sr_i a0), some (sr_i x2), some (sr_i x3), none] [] t (k29 x2 x3 t) 0 0) (hk83 : ∀ (x2 : Int32), ∀ (t : sr_t), sr_g l sr_m11_detour 83 [some (sr_r 11 0), some (sr_i a0), some (sr_i x2), none, none] [] t (k83 x2 t) 0 0) : ∀ (x2 : Int32) (x3 : Int32), ∀ (t : sr_t), sr_g l sr_m11_detour 77 [some (sr_r 11 0), some (sr_i a0), some (sr_i x2), some (sr_i x3), none] [] t (f11_detour_77 a0 k29 k83 x2 x3 t) 0 0 := by
  intro x2 x3  t
  unfold f11_detour_77
  refine sr_iinc (pc := 77) (i := 3) (n := 1) (w := x3 + 1) (by decide +kernel) rfl rfl (by decide) rfl rfl ?_
  refine sr_goto (pc := 80) (off := (-51)) (tg := 29) (by decide +kernel) (by decide) ?_
  exact sr_wk (sr_mono (mc := 0) (ms := 0) (by omega) (by omega) (hk29 x2 (x3 + 1) t)) ⟨rfl, ⟨rfl, ⟨rfl, ⟨rfl, trivial⟩⟩⟩⟩
def f11_detour_57 (a0 : Int32) (k29 : Int32 → Int32 → sr_t → sr_Rs) (k83 : Int32 → sr_t → sr_Rs) : Int32 → Int32 → Int32 → sr_t → sr_Rs := fun x2 x3 xs0 t => (if xs0 = ((-1)) then f11_detour_77 a0 k29 k83 x2 x3 t else (sr_bI (F11_idealOf x3 a0 t) (fun v1 t1 => f11_detour_77 a0 k29 k83 (x2 + (xs0 - v1)) x3 t1)))
theorem g11_detour_57 (l : Launch) (a0 : Int32)  (k29 : Int32 → Int32 → sr_t → sr_Rs) (k83 : Int32 → sr_t → sr_Rs) (hk29 : ∀ (x2 : Int32) (x3 : Int32), ∀ (t : sr_t), sr_g l sr_m11_detour 29 [some (sr_r 11 0), some (sr_i a0), some (sr_i x2), some (sr_i x3), none] [] t (k29 x2 x3 t) 0 0) (hk83 : ∀ (x2 : Int32), ∀ (t : sr_t), sr_g l sr_m11_detour 83 [some (sr_r 11 0), some (sr_i a0), some (sr_i x2), none, none] [] t (k83 x2 t) 0 0) : ∀ (x2 : Int32) (x3 : Int32) (xs0 : Int32), ∀ (t : sr_t), sr_g l sr_m11_detour 57 [some (sr_r 11 0), some (sr_i a0), some (sr_i x2), some (sr_i x3), none] [sr_i xs0] t (f11_detour_57 a0 k29 k83 x2 x3 xs0 t) 0 0 := by
  intro x2 x3 xs0  t
  unfold f11_detour_57
  refine sr_istore (pc := 57) (i := 4) (by decide +kernel) (by decide) rfl rfl ?_
  refine sr_iload (pc := 59) (i := 4) (by decide +kernel) rfl ?_
  refine sr_iconst (pc := 61) (n := (-1)) (v := (-1)) (by decide +kernel) rfl ?_
  refine sr_icmp_eq (pc := 62) (off := 15) (tg := 77) (by decide +kernel) (by decide) (fun _ => ?_) (fun _ => ?_)
  · exact sr_wk (sr_mono (mc := 0) (ms := 0) (by omega) (by omega) (g11_detour_77 l a0 k29 k83 hk29 hk83 x2 x3 t)) ⟨rfl, ⟨rfl, ⟨rfl, ⟨rfl, trivial⟩⟩⟩⟩
  · refine sr_iloadn (pc := 65) (n := 2) (by decide +kernel) rfl ?_
    refine sr_iload (pc := 66) (i := 4) (by decide +kernel) rfl ?_
    refine sr_aloadn (pc := 68) (n := 0) (by decide +kernel) rfl ?_
    refine sr_iloadn (pc := 69) (n := 3) (by decide +kernel) rfl ?_
    refine sr_iloadn (pc := 70) (n := 1) (by decide +kernel) rfl ?_
    refine sr_cV (pc := 71) (As := [sr_i x3, sr_i a0]) (mc1 := 0) (ms1 := 0) (mc2 := 0) (ms2 := 0) fm_11_298 fl_11_298 (by decide +kernel) (sr_in11 _ (by omega)) (rm_11_detour_11_idealOf) rfl rfl rfl (C11_idealOf l x3 a0 t) ?_
    refine sr_kI (fun v1 t1 => ?_)
    refine sr_isub (pc := 74) (by decide +kernel) ?_
    refine sr_iadd (pc := 75) (by decide +kernel) ?_
    refine sr_istoren (pc := 76) (n := 2) (by decide +kernel) (by decide) rfl rfl ?_
    exact sr_wk (sr_mono (mc := 0) (ms := 0) (by omega) (by omega) (g11_detour_77 l a0 k29 k83 hk29 hk83 (x2 + (xs0 - v1)) x3 t1)) ⟨rfl, ⟨rfl, ⟨rfl, ⟨rfl, trivial⟩⟩⟩⟩
def f11_detour_29 (a0 : Int32) (k83 : Int32 → sr_t → sr_Rs) : Nat → Int32 → Int32 → sr_t → sr_Rs
  | 0 => fun _ _ _ => none
  | n + 1 => fun x2 x3 t => (if (t.1 11 0 1) ≤ x3 then k83 x2 t else (if x3 < 0 ∨ 24 ≤ x3.toNatClampNeg then none else (if (t.1 25 0 x3.toNatClampNeg) = 1 then (sr_bI (F11_takesOf x3 a0 t) (fun v1 t1 => f11_detour_57 a0 (f11_detour_29 a0 k83 n) k83 x2 x3 v1 t1)) else f11_detour_57 a0 (f11_detour_29 a0 k83 n) k83 x2 x3 ((-1)) t)))
theorem g11_detour_29 (l : Launch) (a0 : Int32)  (k83 : Int32 → sr_t → sr_Rs) (hk83 : ∀ (x2 : Int32), ∀ (t : sr_t), sr_g l sr_m11_detour 83 [some (sr_r 11 0), some (sr_i a0), some (sr_i x2), none, none] [] t (k83 x2 t) 0 0) : ∀ (n : Nat) (x2 : Int32) (x3 : Int32), ∀ (t : sr_t), sr_g l sr_m11_detour 29 [some (sr_r 11 0), some (sr_i a0), some (sr_i x2), some (sr_i x3), none] [] t (f11_detour_29 a0 k83 n x2 x3 t) 0 0 := by
  intro n
  induction n with
  | zero => intros; exact sr_Gn
  | succ n ih =>
    intro x2 x3  t
    unfold f11_detour_29
    refine sr_iloadn (pc := 29) (n := 3) (by decide +kernel) rfl ?_
    refine sr_aloadn (pc := 30) (n := 0) (by decide +kernel) rfl ?_
    refine sr_gI (pc := 31) fg_11_100 (by decide +kernel) (sr_in11 _ (by omega)) (fun _ => rfl) ?_
    refine sr_icmp_ge (pc := 34) (off := 49) (tg := 83) (by decide +kernel) (by decide) (fun _ => ?_) (fun _ => ?_)
    · exact sr_wk (sr_mono (mc := 0) (ms := 0) (by omega) (by omega) (hk83 x2 t)) ⟨rfl, ⟨rfl, ⟨rfl, trivial⟩⟩⟩
    · refine sr_aloadn (pc := 37) (n := 0) (by decide +kernel) rfl ?_
      refine sr_gC (pc := 38) (i2 := 0) fg_11_13 (by decide +kernel) (sr_in11 _ (by omega)) (fun _ => rfl) ?_
      refine sr_iloadn (pc := 41) (n := 3) (by decide +kernel) rfl ?_
      refine sr_aI (pc := 42) (n := 24) rfl (by decide +kernel) (sr_in25 _ (by omega)) (fun _ _ => rfl) ?_
      refine sr_iconst (pc := 43) (n := 1) (v := 1) (by decide +kernel) rfl ?_
      refine sr_icmp_ne (pc := 44) (off := 12) (tg := 56) (by decide +kernel) (by decide) (fun _ => ?_) (fun _ => ?_)
      · refine sr_iconst (pc := 56) (n := (-1)) (v := (-1)) (by decide +kernel) rfl ?_
        exact sr_wk (sr_mono (mc := 0) (ms := 0) (by omega) (by omega) (g11_detour_57 l a0 (f11_detour_29 a0 k83 n) k83 ih hk83 x2 x3 ((-1)) t)) ⟨rfl, ⟨rfl, ⟨rfl, ⟨rfl, trivial⟩⟩⟩⟩
      · refine sr_aloadn (pc := 47) (n := 0) (by decide +kernel) rfl ?_
        refine sr_iloadn (pc := 48) (n := 3) (by decide +kernel) rfl ?_
        refine sr_iloadn (pc := 49) (n := 1) (by decide +kernel) rfl ?_
        refine sr_cV (pc := 50) (As := [sr_i x3, sr_i a0]) (mc1 := 0) (ms1 := 0) (mc2 := 0) (ms2 := 0) fm_11_301 fl_11_301 (by decide +kernel) (sr_in11 _ (by omega)) (rm_11_detour_11_takesOf) rfl rfl rfl (C11_takesOf l x3 a0 t) ?_
        refine sr_kI (fun v1 t1 => ?_)
        refine sr_goto (pc := 53) (off := 4) (tg := 57) (by decide +kernel) (by decide) ?_
        exact sr_wk (sr_mono (mc := 0) (ms := 0) (by omega) (by omega) (g11_detour_57 l a0 (f11_detour_29 a0 k83 n) k83 ih hk83 x2 x3 v1 t1)) ⟨rfl, ⟨rfl, ⟨rfl, ⟨rfl, trivial⟩⟩⟩⟩
def f11_detour_83 (a0 : Int32)  : Int32 → sr_t → sr_Rs := fun x2 t => (some (.inl (some (sr_i x2)), t))
theorem g11_detour_83 (l : Launch) (a0 : Int32)    : ∀ (x2 : Int32), ∀ (t : sr_t), sr_g l sr_m11_detour 83 [some (sr_r 11 0), some (sr_i a0), some (sr_i x2), none, none] [] t (f11_detour_83 a0  x2 t) 0 0 := by
  intro x2  t
  unfold f11_detour_83
  refine sr_iloadn (pc := 83) (n := 2) (by decide +kernel) rfl ?_
  exact sr_iret (pc := 84) (by decide +kernel) rfl
def f11_detour_13 (a0 : Int32)  : Int32 → sr_t → sr_Rs := fun xs0 t => (sr_lt (sr_u t 11 0 0 xs0) (fun t1 => (if (t1.1 11 0 0) ≤ 0 then f11_detour_29 a0 (f11_detour_83 a0) sr_fu 0 0 t1 else (some (.inl (some (sr_i 0)), t1)))))
theorem g11_detour_13 (l : Launch) (a0 : Int32)    : ∀ (xs0 : Int32), ∀ (t : sr_t), sr_g l sr_m11_detour 13 [some (sr_r 11 0), some (sr_i a0), none, none, none] [sr_i xs0, sr_r 11 0] t (f11_detour_13 a0  xs0 t) 0 0 := by
  intro xs0  t
  unfold f11_detour_13
  refine sr_pI (pc := 13) fg_11_93 ft_11_0 (by decide +kernel) (sr_in11 _ (by omega)) (fun _ => rfl) (fun t1 => ?_)
  refine sr_aloadn (pc := 16) (n := 0) (by decide +kernel) rfl ?_
  refine sr_gI (pc := 17) fg_11_93 (by decide +kernel) (sr_in11 _ (by omega)) (fun _ => rfl) ?_
  refine sr_if_le (pc := 20) (off := 5) (tg := 25) (by decide +kernel) (by decide) (fun _ => ?_) (fun _ => ?_)
  · refine sr_iconst (pc := 25) (n := 0) (v := 0) (by decide +kernel) rfl ?_
    refine sr_istoren (pc := 26) (n := 2) (by decide +kernel) (by decide) rfl rfl ?_
    refine sr_iconst (pc := 27) (n := 0) (v := 0) (by decide +kernel) rfl ?_
    refine sr_istoren (pc := 28) (n := 3) (by decide +kernel) (by decide) rfl rfl ?_
    exact sr_wk (sr_mono (mc := 0) (ms := 0) (by omega) (by omega) (g11_detour_29 l a0 (f11_detour_83 a0) (g11_detour_83 l a0) sr_fu 0 0 t1)) ⟨rfl, ⟨rfl, ⟨rfl, ⟨rfl, trivial⟩⟩⟩⟩
  · refine sr_iconst (pc := 23) (n := 0) (v := 0) (by decide +kernel) rfl ?_
    exact sr_iret (pc := 24) (by decide +kernel) rfl
def F11_detour (a0 : Int32) (t : sr_t) : sr_Rs := (sr_bI (F11_isPlace a0 t) (fun v1 t1 => (if v1 = 0 then f11_detour_13 a0 1 t1 else f11_detour_13 a0 0 t1)))
theorem C11_detour (l : Launch) (a0 : Int32)  (t : sr_t) : sr_ct' l sr_m11_detour [sr_r 11 0, sr_i a0] t (F11_detour a0 t) 0 0 := by
  refine sr_T_of (L0 := [some (sr_r 11 0), some (sr_i a0), none, none, none]) rfl (by decide +kernel) (fun _ => rfl) (fun _ => Nat.le_of_ble_eq_true rfl) ?_
  unfold F11_detour
  refine sr_aloadn (pc := 0) (n := 0) (by decide +kernel) rfl ?_
  refine sr_iloadn (pc := 1) (n := 1) (by decide +kernel) rfl ?_
  refine sr_cS (pc := 2) (As := [sr_i a0]) (mc1 := 0) (ms1 := 0) (mc2 := 0) (ms2 := 0) fm_11_133 fl_11_133 (by decide +kernel) (rm_11_detour_11_isPlace) rfl rfl rfl (C11_isPlace l a0 t) ?_
  refine sr_kI (fun v1 t1 => ?_)
  refine sr_if_eq (pc := 5) (off := 7) (tg := 12) (by decide +kernel) (by decide) (fun _ => ?_) (fun _ => ?_)
  · refine sr_iconst (pc := 12) (n := 1) (v := 1) (by decide +kernel) rfl ?_
    exact sr_wk (sr_mono (mc := 0) (ms := 0) (by omega) (by omega) (g11_detour_13 l a0 1 t1)) ⟨rfl, ⟨rfl, trivial⟩⟩
  · refine sr_iconst (pc := 8) (n := 0) (v := 0) (by decide +kernel) rfl ?_
    refine sr_goto (pc := 9) (off := 4) (tg := 13) (by decide +kernel) (by decide) ?_
    exact sr_wk (sr_mono (mc := 0) (ms := 0) (by omega) (by omega) (g11_detour_13 l a0 0 t1)) ⟨rfl, ⟨rfl, trivial⟩⟩
def sr_m11_leastFor : sr_M := (⟨"ShiftRingModel", "leastFor", "(IZ)I"⟩, prog_13_method_76_code, 7, (some .int), [], 7, 167)
def sr_m11_nearest : sr_M := (⟨"ShiftRingModel", "nearest", "(I)I"⟩, prog_13_method_77_code, 2, (some .int), [], 8, 193)
theorem fl_11_304 : Cond.methodLink "ShiftRingModel" 304 (sr_My sr_m11_leastFor) ∈ sr_TB := (sr_tb (n := 1836) (by decide +kernel) rfl)
theorem fm_11_304 : sr_FV "ShiftRingModel" 304 sr_m11_leastFor 11 2 := ⟨⟨rfl, sr_tb (n := 1839) (by decide +kernel) rfl, sr_tb (n := 12) (by decide +kernel) rfl, ⟨by decide, by decide, by decide +kernel⟩, Or.inl fl_11_304⟩, ⟨TX11, 53, rfl, rfl⟩, sr_tb (n := 1838) (by decide +kernel) rfl, sr_ts (n := 79) (by decide +kernel) rfl⟩
theorem rm_11_leastFor_11_takesOf : sr_RM sr_m11_leastFor sr_m11_takesOf := ⟨Nat.le_of_ble_eq_true rfl, Nat.le_of_ble_eq_true rfl⟩
theorem rm_11_nearest_11_isPlace : sr_RM sr_m11_nearest sr_m11_isPlace := ⟨Nat.le_of_ble_eq_true rfl, Nat.le_of_ble_eq_true rfl⟩
theorem rm_11_nearest_11_leastFor : sr_RM sr_m11_nearest sr_m11_leastFor := ⟨Nat.le_of_ble_eq_true rfl, Nat.le_of_ble_eq_true rfl⟩
def f11_leastFor_77 (a0 : Int32) (a1 : Int32) (k10 : Int32 → Int32 → Int32 → sr_t → sr_Rs) (k83 : Int32 → sr_t → sr_Rs) : Int32 → Int32 → Int32 → sr_t → sr_Rs := fun x3 x4 x5 t => k10 x3 x4 (x5 + 1) t
theorem g11_leastFor_77 (l : Launch) (a0 : Int32) (a1 : Int32)  (k10 : Int32 → Int32 → Int32 → sr_t → sr_Rs) (k83 : Int32 → sr_t → sr_Rs) (hk10 : ∀ (x3 : Int32) (x4 : Int32) (x5 : Int32), ∀ (t : sr_t), sr_g l sr_m11_leastFor 10 [some (sr_r 11 0), some (sr_i a0), some (sr_i a1), some (sr_i x3), some (sr_i x4), some (sr_i x5), none] [] t (k10 x3 x4 x5 t) 0 0) (hk83 : ∀ (x3 : Int32), ∀ (t : sr_t), sr_g l sr_m11_leastFor 83 [some (sr_r 11 0), some (sr_i a0), some (sr_i a1), some (sr_i x3), none, none, none] [] t (k83 x3 t) 0 0) : ∀ (x3 : Int32) (x4 : Int32) (x5 : Int32), ∀ (t : sr_t), sr_g l sr_m11_leastFor 77 [some (sr_r 11 0), some (sr_i a0), some (sr_i a1), some (sr_i x3), some (sr_i x4), some (sr_i x5), none] [] t (f11_leastFor_77 a0 a1 k10 k83 x3 x4 x5 t) 0 0 := by
  intro x3 x4 x5  t
  unfold f11_leastFor_77
  refine sr_iinc (pc := 77) (i := 5) (n := 1) (w := x5 + 1) (by decide +kernel) rfl rfl (by decide) rfl rfl ?_
  refine sr_goto (pc := 80) (off := (-70)) (tg := 10) (by decide +kernel) (by decide) ?_
  exact sr_wk (sr_mono (mc := 0) (ms := 0) (by omega) (by omega) (hk10 x3 x4 (x5 + 1) t)) ⟨rfl, ⟨rfl, ⟨rfl, ⟨rfl, ⟨rfl, ⟨rfl, trivial⟩⟩⟩⟩⟩⟩
def f11_leastFor_58 (a0 : Int32) (a1 : Int32) (k10 : Int32 → Int32 → Int32 → sr_t → sr_Rs) (k83 : Int32 → sr_t → sr_Rs) : Int32 → Int32 → Int32 → Int32 → sr_t → sr_Rs := fun x3 x4 x5 xs0 t => (if xs0 < x4 then f11_leastFor_77 a0 a1 k10 k83 x5 xs0 x5 t else f11_leastFor_77 a0 a1 k10 k83 x3 x4 x5 t)
theorem g11_leastFor_58 (l : Launch) (a0 : Int32) (a1 : Int32)  (k10 : Int32 → Int32 → Int32 → sr_t → sr_Rs) (k83 : Int32 → sr_t → sr_Rs) (hk10 : ∀ (x3 : Int32) (x4 : Int32) (x5 : Int32), ∀ (t : sr_t), sr_g l sr_m11_leastFor 10 [some (sr_r 11 0), some (sr_i a0), some (sr_i a1), some (sr_i x3), some (sr_i x4), some (sr_i x5), none] [] t (k10 x3 x4 x5 t) 0 0) (hk83 : ∀ (x3 : Int32), ∀ (t : sr_t), sr_g l sr_m11_leastFor 83 [some (sr_r 11 0), some (sr_i a0), some (sr_i a1), some (sr_i x3), none, none, none] [] t (k83 x3 t) 0 0) : ∀ (x3 : Int32) (x4 : Int32) (x5 : Int32) (xs0 : Int32), ∀ (t : sr_t), sr_g l sr_m11_leastFor 58 [some (sr_r 11 0), some (sr_i a0), some (sr_i a1), some (sr_i x3), some (sr_i x4), some (sr_i x5), none] [sr_i xs0] t (f11_leastFor_58 a0 a1 k10 k83 x3 x4 x5 xs0 t) 0 0 := by
  intro x3 x4 x5 xs0  t
  unfold f11_leastFor_58
  refine sr_istore (pc := 58) (i := 6) (by decide +kernel) (by decide) rfl rfl ?_
  refine sr_iload (pc := 60) (i := 6) (by decide +kernel) rfl ?_
  refine sr_iload (pc := 62) (i := 4) (by decide +kernel) rfl ?_
  refine sr_icmp_lt (pc := 64) (off := 6) (tg := 70) (by decide +kernel) (by decide) (fun _ => ?_) (fun _ => ?_)
  · refine sr_iload (pc := 70) (i := 6) (by decide +kernel) rfl ?_
    refine sr_istore (pc := 72) (i := 4) (by decide +kernel) (by decide) rfl rfl ?_
    refine sr_iload (pc := 74) (i := 5) (by decide +kernel) rfl ?_
    refine sr_istoren (pc := 76) (n := 3) (by decide +kernel) (by decide) rfl rfl ?_
    exact sr_wk (sr_mono (mc := 0) (ms := 0) (by omega) (by omega) (g11_leastFor_77 l a0 a1 k10 k83 hk10 hk83 x5 xs0 x5 t)) ⟨rfl, ⟨rfl, ⟨rfl, ⟨rfl, ⟨rfl, ⟨rfl, trivial⟩⟩⟩⟩⟩⟩
  · refine sr_goto (pc := 67) (off := 10) (tg := 77) (by decide +kernel) (by decide) ?_
    exact sr_wk (sr_mono (mc := 0) (ms := 0) (by omega) (by omega) (g11_leastFor_77 l a0 a1 k10 k83 hk10 hk83 x3 x4 x5 t)) ⟨rfl, ⟨rfl, ⟨rfl, ⟨rfl, ⟨rfl, ⟨rfl, trivial⟩⟩⟩⟩⟩⟩
def f11_leastFor_10 (a0 : Int32) (a1 : Int32) (k83 : Int32 → sr_t → sr_Rs) : Nat → Int32 → Int32 → Int32 → sr_t → sr_Rs
  | 0 => fun _ _ _ _ => none
  | n + 1 => fun x3 x4 x5 t => (if (t.1 11 0 1) ≤ x5 then k83 x3 t else (if x5 < 0 ∨ 24 ≤ x5.toNatClampNeg then none else (if (t.1 25 0 x5.toNatClampNeg) = 0 then f11_leastFor_77 a0 a1 (f11_leastFor_10 a0 a1 k83 n) k83 x3 x4 x5 t else (sr_bI (F11_takesOf x5 a0 t) (fun v1 t1 => (if v1 = ((-1)) then f11_leastFor_77 a0 a1 (f11_leastFor_10 a0 a1 k83 n) k83 x3 x4 x5 t1 else (if a1 = 0 then f11_leastFor_58 a0 a1 (f11_leastFor_10 a0 a1 k83 n) k83 x3 x4 x5 (t1.1 11 0 13) t1 else f11_leastFor_58 a0 a1 (f11_leastFor_10 a0 a1 k83 n) k83 x3 x4 x5 (t1.1 11 0 19) t1)))))))
theorem g11_leastFor_10 (l : Launch) (a0 : Int32) (a1 : Int32)  (k83 : Int32 → sr_t → sr_Rs) (hk83 : ∀ (x3 : Int32), ∀ (t : sr_t), sr_g l sr_m11_leastFor 83 [some (sr_r 11 0), some (sr_i a0), some (sr_i a1), some (sr_i x3), none, none, none] [] t (k83 x3 t) 0 0) : ∀ (n : Nat) (x3 : Int32) (x4 : Int32) (x5 : Int32), ∀ (t : sr_t), sr_g l sr_m11_leastFor 10 [some (sr_r 11 0), some (sr_i a0), some (sr_i a1), some (sr_i x3), some (sr_i x4), some (sr_i x5), none] [] t (f11_leastFor_10 a0 a1 k83 n x3 x4 x5 t) 0 0 := by
  intro n
  induction n with
  | zero => intros; exact sr_Gn
  | succ n ih =>
    intro x3 x4 x5  t
    unfold f11_leastFor_10
    refine sr_iload (pc := 10) (i := 5) (by decide +kernel) rfl ?_
    refine sr_aloadn (pc := 12) (n := 0) (by decide +kernel) rfl ?_
    refine sr_gI (pc := 13) fg_11_100 (by decide +kernel) (sr_in11 _ (by omega)) (fun _ => rfl) ?_
    refine sr_icmp_ge (pc := 16) (off := 67) (tg := 83) (by decide +kernel) (by decide) (fun _ => ?_) (fun _ => ?_)
    · exact sr_wk (sr_mono (mc := 0) (ms := 0) (by omega) (by omega) (hk83 x3 t)) ⟨rfl, ⟨rfl, ⟨rfl, ⟨rfl, trivial⟩⟩⟩⟩
    · refine sr_aloadn (pc := 19) (n := 0) (by decide +kernel) rfl ?_
      refine sr_gC (pc := 20) (i2 := 0) fg_11_13 (by decide +kernel) (sr_in11 _ (by omega)) (fun _ => rfl) ?_
      refine sr_iload (pc := 23) (i := 5) (by decide +kernel) rfl ?_
      refine sr_aI (pc := 25) (n := 24) rfl (by decide +kernel) (sr_in25 _ (by omega)) (fun _ _ => rfl) ?_
      refine sr_if_eq (pc := 26) (off := 51) (tg := 77) (by decide +kernel) (by decide) (fun _ => ?_) (fun _ => ?_)
      · exact sr_wk (sr_mono (mc := 0) (ms := 0) (by omega) (by omega) (g11_leastFor_77 l a0 a1 (f11_leastFor_10 a0 a1 k83 n) k83 ih hk83 x3 x4 x5 t)) ⟨rfl, ⟨rfl, ⟨rfl, ⟨rfl, ⟨rfl, ⟨rfl, trivial⟩⟩⟩⟩⟩⟩
      · refine sr_aloadn (pc := 29) (n := 0) (by decide +kernel) rfl ?_
        refine sr_iload (pc := 30) (i := 5) (by decide +kernel) rfl ?_
        refine sr_iloadn (pc := 32) (n := 1) (by decide +kernel) rfl ?_
        refine sr_cV (pc := 33) (As := [sr_i x5, sr_i a0]) (mc1 := 0) (ms1 := 0) (mc2 := 0) (ms2 := 0) fm_11_301 fl_11_301 (by decide +kernel) (sr_in11 _ (by omega)) (rm_11_leastFor_11_takesOf) rfl rfl rfl (C11_takesOf l x5 a0 t) ?_
        refine sr_kI (fun v1 t1 => ?_)
        refine sr_iconst (pc := 36) (n := (-1)) (v := (-1)) (by decide +kernel) rfl ?_
        refine sr_icmp_ne (pc := 37) (off := 6) (tg := 43) (by decide +kernel) (by decide) (fun _ => ?_) (fun _ => ?_)
        · refine sr_iloadn (pc := 43) (n := 2) (by decide +kernel) rfl ?_
          refine sr_if_eq (pc := 44) (off := 10) (tg := 54) (by decide +kernel) (by decide) (fun _ => ?_) (fun _ => ?_)
          · refine sr_aloadn (pc := 54) (n := 0) (by decide +kernel) rfl ?_
            refine sr_gI (pc := 55) fg_11_183 (by decide +kernel) (sr_in11 _ (by omega)) (fun _ => rfl) ?_
            exact sr_wk (sr_mono (mc := 0) (ms := 0) (by omega) (by omega) (g11_leastFor_58 l a0 a1 (f11_leastFor_10 a0 a1 k83 n) k83 ih hk83 x3 x4 x5 (t1.1 11 0 13) t1)) ⟨rfl, ⟨rfl, ⟨rfl, ⟨rfl, ⟨rfl, ⟨rfl, trivial⟩⟩⟩⟩⟩⟩
          · refine sr_aloadn (pc := 47) (n := 0) (by decide +kernel) rfl ?_
            refine sr_gI (pc := 48) fg_11_186 (by decide +kernel) (sr_in11 _ (by omega)) (fun _ => rfl) ?_
            refine sr_goto (pc := 51) (off := 7) (tg := 58) (by decide +kernel) (by decide) ?_
            exact sr_wk (sr_mono (mc := 0) (ms := 0) (by omega) (by omega) (g11_leastFor_58 l a0 a1 (f11_leastFor_10 a0 a1 k83 n) k83 ih hk83 x3 x4 x5 (t1.1 11 0 19) t1)) ⟨rfl, ⟨rfl, ⟨rfl, ⟨rfl, ⟨rfl, ⟨rfl, trivial⟩⟩⟩⟩⟩⟩
        · refine sr_goto (pc := 40) (off := 37) (tg := 77) (by decide +kernel) (by decide) ?_
          exact sr_wk (sr_mono (mc := 0) (ms := 0) (by omega) (by omega) (g11_leastFor_77 l a0 a1 (f11_leastFor_10 a0 a1 k83 n) k83 ih hk83 x3 x4 x5 t1)) ⟨rfl, ⟨rfl, ⟨rfl, ⟨rfl, ⟨rfl, ⟨rfl, trivial⟩⟩⟩⟩⟩⟩
def f11_leastFor_83 (a0 : Int32) (a1 : Int32)  : Int32 → sr_t → sr_Rs := fun x3 t => (some (.inl (some (sr_i x3)), t))
theorem g11_leastFor_83 (l : Launch) (a0 : Int32) (a1 : Int32)    : ∀ (x3 : Int32), ∀ (t : sr_t), sr_g l sr_m11_leastFor 83 [some (sr_r 11 0), some (sr_i a0), some (sr_i a1), some (sr_i x3), none, none, none] [] t (f11_leastFor_83 a0 a1  x3 t) 0 0 := by
  intro x3  t
  unfold f11_leastFor_83
  refine sr_iloadn (pc := 83) (n := 3) (by decide +kernel) rfl ?_
  exact sr_iret (pc := 84) (by decide +kernel) rfl
def F11_leastFor (a0 : Int32) (a1 : Int32) (t : sr_t) : sr_Rs := f11_leastFor_10 a0 a1 (f11_leastFor_83 a0 a1) sr_fu ((-1)) 100000000 0 t
theorem C11_leastFor (l : Launch) (a0 : Int32) (a1 : Int32)  (t : sr_t) : sr_ct' l sr_m11_leastFor [sr_r 11 0, sr_i a0, sr_i a1] t (F11_leastFor a0 a1 t) 0 0 := by
  refine sr_T_of (L0 := [some (sr_r 11 0), some (sr_i a0), some (sr_i a1), none, none, none, none]) rfl (by decide +kernel) (fun _ => rfl) (fun _ => Nat.le_of_ble_eq_true rfl) ?_
  unfold F11_leastFor
  refine sr_iconst (pc := 0) (n := (-1)) (v := (-1)) (by decide +kernel) rfl ?_
  refine sr_istoren (pc := 1) (n := 3) (by decide +kernel) (by decide) rfl rfl ?_
  refine sr_ldcw (pc := 2) (n := 282) (v := 100000000) (by decide +kernel) (sr_tb (n := 1767) (by decide +kernel) rfl) ?_
  refine sr_istore (pc := 5) (i := 4) (by decide +kernel) (by decide) rfl rfl ?_
  refine sr_iconst (pc := 7) (n := 0) (v := 0) (by decide +kernel) rfl ?_
  refine sr_istore (pc := 8) (i := 5) (by decide +kernel) (by decide) rfl rfl ?_
  exact sr_wk (sr_mono (mc := 0) (ms := 0) (by omega) (by omega) (g11_leastFor_10 l a0 a1 (f11_leastFor_83 a0 a1) (g11_leastFor_83 l a0 a1) sr_fu ((-1)) 100000000 0 t)) ⟨rfl, ⟨rfl, ⟨rfl, ⟨rfl, ⟨rfl, ⟨rfl, trivial⟩⟩⟩⟩⟩⟩
def f11_nearest_33 (a0 : Int32)  : Int32 → sr_t → sr_Rs := fun xs0 t => (some (.inl (some (sr_i xs0)), t))
theorem g11_nearest_33 (l : Launch) (a0 : Int32)    : ∀ (xs0 : Int32), ∀ (t : sr_t), sr_g l sr_m11_nearest 33 [some (sr_r 11 0), some (sr_i a0)] [sr_i xs0] t (f11_nearest_33 a0  xs0 t) 0 0 := by
  intro xs0  t
  unfold f11_nearest_33
  exact sr_iret (pc := 33) (by decide +kernel) rfl
def f11_nearest_13 (a0 : Int32)  : Int32 → sr_t → sr_Rs := fun xs0 t => (sr_lt (sr_u t 11 0 0 xs0) (fun t1 => (if (t1.1 11 0 0) ≤ 0 then (sr_bI (F11_leastFor a0 0 t1) (fun v2 t2 => f11_nearest_33 a0 v2 t2)) else f11_nearest_33 a0 0 t1)))
theorem g11_nearest_13 (l : Launch) (a0 : Int32)    : ∀ (xs0 : Int32), ∀ (t : sr_t), sr_g l sr_m11_nearest 13 [some (sr_r 11 0), some (sr_i a0)] [sr_i xs0, sr_r 11 0] t (f11_nearest_13 a0  xs0 t) 0 0 := by
  intro xs0  t
  unfold f11_nearest_13
  refine sr_pI (pc := 13) fg_11_93 ft_11_0 (by decide +kernel) (sr_in11 _ (by omega)) (fun _ => rfl) (fun t1 => ?_)
  refine sr_aloadn (pc := 16) (n := 0) (by decide +kernel) rfl ?_
  refine sr_gI (pc := 17) fg_11_93 (by decide +kernel) (sr_in11 _ (by omega)) (fun _ => rfl) ?_
  refine sr_if_le (pc := 20) (off := 7) (tg := 27) (by decide +kernel) (by decide) (fun _ => ?_) (fun _ => ?_)
  · refine sr_aloadn (pc := 27) (n := 0) (by decide +kernel) rfl ?_
    refine sr_iloadn (pc := 28) (n := 1) (by decide +kernel) rfl ?_
    refine sr_iconst (pc := 29) (n := 0) (v := 0) (by decide +kernel) rfl ?_
    refine sr_cV (pc := 30) (As := [sr_i a0, sr_i 0]) (mc1 := 0) (ms1 := 0) (mc2 := 0) (ms2 := 0) fm_11_304 fl_11_304 (by decide +kernel) (sr_in11 _ (by omega)) (rm_11_nearest_11_leastFor) rfl rfl rfl (C11_leastFor l a0 0 t1) ?_
    refine sr_kI (fun v2 t2 => ?_)
    exact sr_wk (sr_mono (mc := 0) (ms := 0) (by omega) (by omega) (g11_nearest_33 l a0 v2 t2)) ⟨rfl, ⟨rfl, trivial⟩⟩
  · refine sr_iconst (pc := 23) (n := 0) (v := 0) (by decide +kernel) rfl ?_
    refine sr_goto (pc := 24) (off := 9) (tg := 33) (by decide +kernel) (by decide) ?_
    exact sr_wk (sr_mono (mc := 0) (ms := 0) (by omega) (by omega) (g11_nearest_33 l a0 0 t1)) ⟨rfl, ⟨rfl, trivial⟩⟩
def F11_nearest (a0 : Int32) (t : sr_t) : sr_Rs := (sr_bI (F11_isPlace a0 t) (fun v1 t1 => (if v1 = 0 then f11_nearest_13 a0 1 t1 else f11_nearest_13 a0 0 t1)))
theorem C11_nearest (l : Launch) (a0 : Int32)  (t : sr_t) : sr_ct' l sr_m11_nearest [sr_r 11 0, sr_i a0] t (F11_nearest a0 t) 0 0 := by
  refine sr_T_of (L0 := [some (sr_r 11 0), some (sr_i a0)]) rfl (by decide +kernel) (fun _ => rfl) (fun _ => Nat.le_of_ble_eq_true rfl) ?_
  unfold F11_nearest
  refine sr_aloadn (pc := 0) (n := 0) (by decide +kernel) rfl ?_
  refine sr_iloadn (pc := 1) (n := 1) (by decide +kernel) rfl ?_
  refine sr_cS (pc := 2) (As := [sr_i a0]) (mc1 := 0) (ms1 := 0) (mc2 := 0) (ms2 := 0) fm_11_133 fl_11_133 (by decide +kernel) (rm_11_nearest_11_isPlace) rfl rfl rfl (C11_isPlace l a0 t) ?_
  refine sr_kI (fun v1 t1 => ?_)
  refine sr_if_eq (pc := 5) (off := 7) (tg := 12) (by decide +kernel) (by decide) (fun _ => ?_) (fun _ => ?_)
  · refine sr_iconst (pc := 12) (n := 1) (v := 1) (by decide +kernel) rfl ?_
    exact sr_wk (sr_mono (mc := 0) (ms := 0) (by omega) (by omega) (g11_nearest_13 l a0 1 t1)) ⟨rfl, ⟨rfl, trivial⟩⟩
  · refine sr_iconst (pc := 8) (n := 0) (v := 0) (by decide +kernel) rfl ?_
    refine sr_goto (pc := 9) (off := 4) (tg := 13) (by decide +kernel) (by decide) ?_
    exact sr_wk (sr_mono (mc := 0) (ms := 0) (by omega) (by omega) (g11_nearest_13 l a0 0 t1)) ⟨rfl, ⟨rfl, trivial⟩⟩
def sr_m11_quickest : sr_M := (⟨"ShiftRingModel", "quickest", "(I)I"⟩, prog_13_method_78_code, 2, (some .int), [], 8, 193)
theorem rm_11_quickest_11_isPlace : sr_RM sr_m11_quickest sr_m11_isPlace := ⟨Nat.le_of_ble_eq_true rfl, Nat.le_of_ble_eq_true rfl⟩
theorem rm_11_quickest_11_leastFor : sr_RM sr_m11_quickest sr_m11_leastFor := ⟨Nat.le_of_ble_eq_true rfl, Nat.le_of_ble_eq_true rfl⟩
def f11_quickest_33 (a0 : Int32)  : Int32 → sr_t → sr_Rs := fun xs0 t => (some (.inl (some (sr_i xs0)), t))
theorem g11_quickest_33 (l : Launch) (a0 : Int32)    : ∀ (xs0 : Int32), ∀ (t : sr_t), sr_g l sr_m11_quickest 33 [some (sr_r 11 0), some (sr_i a0)] [sr_i xs0] t (f11_quickest_33 a0  xs0 t) 0 0 := by
  intro xs0  t
  unfold f11_quickest_33
  exact sr_iret (pc := 33) (by decide +kernel) rfl
def f11_quickest_13 (a0 : Int32)  : Int32 → sr_t → sr_Rs := fun xs0 t => (sr_lt (sr_u t 11 0 0 xs0) (fun t1 => (if (t1.1 11 0 0) ≤ 0 then (sr_bI (F11_leastFor a0 1 t1) (fun v2 t2 => f11_quickest_33 a0 v2 t2)) else f11_quickest_33 a0 0 t1)))
theorem g11_quickest_13 (l : Launch) (a0 : Int32)    : ∀ (xs0 : Int32), ∀ (t : sr_t), sr_g l sr_m11_quickest 13 [some (sr_r 11 0), some (sr_i a0)] [sr_i xs0, sr_r 11 0] t (f11_quickest_13 a0  xs0 t) 0 0 := by
  intro xs0  t
  unfold f11_quickest_13
  refine sr_pI (pc := 13) fg_11_93 ft_11_0 (by decide +kernel) (sr_in11 _ (by omega)) (fun _ => rfl) (fun t1 => ?_)
  refine sr_aloadn (pc := 16) (n := 0) (by decide +kernel) rfl ?_
  refine sr_gI (pc := 17) fg_11_93 (by decide +kernel) (sr_in11 _ (by omega)) (fun _ => rfl) ?_
  refine sr_if_le (pc := 20) (off := 7) (tg := 27) (by decide +kernel) (by decide) (fun _ => ?_) (fun _ => ?_)
  · refine sr_aloadn (pc := 27) (n := 0) (by decide +kernel) rfl ?_
    refine sr_iloadn (pc := 28) (n := 1) (by decide +kernel) rfl ?_
    refine sr_iconst (pc := 29) (n := 1) (v := 1) (by decide +kernel) rfl ?_
    refine sr_cV (pc := 30) (As := [sr_i a0, sr_i 1]) (mc1 := 0) (ms1 := 0) (mc2 := 0) (ms2 := 0) fm_11_304 fl_11_304 (by decide +kernel) (sr_in11 _ (by omega)) (rm_11_quickest_11_leastFor) rfl rfl rfl (C11_leastFor l a0 1 t1) ?_
    refine sr_kI (fun v2 t2 => ?_)
    exact sr_wk (sr_mono (mc := 0) (ms := 0) (by omega) (by omega) (g11_quickest_33 l a0 v2 t2)) ⟨rfl, ⟨rfl, trivial⟩⟩
  · refine sr_iconst (pc := 23) (n := 0) (v := 0) (by decide +kernel) rfl ?_
    refine sr_goto (pc := 24) (off := 9) (tg := 33) (by decide +kernel) (by decide) ?_
    exact sr_wk (sr_mono (mc := 0) (ms := 0) (by omega) (by omega) (g11_quickest_33 l a0 0 t1)) ⟨rfl, ⟨rfl, trivial⟩⟩
def F11_quickest (a0 : Int32) (t : sr_t) : sr_Rs := (sr_bI (F11_isPlace a0 t) (fun v1 t1 => (if v1 = 0 then f11_quickest_13 a0 1 t1 else f11_quickest_13 a0 0 t1)))
theorem C11_quickest (l : Launch) (a0 : Int32)  (t : sr_t) : sr_ct' l sr_m11_quickest [sr_r 11 0, sr_i a0] t (F11_quickest a0 t) 0 0 := by
  refine sr_T_of (L0 := [some (sr_r 11 0), some (sr_i a0)]) rfl (by decide +kernel) (fun _ => rfl) (fun _ => Nat.le_of_ble_eq_true rfl) ?_
  unfold F11_quickest
  refine sr_aloadn (pc := 0) (n := 0) (by decide +kernel) rfl ?_
  refine sr_iloadn (pc := 1) (n := 1) (by decide +kernel) rfl ?_
  refine sr_cS (pc := 2) (As := [sr_i a0]) (mc1 := 0) (ms1 := 0) (mc2 := 0) (ms2 := 0) fm_11_133 fl_11_133 (by decide +kernel) (rm_11_quickest_11_isPlace) rfl rfl rfl (C11_isPlace l a0 t) ?_
  refine sr_kI (fun v1 t1 => ?_)
  refine sr_if_eq (pc := 5) (off := 7) (tg := 12) (by decide +kernel) (by decide) (fun _ => ?_) (fun _ => ?_)
  · refine sr_iconst (pc := 12) (n := 1) (v := 1) (by decide +kernel) rfl ?_
    exact sr_wk (sr_mono (mc := 0) (ms := 0) (by omega) (by omega) (g11_quickest_13 l a0 1 t1)) ⟨rfl, ⟨rfl, trivial⟩⟩
  · refine sr_iconst (pc := 8) (n := 0) (v := 0) (by decide +kernel) rfl ?_
    refine sr_goto (pc := 9) (off := 4) (tg := 13) (by decide +kernel) (by decide) ?_
    exact sr_wk (sr_mono (mc := 0) (ms := 0) (by omega) (by omega) (g11_quickest_13 l a0 0 t1)) ⟨rfl, ⟨rfl, trivial⟩⟩
def sr_m11_better : sr_M := (⟨"ShiftRingModel", "better", "(I)I"⟩, prog_13_method_79_code, 8, (some .int), [], 8, 191)
theorem rm_11_better_11_isNode : sr_RM sr_m11_better sr_m11_isNode := ⟨Nat.le_of_ble_eq_true rfl, Nat.le_of_ble_eq_true rfl⟩
theorem rm_11_better_11_samples : sr_RM sr_m11_better sr_m11_samples := ⟨Nat.le_of_ble_eq_true rfl, Nat.le_of_ble_eq_true rfl⟩
def f11_better_141 (a0 : Int32) (k53 : Int32 → Int32 → Int32 → Int32 → Int32 → sr_t → sr_Rs) (k147 : Int32 → Int32 → Int32 → Int32 → sr_t → sr_Rs) : Int32 → Int32 → Int32 → Int32 → Int32 → sr_t → sr_Rs := fun x2 x3 x4 x5 x6 t => k53 x2 x3 x4 x5 (x6 + 1) t
theorem g11_better_141 (l : Launch) (a0 : Int32)  (k53 : Int32 → Int32 → Int32 → Int32 → Int32 → sr_t → sr_Rs) (k147 : Int32 → Int32 → Int32 → Int32 → sr_t → sr_Rs) (hk53 : ∀ (x2 : Int32) (x3 : Int32) (x4 : Int32) (x5 : Int32) (x6 : Int32), ∀ (t : sr_t), sr_g l sr_m11_better 53 [some (sr_r 11 0), some (sr_i a0), some (sr_i x2), some (sr_i x3), some (sr_i x4), some (sr_i x5), some (sr_i x6), none] [] t (k53 x2 x3 x4 x5 x6 t) 0 0) (hk147 : ∀ (x2 : Int32) (x3 : Int32) (x4 : Int32) (x5 : Int32), ∀ (t : sr_t), sr_g l sr_m11_better 147 [some (sr_r 11 0), some (sr_i a0), some (sr_i x2), some (sr_i x3), some (sr_i x4), some (sr_i x5), none, none] [] t (k147 x2 x3 x4 x5 t) 0 0) : ∀ (x2 : Int32) (x3 : Int32) (x4 : Int32) (x5 : Int32) (x6 : Int32), ∀ (t : sr_t), sr_g l sr_m11_better 141 [some (sr_r 11 0), some (sr_i a0), some (sr_i x2), some (sr_i x3), some (sr_i x4), some (sr_i x5), some (sr_i x6), none] [] t (f11_better_141 a0 k53 k147 x2 x3 x4 x5 x6 t) 0 0 := by
  intro x2 x3 x4 x5 x6  t
  unfold f11_better_141
  refine sr_iinc (pc := 141) (i := 6) (n := 1) (w := x6 + 1) (by decide +kernel) rfl rfl (by decide) rfl rfl ?_
  refine sr_goto (pc := 144) (off := (-91)) (tg := 53) (by decide +kernel) (by decide) ?_
  exact sr_wk (sr_mono (mc := 0) (ms := 0) (by omega) (by omega) (hk53 x2 x3 x4 x5 (x6 + 1) t)) ⟨rfl, ⟨rfl, ⟨rfl, ⟨rfl, ⟨rfl, ⟨rfl, ⟨rfl, trivial⟩⟩⟩⟩⟩⟩⟩
def f11_better_106 (a0 : Int32) (k53 : Int32 → Int32 → Int32 → Int32 → Int32 → sr_t → sr_Rs) (k147 : Int32 → Int32 → Int32 → Int32 → sr_t → sr_Rs) : Int32 → Int32 → Int32 → Int32 → Int32 → Int32 → sr_t → sr_Rs := fun x2 x3 x4 x5 x6 xs0 t => (if (24 * x6) + a0 < 0 ∨ 576 ≤ ((24 * x6) + a0).toNatClampNeg then none else (if (24 * a0) + x6 < 0 ∨ 576 ≤ ((24 * a0) + x6).toNatClampNeg then none else f11_better_141 a0 k53 k147 x2 x3 x4 (x5 + (xs0 * ((t.1 36 0 ((24 * x6) + a0).toNatClampNeg) + (t.1 36 0 ((24 * a0) + x6).toNatClampNeg)))) x6 t))
theorem g11_better_106 (l : Launch) (a0 : Int32)  (k53 : Int32 → Int32 → Int32 → Int32 → Int32 → sr_t → sr_Rs) (k147 : Int32 → Int32 → Int32 → Int32 → sr_t → sr_Rs) (hk53 : ∀ (x2 : Int32) (x3 : Int32) (x4 : Int32) (x5 : Int32) (x6 : Int32), ∀ (t : sr_t), sr_g l sr_m11_better 53 [some (sr_r 11 0), some (sr_i a0), some (sr_i x2), some (sr_i x3), some (sr_i x4), some (sr_i x5), some (sr_i x6), none] [] t (k53 x2 x3 x4 x5 x6 t) 0 0) (hk147 : ∀ (x2 : Int32) (x3 : Int32) (x4 : Int32) (x5 : Int32), ∀ (t : sr_t), sr_g l sr_m11_better 147 [some (sr_r 11 0), some (sr_i a0), some (sr_i x2), some (sr_i x3), some (sr_i x4), some (sr_i x5), none, none] [] t (k147 x2 x3 x4 x5 t) 0 0) : ∀ (x2 : Int32) (x3 : Int32) (x4 : Int32) (x5 : Int32) (x6 : Int32) (xs0 : Int32), ∀ (t : sr_t), sr_g l sr_m11_better 106 [some (sr_r 11 0), some (sr_i a0), some (sr_i x2), some (sr_i x3), some (sr_i x4), some (sr_i x5), some (sr_i x6), none] [sr_i xs0] t (f11_better_106 a0 k53 k147 x2 x3 x4 x5 x6 xs0 t) 0 0 := by
  intro x2 x3 x4 x5 x6 xs0  t
  unfold f11_better_106
  refine sr_istore (pc := 106) (i := 7) (by decide +kernel) (by decide) rfl rfl ?_
  refine sr_iload (pc := 108) (i := 5) (by decide +kernel) rfl ?_
  refine sr_iload (pc := 110) (i := 7) (by decide +kernel) rfl ?_
  refine sr_aloadn (pc := 112) (n := 0) (by decide +kernel) rfl ?_
  refine sr_gC (pc := 113) (i2 := 0) fg_11_56 (by decide +kernel) (sr_in11 _ (by omega)) (fun _ => rfl) ?_
  refine sr_bipush (pc := 116) (n := 24) (v := 24) (by decide +kernel) (by decide) ?_
  refine sr_iload (pc := 118) (i := 6) (by decide +kernel) rfl ?_
  refine sr_imul (pc := 120) (by decide +kernel) ?_
  refine sr_iloadn (pc := 121) (n := 1) (by decide +kernel) rfl ?_
  refine sr_iadd (pc := 122) (by decide +kernel) ?_
  refine sr_aI (pc := 123) (n := 576) rfl (by decide +kernel) (sr_in36 _ (by omega)) (fun _ _ => rfl) ?_
  refine sr_aloadn (pc := 124) (n := 0) (by decide +kernel) rfl ?_
  refine sr_gC (pc := 125) (i2 := 0) fg_11_56 (by decide +kernel) (sr_in11 _ (by omega)) (fun _ => rfl) ?_
  refine sr_bipush (pc := 128) (n := 24) (v := 24) (by decide +kernel) (by decide) ?_
  refine sr_iloadn (pc := 130) (n := 1) (by decide +kernel) rfl ?_
  refine sr_imul (pc := 131) (by decide +kernel) ?_
  refine sr_iload (pc := 132) (i := 6) (by decide +kernel) rfl ?_
  refine sr_iadd (pc := 134) (by decide +kernel) ?_
  refine sr_aI (pc := 135) (n := 576) rfl (by decide +kernel) (sr_in36 _ (by omega)) (fun _ _ => rfl) ?_
  refine sr_iadd (pc := 136) (by decide +kernel) ?_
  refine sr_imul (pc := 137) (by decide +kernel) ?_
  refine sr_iadd (pc := 138) (by decide +kernel) ?_
  refine sr_istore (pc := 139) (i := 5) (by decide +kernel) (by decide) rfl rfl ?_
  exact sr_wk (sr_mono (mc := 0) (ms := 0) (by omega) (by omega) (g11_better_141 l a0 k53 k147 hk53 hk147 x2 x3 x4 (x5 + (xs0 * ((t.1 36 0 ((24 * x6) + a0).toNatClampNeg) + (t.1 36 0 ((24 * a0) + x6).toNatClampNeg)))) x6 t)) ⟨rfl, ⟨rfl, ⟨rfl, ⟨rfl, ⟨rfl, ⟨rfl, ⟨rfl, trivial⟩⟩⟩⟩⟩⟩⟩
def f11_better_53 (a0 : Int32) (k147 : Int32 → Int32 → Int32 → Int32 → sr_t → sr_Rs) : Nat → Int32 → Int32 → Int32 → Int32 → Int32 → sr_t → sr_Rs
  | 0 => fun _ _ _ _ _ _ => none
  | n + 1 => fun x2 x3 x4 x5 x6 t => (if (t.1 11 0 1) ≤ x6 then k147 x2 x3 x4 x5 t else (if x6 = a0 then f11_better_141 a0 (f11_better_53 a0 k147 n) k147 x2 x3 x4 x5 x6 t else (if x6 < 0 ∨ 24 ≤ x6.toNatClampNeg then none else (if x4 ≤ (t.1 26 0 x6.toNatClampNeg) then (if x6 < 0 ∨ 24 ≤ x6.toNatClampNeg then none else f11_better_106 a0 (f11_better_53 a0 k147 n) k147 x2 x3 x4 x5 x6 ((t.1 26 0 x6.toNatClampNeg) - x4) t) else (if x6 < 0 ∨ 24 ≤ x6.toNatClampNeg then none else f11_better_106 a0 (f11_better_53 a0 k147 n) k147 x2 x3 x4 x5 x6 (x4 - (t.1 26 0 x6.toNatClampNeg)) t)))))
theorem g11_better_53 (l : Launch) (a0 : Int32)  (k147 : Int32 → Int32 → Int32 → Int32 → sr_t → sr_Rs) (hk147 : ∀ (x2 : Int32) (x3 : Int32) (x4 : Int32) (x5 : Int32), ∀ (t : sr_t), sr_g l sr_m11_better 147 [some (sr_r 11 0), some (sr_i a0), some (sr_i x2), some (sr_i x3), some (sr_i x4), some (sr_i x5), none, none] [] t (k147 x2 x3 x4 x5 t) 0 0) : ∀ (n : Nat) (x2 : Int32) (x3 : Int32) (x4 : Int32) (x5 : Int32) (x6 : Int32), ∀ (t : sr_t), sr_g l sr_m11_better 53 [some (sr_r 11 0), some (sr_i a0), some (sr_i x2), some (sr_i x3), some (sr_i x4), some (sr_i x5), some (sr_i x6), none] [] t (f11_better_53 a0 k147 n x2 x3 x4 x5 x6 t) 0 0 := by
  intro n
  induction n with
  | zero => intros; exact sr_Gn
  | succ n ih =>
    intro x2 x3 x4 x5 x6  t
    unfold f11_better_53
    refine sr_iload (pc := 53) (i := 6) (by decide +kernel) rfl ?_
    refine sr_aloadn (pc := 55) (n := 0) (by decide +kernel) rfl ?_
    refine sr_gI (pc := 56) fg_11_100 (by decide +kernel) (sr_in11 _ (by omega)) (fun _ => rfl) ?_
    refine sr_icmp_ge (pc := 59) (off := 88) (tg := 147) (by decide +kernel) (by decide) (fun _ => ?_) (fun _ => ?_)
    · exact sr_wk (sr_mono (mc := 0) (ms := 0) (by omega) (by omega) (hk147 x2 x3 x4 x5 t)) ⟨rfl, ⟨rfl, ⟨rfl, ⟨rfl, ⟨rfl, ⟨rfl, trivial⟩⟩⟩⟩⟩⟩
    · refine sr_iload (pc := 62) (i := 6) (by decide +kernel) rfl ?_
      refine sr_iloadn (pc := 64) (n := 1) (by decide +kernel) rfl ?_
      refine sr_icmp_ne (pc := 65) (off := 6) (tg := 71) (by decide +kernel) (by decide) (fun _ => ?_) (fun _ => ?_)
      · refine sr_iload (pc := 71) (i := 4) (by decide +kernel) rfl ?_
        refine sr_aloadn (pc := 73) (n := 0) (by decide +kernel) rfl ?_
        refine sr_gC (pc := 74) (i2 := 0) fg_11_16 (by decide +kernel) (sr_in11 _ (by omega)) (fun _ => rfl) ?_
        refine sr_iload (pc := 77) (i := 6) (by decide +kernel) rfl ?_
        refine sr_aI (pc := 79) (n := 24) rfl (by decide +kernel) (sr_in26 _ (by omega)) (fun _ _ => rfl) ?_
        refine sr_icmp_le (pc := 80) (off := 16) (tg := 96) (by decide +kernel) (by decide) (fun _ => ?_) (fun _ => ?_)
        · refine sr_aloadn (pc := 96) (n := 0) (by decide +kernel) rfl ?_
          refine sr_gC (pc := 97) (i2 := 0) fg_11_16 (by decide +kernel) (sr_in11 _ (by omega)) (fun _ => rfl) ?_
          refine sr_iload (pc := 100) (i := 6) (by decide +kernel) rfl ?_
          refine sr_aI (pc := 102) (n := 24) rfl (by decide +kernel) (sr_in26 _ (by omega)) (fun _ _ => rfl) ?_
          refine sr_iload (pc := 103) (i := 4) (by decide +kernel) rfl ?_
          refine sr_isub (pc := 105) (by decide +kernel) ?_
          exact sr_wk (sr_mono (mc := 0) (ms := 0) (by omega) (by omega) (g11_better_106 l a0 (f11_better_53 a0 k147 n) k147 ih hk147 x2 x3 x4 x5 x6 ((t.1 26 0 x6.toNatClampNeg) - x4) t)) ⟨rfl, ⟨rfl, ⟨rfl, ⟨rfl, ⟨rfl, ⟨rfl, ⟨rfl, trivial⟩⟩⟩⟩⟩⟩⟩
        · refine sr_iload (pc := 83) (i := 4) (by decide +kernel) rfl ?_
          refine sr_aloadn (pc := 85) (n := 0) (by decide +kernel) rfl ?_
          refine sr_gC (pc := 86) (i2 := 0) fg_11_16 (by decide +kernel) (sr_in11 _ (by omega)) (fun _ => rfl) ?_
          refine sr_iload (pc := 89) (i := 6) (by decide +kernel) rfl ?_
          refine sr_aI (pc := 91) (n := 24) rfl (by decide +kernel) (sr_in26 _ (by omega)) (fun _ _ => rfl) ?_
          refine sr_isub (pc := 92) (by decide +kernel) ?_
          refine sr_goto (pc := 93) (off := 13) (tg := 106) (by decide +kernel) (by decide) ?_
          exact sr_wk (sr_mono (mc := 0) (ms := 0) (by omega) (by omega) (g11_better_106 l a0 (f11_better_53 a0 k147 n) k147 ih hk147 x2 x3 x4 x5 x6 (x4 - (t.1 26 0 x6.toNatClampNeg)) t)) ⟨rfl, ⟨rfl, ⟨rfl, ⟨rfl, ⟨rfl, ⟨rfl, ⟨rfl, trivial⟩⟩⟩⟩⟩⟩⟩
      · refine sr_goto (pc := 68) (off := 73) (tg := 141) (by decide +kernel) (by decide) ?_
        exact sr_wk (sr_mono (mc := 0) (ms := 0) (by omega) (by omega) (g11_better_141 l a0 (f11_better_53 a0 k147 n) k147 ih hk147 x2 x3 x4 x5 x6 t)) ⟨rfl, ⟨rfl, ⟨rfl, ⟨rfl, ⟨rfl, ⟨rfl, ⟨rfl, trivial⟩⟩⟩⟩⟩⟩⟩
def f11_better_162 (a0 : Int32) (k40 : Int32 → Int32 → Int32 → sr_t → sr_Rs) (k168 : Int32 → sr_t → sr_Rs) : Int32 → Int32 → Int32 → sr_t → sr_Rs := fun x2 x3 x4 t => k40 x2 x3 (x4 + 1) t
theorem g11_better_162 (l : Launch) (a0 : Int32)  (k40 : Int32 → Int32 → Int32 → sr_t → sr_Rs) (k168 : Int32 → sr_t → sr_Rs) (hk40 : ∀ (x2 : Int32) (x3 : Int32) (x4 : Int32), ∀ (t : sr_t), sr_g l sr_m11_better 40 [some (sr_r 11 0), some (sr_i a0), some (sr_i x2), some (sr_i x3), some (sr_i x4), none, none, none] [] t (k40 x2 x3 x4 t) 0 0) (hk168 : ∀ (x2 : Int32), ∀ (t : sr_t), sr_g l sr_m11_better 168 [some (sr_r 11 0), some (sr_i a0), some (sr_i x2), none, none, none, none, none] [] t (k168 x2 t) 0 0) : ∀ (x2 : Int32) (x3 : Int32) (x4 : Int32), ∀ (t : sr_t), sr_g l sr_m11_better 162 [some (sr_r 11 0), some (sr_i a0), some (sr_i x2), some (sr_i x3), some (sr_i x4), none, none, none] [] t (f11_better_162 a0 k40 k168 x2 x3 x4 t) 0 0 := by
  intro x2 x3 x4  t
  unfold f11_better_162
  refine sr_iinc (pc := 162) (i := 4) (n := 1) (w := x4 + 1) (by decide +kernel) rfl rfl (by decide) rfl rfl ?_
  refine sr_goto (pc := 165) (off := (-125)) (tg := 40) (by decide +kernel) (by decide) ?_
  exact sr_wk (sr_mono (mc := 0) (ms := 0) (by omega) (by omega) (hk40 x2 x3 (x4 + 1) t)) ⟨rfl, ⟨rfl, ⟨rfl, ⟨rfl, ⟨rfl, trivial⟩⟩⟩⟩⟩
def f11_better_147 (a0 : Int32) (k40 : Int32 → Int32 → Int32 → sr_t → sr_Rs) (k168 : Int32 → sr_t → sr_Rs) : Int32 → Int32 → Int32 → Int32 → sr_t → sr_Rs := fun x2 x3 x4 x5 t => (if x5 < x3 then f11_better_162 a0 k40 k168 x4 x5 x4 t else f11_better_162 a0 k40 k168 x2 x3 x4 t)
theorem g11_better_147 (l : Launch) (a0 : Int32)  (k40 : Int32 → Int32 → Int32 → sr_t → sr_Rs) (k168 : Int32 → sr_t → sr_Rs) (hk40 : ∀ (x2 : Int32) (x3 : Int32) (x4 : Int32), ∀ (t : sr_t), sr_g l sr_m11_better 40 [some (sr_r 11 0), some (sr_i a0), some (sr_i x2), some (sr_i x3), some (sr_i x4), none, none, none] [] t (k40 x2 x3 x4 t) 0 0) (hk168 : ∀ (x2 : Int32), ∀ (t : sr_t), sr_g l sr_m11_better 168 [some (sr_r 11 0), some (sr_i a0), some (sr_i x2), none, none, none, none, none] [] t (k168 x2 t) 0 0) : ∀ (x2 : Int32) (x3 : Int32) (x4 : Int32) (x5 : Int32), ∀ (t : sr_t), sr_g l sr_m11_better 147 [some (sr_r 11 0), some (sr_i a0), some (sr_i x2), some (sr_i x3), some (sr_i x4), some (sr_i x5), none, none] [] t (f11_better_147 a0 k40 k168 x2 x3 x4 x5 t) 0 0 := by
  intro x2 x3 x4 x5  t
  unfold f11_better_147
  refine sr_iload (pc := 147) (i := 5) (by decide +kernel) rfl ?_
  refine sr_iloadn (pc := 149) (n := 3) (by decide +kernel) rfl ?_
  refine sr_icmp_lt (pc := 150) (off := 6) (tg := 156) (by decide +kernel) (by decide) (fun _ => ?_) (fun _ => ?_)
  · refine sr_iload (pc := 156) (i := 5) (by decide +kernel) rfl ?_
    refine sr_istoren (pc := 158) (n := 3) (by decide +kernel) (by decide) rfl rfl ?_
    refine sr_iload (pc := 159) (i := 4) (by decide +kernel) rfl ?_
    refine sr_istoren (pc := 161) (n := 2) (by decide +kernel) (by decide) rfl rfl ?_
    exact sr_wk (sr_mono (mc := 0) (ms := 0) (by omega) (by omega) (g11_better_162 l a0 k40 k168 hk40 hk168 x4 x5 x4 t)) ⟨rfl, ⟨rfl, ⟨rfl, ⟨rfl, ⟨rfl, trivial⟩⟩⟩⟩⟩
  · refine sr_goto (pc := 153) (off := 9) (tg := 162) (by decide +kernel) (by decide) ?_
    exact sr_wk (sr_mono (mc := 0) (ms := 0) (by omega) (by omega) (g11_better_162 l a0 k40 k168 hk40 hk168 x2 x3 x4 t)) ⟨rfl, ⟨rfl, ⟨rfl, ⟨rfl, ⟨rfl, trivial⟩⟩⟩⟩⟩
def f11_better_40 (a0 : Int32) (k168 : Int32 → sr_t → sr_Rs) : Nat → Int32 → Int32 → Int32 → sr_t → sr_Rs
  | 0 => fun _ _ _ _ => none
  | n + 1 => fun x2 x3 x4 t => (if 99 < x4 then k168 x2 t else f11_better_53 a0 (f11_better_147 a0 (f11_better_40 a0 k168 n) k168) sr_fu x2 x3 x4 0 0 t)
theorem g11_better_40 (l : Launch) (a0 : Int32)  (k168 : Int32 → sr_t → sr_Rs) (hk168 : ∀ (x2 : Int32), ∀ (t : sr_t), sr_g l sr_m11_better 168 [some (sr_r 11 0), some (sr_i a0), some (sr_i x2), none, none, none, none, none] [] t (k168 x2 t) 0 0) : ∀ (n : Nat) (x2 : Int32) (x3 : Int32) (x4 : Int32), ∀ (t : sr_t), sr_g l sr_m11_better 40 [some (sr_r 11 0), some (sr_i a0), some (sr_i x2), some (sr_i x3), some (sr_i x4), none, none, none] [] t (f11_better_40 a0 k168 n x2 x3 x4 t) 0 0 := by
  intro n
  induction n with
  | zero => intros; exact sr_Gn
  | succ n ih =>
    intro x2 x3 x4  t
    unfold f11_better_40
    refine sr_iload (pc := 40) (i := 4) (by decide +kernel) rfl ?_
    refine sr_bipush (pc := 42) (n := 99) (v := 99) (by decide +kernel) (by decide) ?_
    refine sr_icmp_gt (pc := 44) (off := 124) (tg := 168) (by decide +kernel) (by decide) (fun _ => ?_) (fun _ => ?_)
    · exact sr_wk (sr_mono (mc := 0) (ms := 0) (by omega) (by omega) (hk168 x2 t)) ⟨rfl, ⟨rfl, ⟨rfl, trivial⟩⟩⟩
    · refine sr_iconst (pc := 47) (n := 0) (v := 0) (by decide +kernel) rfl ?_
      refine sr_istore (pc := 48) (i := 5) (by decide +kernel) (by decide) rfl rfl ?_
      refine sr_iconst (pc := 50) (n := 0) (v := 0) (by decide +kernel) rfl ?_
      refine sr_istore (pc := 51) (i := 6) (by decide +kernel) (by decide) rfl rfl ?_
      exact sr_wk (sr_mono (mc := 0) (ms := 0) (by omega) (by omega) (g11_better_53 l a0 (f11_better_147 a0 (f11_better_40 a0 k168 n) k168) (g11_better_147 l a0 (f11_better_40 a0 k168 n) k168 ih hk168) sr_fu x2 x3 x4 0 0 t)) ⟨rfl, ⟨rfl, ⟨rfl, ⟨rfl, ⟨rfl, ⟨rfl, ⟨rfl, trivial⟩⟩⟩⟩⟩⟩⟩
def f11_better_168 (a0 : Int32)  : Int32 → sr_t → sr_Rs := fun x2 t => (some (.inl (some (sr_i x2)), t))
theorem g11_better_168 (l : Launch) (a0 : Int32)    : ∀ (x2 : Int32), ∀ (t : sr_t), sr_g l sr_m11_better 168 [some (sr_r 11 0), some (sr_i a0), some (sr_i x2), none, none, none, none, none] [] t (f11_better_168 a0  x2 t) 0 0 := by
  intro x2  t
  unfold f11_better_168
  refine sr_iloadn (pc := 168) (n := 2) (by decide +kernel) rfl ?_
  exact sr_iret (pc := 169) (by decide +kernel) rfl
def f11_better_14 (a0 : Int32)  : Int32 → sr_t → sr_Rs := fun xs0 t => (sr_lt (sr_u t 11 0 0 xs0) (fun t1 => (if (t1.1 11 0 0) ≤ 0 then (sr_bV (F11_samples 1 t1) (fun t2 => f11_better_40 a0 (f11_better_168 a0) sr_fu ((-1)) 100000000 0 t2)) else (some (.inl (some (sr_i 0)), t1)))))
theorem g11_better_14 (l : Launch) (a0 : Int32)    : ∀ (xs0 : Int32), ∀ (t : sr_t), sr_g l sr_m11_better 14 [some (sr_r 11 0), some (sr_i a0), none, none, none, none, none, none] [sr_i xs0, sr_r 11 0] t (f11_better_14 a0  xs0 t) 0 0 := by
  intro xs0  t
  unfold f11_better_14
  refine sr_pI (pc := 14) fg_11_93 ft_11_0 (by decide +kernel) (sr_in11 _ (by omega)) (fun _ => rfl) (fun t1 => ?_)
  refine sr_aloadn (pc := 17) (n := 0) (by decide +kernel) rfl ?_
  refine sr_gI (pc := 18) fg_11_93 (by decide +kernel) (sr_in11 _ (by omega)) (fun _ => rfl) ?_
  refine sr_if_le (pc := 21) (off := 5) (tg := 26) (by decide +kernel) (by decide) (fun _ => ?_) (fun _ => ?_)
  · refine sr_aloadn (pc := 26) (n := 0) (by decide +kernel) rfl ?_
    refine sr_iconst (pc := 27) (n := 1) (v := 1) (by decide +kernel) rfl ?_
    refine sr_cV (pc := 28) (As := [sr_i 1]) (mc1 := 0) (ms1 := 0) (mc2 := 0) (ms2 := 0) fm_11_268 fl_11_268 (by decide +kernel) (sr_in11 _ (by omega)) (rm_11_better_11_samples) rfl rfl rfl (C11_samples l 1 t1) ?_
    refine sr_kV (fun t2 => ?_)
    refine sr_iconst (pc := 31) (n := (-1)) (v := (-1)) (by decide +kernel) rfl ?_
    refine sr_istoren (pc := 32) (n := 2) (by decide +kernel) (by decide) rfl rfl ?_
    refine sr_ldcw (pc := 33) (n := 282) (v := 100000000) (by decide +kernel) (sr_tb (n := 1767) (by decide +kernel) rfl) ?_
    refine sr_istoren (pc := 36) (n := 3) (by decide +kernel) (by decide) rfl rfl ?_
    refine sr_iconst (pc := 37) (n := 0) (v := 0) (by decide +kernel) rfl ?_
    refine sr_istore (pc := 38) (i := 4) (by decide +kernel) (by decide) rfl rfl ?_
    exact sr_wk (sr_mono (mc := 0) (ms := 0) (by omega) (by omega) (g11_better_40 l a0 (f11_better_168 a0) (g11_better_168 l a0) sr_fu ((-1)) 100000000 0 t2)) ⟨rfl, ⟨rfl, ⟨rfl, ⟨rfl, ⟨rfl, trivial⟩⟩⟩⟩⟩
  · refine sr_iconst (pc := 24) (n := 0) (v := 0) (by decide +kernel) rfl ?_
    exact sr_iret (pc := 25) (by decide +kernel) rfl
def F11_better (a0 : Int32) (t : sr_t) : sr_Rs := (sr_bI (F11_isNode a0 t) (fun v1 t1 => (if v1 = 0 then f11_better_14 a0 1 t1 else f11_better_14 a0 0 t1)))
theorem C11_better (l : Launch) (a0 : Int32)  (t : sr_t) : sr_ct' l sr_m11_better [sr_r 11 0, sr_i a0] t (F11_better a0 t) 0 0 := by
  refine sr_T_of (L0 := [some (sr_r 11 0), some (sr_i a0), none, none, none, none, none, none]) rfl (by decide +kernel) (fun _ => rfl) (fun _ => Nat.le_of_ble_eq_true rfl) ?_
  unfold F11_better
  refine sr_aloadn (pc := 0) (n := 0) (by decide +kernel) rfl ?_
  refine sr_aloadn (pc := 1) (n := 0) (by decide +kernel) rfl ?_
  refine sr_iloadn (pc := 2) (n := 1) (by decide +kernel) rfl ?_
  refine sr_cV (pc := 3) (As := [sr_i a0]) (mc1 := 0) (ms1 := 0) (mc2 := 0) (ms2 := 0) fm_11_141 fl_11_141 (by decide +kernel) (sr_in11 _ (by omega)) (rm_11_better_11_isNode) rfl rfl rfl (C11_isNode l a0 t) ?_
  refine sr_kI (fun v1 t1 => ?_)
  refine sr_if_eq (pc := 6) (off := 7) (tg := 13) (by decide +kernel) (by decide) (fun _ => ?_) (fun _ => ?_)
  · refine sr_iconst (pc := 13) (n := 1) (v := 1) (by decide +kernel) rfl ?_
    exact sr_wk (sr_mono (mc := 0) (ms := 0) (by omega) (by omega) (g11_better_14 l a0 1 t1)) ⟨rfl, ⟨rfl, trivial⟩⟩
  · refine sr_iconst (pc := 9) (n := 0) (v := 0) (by decide +kernel) rfl ?_
    refine sr_goto (pc := 10) (off := 4) (tg := 14) (by decide +kernel) (by decide) ?_
    exact sr_wk (sr_mono (mc := 0) (ms := 0) (by omega) (by omega) (g11_better_14 l a0 0 t1)) ⟨rfl, ⟨rfl, trivial⟩⟩
def sr_m11_upLinks : sr_M := (⟨"ShiftRingModel", "upLinks", "(I)I"⟩, prog_13_method_80_code, 4, (some .int), [], 2, 45)
def sr_m11_spreads : sr_M := (⟨"ShiftRingModel", "spreads", "(I)V"⟩, prog_13_method_81_code, 6, none, [], 3, 68)
def sr_m11_far : sr_M := (⟨"ShiftRingModel", "far", "(II)I"⟩, prog_13_method_82_code, 3, (some .int), [], 4, 93)
theorem fg_11_77 : sr_FG "ShiftRingModel" 77 11 49 53 := ⟨RX11, TX11, tyX11, rfl, by decide, rfl, uw_11, tyX11_ok, nmX11, Or.inl (sr_tb (n := 1432) (by decide +kernel) rfl)⟩
theorem fg_11_80 : sr_FG "ShiftRingModel" 80 11 50 53 := ⟨RX11, TX11, tyX11, rfl, by decide, rfl, uw_11, tyX11_ok, nmX11, Or.inl (sr_tb (n := 1433) (by decide +kernel) rfl)⟩
theorem fl_11_307 : Cond.methodLink "ShiftRingModel" 307 (sr_My sr_m11_upLinks) ∈ sr_TB := (sr_tb (n := 1856) (by decide +kernel) rfl)
theorem fm_11_307 : sr_FV "ShiftRingModel" 307 sr_m11_upLinks 11 1 := ⟨⟨rfl, sr_tb (n := 1859) (by decide +kernel) rfl, sr_tb (n := 12) (by decide +kernel) rfl, ⟨by decide, by decide, by decide +kernel⟩, Or.inl fl_11_307⟩, ⟨TX11, 53, rfl, rfl⟩, sr_tb (n := 1858) (by decide +kernel) rfl, sr_ts (n := 81) (by decide +kernel) rfl⟩
theorem fl_11_310 : Cond.methodLink "ShiftRingModel" 310 (sr_My sr_m11_spreads) ∈ sr_TB := (sr_tb (n := 1852) (by decide +kernel) rfl)
theorem fm_11_310 : sr_FV "ShiftRingModel" 310 sr_m11_spreads 11 1 := ⟨⟨rfl, sr_tb (n := 1855) (by decide +kernel) rfl, sr_tb (n := 12) (by decide +kernel) rfl, ⟨by decide, by decide, by decide +kernel⟩, Or.inl fl_11_310⟩, ⟨TX11, 53, rfl, rfl⟩, sr_tb (n := 1854) (by decide +kernel) rfl, sr_ts (n := 80) (by decide +kernel) rfl⟩
theorem rm_11_far_11_isNode : sr_RM sr_m11_far sr_m11_isNode := ⟨Nat.le_of_ble_eq_true rfl, Nat.le_of_ble_eq_true rfl⟩
theorem rm_11_far_11_spreads : sr_RM sr_m11_far sr_m11_spreads := ⟨Nat.le_of_ble_eq_true rfl, Nat.le_of_ble_eq_true rfl⟩
theorem rm_11_spreads_11_upLinks : sr_RM sr_m11_spreads sr_m11_upLinks := ⟨Nat.le_of_ble_eq_true rfl, Nat.le_of_ble_eq_true rfl⟩
theorem rm_11_upLinks_11_linksOf : sr_RM sr_m11_upLinks sr_m11_linksOf := ⟨Nat.le_of_ble_eq_true rfl, Nat.le_of_ble_eq_true rfl⟩
def f11_upLinks_33 (a0 : Int32) (k8 : Int32 → Int32 → sr_t → sr_Rs) (k39 : Int32 → sr_t → sr_Rs) : Int32 → Int32 → sr_t → sr_Rs := fun x2 x3 t => k8 x2 (x3 + 1) t
theorem g11_upLinks_33 (l : Launch) (a0 : Int32)  (k8 : Int32 → Int32 → sr_t → sr_Rs) (k39 : Int32 → sr_t → sr_Rs) (hk8 : ∀ (x2 : Int32) (x3 : Int32), ∀ (t : sr_t), sr_g l sr_m11_upLinks 8 [some (sr_r 11 0), some (sr_i a0), some (sr_i x2), some (sr_i x3)] [] t (k8 x2 x3 t) 0 0) (hk39 : ∀ (x2 : Int32), ∀ (t : sr_t), sr_g l sr_m11_upLinks 39 [some (sr_r 11 0), some (sr_i a0), some (sr_i x2), none] [] t (k39 x2 t) 0 0) : ∀ (x2 : Int32) (x3 : Int32), ∀ (t : sr_t), sr_g l sr_m11_upLinks 33 [some (sr_r 11 0), some (sr_i a0), some (sr_i x2), some (sr_i x3)] [] t (f11_upLinks_33 a0 k8 k39 x2 x3 t) 0 0 := by
  intro x2 x3  t
  unfold f11_upLinks_33
  refine sr_iinc (pc := 33) (i := 3) (n := 1) (w := x3 + 1) (by decide +kernel) rfl rfl (by decide) rfl rfl ?_
  refine sr_goto (pc := 36) (off := (-28)) (tg := 8) (by decide +kernel) (by decide) ?_
  exact sr_wk (sr_mono (mc := 0) (ms := 0) (by omega) (by omega) (hk8 x2 (x3 + 1) t)) ⟨rfl, ⟨rfl, ⟨rfl, ⟨rfl, trivial⟩⟩⟩⟩
def f11_upLinks_8 (a0 : Int32) (k39 : Int32 → sr_t → sr_Rs) : Nat → Int32 → Int32 → sr_t → sr_Rs
  | 0 => fun _ _ _ => none
  | n + 1 => fun x2 x3 t => (if (t.1 11 0 1) ≤ x3 then k39 x2 t else (if x3 < 0 ∨ 24 ≤ x3.toNatClampNeg then none else (if (t.1 25 0 x3.toNatClampNeg) = 0 then f11_upLinks_33 a0 (f11_upLinks_8 a0 k39 n) k39 (x2 &&& ((1 <<< (x3 &&& 31)) ^^^ ((-1)))) x3 t else f11_upLinks_33 a0 (f11_upLinks_8 a0 k39 n) k39 x2 x3 t)))
theorem g11_upLinks_8 (l : Launch) (a0 : Int32)  (k39 : Int32 → sr_t → sr_Rs) (hk39 : ∀ (x2 : Int32), ∀ (t : sr_t), sr_g l sr_m11_upLinks 39 [some (sr_r 11 0), some (sr_i a0), some (sr_i x2), none] [] t (k39 x2 t) 0 0) : ∀ (n : Nat) (x2 : Int32) (x3 : Int32), ∀ (t : sr_t), sr_g l sr_m11_upLinks 8 [some (sr_r 11 0), some (sr_i a0), some (sr_i x2), some (sr_i x3)] [] t (f11_upLinks_8 a0 k39 n x2 x3 t) 0 0 := by
  intro n
  induction n with
  | zero => intros; exact sr_Gn
  | succ n ih =>
    intro x2 x3  t
    unfold f11_upLinks_8
    refine sr_iloadn (pc := 8) (n := 3) (by decide +kernel) rfl ?_
    refine sr_aloadn (pc := 9) (n := 0) (by decide +kernel) rfl ?_
    refine sr_gI (pc := 10) fg_11_100 (by decide +kernel) (sr_in11 _ (by omega)) (fun _ => rfl) ?_
    refine sr_icmp_ge (pc := 13) (off := 26) (tg := 39) (by decide +kernel) (by decide) (fun _ => ?_) (fun _ => ?_)
    · exact sr_wk (sr_mono (mc := 0) (ms := 0) (by omega) (by omega) (hk39 x2 t)) ⟨rfl, ⟨rfl, ⟨rfl, trivial⟩⟩⟩
    · refine sr_aloadn (pc := 16) (n := 0) (by decide +kernel) rfl ?_
      refine sr_gC (pc := 17) (i2 := 0) fg_11_13 (by decide +kernel) (sr_in11 _ (by omega)) (fun _ => rfl) ?_
      refine sr_iloadn (pc := 20) (n := 3) (by decide +kernel) rfl ?_
      refine sr_aI (pc := 21) (n := 24) rfl (by decide +kernel) (sr_in25 _ (by omega)) (fun _ _ => rfl) ?_
      refine sr_if_ne (pc := 22) (off := 11) (tg := 33) (by decide +kernel) (by decide) (fun _ => ?_) (fun _ => ?_)
      · exact sr_wk (sr_mono (mc := 0) (ms := 0) (by omega) (by omega) (g11_upLinks_33 l a0 (f11_upLinks_8 a0 k39 n) k39 ih hk39 x2 x3 t)) ⟨rfl, ⟨rfl, ⟨rfl, ⟨rfl, trivial⟩⟩⟩⟩
      · refine sr_iloadn (pc := 25) (n := 2) (by decide +kernel) rfl ?_
        refine sr_iconst (pc := 26) (n := 1) (v := 1) (by decide +kernel) rfl ?_
        refine sr_iloadn (pc := 27) (n := 3) (by decide +kernel) rfl ?_
        refine sr_ishl (pc := 28) (by decide +kernel) ?_
        refine sr_iconst (pc := 29) (n := (-1)) (v := (-1)) (by decide +kernel) rfl ?_
        refine sr_ixor (pc := 30) (by decide +kernel) ?_
        refine sr_iand (pc := 31) (by decide +kernel) ?_
        refine sr_istoren (pc := 32) (n := 2) (by decide +kernel) (by decide) rfl rfl ?_
        exact sr_wk (sr_mono (mc := 0) (ms := 0) (by omega) (by omega) (g11_upLinks_33 l a0 (f11_upLinks_8 a0 k39 n) k39 ih hk39 (x2 &&& ((1 <<< (x3 &&& 31)) ^^^ ((-1)))) x3 t)) ⟨rfl, ⟨rfl, ⟨rfl, ⟨rfl, trivial⟩⟩⟩⟩
def f11_upLinks_39 (a0 : Int32)  : Int32 → sr_t → sr_Rs := fun x2 t => (some (.inl (some (sr_i x2)), t))
theorem g11_upLinks_39 (l : Launch) (a0 : Int32)    : ∀ (x2 : Int32), ∀ (t : sr_t), sr_g l sr_m11_upLinks 39 [some (sr_r 11 0), some (sr_i a0), some (sr_i x2), none] [] t (f11_upLinks_39 a0  x2 t) 0 0 := by
  intro x2  t
  unfold f11_upLinks_39
  refine sr_iloadn (pc := 39) (n := 2) (by decide +kernel) rfl ?_
  exact sr_iret (pc := 40) (by decide +kernel) rfl
def F11_upLinks (a0 : Int32) (t : sr_t) : sr_Rs := (sr_bI (F11_linksOf a0 t) (fun v1 t1 => f11_upLinks_8 a0 (f11_upLinks_39 a0) sr_fu v1 0 t1))
theorem C11_upLinks (l : Launch) (a0 : Int32)  (t : sr_t) : sr_ct' l sr_m11_upLinks [sr_r 11 0, sr_i a0] t (F11_upLinks a0 t) 0 0 := by
  refine sr_T_of (L0 := [some (sr_r 11 0), some (sr_i a0), none, none]) rfl (by decide +kernel) (fun _ => rfl) (fun _ => Nat.le_of_ble_eq_true rfl) ?_
  unfold F11_upLinks
  refine sr_aloadn (pc := 0) (n := 0) (by decide +kernel) rfl ?_
  refine sr_iloadn (pc := 1) (n := 1) (by decide +kernel) rfl ?_
  refine sr_cV (pc := 2) (As := [sr_i a0]) (mc1 := 0) (ms1 := 0) (mc2 := 0) (ms2 := 0) fm_11_283 fl_11_283 (by decide +kernel) (sr_in11 _ (by omega)) (rm_11_upLinks_11_linksOf) rfl rfl rfl (C11_linksOf l a0 t) ?_
  refine sr_kI (fun v1 t1 => ?_)
  refine sr_istoren (pc := 5) (n := 2) (by decide +kernel) (by decide) rfl rfl ?_
  refine sr_iconst (pc := 6) (n := 0) (v := 0) (by decide +kernel) rfl ?_
  refine sr_istoren (pc := 7) (n := 3) (by decide +kernel) (by decide) rfl rfl ?_
  exact sr_wk (sr_mono (mc := 0) (ms := 0) (by omega) (by omega) (g11_upLinks_8 l a0 (f11_upLinks_39 a0) (g11_upLinks_39 l a0) sr_fu v1 0 t1)) ⟨rfl, ⟨rfl, ⟨rfl, ⟨rfl, trivial⟩⟩⟩⟩
def f11_spreads_25 (a0 : Int32) (k2 : Int32 → sr_t → sr_Rs) (k32 : sr_t → sr_Rs) : Int32 → Int32 → Int32 → sr_t → sr_Rs := fun x2 xs0 xs1 t => (if xs1 < 0 ∨ 24 ≤ xs1.toNatClampNeg then none else sr_lt (sr_u t 43 0 xs1.toNatClampNeg xs0) (fun t1 => k2 (x2 + 1) t1))
theorem g11_spreads_25 (l : Launch) (a0 : Int32)  (k2 : Int32 → sr_t → sr_Rs) (k32 : sr_t → sr_Rs) (hk2 : ∀ (x2 : Int32), ∀ (t : sr_t), sr_g l sr_m11_spreads 2 [some (sr_r 11 0), some (sr_i a0), some (sr_i x2), none, none, none] [] t (k2 x2 t) 0 0) (hk32 : ∀ (t : sr_t), sr_g l sr_m11_spreads 32 [some (sr_r 11 0), some (sr_i a0), none, none, none, none] [] t (k32 t) 0 0) : ∀ (x2 : Int32) (xs0 : Int32) (xs1 : Int32), ∀ (t : sr_t), sr_g l sr_m11_spreads 25 [some (sr_r 11 0), some (sr_i a0), some (sr_i x2), none, none, none] [sr_i xs0, sr_i xs1, sr_r 43 0] t (f11_spreads_25 a0 k2 k32 x2 xs0 xs1 t) 0 0 := by
  intro x2 xs0 xs1  t
  unfold f11_spreads_25
  refine sr_sI (pc := 25) (n := 24) rfl (by decide +kernel) (sr_in43 _ (by omega)) (fun _ _ => rfl) (fun t1 => ?_)
  refine sr_iinc (pc := 26) (i := 2) (n := 1) (w := x2 + 1) (by decide +kernel) rfl rfl (by decide) rfl rfl ?_
  refine sr_goto (pc := 29) (off := (-27)) (tg := 2) (by decide +kernel) (by decide) ?_
  exact sr_wk (sr_mono (mc := 0) (ms := 0) (by omega) (by omega) (hk2 (x2 + 1) t1)) ⟨rfl, ⟨rfl, ⟨rfl, trivial⟩⟩⟩
def f11_spreads_2 (a0 : Int32) (k32 : sr_t → sr_Rs) : Nat → Int32 → sr_t → sr_Rs
  | 0 => fun _ _ => none
  | n + 1 => fun x2 t => (if (t.1 11 0 1) ≤ x2 then k32 t else (if x2 = a0 then f11_spreads_25 a0 (f11_spreads_2 a0 k32 n) k32 x2 0 x2 t else f11_spreads_25 a0 (f11_spreads_2 a0 k32 n) k32 x2 ((-1)) x2 t))
theorem g11_spreads_2 (l : Launch) (a0 : Int32)  (k32 : sr_t → sr_Rs) (hk32 : ∀ (t : sr_t), sr_g l sr_m11_spreads 32 [some (sr_r 11 0), some (sr_i a0), none, none, none, none] [] t (k32 t) 0 0) : ∀ (n : Nat) (x2 : Int32), ∀ (t : sr_t), sr_g l sr_m11_spreads 2 [some (sr_r 11 0), some (sr_i a0), some (sr_i x2), none, none, none] [] t (f11_spreads_2 a0 k32 n x2 t) 0 0 := by
  intro n
  induction n with
  | zero => intros; exact sr_Gn
  | succ n ih =>
    intro x2  t
    unfold f11_spreads_2
    refine sr_iloadn (pc := 2) (n := 2) (by decide +kernel) rfl ?_
    refine sr_aloadn (pc := 3) (n := 0) (by decide +kernel) rfl ?_
    refine sr_gI (pc := 4) fg_11_100 (by decide +kernel) (sr_in11 _ (by omega)) (fun _ => rfl) ?_
    refine sr_icmp_ge (pc := 7) (off := 25) (tg := 32) (by decide +kernel) (by decide) (fun _ => ?_) (fun _ => ?_)
    · exact sr_wk (sr_mono (mc := 0) (ms := 0) (by omega) (by omega) (hk32 t)) ⟨rfl, ⟨rfl, trivial⟩⟩
    · refine sr_aloadn (pc := 10) (n := 0) (by decide +kernel) rfl ?_
      refine sr_gC (pc := 11) (i2 := 0) fg_11_77 (by decide +kernel) (sr_in11 _ (by omega)) (fun _ => rfl) ?_
      refine sr_iloadn (pc := 14) (n := 2) (by decide +kernel) rfl ?_
      refine sr_iloadn (pc := 15) (n := 2) (by decide +kernel) rfl ?_
      refine sr_iloadn (pc := 16) (n := 1) (by decide +kernel) rfl ?_
      refine sr_icmp_ne (pc := 17) (off := 7) (tg := 24) (by decide +kernel) (by decide) (fun _ => ?_) (fun _ => ?_)
      · refine sr_iconst (pc := 24) (n := (-1)) (v := (-1)) (by decide +kernel) rfl ?_
        exact sr_wk (sr_mono (mc := 0) (ms := 0) (by omega) (by omega) (g11_spreads_25 l a0 (f11_spreads_2 a0 k32 n) k32 ih hk32 x2 ((-1)) x2 t)) ⟨rfl, ⟨rfl, ⟨rfl, trivial⟩⟩⟩
      · refine sr_iconst (pc := 20) (n := 0) (v := 0) (by decide +kernel) rfl ?_
        refine sr_goto (pc := 21) (off := 4) (tg := 25) (by decide +kernel) (by decide) ?_
        exact sr_wk (sr_mono (mc := 0) (ms := 0) (by omega) (by omega) (g11_spreads_25 l a0 (f11_spreads_2 a0 k32 n) k32 ih hk32 x2 0 x2 t)) ⟨rfl, ⟨rfl, ⟨rfl, trivial⟩⟩⟩
def f11_spreads_127 (a0 : Int32) (k63 : Int32 → Int32 → Int32 → Int32 → sr_t → sr_Rs) (k133 : Int32 → Int32 → sr_t → sr_Rs) : Int32 → Int32 → Int32 → Int32 → sr_t → sr_Rs := fun x2 x3 x4 x5 t => k63 x2 x3 x4 (x5 + 1) t
theorem g11_spreads_127 (l : Launch) (a0 : Int32)  (k63 : Int32 → Int32 → Int32 → Int32 → sr_t → sr_Rs) (k133 : Int32 → Int32 → sr_t → sr_Rs) (hk63 : ∀ (x2 : Int32) (x3 : Int32) (x4 : Int32) (x5 : Int32), ∀ (t : sr_t), sr_g l sr_m11_spreads 63 [some (sr_r 11 0), some (sr_i a0), some (sr_i x2), some (sr_i x3), some (sr_i x4), some (sr_i x5)] [] t (k63 x2 x3 x4 x5 t) 0 0) (hk133 : ∀ (x2 : Int32) (x3 : Int32), ∀ (t : sr_t), sr_g l sr_m11_spreads 133 [some (sr_r 11 0), some (sr_i a0), some (sr_i x2), some (sr_i x3), none, none] [] t (k133 x2 x3 t) 0 0) : ∀ (x2 : Int32) (x3 : Int32) (x4 : Int32) (x5 : Int32), ∀ (t : sr_t), sr_g l sr_m11_spreads 127 [some (sr_r 11 0), some (sr_i a0), some (sr_i x2), some (sr_i x3), some (sr_i x4), some (sr_i x5)] [] t (f11_spreads_127 a0 k63 k133 x2 x3 x4 x5 t) 0 0 := by
  intro x2 x3 x4 x5  t
  unfold f11_spreads_127
  refine sr_iinc (pc := 127) (i := 5) (n := 1) (w := x5 + 1) (by decide +kernel) rfl rfl (by decide) rfl rfl ?_
  refine sr_goto (pc := 130) (off := (-67)) (tg := 63) (by decide +kernel) (by decide) ?_
  exact sr_wk (sr_mono (mc := 0) (ms := 0) (by omega) (by omega) (hk63 x2 x3 x4 (x5 + 1) t)) ⟨rfl, ⟨rfl, ⟨rfl, ⟨rfl, ⟨rfl, ⟨rfl, trivial⟩⟩⟩⟩⟩⟩
def f11_spreads_63 (a0 : Int32) (k133 : Int32 → Int32 → sr_t → sr_Rs) : Nat → Int32 → Int32 → Int32 → Int32 → sr_t → sr_Rs
  | 0 => fun _ _ _ _ _ => none
  | n + 1 => fun x2 x3 x4 x5 t => (if (t.1 11 0 1) ≤ x5 then k133 x2 x3 t else (if ((x4 >>> (x5 &&& 31)) &&& 1) = 0 then f11_spreads_127 a0 (f11_spreads_63 a0 k133 n) k133 x2 x3 x4 x5 t else (if x5 < 0 ∨ 24 ≤ x5.toNatClampNeg then none else (if (t.1 43 0 x5.toNatClampNeg) = ((-1)) then (if x3 < 0 ∨ 48 ≤ x3.toNatClampNeg then none else (if t.1 44 0 x3.toNatClampNeg < 0 ∨ 24 ≤ (t.1 44 0 x3.toNatClampNeg).toNatClampNeg then none else (if x5 < 0 ∨ 24 ≤ x5.toNatClampNeg then none else sr_lt (sr_u t 43 0 x5.toNatClampNeg ((t.1 43 0 (t.1 44 0 x3.toNatClampNeg).toNatClampNeg) + 1)) (fun t1 => (if x2 < 0 ∨ 48 ≤ x2.toNatClampNeg then none else sr_lt (sr_u t1 44 0 x2.toNatClampNeg x5) (fun t2 => f11_spreads_127 a0 (f11_spreads_63 a0 k133 n) k133 (x2 + 1) x3 x4 x5 t2)))))) else f11_spreads_127 a0 (f11_spreads_63 a0 k133 n) k133 x2 x3 x4 x5 t))))
theorem g11_spreads_63 (l : Launch) (a0 : Int32)  (k133 : Int32 → Int32 → sr_t → sr_Rs) (hk133 : ∀ (x2 : Int32) (x3 : Int32), ∀ (t : sr_t), sr_g l sr_m11_spreads 133 [some (sr_r 11 0), some (sr_i a0), some (sr_i x2), some (sr_i x3), none, none] [] t (k133 x2 x3 t) 0 0) : ∀ (n : Nat) (x2 : Int32) (x3 : Int32) (x4 : Int32) (x5 : Int32), ∀ (t : sr_t), sr_g l sr_m11_spreads 63 [some (sr_r 11 0), some (sr_i a0), some (sr_i x2), some (sr_i x3), some (sr_i x4), some (sr_i x5)] [] t (f11_spreads_63 a0 k133 n x2 x3 x4 x5 t) 0 0 := by
  intro n
  induction n with
  | zero => intros; exact sr_Gn
  | succ n ih =>
    intro x2 x3 x4 x5  t
    unfold f11_spreads_63
    refine sr_iload (pc := 63) (i := 5) (by decide +kernel) rfl ?_
    refine sr_aloadn (pc := 65) (n := 0) (by decide +kernel) rfl ?_
    refine sr_gI (pc := 66) fg_11_100 (by decide +kernel) (sr_in11 _ (by omega)) (fun _ => rfl) ?_
    refine sr_icmp_ge (pc := 69) (off := 64) (tg := 133) (by decide +kernel) (by decide) (fun _ => ?_) (fun _ => ?_)
    · exact sr_wk (sr_mono (mc := 0) (ms := 0) (by omega) (by omega) (hk133 x2 x3 t)) ⟨rfl, ⟨rfl, ⟨rfl, ⟨rfl, trivial⟩⟩⟩⟩
    · refine sr_iload (pc := 72) (i := 4) (by decide +kernel) rfl ?_
      refine sr_iload (pc := 74) (i := 5) (by decide +kernel) rfl ?_
      refine sr_ishr (pc := 76) (by decide +kernel) ?_
      refine sr_iconst (pc := 77) (n := 1) (v := 1) (by decide +kernel) rfl ?_
      refine sr_iand (pc := 78) (by decide +kernel) ?_
      refine sr_if_eq (pc := 79) (off := 48) (tg := 127) (by decide +kernel) (by decide) (fun _ => ?_) (fun _ => ?_)
      · exact sr_wk (sr_mono (mc := 0) (ms := 0) (by omega) (by omega) (g11_spreads_127 l a0 (f11_spreads_63 a0 k133 n) k133 ih hk133 x2 x3 x4 x5 t)) ⟨rfl, ⟨rfl, ⟨rfl, ⟨rfl, ⟨rfl, ⟨rfl, trivial⟩⟩⟩⟩⟩⟩
      · refine sr_aloadn (pc := 82) (n := 0) (by decide +kernel) rfl ?_
        refine sr_gC (pc := 83) (i2 := 0) fg_11_77 (by decide +kernel) (sr_in11 _ (by omega)) (fun _ => rfl) ?_
        refine sr_iload (pc := 86) (i := 5) (by decide +kernel) rfl ?_
        refine sr_aI (pc := 88) (n := 24) rfl (by decide +kernel) (sr_in43 _ (by omega)) (fun _ _ => rfl) ?_
        refine sr_iconst (pc := 89) (n := (-1)) (v := (-1)) (by decide +kernel) rfl ?_
        refine sr_icmp_eq (pc := 90) (off := 6) (tg := 96) (by decide +kernel) (by decide) (fun _ => ?_) (fun _ => ?_)
        · refine sr_aloadn (pc := 96) (n := 0) (by decide +kernel) rfl ?_
          refine sr_gC (pc := 97) (i2 := 0) fg_11_77 (by decide +kernel) (sr_in11 _ (by omega)) (fun _ => rfl) ?_
          refine sr_iload (pc := 100) (i := 5) (by decide +kernel) rfl ?_
          refine sr_aloadn (pc := 102) (n := 0) (by decide +kernel) rfl ?_
          refine sr_gC (pc := 103) (i2 := 0) fg_11_77 (by decide +kernel) (sr_in11 _ (by omega)) (fun _ => rfl) ?_
          refine sr_aloadn (pc := 106) (n := 0) (by decide +kernel) rfl ?_
          refine sr_gC (pc := 107) (i2 := 0) fg_11_80 (by decide +kernel) (sr_in11 _ (by omega)) (fun _ => rfl) ?_
          refine sr_iloadn (pc := 110) (n := 3) (by decide +kernel) rfl ?_
          refine sr_aI (pc := 111) (n := 48) rfl (by decide +kernel) (sr_in44 _ (by omega)) (fun _ _ => rfl) ?_
          refine sr_aI (pc := 112) (n := 24) rfl (by decide +kernel) (sr_in43 _ (by omega)) (fun _ _ => rfl) ?_
          refine sr_iconst (pc := 113) (n := 1) (v := 1) (by decide +kernel) rfl ?_
          refine sr_iadd (pc := 114) (by decide +kernel) ?_
          refine sr_sI (pc := 115) (n := 24) rfl (by decide +kernel) (sr_in43 _ (by omega)) (fun _ _ => rfl) (fun t1 => ?_)
          refine sr_aloadn (pc := 116) (n := 0) (by decide +kernel) rfl ?_
          refine sr_gC (pc := 117) (i2 := 0) fg_11_80 (by decide +kernel) (sr_in11 _ (by omega)) (fun _ => rfl) ?_
          refine sr_iloadn (pc := 120) (n := 2) (by decide +kernel) rfl ?_
          refine sr_iload (pc := 121) (i := 5) (by decide +kernel) rfl ?_
          refine sr_sI (pc := 123) (n := 48) rfl (by decide +kernel) (sr_in44 _ (by omega)) (fun _ _ => rfl) (fun t2 => ?_)
          refine sr_iinc (pc := 124) (i := 2) (n := 1) (w := x2 + 1) (by decide +kernel) rfl rfl (by decide) rfl rfl ?_
          exact sr_wk (sr_mono (mc := 0) (ms := 0) (by omega) (by omega) (g11_spreads_127 l a0 (f11_spreads_63 a0 k133 n) k133 ih hk133 (x2 + 1) x3 x4 x5 t2)) ⟨rfl, ⟨rfl, ⟨rfl, ⟨rfl, ⟨rfl, ⟨rfl, trivial⟩⟩⟩⟩⟩⟩
        · refine sr_goto (pc := 93) (off := 34) (tg := 127) (by decide +kernel) (by decide) ?_
          exact sr_wk (sr_mono (mc := 0) (ms := 0) (by omega) (by omega) (g11_spreads_127 l a0 (f11_spreads_63 a0 k133 n) k133 ih hk133 x2 x3 x4 x5 t)) ⟨rfl, ⟨rfl, ⟨rfl, ⟨rfl, ⟨rfl, ⟨rfl, trivial⟩⟩⟩⟩⟩⟩
def f11_spreads_133 (a0 : Int32) (k43 : Int32 → Int32 → sr_t → sr_Rs) (k139 : sr_t → sr_Rs) : Int32 → Int32 → sr_t → sr_Rs := fun x2 x3 t => k43 x2 (x3 + 1) t
theorem g11_spreads_133 (l : Launch) (a0 : Int32)  (k43 : Int32 → Int32 → sr_t → sr_Rs) (k139 : sr_t → sr_Rs) (hk43 : ∀ (x2 : Int32) (x3 : Int32), ∀ (t : sr_t), sr_g l sr_m11_spreads 43 [some (sr_r 11 0), some (sr_i a0), some (sr_i x2), some (sr_i x3), none, none] [] t (k43 x2 x3 t) 0 0) (hk139 : ∀ (t : sr_t), sr_g l sr_m11_spreads 139 [some (sr_r 11 0), some (sr_i a0), none, none, none, none] [] t (k139 t) 0 0) : ∀ (x2 : Int32) (x3 : Int32), ∀ (t : sr_t), sr_g l sr_m11_spreads 133 [some (sr_r 11 0), some (sr_i a0), some (sr_i x2), some (sr_i x3), none, none] [] t (f11_spreads_133 a0 k43 k139 x2 x3 t) 0 0 := by
  intro x2 x3  t
  unfold f11_spreads_133
  refine sr_iinc (pc := 133) (i := 3) (n := 1) (w := x3 + 1) (by decide +kernel) rfl rfl (by decide) rfl rfl ?_
  refine sr_goto (pc := 136) (off := (-93)) (tg := 43) (by decide +kernel) (by decide) ?_
  exact sr_wk (sr_mono (mc := 0) (ms := 0) (by omega) (by omega) (hk43 x2 (x3 + 1) t)) ⟨rfl, ⟨rfl, ⟨rfl, ⟨rfl, trivial⟩⟩⟩⟩
def f11_spreads_43 (a0 : Int32) (k139 : sr_t → sr_Rs) : Nat → Int32 → Int32 → sr_t → sr_Rs
  | 0 => fun _ _ _ => none
  | n + 1 => fun x2 x3 t => (if x2 ≤ x3 then k139 t else (if x3 < 0 ∨ 48 ≤ x3.toNatClampNeg then none else (sr_bI (F11_upLinks (t.1 44 0 x3.toNatClampNeg) t) (fun v1 t1 => f11_spreads_63 a0 (f11_spreads_133 a0 (f11_spreads_43 a0 k139 n) k139) sr_fu x2 x3 v1 0 t1))))
theorem g11_spreads_43 (l : Launch) (a0 : Int32)  (k139 : sr_t → sr_Rs) (hk139 : ∀ (t : sr_t), sr_g l sr_m11_spreads 139 [some (sr_r 11 0), some (sr_i a0), none, none, none, none] [] t (k139 t) 0 0) : ∀ (n : Nat) (x2 : Int32) (x3 : Int32), ∀ (t : sr_t), sr_g l sr_m11_spreads 43 [some (sr_r 11 0), some (sr_i a0), some (sr_i x2), some (sr_i x3), none, none] [] t (f11_spreads_43 a0 k139 n x2 x3 t) 0 0 := by
  intro n
  induction n with
  | zero => intros; exact sr_Gn
  | succ n ih =>
    intro x2 x3  t
    unfold f11_spreads_43
    refine sr_iloadn (pc := 43) (n := 3) (by decide +kernel) rfl ?_
    refine sr_iloadn (pc := 44) (n := 2) (by decide +kernel) rfl ?_
    refine sr_icmp_ge (pc := 45) (off := 94) (tg := 139) (by decide +kernel) (by decide) (fun _ => ?_) (fun _ => ?_)
    · exact sr_wk (sr_mono (mc := 0) (ms := 0) (by omega) (by omega) (hk139 t)) ⟨rfl, ⟨rfl, trivial⟩⟩
    · refine sr_aloadn (pc := 48) (n := 0) (by decide +kernel) rfl ?_
      refine sr_aloadn (pc := 49) (n := 0) (by decide +kernel) rfl ?_
      refine sr_gC (pc := 50) (i2 := 0) fg_11_80 (by decide +kernel) (sr_in11 _ (by omega)) (fun _ => rfl) ?_
      refine sr_iloadn (pc := 53) (n := 3) (by decide +kernel) rfl ?_
      refine sr_aI (pc := 54) (n := 48) rfl (by decide +kernel) (sr_in44 _ (by omega)) (fun _ _ => rfl) ?_
      refine sr_cV (pc := 55) (As := [sr_i (t.1 44 0 x3.toNatClampNeg)]) (mc1 := 0) (ms1 := 0) (mc2 := 0) (ms2 := 0) fm_11_307 fl_11_307 (by decide +kernel) (sr_in11 _ (by omega)) (rm_11_spreads_11_upLinks) rfl rfl rfl (C11_upLinks l (t.1 44 0 x3.toNatClampNeg) t) ?_
      refine sr_kI (fun v1 t1 => ?_)
      refine sr_istore (pc := 58) (i := 4) (by decide +kernel) (by decide) rfl rfl ?_
      refine sr_iconst (pc := 60) (n := 0) (v := 0) (by decide +kernel) rfl ?_
      refine sr_istore (pc := 61) (i := 5) (by decide +kernel) (by decide) rfl rfl ?_
      exact sr_wk (sr_mono (mc := 0) (ms := 0) (by omega) (by omega) (g11_spreads_63 l a0 (f11_spreads_133 a0 (f11_spreads_43 a0 k139 n) k139) (g11_spreads_133 l a0 (f11_spreads_43 a0 k139 n) k139 ih hk139) sr_fu x2 x3 v1 0 t1)) ⟨rfl, ⟨rfl, ⟨rfl, ⟨rfl, ⟨rfl, ⟨rfl, trivial⟩⟩⟩⟩⟩⟩
def f11_spreads_139 (a0 : Int32)  : sr_t → sr_Rs := fun  t => (some (.inl none, t))
theorem g11_spreads_139 (l : Launch) (a0 : Int32)    : ∀ (t : sr_t), sr_g l sr_m11_spreads 139 [some (sr_r 11 0), some (sr_i a0), none, none, none, none] [] t (f11_spreads_139 a0   t) 0 0 := by
  intro t
  unfold f11_spreads_139
  exact sr_ret (pc := 139) (by decide +kernel) rfl
def f11_spreads_32 (a0 : Int32)  : sr_t → sr_Rs := fun  t => (if (0 : Int32) < 0 ∨ 48 ≤ (0 : Int32).toNatClampNeg then none else sr_lt (sr_u t 44 0 (0 : Int32).toNatClampNeg a0) (fun t1 => f11_spreads_43 a0 (f11_spreads_139 a0) sr_fu 1 0 t1))
theorem g11_spreads_32 (l : Launch) (a0 : Int32)    : ∀ (t : sr_t), sr_g l sr_m11_spreads 32 [some (sr_r 11 0), some (sr_i a0), none, none, none, none] [] t (f11_spreads_32 a0   t) 0 0 := by
  intro t
  unfold f11_spreads_32
  refine sr_aloadn (pc := 32) (n := 0) (by decide +kernel) rfl ?_
  refine sr_gC (pc := 33) (i2 := 0) fg_11_80 (by decide +kernel) (sr_in11 _ (by omega)) (fun _ => rfl) ?_
  refine sr_iconst (pc := 36) (n := 0) (v := 0) (by decide +kernel) rfl ?_
  refine sr_iloadn (pc := 37) (n := 1) (by decide +kernel) rfl ?_
  refine sr_sI (pc := 38) (n := 48) rfl (by decide +kernel) (sr_in44 _ (by omega)) (fun _ _ => rfl) (fun t1 => ?_)
  refine sr_iconst (pc := 39) (n := 1) (v := 1) (by decide +kernel) rfl ?_
  refine sr_istoren (pc := 40) (n := 2) (by decide +kernel) (by decide) rfl rfl ?_
  refine sr_iconst (pc := 41) (n := 0) (v := 0) (by decide +kernel) rfl ?_
  refine sr_istoren (pc := 42) (n := 3) (by decide +kernel) (by decide) rfl rfl ?_
  exact sr_wk (sr_mono (mc := 0) (ms := 0) (by omega) (by omega) (g11_spreads_43 l a0 (f11_spreads_139 a0) (g11_spreads_139 l a0) sr_fu 1 0 t1)) ⟨rfl, ⟨rfl, ⟨rfl, ⟨rfl, trivial⟩⟩⟩⟩
def F11_spreads (a0 : Int32) (t : sr_t) : sr_Rs := f11_spreads_2 a0 (f11_spreads_32 a0) sr_fu 0 t
theorem C11_spreads (l : Launch) (a0 : Int32)  (t : sr_t) : sr_ct' l sr_m11_spreads [sr_r 11 0, sr_i a0] t (F11_spreads a0 t) 0 0 := by
  refine sr_T_of (L0 := [some (sr_r 11 0), some (sr_i a0), none, none, none, none]) rfl (by decide +kernel) (fun _ => rfl) (fun _ => Nat.le_of_ble_eq_true rfl) ?_
  unfold F11_spreads
  refine sr_iconst (pc := 0) (n := 0) (v := 0) (by decide +kernel) rfl ?_
  refine sr_istoren (pc := 1) (n := 2) (by decide +kernel) (by decide) rfl rfl ?_
  exact sr_wk (sr_mono (mc := 0) (ms := 0) (by omega) (by omega) (g11_spreads_2 l a0 (f11_spreads_32 a0) (g11_spreads_32 l a0) sr_fu 0 t)) ⟨rfl, ⟨rfl, ⟨rfl, trivial⟩⟩⟩
def f11_far_44 (a0 : Int32) (a1 : Int32)  : Int32 → sr_t → sr_Rs := fun xs0 t => (sr_lt (sr_u t 11 0 0 xs0) (fun t1 => (if (t1.1 11 0 0) ≤ 0 then (sr_bV (F11_spreads a0 t1) (fun t2 => (if a1 < 0 ∨ 24 ≤ a1.toNatClampNeg then none else (some (.inl (some (sr_i (t2.1 43 0 a1.toNatClampNeg))), t2))))) else (some (.inl (some (sr_i 0)), t1)))))
theorem g11_far_44 (l : Launch) (a0 : Int32) (a1 : Int32)    : ∀ (xs0 : Int32), ∀ (t : sr_t), sr_g l sr_m11_far 44 [some (sr_r 11 0), some (sr_i a0), some (sr_i a1)] [sr_i xs0, sr_r 11 0] t (f11_far_44 a0 a1  xs0 t) 0 0 := by
  intro xs0  t
  unfold f11_far_44
  refine sr_pI (pc := 44) fg_11_93 ft_11_0 (by decide +kernel) (sr_in11 _ (by omega)) (fun _ => rfl) (fun t1 => ?_)
  refine sr_aloadn (pc := 47) (n := 0) (by decide +kernel) rfl ?_
  refine sr_gI (pc := 48) fg_11_93 (by decide +kernel) (sr_in11 _ (by omega)) (fun _ => rfl) ?_
  refine sr_if_le (pc := 51) (off := 5) (tg := 56) (by decide +kernel) (by decide) (fun _ => ?_) (fun _ => ?_)
  · refine sr_aloadn (pc := 56) (n := 0) (by decide +kernel) rfl ?_
    refine sr_iloadn (pc := 57) (n := 1) (by decide +kernel) rfl ?_
    refine sr_cV (pc := 58) (As := [sr_i a0]) (mc1 := 0) (ms1 := 0) (mc2 := 0) (ms2 := 0) fm_11_310 fl_11_310 (by decide +kernel) (sr_in11 _ (by omega)) (rm_11_far_11_spreads) rfl rfl rfl (C11_spreads l a0 t1) ?_
    refine sr_kV (fun t2 => ?_)
    refine sr_aloadn (pc := 61) (n := 0) (by decide +kernel) rfl ?_
    refine sr_gC (pc := 62) (i2 := 0) fg_11_77 (by decide +kernel) (sr_in11 _ (by omega)) (fun _ => rfl) ?_
    refine sr_iloadn (pc := 65) (n := 2) (by decide +kernel) rfl ?_
    refine sr_aI (pc := 66) (n := 24) rfl (by decide +kernel) (sr_in43 _ (by omega)) (fun _ _ => rfl) ?_
    exact sr_iret (pc := 67) (by decide +kernel) rfl
  · refine sr_iconst (pc := 54) (n := 0) (v := 0) (by decide +kernel) rfl ?_
    exact sr_iret (pc := 55) (by decide +kernel) rfl
def f11_far_17 (a0 : Int32) (a1 : Int32)  : sr_t → sr_Rs := fun  t => f11_far_44 a0 a1 1 t
theorem g11_far_17 (l : Launch) (a0 : Int32) (a1 : Int32)    : ∀ (t : sr_t), sr_g l sr_m11_far 17 [some (sr_r 11 0), some (sr_i a0), some (sr_i a1)] [sr_r 11 0] t (f11_far_17 a0 a1   t) 0 0 := by
  intro t
  unfold f11_far_17
  refine sr_iconst (pc := 17) (n := 1) (v := 1) (by decide +kernel) rfl ?_
  refine sr_goto (pc := 18) (off := 26) (tg := 44) (by decide +kernel) (by decide) ?_
  exact sr_wk (sr_mono (mc := 0) (ms := 0) (by omega) (by omega) (g11_far_44 l a0 a1 1 t)) ⟨rfl, ⟨rfl, ⟨rfl, trivial⟩⟩⟩
def f11_far_39 (a0 : Int32) (a1 : Int32)  : sr_t → sr_Rs := fun  t => f11_far_44 a0 a1 2 t
theorem g11_far_39 (l : Launch) (a0 : Int32) (a1 : Int32)    : ∀ (t : sr_t), sr_g l sr_m11_far 39 [some (sr_r 11 0), some (sr_i a0), some (sr_i a1)] [sr_r 11 0] t (f11_far_39 a0 a1   t) 0 0 := by
  intro t
  unfold f11_far_39
  refine sr_iconst (pc := 39) (n := 2) (v := 2) (by decide +kernel) rfl ?_
  refine sr_goto (pc := 40) (off := 4) (tg := 44) (by decide +kernel) (by decide) ?_
  exact sr_wk (sr_mono (mc := 0) (ms := 0) (by omega) (by omega) (g11_far_44 l a0 a1 2 t)) ⟨rfl, ⟨rfl, ⟨rfl, trivial⟩⟩⟩
def F11_far (a0 : Int32) (a1 : Int32) (t : sr_t) : sr_Rs := (sr_bI (F11_isNode a0 t) (fun v1 t1 => (if v1 = 0 then f11_far_17 a0 a1 t1 else (sr_bI (F11_isNode a1 t1) (fun v2 t2 => (if v2 = 0 then f11_far_17 a0 a1 t2 else (if a0 < 0 ∨ 24 ≤ a0.toNatClampNeg then none else (if (t2.1 25 0 a0.toNatClampNeg) = 0 then f11_far_39 a0 a1 t2 else (if a1 < 0 ∨ 24 ≤ a1.toNatClampNeg then none else (if (t2.1 25 0 a1.toNatClampNeg) = 0 then f11_far_39 a0 a1 t2 else f11_far_44 a0 a1 0 t2))))))))))
theorem C11_far (l : Launch) (a0 : Int32) (a1 : Int32)  (t : sr_t) : sr_ct' l sr_m11_far [sr_r 11 0, sr_i a0, sr_i a1] t (F11_far a0 a1 t) 0 0 := by
  refine sr_T_of (L0 := [some (sr_r 11 0), some (sr_i a0), some (sr_i a1)]) rfl (by decide +kernel) (fun _ => rfl) (fun _ => Nat.le_of_ble_eq_true rfl) ?_
  unfold F11_far
  refine sr_aloadn (pc := 0) (n := 0) (by decide +kernel) rfl ?_
  refine sr_aloadn (pc := 1) (n := 0) (by decide +kernel) rfl ?_
  refine sr_iloadn (pc := 2) (n := 1) (by decide +kernel) rfl ?_
  refine sr_cV (pc := 3) (As := [sr_i a0]) (mc1 := 0) (ms1 := 0) (mc2 := 0) (ms2 := 0) fm_11_141 fl_11_141 (by decide +kernel) (sr_in11 _ (by omega)) (rm_11_far_11_isNode) rfl rfl rfl (C11_isNode l a0 t) ?_
  refine sr_kI (fun v1 t1 => ?_)
  refine sr_if_eq (pc := 6) (off := 11) (tg := 17) (by decide +kernel) (by decide) (fun _ => ?_) (fun _ => ?_)
  · exact sr_wk (sr_mono (mc := 0) (ms := 0) (by omega) (by omega) (g11_far_17 l a0 a1 t1)) ⟨rfl, ⟨rfl, ⟨rfl, trivial⟩⟩⟩
  · refine sr_aloadn (pc := 9) (n := 0) (by decide +kernel) rfl ?_
    refine sr_iloadn (pc := 10) (n := 2) (by decide +kernel) rfl ?_
    refine sr_cV (pc := 11) (As := [sr_i a1]) (mc1 := 0) (ms1 := 0) (mc2 := 0) (ms2 := 0) fm_11_141 fl_11_141 (by decide +kernel) (sr_in11 _ (by omega)) (rm_11_far_11_isNode) rfl rfl rfl (C11_isNode l a1 t1) ?_
    refine sr_kI (fun v2 t2 => ?_)
    refine sr_if_ne (pc := 14) (off := 7) (tg := 21) (by decide +kernel) (by decide) (fun _ => ?_) (fun _ => ?_)
    · refine sr_aloadn (pc := 21) (n := 0) (by decide +kernel) rfl ?_
      refine sr_gC (pc := 22) (i2 := 0) fg_11_13 (by decide +kernel) (sr_in11 _ (by omega)) (fun _ => rfl) ?_
      refine sr_iloadn (pc := 25) (n := 1) (by decide +kernel) rfl ?_
      refine sr_aI (pc := 26) (n := 24) rfl (by decide +kernel) (sr_in25 _ (by omega)) (fun _ _ => rfl) ?_
      refine sr_if_eq (pc := 27) (off := 12) (tg := 39) (by decide +kernel) (by decide) (fun _ => ?_) (fun _ => ?_)
      · exact sr_wk (sr_mono (mc := 0) (ms := 0) (by omega) (by omega) (g11_far_39 l a0 a1 t2)) ⟨rfl, ⟨rfl, ⟨rfl, trivial⟩⟩⟩
      · refine sr_aloadn (pc := 30) (n := 0) (by decide +kernel) rfl ?_
        refine sr_gC (pc := 31) (i2 := 0) fg_11_13 (by decide +kernel) (sr_in11 _ (by omega)) (fun _ => rfl) ?_
        refine sr_iloadn (pc := 34) (n := 2) (by decide +kernel) rfl ?_
        refine sr_aI (pc := 35) (n := 24) rfl (by decide +kernel) (sr_in25 _ (by omega)) (fun _ _ => rfl) ?_
        refine sr_if_ne (pc := 36) (off := 7) (tg := 43) (by decide +kernel) (by decide) (fun _ => ?_) (fun _ => ?_)
        · refine sr_iconst (pc := 43) (n := 0) (v := 0) (by decide +kernel) rfl ?_
          exact sr_wk (sr_mono (mc := 0) (ms := 0) (by omega) (by omega) (g11_far_44 l a0 a1 0 t2)) ⟨rfl, ⟨rfl, ⟨rfl, trivial⟩⟩⟩
        · exact sr_wk (sr_mono (mc := 0) (ms := 0) (by omega) (by omega) (g11_far_39 l a0 a1 t2)) ⟨rfl, ⟨rfl, ⟨rfl, trivial⟩⟩⟩
    · exact sr_wk (sr_mono (mc := 0) (ms := 0) (by omega) (by omega) (g11_far_17 l a0 a1 t2)) ⟨rfl, ⟨rfl, ⟨rfl, trivial⟩⟩⟩
def sr_m11_goesOnce : sr_M := (⟨"ShiftRingModel", "goesOnce", "(II)Z"⟩, prog_13_method_84_code, 6, (some .boolean), [], 0, 0)
def sr_m11_apart : sr_M := (⟨"ShiftRingModel", "apart", "(II)I"⟩, prog_13_method_85_code, 6, (some .int), [], 3, 68)
theorem fg_11_83 : sr_FG "ShiftRingModel" 83 11 51 53 := ⟨RX11, TX11, tyX11, rfl, by decide, rfl, uw_11, tyX11_ok, nmX11, Or.inl (sr_tb (n := 1434) (by decide +kernel) rfl)⟩
theorem fg_11_86 : sr_FG "ShiftRingModel" 86 11 52 53 := ⟨RX11, TX11, tyX11, rfl, by decide, rfl, uw_11, tyX11_ok, nmX11, Or.inl (sr_tb (n := 1435) (by decide +kernel) rfl)⟩
theorem fl_11_313 : Cond.methodLink "ShiftRingModel" 313 (sr_My sr_m11_goesOnce) ∈ sr_TB := (sr_tb (n := 1864) (by decide +kernel) rfl)
theorem fm_11_313 : sr_FV "ShiftRingModel" 313 sr_m11_goesOnce 11 2 := ⟨⟨rfl, sr_tb (n := 1867) (by decide +kernel) rfl, sr_tb (n := 12) (by decide +kernel) rfl, ⟨by decide, by decide, by decide +kernel⟩, Or.inl fl_11_313⟩, ⟨TX11, 53, rfl, rfl⟩, sr_tb (n := 1866) (by decide +kernel) rfl, sr_ts (n := 82) (by decide +kernel) rfl⟩
theorem rm_11_apart_11_goesOnce : sr_RM sr_m11_apart sr_m11_goesOnce := ⟨Nat.le_of_ble_eq_true rfl, Nat.le_of_ble_eq_true rfl⟩
theorem rm_11_apart_11_isNode : sr_RM sr_m11_apart sr_m11_isNode := ⟨Nat.le_of_ble_eq_true rfl, Nat.le_of_ble_eq_true rfl⟩
theorem rm_11_apart_11_upLinks : sr_RM sr_m11_apart sr_m11_upLinks := ⟨Nat.le_of_ble_eq_true rfl, Nat.le_of_ble_eq_true rfl⟩
def f11_goesOnce_2 (a0 : Int32) (a1 : Int32) (k21 : sr_t → sr_Rs) : Nat → Int32 → sr_t → sr_Rs
  | 0 => fun _ _ => none
  | n + 1 => fun x3 t => (if 48 ≤ x3 then k21 t else (if x3 < 0 ∨ 48 ≤ x3.toNatClampNeg then none else sr_lt (sr_u t 46 0 x3.toNatClampNeg ((-1))) (fun t1 => (f11_goesOnce_2 a0 a1 k21 n) (x3 + 1) t1)))
theorem g11_goesOnce_2 (l : Launch) (a0 : Int32) (a1 : Int32)  (k21 : sr_t → sr_Rs) (hk21 : ∀ (t : sr_t), sr_g l sr_m11_goesOnce 21 [some (sr_r 11 0), some (sr_i a0), some (sr_i a1), none, none, none] [] t (k21 t) 0 0) : ∀ (n : Nat) (x3 : Int32), ∀ (t : sr_t), sr_g l sr_m11_goesOnce 2 [some (sr_r 11 0), some (sr_i a0), some (sr_i a1), some (sr_i x3), none, none] [] t (f11_goesOnce_2 a0 a1 k21 n x3 t) 0 0 := by
  intro n
  induction n with
  | zero => intros; exact sr_Gn
  | succ n ih =>
    intro x3  t
    unfold f11_goesOnce_2
    refine sr_iloadn (pc := 2) (n := 3) (by decide +kernel) rfl ?_
    refine sr_bipush (pc := 3) (n := 48) (v := 48) (by decide +kernel) (by decide) ?_
    refine sr_icmp_ge (pc := 5) (off := 16) (tg := 21) (by decide +kernel) (by decide) (fun _ => ?_) (fun _ => ?_)
    · exact sr_wk (sr_mono (mc := 0) (ms := 0) (by omega) (by omega) (hk21 t)) ⟨rfl, ⟨rfl, ⟨rfl, trivial⟩⟩⟩
    · refine sr_aloadn (pc := 8) (n := 0) (by decide +kernel) rfl ?_
      refine sr_gC (pc := 9) (i2 := 0) fg_11_86 (by decide +kernel) (sr_in11 _ (by omega)) (fun _ => rfl) ?_
      refine sr_iloadn (pc := 12) (n := 3) (by decide +kernel) rfl ?_
      refine sr_iconst (pc := 13) (n := (-1)) (v := (-1)) (by decide +kernel) rfl ?_
      refine sr_sI (pc := 14) (n := 48) rfl (by decide +kernel) (sr_in46 _ (by omega)) (fun _ _ => rfl) (fun t1 => ?_)
      refine sr_iinc (pc := 15) (i := 3) (n := 1) (w := x3 + 1) (by decide +kernel) rfl rfl (by decide) rfl rfl ?_
      refine sr_goto (pc := 18) (off := (-16)) (tg := 2) (by decide +kernel) (by decide) ?_
      exact sr_wk (sr_mono (mc := 0) (ms := 0) (by omega) (by omega) (ih (x3 + 1) t1)) ⟨rfl, ⟨rfl, ⟨rfl, ⟨rfl, trivial⟩⟩⟩⟩
def f11_goesOnce_116 (a0 : Int32) (a1 : Int32) (k49 : Int32 → Int32 → Int32 → sr_t → sr_Rs) (k122 : Int32 → Int32 → sr_t → sr_Rs) : Int32 → Int32 → Int32 → sr_t → sr_Rs := fun x3 x4 x5 t => k49 x3 x4 (x5 + 1) t
theorem g11_goesOnce_116 (l : Launch) (a0 : Int32) (a1 : Int32)  (k49 : Int32 → Int32 → Int32 → sr_t → sr_Rs) (k122 : Int32 → Int32 → sr_t → sr_Rs) (hk49 : ∀ (x3 : Int32) (x4 : Int32) (x5 : Int32), ∀ (t : sr_t), sr_g l sr_m11_goesOnce 49 [some (sr_r 11 0), some (sr_i a0), some (sr_i a1), some (sr_i x3), some (sr_i x4), some (sr_i x5)] [] t (k49 x3 x4 x5 t) 0 0) (hk122 : ∀ (x3 : Int32) (x4 : Int32), ∀ (t : sr_t), sr_g l sr_m11_goesOnce 122 [some (sr_r 11 0), some (sr_i a0), some (sr_i a1), some (sr_i x3), some (sr_i x4), none] [] t (k122 x3 x4 t) 0 0) : ∀ (x3 : Int32) (x4 : Int32) (x5 : Int32), ∀ (t : sr_t), sr_g l sr_m11_goesOnce 116 [some (sr_r 11 0), some (sr_i a0), some (sr_i a1), some (sr_i x3), some (sr_i x4), some (sr_i x5)] [] t (f11_goesOnce_116 a0 a1 k49 k122 x3 x4 x5 t) 0 0 := by
  intro x3 x4 x5  t
  unfold f11_goesOnce_116
  refine sr_iinc (pc := 116) (i := 5) (n := 1) (w := x5 + 1) (by decide +kernel) rfl rfl (by decide) rfl rfl ?_
  refine sr_goto (pc := 119) (off := (-70)) (tg := 49) (by decide +kernel) (by decide) ?_
  exact sr_wk (sr_mono (mc := 0) (ms := 0) (by omega) (by omega) (hk49 x3 x4 (x5 + 1) t)) ⟨rfl, ⟨rfl, ⟨rfl, ⟨rfl, ⟨rfl, ⟨rfl, trivial⟩⟩⟩⟩⟩⟩
def f11_goesOnce_49 (a0 : Int32) (a1 : Int32) (k122 : Int32 → Int32 → sr_t → sr_Rs) : Nat → Int32 → Int32 → Int32 → sr_t → sr_Rs
  | 0 => fun _ _ _ _ => none
  | n + 1 => fun x3 x4 x5 t => (if 48 ≤ x5 then k122 x3 x4 t else (if x5 < 0 ∨ 48 ≤ x5.toNatClampNeg then none else (if (t.1 46 0 x5.toNatClampNeg) = ((-1)) then (if x4 < 0 ∨ 48 ≤ x4.toNatClampNeg then none else (if (48 * (t.1 44 0 x4.toNatClampNeg)) + x5 < 0 ∨ 2304 ≤ ((48 * (t.1 44 0 x4.toNatClampNeg)) + x5).toNatClampNeg then none else (if (t.1 45 0 ((48 * (t.1 44 0 x4.toNatClampNeg)) + x5).toNatClampNeg) = 0 then f11_goesOnce_116 a0 a1 (f11_goesOnce_49 a0 a1 k122 n) k122 x3 x4 x5 t else (if x4 < 0 ∨ 48 ≤ x4.toNatClampNeg then none else (if x5 < 0 ∨ 48 ≤ x5.toNatClampNeg then none else sr_lt (sr_u t 46 0 x5.toNatClampNeg (t.1 44 0 x4.toNatClampNeg)) (fun t1 => (if x3 < 0 ∨ 48 ≤ x3.toNatClampNeg then none else sr_lt (sr_u t1 44 0 x3.toNatClampNeg x5) (fun t2 => f11_goesOnce_116 a0 a1 (f11_goesOnce_49 a0 a1 k122 n) k122 (x3 + 1) x4 x5 t2)))))))) else f11_goesOnce_116 a0 a1 (f11_goesOnce_49 a0 a1 k122 n) k122 x3 x4 x5 t)))
theorem g11_goesOnce_49 (l : Launch) (a0 : Int32) (a1 : Int32)  (k122 : Int32 → Int32 → sr_t → sr_Rs) (hk122 : ∀ (x3 : Int32) (x4 : Int32), ∀ (t : sr_t), sr_g l sr_m11_goesOnce 122 [some (sr_r 11 0), some (sr_i a0), some (sr_i a1), some (sr_i x3), some (sr_i x4), none] [] t (k122 x3 x4 t) 0 0) : ∀ (n : Nat) (x3 : Int32) (x4 : Int32) (x5 : Int32), ∀ (t : sr_t), sr_g l sr_m11_goesOnce 49 [some (sr_r 11 0), some (sr_i a0), some (sr_i a1), some (sr_i x3), some (sr_i x4), some (sr_i x5)] [] t (f11_goesOnce_49 a0 a1 k122 n x3 x4 x5 t) 0 0 := by
  intro n
  induction n with
  | zero => intros; exact sr_Gn
  | succ n ih =>
    intro x3 x4 x5  t
    unfold f11_goesOnce_49
    refine sr_iload (pc := 49) (i := 5) (by decide +kernel) rfl ?_
    refine sr_bipush (pc := 51) (n := 48) (v := 48) (by decide +kernel) (by decide) ?_
    refine sr_icmp_ge (pc := 53) (off := 69) (tg := 122) (by decide +kernel) (by decide) (fun _ => ?_) (fun _ => ?_)
    · exact sr_wk (sr_mono (mc := 0) (ms := 0) (by omega) (by omega) (hk122 x3 x4 t)) ⟨rfl, ⟨rfl, ⟨rfl, ⟨rfl, ⟨rfl, trivial⟩⟩⟩⟩⟩
    · refine sr_aloadn (pc := 56) (n := 0) (by decide +kernel) rfl ?_
      refine sr_gC (pc := 57) (i2 := 0) fg_11_86 (by decide +kernel) (sr_in11 _ (by omega)) (fun _ => rfl) ?_
      refine sr_iload (pc := 60) (i := 5) (by decide +kernel) rfl ?_
      refine sr_aI (pc := 62) (n := 48) rfl (by decide +kernel) (sr_in46 _ (by omega)) (fun _ _ => rfl) ?_
      refine sr_iconst (pc := 63) (n := (-1)) (v := (-1)) (by decide +kernel) rfl ?_
      refine sr_icmp_ne (pc := 64) (off := 52) (tg := 116) (by decide +kernel) (by decide) (fun _ => ?_) (fun _ => ?_)
      · exact sr_wk (sr_mono (mc := 0) (ms := 0) (by omega) (by omega) (g11_goesOnce_116 l a0 a1 (f11_goesOnce_49 a0 a1 k122 n) k122 ih hk122 x3 x4 x5 t)) ⟨rfl, ⟨rfl, ⟨rfl, ⟨rfl, ⟨rfl, ⟨rfl, trivial⟩⟩⟩⟩⟩⟩
      · refine sr_aloadn (pc := 67) (n := 0) (by decide +kernel) rfl ?_
        refine sr_gC (pc := 68) (i2 := 0) fg_11_83 (by decide +kernel) (sr_in11 _ (by omega)) (fun _ => rfl) ?_
        refine sr_bipush (pc := 71) (n := 48) (v := 48) (by decide +kernel) (by decide) ?_
        refine sr_aloadn (pc := 73) (n := 0) (by decide +kernel) rfl ?_
        refine sr_gC (pc := 74) (i2 := 0) fg_11_80 (by decide +kernel) (sr_in11 _ (by omega)) (fun _ => rfl) ?_
        refine sr_iload (pc := 77) (i := 4) (by decide +kernel) rfl ?_
        refine sr_aI (pc := 79) (n := 48) rfl (by decide +kernel) (sr_in44 _ (by omega)) (fun _ _ => rfl) ?_
        refine sr_imul (pc := 80) (by decide +kernel) ?_
        refine sr_iload (pc := 81) (i := 5) (by decide +kernel) rfl ?_
        refine sr_iadd (pc := 83) (by decide +kernel) ?_
        refine sr_aI (pc := 84) (n := 2304) rfl (by decide +kernel) (sr_in45 _ (by omega)) (fun _ _ => rfl) ?_
        refine sr_if_ne (pc := 85) (off := 6) (tg := 91) (by decide +kernel) (by decide) (fun _ => ?_) (fun _ => ?_)
        · refine sr_aloadn (pc := 91) (n := 0) (by decide +kernel) rfl ?_
          refine sr_gC (pc := 92) (i2 := 0) fg_11_86 (by decide +kernel) (sr_in11 _ (by omega)) (fun _ => rfl) ?_
          refine sr_iload (pc := 95) (i := 5) (by decide +kernel) rfl ?_
          refine sr_aloadn (pc := 97) (n := 0) (by decide +kernel) rfl ?_
          refine sr_gC (pc := 98) (i2 := 0) fg_11_80 (by decide +kernel) (sr_in11 _ (by omega)) (fun _ => rfl) ?_
          refine sr_iload (pc := 101) (i := 4) (by decide +kernel) rfl ?_
          refine sr_aI (pc := 103) (n := 48) rfl (by decide +kernel) (sr_in44 _ (by omega)) (fun _ _ => rfl) ?_
          refine sr_sI (pc := 104) (n := 48) rfl (by decide +kernel) (sr_in46 _ (by omega)) (fun _ _ => rfl) (fun t1 => ?_)
          refine sr_aloadn (pc := 105) (n := 0) (by decide +kernel) rfl ?_
          refine sr_gC (pc := 106) (i2 := 0) fg_11_80 (by decide +kernel) (sr_in11 _ (by omega)) (fun _ => rfl) ?_
          refine sr_iloadn (pc := 109) (n := 3) (by decide +kernel) rfl ?_
          refine sr_iload (pc := 110) (i := 5) (by decide +kernel) rfl ?_
          refine sr_sI (pc := 112) (n := 48) rfl (by decide +kernel) (sr_in44 _ (by omega)) (fun _ _ => rfl) (fun t2 => ?_)
          refine sr_iinc (pc := 113) (i := 3) (n := 1) (w := x3 + 1) (by decide +kernel) rfl rfl (by decide) rfl rfl ?_
          exact sr_wk (sr_mono (mc := 0) (ms := 0) (by omega) (by omega) (g11_goesOnce_116 l a0 a1 (f11_goesOnce_49 a0 a1 k122 n) k122 ih hk122 (x3 + 1) x4 x5 t2)) ⟨rfl, ⟨rfl, ⟨rfl, ⟨rfl, ⟨rfl, ⟨rfl, trivial⟩⟩⟩⟩⟩⟩
        · refine sr_goto (pc := 88) (off := 28) (tg := 116) (by decide +kernel) (by decide) ?_
          exact sr_wk (sr_mono (mc := 0) (ms := 0) (by omega) (by omega) (g11_goesOnce_116 l a0 a1 (f11_goesOnce_49 a0 a1 k122 n) k122 ih hk122 x3 x4 x5 t)) ⟨rfl, ⟨rfl, ⟨rfl, ⟨rfl, ⟨rfl, ⟨rfl, trivial⟩⟩⟩⟩⟩⟩
def f11_goesOnce_122 (a0 : Int32) (a1 : Int32) (k40 : Int32 → Int32 → sr_t → sr_Rs) (k128 : sr_t → sr_Rs) : Int32 → Int32 → sr_t → sr_Rs := fun x3 x4 t => k40 x3 (x4 + 1) t
theorem g11_goesOnce_122 (l : Launch) (a0 : Int32) (a1 : Int32)  (k40 : Int32 → Int32 → sr_t → sr_Rs) (k128 : sr_t → sr_Rs) (hk40 : ∀ (x3 : Int32) (x4 : Int32), ∀ (t : sr_t), sr_g l sr_m11_goesOnce 40 [some (sr_r 11 0), some (sr_i a0), some (sr_i a1), some (sr_i x3), some (sr_i x4), none] [] t (k40 x3 x4 t) 0 0) (hk128 : ∀ (t : sr_t), sr_g l sr_m11_goesOnce 128 [some (sr_r 11 0), some (sr_i a0), some (sr_i a1), none, none, none] [] t (k128 t) 0 0) : ∀ (x3 : Int32) (x4 : Int32), ∀ (t : sr_t), sr_g l sr_m11_goesOnce 122 [some (sr_r 11 0), some (sr_i a0), some (sr_i a1), some (sr_i x3), some (sr_i x4), none] [] t (f11_goesOnce_122 a0 a1 k40 k128 x3 x4 t) 0 0 := by
  intro x3 x4  t
  unfold f11_goesOnce_122
  refine sr_iinc (pc := 122) (i := 4) (n := 1) (w := x4 + 1) (by decide +kernel) rfl rfl (by decide) rfl rfl ?_
  refine sr_goto (pc := 125) (off := (-85)) (tg := 40) (by decide +kernel) (by decide) ?_
  exact sr_wk (sr_mono (mc := 0) (ms := 0) (by omega) (by omega) (hk40 x3 (x4 + 1) t)) ⟨rfl, ⟨rfl, ⟨rfl, ⟨rfl, ⟨rfl, trivial⟩⟩⟩⟩⟩
def f11_goesOnce_40 (a0 : Int32) (a1 : Int32) (k128 : sr_t → sr_Rs) : Nat → Int32 → Int32 → sr_t → sr_Rs
  | 0 => fun _ _ _ => none
  | n + 1 => fun x3 x4 t => (if x3 ≤ x4 then k128 t else f11_goesOnce_49 a0 a1 (f11_goesOnce_122 a0 a1 (f11_goesOnce_40 a0 a1 k128 n) k128) sr_fu x3 x4 0 t)
theorem g11_goesOnce_40 (l : Launch) (a0 : Int32) (a1 : Int32)  (k128 : sr_t → sr_Rs) (hk128 : ∀ (t : sr_t), sr_g l sr_m11_goesOnce 128 [some (sr_r 11 0), some (sr_i a0), some (sr_i a1), none, none, none] [] t (k128 t) 0 0) : ∀ (n : Nat) (x3 : Int32) (x4 : Int32), ∀ (t : sr_t), sr_g l sr_m11_goesOnce 40 [some (sr_r 11 0), some (sr_i a0), some (sr_i a1), some (sr_i x3), some (sr_i x4), none] [] t (f11_goesOnce_40 a0 a1 k128 n x3 x4 t) 0 0 := by
  intro n
  induction n with
  | zero => intros; exact sr_Gn
  | succ n ih =>
    intro x3 x4  t
    unfold f11_goesOnce_40
    refine sr_iload (pc := 40) (i := 4) (by decide +kernel) rfl ?_
    refine sr_iloadn (pc := 42) (n := 3) (by decide +kernel) rfl ?_
    refine sr_icmp_ge (pc := 43) (off := 85) (tg := 128) (by decide +kernel) (by decide) (fun _ => ?_) (fun _ => ?_)
    · exact sr_wk (sr_mono (mc := 0) (ms := 0) (by omega) (by omega) (hk128 t)) ⟨rfl, ⟨rfl, ⟨rfl, trivial⟩⟩⟩
    · refine sr_iconst (pc := 46) (n := 0) (v := 0) (by decide +kernel) rfl ?_
      refine sr_istore (pc := 47) (i := 5) (by decide +kernel) (by decide) rfl rfl ?_
      exact sr_wk (sr_mono (mc := 0) (ms := 0) (by omega) (by omega) (g11_goesOnce_49 l a0 a1 (f11_goesOnce_122 a0 a1 (f11_goesOnce_40 a0 a1 k128 n) k128) (g11_goesOnce_122 l a0 a1 (f11_goesOnce_40 a0 a1 k128 n) k128 ih hk128) sr_fu x3 x4 0 t)) ⟨rfl, ⟨rfl, ⟨rfl, ⟨rfl, ⟨rfl, ⟨rfl, trivial⟩⟩⟩⟩⟩⟩
def f11_goesOnce_143 (a0 : Int32) (a1 : Int32) (k205 : sr_t → sr_Rs) : Nat → Int32 → sr_t → sr_Rs
  | 0 => fun _ _ => none
  | n + 1 => fun x4 t => (if x4 = a0 then k205 t else (if x4 < 0 ∨ 48 ≤ x4.toNatClampNeg then none else (if (48 * (t.1 46 0 x4.toNatClampNeg)) + x4 < 0 ∨ 2304 ≤ ((48 * (t.1 46 0 x4.toNatClampNeg)) + x4).toNatClampNeg then none else (if (48 * (t.1 46 0 x4.toNatClampNeg)) + x4 < 0 ∨ 2304 ≤ ((48 * (t.1 46 0 x4.toNatClampNeg)) + x4).toNatClampNeg then none else sr_lt (sr_u t 45 0 ((48 * (t.1 46 0 x4.toNatClampNeg)) + x4).toNatClampNeg ((t.1 45 0 ((48 * (t.1 46 0 x4.toNatClampNeg)) + x4).toNatClampNeg) - 1)) (fun t1 => (if x4 < 0 ∨ 48 ≤ x4.toNatClampNeg then none else (if (48 * x4) + (t1.1 46 0 x4.toNatClampNeg) < 0 ∨ 2304 ≤ ((48 * x4) + (t1.1 46 0 x4.toNatClampNeg)).toNatClampNeg then none else (if (48 * x4) + (t1.1 46 0 x4.toNatClampNeg) < 0 ∨ 2304 ≤ ((48 * x4) + (t1.1 46 0 x4.toNatClampNeg)).toNatClampNeg then none else sr_lt (sr_u t1 45 0 ((48 * x4) + (t1.1 46 0 x4.toNatClampNeg)).toNatClampNeg ((t1.1 45 0 ((48 * x4) + (t1.1 46 0 x4.toNatClampNeg)).toNatClampNeg) + 1)) (fun t2 => (if x4 < 0 ∨ 48 ≤ x4.toNatClampNeg then none else (f11_goesOnce_143 a0 a1 k205 n) (t2.1 46 0 x4.toNatClampNeg) t2))))))))))
theorem g11_goesOnce_143 (l : Launch) (a0 : Int32) (a1 : Int32)  (k205 : sr_t → sr_Rs) (hk205 : ∀ (t : sr_t), sr_g l sr_m11_goesOnce 205 [some (sr_r 11 0), some (sr_i a0), some (sr_i a1), none, none, none] [] t (k205 t) 0 0) : ∀ (n : Nat) (x4 : Int32), ∀ (t : sr_t), sr_g l sr_m11_goesOnce 143 [some (sr_r 11 0), some (sr_i a0), some (sr_i a1), none, some (sr_i x4), none] [] t (f11_goesOnce_143 a0 a1 k205 n x4 t) 0 0 := by
  intro n
  induction n with
  | zero => intros; exact sr_Gn
  | succ n ih =>
    intro x4  t
    unfold f11_goesOnce_143
    refine sr_iload (pc := 143) (i := 4) (by decide +kernel) rfl ?_
    refine sr_iloadn (pc := 145) (n := 1) (by decide +kernel) rfl ?_
    refine sr_icmp_eq (pc := 146) (off := 59) (tg := 205) (by decide +kernel) (by decide) (fun _ => ?_) (fun _ => ?_)
    · exact sr_wk (sr_mono (mc := 0) (ms := 0) (by omega) (by omega) (hk205 t)) ⟨rfl, ⟨rfl, ⟨rfl, trivial⟩⟩⟩
    · refine sr_aloadn (pc := 149) (n := 0) (by decide +kernel) rfl ?_
      refine sr_gC (pc := 150) (i2 := 0) fg_11_83 (by decide +kernel) (sr_in11 _ (by omega)) (fun _ => rfl) ?_
      refine sr_bipush (pc := 153) (n := 48) (v := 48) (by decide +kernel) (by decide) ?_
      refine sr_aloadn (pc := 155) (n := 0) (by decide +kernel) rfl ?_
      refine sr_gC (pc := 156) (i2 := 0) fg_11_86 (by decide +kernel) (sr_in11 _ (by omega)) (fun _ => rfl) ?_
      refine sr_iload (pc := 159) (i := 4) (by decide +kernel) rfl ?_
      refine sr_aI (pc := 161) (n := 48) rfl (by decide +kernel) (sr_in46 _ (by omega)) (fun _ _ => rfl) ?_
      refine sr_imul (pc := 162) (by decide +kernel) ?_
      refine sr_iload (pc := 163) (i := 4) (by decide +kernel) rfl ?_
      refine sr_iadd (pc := 165) (by decide +kernel) ?_
      refine sr_dup2 (pc := 166) (by decide +kernel) rfl rfl ?_
      refine sr_aI (pc := 167) (n := 2304) rfl (by decide +kernel) (sr_in45 _ (by omega)) (fun _ _ => rfl) ?_
      refine sr_iconst (pc := 168) (n := 1) (v := 1) (by decide +kernel) rfl ?_
      refine sr_isub (pc := 169) (by decide +kernel) ?_
      refine sr_sI (pc := 170) (n := 2304) rfl (by decide +kernel) (sr_in45 _ (by omega)) (fun _ _ => rfl) (fun t1 => ?_)
      refine sr_aloadn (pc := 171) (n := 0) (by decide +kernel) rfl ?_
      refine sr_gC (pc := 172) (i2 := 0) fg_11_83 (by decide +kernel) (sr_in11 _ (by omega)) (fun _ => rfl) ?_
      refine sr_bipush (pc := 175) (n := 48) (v := 48) (by decide +kernel) (by decide) ?_
      refine sr_iload (pc := 177) (i := 4) (by decide +kernel) rfl ?_
      refine sr_imul (pc := 179) (by decide +kernel) ?_
      refine sr_aloadn (pc := 180) (n := 0) (by decide +kernel) rfl ?_
      refine sr_gC (pc := 181) (i2 := 0) fg_11_86 (by decide +kernel) (sr_in11 _ (by omega)) (fun _ => rfl) ?_
      refine sr_iload (pc := 184) (i := 4) (by decide +kernel) rfl ?_
      refine sr_aI (pc := 186) (n := 48) rfl (by decide +kernel) (sr_in46 _ (by omega)) (fun _ _ => rfl) ?_
      refine sr_iadd (pc := 187) (by decide +kernel) ?_
      refine sr_dup2 (pc := 188) (by decide +kernel) rfl rfl ?_
      refine sr_aI (pc := 189) (n := 2304) rfl (by decide +kernel) (sr_in45 _ (by omega)) (fun _ _ => rfl) ?_
      refine sr_iconst (pc := 190) (n := 1) (v := 1) (by decide +kernel) rfl ?_
      refine sr_iadd (pc := 191) (by decide +kernel) ?_
      refine sr_sI (pc := 192) (n := 2304) rfl (by decide +kernel) (sr_in45 _ (by omega)) (fun _ _ => rfl) (fun t2 => ?_)
      refine sr_aloadn (pc := 193) (n := 0) (by decide +kernel) rfl ?_
      refine sr_gC (pc := 194) (i2 := 0) fg_11_86 (by decide +kernel) (sr_in11 _ (by omega)) (fun _ => rfl) ?_
      refine sr_iload (pc := 197) (i := 4) (by decide +kernel) rfl ?_
      refine sr_aI (pc := 199) (n := 48) rfl (by decide +kernel) (sr_in46 _ (by omega)) (fun _ _ => rfl) ?_
      refine sr_istore (pc := 200) (i := 4) (by decide +kernel) (by decide) rfl rfl ?_
      refine sr_goto (pc := 202) (off := (-59)) (tg := 143) (by decide +kernel) (by decide) ?_
      exact sr_wk (sr_mono (mc := 0) (ms := 0) (by omega) (by omega) (ih (t2.1 46 0 x4.toNatClampNeg) t2)) ⟨rfl, ⟨rfl, ⟨rfl, ⟨rfl, trivial⟩⟩⟩⟩
def f11_goesOnce_205 (a0 : Int32) (a1 : Int32)  : sr_t → sr_Rs := fun  t => (if (1 : Int32) = 0 ∨ (1 : Int32) = 1 then some (.inl (some (sr_i 1)), t) else none)
theorem g11_goesOnce_205 (l : Launch) (a0 : Int32) (a1 : Int32)    : ∀ (t : sr_t), sr_g l sr_m11_goesOnce 205 [some (sr_r 11 0), some (sr_i a0), some (sr_i a1), none, none, none] [] t (f11_goesOnce_205 a0 a1   t) 0 0 := by
  intro t
  unfold f11_goesOnce_205
  refine sr_iconst (pc := 205) (n := 1) (v := 1) (by decide +kernel) rfl ?_
  exact sr_zr (pc := 206) (by decide +kernel) rfl
def f11_goesOnce_128 (a0 : Int32) (a1 : Int32)  : sr_t → sr_Rs := fun  t => (if a1 < 0 ∨ 48 ≤ a1.toNatClampNeg then none else (if (t.1 46 0 a1.toNatClampNeg) = ((-1)) then (if (0 : Int32) = 0 ∨ (0 : Int32) = 1 then some (.inl (some (sr_i 0)), t) else none) else f11_goesOnce_143 a0 a1 (f11_goesOnce_205 a0 a1) sr_fu a1 t))
theorem g11_goesOnce_128 (l : Launch) (a0 : Int32) (a1 : Int32)    : ∀ (t : sr_t), sr_g l sr_m11_goesOnce 128 [some (sr_r 11 0), some (sr_i a0), some (sr_i a1), none, none, none] [] t (f11_goesOnce_128 a0 a1   t) 0 0 := by
  intro t
  unfold f11_goesOnce_128
  refine sr_aloadn (pc := 128) (n := 0) (by decide +kernel) rfl ?_
  refine sr_gC (pc := 129) (i2 := 0) fg_11_86 (by decide +kernel) (sr_in11 _ (by omega)) (fun _ => rfl) ?_
  refine sr_iloadn (pc := 132) (n := 2) (by decide +kernel) rfl ?_
  refine sr_aI (pc := 133) (n := 48) rfl (by decide +kernel) (sr_in46 _ (by omega)) (fun _ _ => rfl) ?_
  refine sr_iconst (pc := 134) (n := (-1)) (v := (-1)) (by decide +kernel) rfl ?_
  refine sr_icmp_ne (pc := 135) (off := 5) (tg := 140) (by decide +kernel) (by decide) (fun _ => ?_) (fun _ => ?_)
  · refine sr_iloadn (pc := 140) (n := 2) (by decide +kernel) rfl ?_
    refine sr_istore (pc := 141) (i := 4) (by decide +kernel) (by decide) rfl rfl ?_
    exact sr_wk (sr_mono (mc := 0) (ms := 0) (by omega) (by omega) (g11_goesOnce_143 l a0 a1 (f11_goesOnce_205 a0 a1) (g11_goesOnce_205 l a0 a1) sr_fu a1 t)) ⟨rfl, ⟨rfl, ⟨rfl, ⟨rfl, trivial⟩⟩⟩⟩
  · refine sr_iconst (pc := 138) (n := 0) (v := 0) (by decide +kernel) rfl ?_
    exact sr_zr (pc := 139) (by decide +kernel) rfl
def f11_goesOnce_21 (a0 : Int32) (a1 : Int32)  : sr_t → sr_Rs := fun  t => (if a0 < 0 ∨ 48 ≤ a0.toNatClampNeg then none else sr_lt (sr_u t 46 0 a0.toNatClampNeg a0) (fun t1 => (if (0 : Int32) < 0 ∨ 48 ≤ (0 : Int32).toNatClampNeg then none else sr_lt (sr_u t1 44 0 (0 : Int32).toNatClampNeg a0) (fun t2 => f11_goesOnce_40 a0 a1 (f11_goesOnce_128 a0 a1) sr_fu 1 0 t2))))
theorem g11_goesOnce_21 (l : Launch) (a0 : Int32) (a1 : Int32)    : ∀ (t : sr_t), sr_g l sr_m11_goesOnce 21 [some (sr_r 11 0), some (sr_i a0), some (sr_i a1), none, none, none] [] t (f11_goesOnce_21 a0 a1   t) 0 0 := by
  intro t
  unfold f11_goesOnce_21
  refine sr_aloadn (pc := 21) (n := 0) (by decide +kernel) rfl ?_
  refine sr_gC (pc := 22) (i2 := 0) fg_11_86 (by decide +kernel) (sr_in11 _ (by omega)) (fun _ => rfl) ?_
  refine sr_iloadn (pc := 25) (n := 1) (by decide +kernel) rfl ?_
  refine sr_iloadn (pc := 26) (n := 1) (by decide +kernel) rfl ?_
  refine sr_sI (pc := 27) (n := 48) rfl (by decide +kernel) (sr_in46 _ (by omega)) (fun _ _ => rfl) (fun t1 => ?_)
  refine sr_aloadn (pc := 28) (n := 0) (by decide +kernel) rfl ?_
  refine sr_gC (pc := 29) (i2 := 0) fg_11_80 (by decide +kernel) (sr_in11 _ (by omega)) (fun _ => rfl) ?_
  refine sr_iconst (pc := 32) (n := 0) (v := 0) (by decide +kernel) rfl ?_
  refine sr_iloadn (pc := 33) (n := 1) (by decide +kernel) rfl ?_
  refine sr_sI (pc := 34) (n := 48) rfl (by decide +kernel) (sr_in44 _ (by omega)) (fun _ _ => rfl) (fun t2 => ?_)
  refine sr_iconst (pc := 35) (n := 1) (v := 1) (by decide +kernel) rfl ?_
  refine sr_istoren (pc := 36) (n := 3) (by decide +kernel) (by decide) rfl rfl ?_
  refine sr_iconst (pc := 37) (n := 0) (v := 0) (by decide +kernel) rfl ?_
  refine sr_istore (pc := 38) (i := 4) (by decide +kernel) (by decide) rfl rfl ?_
  exact sr_wk (sr_mono (mc := 0) (ms := 0) (by omega) (by omega) (g11_goesOnce_40 l a0 a1 (f11_goesOnce_128 a0 a1) (g11_goesOnce_128 l a0 a1) sr_fu 1 0 t2)) ⟨rfl, ⟨rfl, ⟨rfl, ⟨rfl, ⟨rfl, trivial⟩⟩⟩⟩⟩
def F11_goesOnce (a0 : Int32) (a1 : Int32) (t : sr_t) : sr_Rs := f11_goesOnce_2 a0 a1 (f11_goesOnce_21 a0 a1) sr_fu 0 t
theorem C11_goesOnce (l : Launch) (a0 : Int32) (a1 : Int32)  (t : sr_t) : sr_ct' l sr_m11_goesOnce [sr_r 11 0, sr_i a0, sr_i a1] t (F11_goesOnce a0 a1 t) 0 0 := by
  refine sr_T_of (L0 := [some (sr_r 11 0), some (sr_i a0), some (sr_i a1), none, none, none]) rfl (by decide +kernel) (fun _ => rfl) (fun _ => Nat.le_of_ble_eq_true rfl) ?_
  unfold F11_goesOnce
  refine sr_iconst (pc := 0) (n := 0) (v := 0) (by decide +kernel) rfl ?_
  refine sr_istoren (pc := 1) (n := 3) (by decide +kernel) (by decide) rfl rfl ?_
  exact sr_wk (sr_mono (mc := 0) (ms := 0) (by omega) (by omega) (g11_goesOnce_2 l a0 a1 (f11_goesOnce_21 a0 a1) (g11_goesOnce_21 l a0 a1) sr_fu 0 t)) ⟨rfl, ⟨rfl, ⟨rfl, ⟨rfl, trivial⟩⟩⟩⟩
