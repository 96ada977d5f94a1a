def f11_wrongLook_37 (a0 : Int32) (a1 : Int32)  : Int32 → sr_t → sr_Rs := fun xs0 t => (some (.inl (some (sr_i xs0)), t))
theorem g11_wrongLook_37 (l : Launch) (a0 : Int32) (a1 : Int32)    : ∀ (xs0 : Int32), ∀ (t : sr_t), sr_g l sr_m11_wrongLook 37 [some (sr_r 11 0), some (sr_i a0), some (sr_i a1)] [sr_i xs0] t (f11_wrongLook_37 a0 a1  xs0 t) 0 0 := by
  intro xs0  t
  unfold f11_wrongLook_37
  exact sr_iret (pc := 37) (by decide +kernel) rfl
def F11_wrongLook (a0 : Int32) (a1 : Int32) (t : sr_t) : sr_Rs := (sr_bI (F11_isNode a0 t) (fun v1 t1 => (if v1 = 0 then f11_wrongLook_37 a0 a1 1 t1 else (sr_bI (F11_isPlace a1 t1) (fun v2 t2 => (if v2 = 0 then f11_wrongLook_37 a0 a1 2 t2 else (if a0 < 0 ∨ 24 ≤ a0.toNatClampNeg then none else (if (t2.1 25 0 a0.toNatClampNeg) = 0 then f11_wrongLook_37 a0 a1 3 t2 else f11_wrongLook_37 a0 a1 0 t2))))))))
theorem C11_wrongLook (l : Launch) (a0 : Int32) (a1 : Int32)  (t : sr_t) : sr_ct' l sr_m11_wrongLook [sr_r 11 0, sr_i a0, sr_i a1] t (F11_wrongLook a0 a1 t) 0 0 := by
  refine sr_T_of (L0 := [some (sr_r 11 0), some (sr_i a0), some (sr_i a1)]) rfl (by decide +kernel) (fun _ => rfl) (fun _ => Nat.le_of_ble_eq_true rfl) ?_
  unfold F11_wrongLook
  refine sr_aloadn (pc := 0) (n := 0) (by decide +kernel) rfl ?_
  refine sr_iloadn (pc := 1) (n := 1) (by decide +kernel) rfl ?_
  refine sr_cV (pc := 2) (As := [sr_i a0]) (mc1 := 0) (ms1 := 0) (mc2 := 0) (ms2 := 0) fm_11_141 fl_11_141 (by decide +kernel) (sr_in11 _ (by omega)) (rm_11_wrongLook_11_isNode) rfl rfl rfl (C11_isNode l a0 t) ?_
  refine sr_kI (fun v1 t1 => ?_)
  refine sr_if_ne (pc := 5) (off := 7) (tg := 12) (by decide +kernel) (by decide) (fun _ => ?_) (fun _ => ?_)
  · refine sr_iloadn (pc := 12) (n := 2) (by decide +kernel) rfl ?_
    refine sr_cS (pc := 13) (As := [sr_i a1]) (mc1 := 0) (ms1 := 0) (mc2 := 0) (ms2 := 0) fm_11_133 fl_11_133 (by decide +kernel) (rm_11_wrongLook_11_isPlace) rfl rfl rfl (C11_isPlace l a1 t1) ?_
    refine sr_kI (fun v2 t2 => ?_)
    refine sr_if_ne (pc := 16) (off := 7) (tg := 23) (by decide +kernel) (by decide) (fun _ => ?_) (fun _ => ?_)
    · refine sr_aloadn (pc := 23) (n := 0) (by decide +kernel) rfl ?_
      refine sr_gC (pc := 24) (i2 := 0) fg_11_13 (by decide +kernel) (sr_in11 _ (by omega)) (fun _ => rfl) ?_
      refine sr_iloadn (pc := 27) (n := 1) (by decide +kernel) rfl ?_
      refine sr_aI (pc := 28) (n := 24) rfl (by decide +kernel) (sr_in25 _ (by omega)) (fun _ _ => rfl) ?_
      refine sr_if_ne (pc := 29) (off := 7) (tg := 36) (by decide +kernel) (by decide) (fun _ => ?_) (fun _ => ?_)
      · refine sr_iconst (pc := 36) (n := 0) (v := 0) (by decide +kernel) rfl ?_
        exact sr_wk (sr_mono (mc := 0) (ms := 0) (by omega) (by omega) (g11_wrongLook_37 l a0 a1 0 t2)) ⟨rfl, ⟨rfl, ⟨rfl, trivial⟩⟩⟩
      · refine sr_iconst (pc := 32) (n := 3) (v := 3) (by decide +kernel) rfl ?_
        refine sr_goto (pc := 33) (off := 4) (tg := 37) (by decide +kernel) (by decide) ?_
        exact sr_wk (sr_mono (mc := 0) (ms := 0) (by omega) (by omega) (g11_wrongLook_37 l a0 a1 3 t2)) ⟨rfl, ⟨rfl, ⟨rfl, trivial⟩⟩⟩
    · refine sr_iconst (pc := 19) (n := 2) (v := 2) (by decide +kernel) rfl ?_
      refine sr_goto (pc := 20) (off := 17) (tg := 37) (by decide +kernel) (by decide) ?_
      exact sr_wk (sr_mono (mc := 0) (ms := 0) (by omega) (by omega) (g11_wrongLook_37 l a0 a1 2 t2)) ⟨rfl, ⟨rfl, ⟨rfl, trivial⟩⟩⟩
  · refine sr_iconst (pc := 8) (n := 1) (v := 1) (by decide +kernel) rfl ?_
    refine sr_goto (pc := 9) (off := 28) (tg := 37) (by decide +kernel) (by decide) ?_
    exact sr_wk (sr_mono (mc := 0) (ms := 0) (by omega) (by omega) (g11_wrongLook_37 l a0 a1 1 t1)) ⟨rfl, ⟨rfl, ⟨rfl, trivial⟩⟩⟩
def f11_nextOf_9 (a0 : Int32) (k31 : Int32 → sr_t → sr_Rs) (k46 : Int32 → sr_t → sr_Rs) : Nat → Int32 → Int32 → sr_t → sr_Rs
  | 0 => fun _ _ _ => none
  | n + 1 => fun x2 x3 t => (if x2 ≤ x3 then k46 x2 t else (sr_bI (F11_tableOf a0 (2 + x3) t) (fun v1 t1 => (if v1 < 0 ∨ 24 ≤ v1.toNatClampNeg then none else (if (t1.1 25 0 v1.toNatClampNeg) = 1 then k31 x3 t1 else (f11_nextOf_9 a0 k31 k46 n) x2 (x3 + 1) t1)))))
theorem g11_nextOf_9 (l : Launch) (a0 : Int32)  (k31 : Int32 → sr_t → sr_Rs) (k46 : Int32 → sr_t → sr_Rs) (hk31 : ∀ (x3 : Int32), ∀ (t : sr_t), sr_g l sr_m11_nextOf 31 [some (sr_r 11 0), some (sr_i a0), none, some (sr_i x3)] [] t (k31 x3 t) 0 0) (hk46 : ∀ (x2 : Int32), ∀ (t : sr_t), sr_g l sr_m11_nextOf 46 [some (sr_r 11 0), some (sr_i a0), some (sr_i x2), none] [] t (k46 x2 t) 0 0) : ∀ (n : Nat) (x2 : Int32) (x3 : Int32), ∀ (t : sr_t), sr_g l sr_m11_nextOf 9 [some (sr_r 11 0), some (sr_i a0), some (sr_i x2), some (sr_i x3)] [] t (f11_nextOf_9 a0 k31 k46 n x2 x3 t) 0 0 := by
  intro n
  induction n with
  | zero => intros; exact sr_Gn
  | succ n ih =>
    intro x2 x3  t
    unfold f11_nextOf_9
    refine sr_iloadn (pc := 9) (n := 3) (by decide +kernel) rfl ?_
    refine sr_iloadn (pc := 10) (n := 2) (by decide +kernel) rfl ?_
    refine sr_icmp_ge (pc := 11) (off := 35) (tg := 46) (by decide +kernel) (by decide) (fun _ => ?_) (fun _ => ?_)
    · exact sr_wk (sr_mono (mc := 0) (ms := 0) (by omega) (by omega) (hk46 x2 t)) ⟨rfl, ⟨rfl, ⟨rfl, trivial⟩⟩⟩
    · refine sr_aloadn (pc := 14) (n := 0) (by decide +kernel) rfl ?_
      refine sr_gC (pc := 15) (i2 := 0) fg_11_13 (by decide +kernel) (sr_in11 _ (by omega)) (fun _ => rfl) ?_
      refine sr_aloadn (pc := 18) (n := 0) (by decide +kernel) rfl ?_
      refine sr_iloadn (pc := 19) (n := 1) (by decide +kernel) rfl ?_
      refine sr_iconst (pc := 20) (n := 2) (v := 2) (by decide +kernel) rfl ?_
      refine sr_iloadn (pc := 21) (n := 3) (by decide +kernel) rfl ?_
      refine sr_iadd (pc := 22) (by decide +kernel) ?_
      refine sr_cV (pc := 23) (As := [sr_i a0, sr_i (2 + x3)]) (mc1 := 0) (ms1 := 0) (mc2 := 0) (ms2 := 0) fm_11_123 fl_11_123 (by decide +kernel) (sr_in11 _ (by omega)) (rm_11_nextOf_11_tableOf) rfl rfl rfl (C11_tableOf l a0 (2 + x3) t) ?_
      refine sr_kI (fun v1 t1 => ?_)
      refine sr_aI (pc := 26) (n := 24) rfl (by decide +kernel) (sr_in25 _ (by omega)) (fun _ _ => rfl) ?_
      refine sr_iconst (pc := 27) (n := 1) (v := 1) (by decide +kernel) rfl ?_
      refine sr_icmp_ne (pc := 28) (off := 12) (tg := 40) (by decide +kernel) (by decide) (fun _ => ?_) (fun _ => ?_)
      · refine sr_iinc (pc := 40) (i := 3) (n := 1) (w := x3 + 1) (by decide +kernel) rfl rfl (by decide) rfl rfl ?_
        refine sr_goto (pc := 43) (off := (-34)) (tg := 9) (by decide +kernel) (by decide) ?_
        exact sr_wk (sr_mono (mc := 0) (ms := 0) (by omega) (by omega) (ih x2 (x3 + 1) t1)) ⟨rfl, ⟨rfl, ⟨rfl, ⟨rfl, trivial⟩⟩⟩⟩
      · exact sr_wk (sr_mono (mc := 0) (ms := 0) (by omega) (by omega) (hk31 x3 t1)) ⟨rfl, ⟨rfl, ⟨rfl, trivial⟩⟩⟩
def f11_nextOf_31 (a0 : Int32)  : Int32 → sr_t → sr_Rs := fun x3 t => (sr_bI (F11_tableOf a0 (2 + x3) t) (fun v1 t1 => (some (.inl (some (sr_i v1)), t1))))
theorem g11_nextOf_31 (l : Launch) (a0 : Int32)    : ∀ (x3 : Int32), ∀ (t : sr_t), sr_g l sr_m11_nextOf 31 [some (sr_r 11 0), some (sr_i a0), none, some (sr_i x3)] [] t (f11_nextOf_31 a0  x3 t) 0 0 := by
  intro x3  t
  unfold f11_nextOf_31
  refine sr_aloadn (pc := 31) (n := 0) (by decide +kernel) rfl ?_
  refine sr_iloadn (pc := 32) (n := 1) (by decide +kernel) rfl ?_
  refine sr_iconst (pc := 33) (n := 2) (v := 2) (by decide +kernel) rfl ?_
  refine sr_iloadn (pc := 34) (n := 3) (by decide +kernel) rfl ?_
  refine sr_iadd (pc := 35) (by decide +kernel) ?_
  refine sr_cV (pc := 36) (As := [sr_i a0, sr_i (2 + x3)]) (mc1 := 0) (ms1 := 0) (mc2 := 0) (ms2 := 0) fm_11_123 fl_11_123 (by decide +kernel) (sr_in11 _ (by omega)) (rm_11_nextOf_11_tableOf) rfl rfl rfl (C11_tableOf l a0 (2 + x3) t) ?_
  refine sr_kI (fun v1 t1 => ?_)
  exact sr_iret (pc := 39) (by decide +kernel) rfl
def f11_nextOf_55 (a0 : Int32)  : Int32 → sr_t → sr_Rs := fun xs0 t => (some (.inl (some (sr_i xs0)), t))
theorem g11_nextOf_55 (l : Launch) (a0 : Int32)    : ∀ (xs0 : Int32), ∀ (t : sr_t), sr_g l sr_m11_nextOf 55 [some (sr_r 11 0), some (sr_i a0), none, none] [sr_i xs0] t (f11_nextOf_55 a0  xs0 t) 0 0 := by
  intro xs0  t
  unfold f11_nextOf_55
  exact sr_iret (pc := 55) (by decide +kernel) rfl
def f11_nextOf_46 (a0 : Int32)  : Int32 → sr_t → sr_Rs := fun x2 t => (if x2 = 0 then f11_nextOf_55 a0 a0 t else f11_nextOf_55 a0 ((-1)) t)
theorem g11_nextOf_46 (l : Launch) (a0 : Int32)    : ∀ (x2 : Int32), ∀ (t : sr_t), sr_g l sr_m11_nextOf 46 [some (sr_r 11 0), some (sr_i a0), some (sr_i x2), none] [] t (f11_nextOf_46 a0  x2 t) 0 0 := by
  intro x2  t
  unfold f11_nextOf_46
  refine sr_iloadn (pc := 46) (n := 2) (by decide +kernel) rfl ?_
  refine sr_if_ne (pc := 47) (off := 7) (tg := 54) (by decide +kernel) (by decide) (fun _ => ?_) (fun _ => ?_)
  · refine sr_iconst (pc := 54) (n := (-1)) (v := (-1)) (by decide +kernel) rfl ?_
    exact sr_wk (sr_mono (mc := 0) (ms := 0) (by omega) (by omega) (g11_nextOf_55 l a0 ((-1)) t)) ⟨rfl, ⟨rfl, trivial⟩⟩
  · refine sr_iloadn (pc := 50) (n := 1) (by decide +kernel) rfl ?_
    refine sr_goto (pc := 51) (off := 4) (tg := 55) (by decide +kernel) (by decide) ?_
    exact sr_wk (sr_mono (mc := 0) (ms := 0) (by omega) (by omega) (g11_nextOf_55 l a0 a0 t)) ⟨rfl, ⟨rfl, trivial⟩⟩
def F11_nextOf (a0 : Int32) (t : sr_t) : sr_Rs := (sr_bI (F11_tableOf a0 1 t) (fun v1 t1 => f11_nextOf_9 a0 (f11_nextOf_31 a0) (f11_nextOf_46 a0) sr_fu v1 0 t1))
theorem C11_nextOf (l : Launch) (a0 : Int32)  (t : sr_t) : sr_ct' l sr_m11_nextOf [sr_r 11 0, sr_i a0] t (F11_nextOf a0 t) 0 0 := by
  refine sr_T_of (L0 := [some (sr_r 11 0), some (sr_i a0), none, none]) rfl (by decide +kernel) (fun _ => rfl) (fun _ => Nat.le_of_ble_eq_true rfl) ?_
  unfold F11_nextOf
  refine sr_aloadn (pc := 0) (n := 0) (by decide +kernel) rfl ?_
  refine sr_iloadn (pc := 1) (n := 1) (by decide +kernel) rfl ?_
  refine sr_iconst (pc := 2) (n := 1) (v := 1) (by decide +kernel) rfl ?_
  refine sr_cV (pc := 3) (As := [sr_i a0, sr_i 1]) (mc1 := 0) (ms1 := 0) (mc2 := 0) (ms2 := 0) fm_11_123 fl_11_123 (by decide +kernel) (sr_in11 _ (by omega)) (rm_11_nextOf_11_tableOf) rfl rfl rfl (C11_tableOf l a0 1 t) ?_
  refine sr_kI (fun v1 t1 => ?_)
  refine sr_istoren (pc := 6) (n := 2) (by decide +kernel) (by decide) rfl rfl ?_
  refine sr_iconst (pc := 7) (n := 0) (v := 0) (by decide +kernel) rfl ?_
  refine sr_istoren (pc := 8) (n := 3) (by decide +kernel) (by decide) rfl rfl ?_
  exact sr_wk (sr_mono (mc := 0) (ms := 0) (by omega) (by omega) (g11_nextOf_9 l a0 (f11_nextOf_31 a0) (f11_nextOf_46 a0) (g11_nextOf_31 l a0) (g11_nextOf_46 l a0) sr_fu v1 0 t1)) ⟨rfl, ⟨rfl, ⟨rfl, ⟨rfl, trivial⟩⟩⟩⟩
def f11_arcOf_32 (a0 : Int32)  : Int32 → sr_t → sr_Rs := fun xs0 t => (some (.inl (some (sr_i xs0)), t))
theorem g11_arcOf_32 (l : Launch) (a0 : Int32)    : ∀ (xs0 : Int32), ∀ (t : sr_t), sr_g l sr_m11_arcOf 32 [some (sr_r 11 0), some (sr_i a0), none] [sr_i xs0] t (f11_arcOf_32 a0  xs0 t) 0 0 := by
  intro xs0  t
  unfold f11_arcOf_32
  exact sr_iret (pc := 32) (by decide +kernel) rfl
def F11_arcOf (a0 : Int32) (t : sr_t) : sr_Rs := (sr_bI (F11_nextOf a0 t) (fun v1 t1 => (if v1 = a0 then f11_arcOf_32 a0 4096 t1 else (if a0 < 0 ∨ 24 ≤ a0.toNatClampNeg then none else (if v1 < 0 ∨ 24 ≤ v1.toNatClampNeg then none else (sr_bI (F11_from (t1.1 24 0 a0.toNatClampNeg) (t1.1 24 0 v1.toNatClampNeg) t1) (fun v2 t2 => f11_arcOf_32 a0 v2 t2)))))))
theorem C11_arcOf (l : Launch) (a0 : Int32)  (t : sr_t) : sr_ct' l sr_m11_arcOf [sr_r 11 0, sr_i a0] t (F11_arcOf a0 t) 0 0 := by
  refine sr_T_of (L0 := [some (sr_r 11 0), some (sr_i a0), none]) rfl (by decide +kernel) (fun _ => rfl) (fun _ => Nat.le_of_ble_eq_true rfl) ?_
  unfold F11_arcOf
  refine sr_aloadn (pc := 0) (n := 0) (by decide +kernel) rfl ?_
  refine sr_iloadn (pc := 1) (n := 1) (by decide +kernel) rfl ?_
  refine sr_cV (pc := 2) (As := [sr_i a0]) (mc1 := 0) (ms1 := 0) (mc2 := 0) (ms2 := 0) fm_11_168 fl_11_168 (by decide +kernel) (sr_in11 _ (by omega)) (rm_11_arcOf_11_nextOf) rfl rfl rfl (C11_nextOf l a0 t) ?_
  refine sr_kI (fun v1 t1 => ?_)
  refine sr_istoren (pc := 5) (n := 2) (by decide +kernel) (by decide) rfl rfl ?_
  refine sr_iloadn (pc := 6) (n := 2) (by decide +kernel) rfl ?_
  refine sr_iloadn (pc := 7) (n := 1) (by decide +kernel) rfl ?_
  refine sr_icmp_ne (pc := 8) (off := 9) (tg := 17) (by decide +kernel) (by decide) (fun _ => ?_) (fun _ => ?_)
  · refine sr_aloadn (pc := 17) (n := 0) (by decide +kernel) rfl ?_
    refine sr_gC (pc := 18) (i2 := 0) fg_11_7 (by decide +kernel) (sr_in11 _ (by omega)) (fun _ => rfl) ?_
    refine sr_iloadn (pc := 21) (n := 1) (by decide +kernel) rfl ?_
    refine sr_aI (pc := 22) (n := 24) rfl (by decide +kernel) (sr_in24 _ (by omega)) (fun _ _ => rfl) ?_
    refine sr_aloadn (pc := 23) (n := 0) (by decide +kernel) rfl ?_
    refine sr_gC (pc := 24) (i2 := 0) fg_11_7 (by decide +kernel) (sr_in11 _ (by omega)) (fun _ => rfl) ?_
    refine sr_iloadn (pc := 27) (n := 2) (by decide +kernel) rfl ?_
    refine sr_aI (pc := 28) (n := 24) rfl (by decide +kernel) (sr_in24 _ (by omega)) (fun _ _ => rfl) ?_
    refine sr_cS (pc := 29) (As := [sr_i (t1.1 24 0 a0.toNatClampNeg), sr_i (t1.1 24 0 v1.toNatClampNeg)]) (mc1 := 0) (ms1 := 0) (mc2 := 0) (ms2 := 0) fm_11_103 fl_11_103 (by decide +kernel) (rm_11_arcOf_11_from) rfl rfl rfl (C11_from l (t1.1 24 0 a0.toNatClampNeg) (t1.1 24 0 v1.toNatClampNeg) t1) ?_
    refine sr_kI (fun v2 t2 => ?_)
    exact sr_wk (sr_mono (mc := 0) (ms := 0) (by omega) (by omega) (g11_arcOf_32 l a0 v2 t2)) ⟨rfl, ⟨rfl, trivial⟩⟩
  · refine sr_sipush (pc := 11) (n := 4096) (v := 4096) (by decide +kernel) (by decide) ?_
    refine sr_goto (pc := 14) (off := 18) (tg := 32) (by decide +kernel) (by decide) ?_
    exact sr_wk (sr_mono (mc := 0) (ms := 0) (by omega) (by omega) (g11_arcOf_32 l a0 4096 t1)) ⟨rfl, ⟨rfl, trivial⟩⟩
def f11_starts_37 (a0 : Int32) (a1 : Int32)  : sr_t → sr_Rs := fun  t => (some (.inl none, t))
theorem g11_starts_37 (l : Launch) (a0 : Int32) (a1 : Int32)    : ∀ (t : sr_t), sr_g l sr_m11_starts 37 [some (sr_r 11 0), some (sr_i a0), some (sr_i a1), none, none, none] [] t (f11_starts_37 a0 a1   t) 0 0 := by
  intro t
  unfold f11_starts_37
  exact sr_ret (pc := 37) (by decide +kernel) rfl
def f11_starts_43 (a0 : Int32) (a1 : Int32) (k97 : Int32 → Int32 → sr_t → sr_Rs) (k134 : sr_t → sr_Rs) : Nat → Int32 → sr_t → sr_Rs
  | 0 => fun _ _ => none
  | n + 1 => fun x3 t => (if x3 < 0 then k134 t else (sr_bI (F11_power x3 t) (fun v1 t1 => (sr_bI (F11_firstOf a0 x3 t1) (fun v2 t2 => (if t2.1 11 0 10 < 0 ∨ 24 ≤ (t2.1 11 0 10).toNatClampNeg then none else (if v1 = 0 then none else (if v1 = 0 then none else (sr_bI (F11_arcOf (t2.1 11 0 10) t2) (fun v3 t3 => (if ((((v2 - (t2.1 24 0 (t2.1 11 0 10).toNatClampNeg)) - (v2 - (t2.1 24 0 (t2.1 11 0 10).toNatClampNeg)) / v1 * v1) + v1) - (((v2 - (t2.1 24 0 (t2.1 11 0 10).toNatClampNeg)) - (v2 - (t2.1 24 0 (t2.1 11 0 10).toNatClampNeg)) / v1 * v1) + v1) / v1 * v1) < v3 then k97 x3 ((((v2 - (t2.1 24 0 (t2.1 11 0 10).toNatClampNeg)) - (v2 - (t2.1 24 0 (t2.1 11 0 10).toNatClampNeg)) / v1 * v1) + v1) - (((v2 - (t2.1 24 0 (t2.1 11 0 10).toNatClampNeg)) - (v2 - (t2.1 24 0 (t2.1 11 0 10).toNatClampNeg)) / v1 * v1) + v1) / v1 * v1) t3 else (f11_starts_43 a0 a1 k97 k134 n) (x3 + (-1)) t3)))))))))))
theorem g11_starts_43 (l : Launch) (a0 : Int32) (a1 : Int32)  (k97 : Int32 → Int32 → sr_t → sr_Rs) (k134 : sr_t → sr_Rs) (hk97 : ∀ (x3 : Int32) (x5 : Int32), ∀ (t : sr_t), sr_g l sr_m11_starts 97 [some (sr_r 11 0), some (sr_i a0), some (sr_i a1), some (sr_i x3), none, some (sr_i x5)] [] t (k97 x3 x5 t) 0 0) (hk134 : ∀ (t : sr_t), sr_g l sr_m11_starts 134 [some (sr_r 11 0), some (sr_i a0), some (sr_i a1), none, none, none] [] t (k134 t) 0 0) : ∀ (n : Nat) (x3 : Int32), ∀ (t : sr_t), sr_g l sr_m11_starts 43 [some (sr_r 11 0), some (sr_i a0), some (sr_i a1), some (sr_i x3), none, none] [] t (f11_starts_43 a0 a1 k97 k134 n x3 t) 0 0 := by
  intro n
  induction n with
  | zero => intros; exact sr_Gn
  | succ n ih =>
    intro x3  t
    unfold f11_starts_43
    refine sr_iloadn (pc := 43) (n := 3) (by decide +kernel) rfl ?_
    refine sr_if_lt (pc := 44) (off := 90) (tg := 134) (by decide +kernel) (by decide) (fun _ => ?_) (fun _ => ?_)
    · exact sr_wk (sr_mono (mc := 0) (ms := 0) (by omega) (by omega) (hk134 t)) ⟨rfl, ⟨rfl, ⟨rfl, trivial⟩⟩⟩
    · refine sr_aloadn (pc := 47) (n := 0) (by decide +kernel) rfl ?_
      refine sr_iloadn (pc := 48) (n := 3) (by decide +kernel) rfl ?_
      refine sr_cV (pc := 49) (As := [sr_i x3]) (mc1 := 0) (ms1 := 0) (mc2 := 0) (ms2 := 0) fm_11_156 fl_11_156 (by decide +kernel) (sr_in11 _ (by omega)) (rm_11_starts_11_power) rfl rfl rfl (C11_power l x3 t) ?_
      refine sr_kI (fun v1 t1 => ?_)
      refine sr_istore (pc := 52) (i := 4) (by decide +kernel) (by decide) rfl rfl ?_
      refine sr_aloadn (pc := 54) (n := 0) (by decide +kernel) rfl ?_
      refine sr_iloadn (pc := 55) (n := 1) (by decide +kernel) rfl ?_
      refine sr_iloadn (pc := 56) (n := 3) (by decide +kernel) rfl ?_
      refine sr_cV (pc := 57) (As := [sr_i a0, sr_i x3]) (mc1 := 0) (ms1 := 0) (mc2 := 0) (ms2 := 0) fm_11_159 fl_11_159 (by decide +kernel) (sr_in11 _ (by omega)) (rm_11_starts_11_firstOf) rfl rfl rfl (C11_firstOf l a0 x3 t1) ?_
      refine sr_kI (fun v2 t2 => ?_)
      refine sr_aloadn (pc := 60) (n := 0) (by decide +kernel) rfl ?_
      refine sr_gC (pc := 61) (i2 := 0) fg_11_7 (by decide +kernel) (sr_in11 _ (by omega)) (fun _ => rfl) ?_
      refine sr_aloadn (pc := 64) (n := 0) (by decide +kernel) rfl ?_
      refine sr_gI (pc := 65) fg_11_174 (by decide +kernel) (sr_in11 _ (by omega)) (fun _ => rfl) ?_
      refine sr_aI (pc := 68) (n := 24) rfl (by decide +kernel) (sr_in24 _ (by omega)) (fun _ _ => rfl) ?_
      refine sr_isub (pc := 69) (by decide +kernel) ?_
      refine sr_iload (pc := 70) (i := 4) (by decide +kernel) rfl ?_
      refine sr_irem (pc := 72) (by decide +kernel) (fun _ => ?_)
      refine sr_iload (pc := 73) (i := 4) (by decide +kernel) rfl ?_
      refine sr_iadd (pc := 75) (by decide +kernel) ?_
      refine sr_iload (pc := 76) (i := 4) (by decide +kernel) rfl ?_
      refine sr_irem (pc := 78) (by decide +kernel) (fun _ => ?_)
      refine sr_istore (pc := 79) (i := 5) (by decide +kernel) (by decide) rfl rfl ?_
      refine sr_iload (pc := 81) (i := 5) (by decide +kernel) rfl ?_
      refine sr_aloadn (pc := 83) (n := 0) (by decide +kernel) rfl ?_
      refine sr_aloadn (pc := 84) (n := 0) (by decide +kernel) rfl ?_
      refine sr_gI (pc := 85) fg_11_174 (by decide +kernel) (sr_in11 _ (by omega)) (fun _ => rfl) ?_
      refine sr_cV (pc := 88) (As := [sr_i (t2.1 11 0 10)]) (mc1 := 0) (ms1 := 0) (mc2 := 0) (ms2 := 0) fm_11_171 fl_11_171 (by decide +kernel) (sr_in11 _ (by omega)) (rm_11_starts_11_arcOf) rfl rfl rfl (C11_arcOf l (t2.1 11 0 10) t2) ?_
      refine sr_kI (fun v3 t3 => ?_)
      refine sr_icmp_lt (pc := 91) (off := 6) (tg := 97) (by decide +kernel) (by decide) (fun _ => ?_) (fun _ => ?_)
      · exact sr_wk (sr_mono (mc := 0) (ms := 0) (by omega) (by omega) (hk97 x3 ((((v2 - (t2.1 24 0 (t2.1 11 0 10).toNatClampNeg)) - (v2 - (t2.1 24 0 (t2.1 11 0 10).toNatClampNeg)) / v1 * v1) + v1) - (((v2 - (t2.1 24 0 (t2.1 11 0 10).toNatClampNeg)) - (v2 - (t2.1 24 0 (t2.1 11 0 10).toNatClampNeg)) / v1 * v1) + v1) / v1 * v1) t3)) ⟨rfl, ⟨rfl, ⟨rfl, ⟨rfl, ⟨rfl, trivial⟩⟩⟩⟩⟩
      · refine sr_goto (pc := 94) (off := 34) (tg := 128) (by decide +kernel) (by decide) ?_
        refine sr_iinc (pc := 128) (i := 3) (n := (-1)) (w := x3 + (-1)) (by decide +kernel) rfl rfl (by decide) rfl rfl ?_
        refine sr_goto (pc := 131) (off := (-88)) (tg := 43) (by decide +kernel) (by decide) ?_
        exact sr_wk (sr_mono (mc := 0) (ms := 0) (by omega) (by omega) (ih (x3 + (-1)) t3)) ⟨rfl, ⟨rfl, ⟨rfl, ⟨rfl, trivial⟩⟩⟩⟩
def f11_starts_97 (a0 : Int32) (a1 : Int32)  : Int32 → Int32 → sr_t → sr_Rs := fun x3 x5 t => (if t.1 11 0 10 < 0 ∨ 24 ≤ (t.1 11 0 10).toNatClampNeg then none else (if 4096 = 0 then none else (sr_lt (sr_u t 11 0 11 (((t.1 24 0 (t.1 11 0 10).toNatClampNeg) + x5) - ((t.1 24 0 (t.1 11 0 10).toNatClampNeg) + x5) / 4096 * 4096)) (fun t1 => (sr_bI (F11_letters t1) (fun v2 t2 => (sr_lt (sr_u t2 11 0 12 (v2 - x3)) (fun t3 => (some (.inl none, t3))))))))))
theorem g11_starts_97 (l : Launch) (a0 : Int32) (a1 : Int32)    : ∀ (x3 : Int32) (x5 : Int32), ∀ (t : sr_t), sr_g l sr_m11_starts 97 [some (sr_r 11 0), some (sr_i a0), some (sr_i a1), some (sr_i x3), none, some (sr_i x5)] [] t (f11_starts_97 a0 a1  x3 x5 t) 0 0 := by
  intro x3 x5  t
  unfold f11_starts_97
  refine sr_aloadn (pc := 97) (n := 0) (by decide +kernel) rfl ?_
  refine sr_aloadn (pc := 98) (n := 0) (by decide +kernel) rfl ?_
  refine sr_gC (pc := 99) (i2 := 0) fg_11_7 (by decide +kernel) (sr_in11 _ (by omega)) (fun _ => rfl) ?_
  refine sr_aloadn (pc := 102) (n := 0) (by decide +kernel) rfl ?_
  refine sr_gI (pc := 103) fg_11_174 (by decide +kernel) (sr_in11 _ (by omega)) (fun _ => rfl) ?_
  refine sr_aI (pc := 106) (n := 24) rfl (by decide +kernel) (sr_in24 _ (by omega)) (fun _ _ => rfl) ?_
  refine sr_iload (pc := 107) (i := 5) (by decide +kernel) rfl ?_
  refine sr_iadd (pc := 109) (by decide +kernel) ?_
  refine sr_sipush (pc := 110) (n := 4096) (v := 4096) (by decide +kernel) (by decide) ?_
  refine sr_irem (pc := 113) (by decide +kernel) (fun _ => ?_)
  refine sr_pI (pc := 114) fg_11_177 ft_11_11 (by decide +kernel) (sr_in11 _ (by omega)) (fun _ => rfl) (fun t1 => ?_)
  refine sr_aloadn (pc := 117) (n := 0) (by decide +kernel) rfl ?_
  refine sr_aloadn (pc := 118) (n := 0) (by decide +kernel) rfl ?_
  refine sr_cV (pc := 119) (As := []) (mc1 := 0) (ms1 := 0) (mc2 := 0) (ms2 := 0) fm_11_153 fl_11_153 (by decide +kernel) (sr_in11 _ (by omega)) (rm_11_starts_11_letters) rfl rfl rfl (C11_letters l t1) ?_
  refine sr_kI (fun v2 t2 => ?_)
  refine sr_iloadn (pc := 122) (n := 3) (by decide +kernel) rfl ?_
  refine sr_isub (pc := 123) (by decide +kernel) ?_
  refine sr_pI (pc := 124) fg_11_180 ft_11_12 (by decide +kernel) (sr_in11 _ (by omega)) (fun _ => rfl) (fun t3 => ?_)
  exact sr_ret (pc := 127) (by decide +kernel) rfl
def f11_starts_134 (a0 : Int32) (a1 : Int32)  : sr_t → sr_Rs := fun  t => (some (.inl none, t))
theorem g11_starts_134 (l : Launch) (a0 : Int32) (a1 : Int32)    : ∀ (t : sr_t), sr_g l sr_m11_starts 134 [some (sr_r 11 0), some (sr_i a0), some (sr_i a1), none, none, none] [] t (f11_starts_134 a0 a1   t) 0 0 := by
  intro t
  unfold f11_starts_134
  exact sr_ret (pc := 134) (by decide +kernel) rfl
def F11_starts (a0 : Int32) (a1 : Int32) (t : sr_t) : sr_Rs := (if t.1 11 0 10 < 0 ∨ 24 ≤ (t.1 11 0 10).toNatClampNeg then none else (sr_lt (sr_u t 11 0 11 (t.1 24 0 (t.1 11 0 10).toNatClampNeg)) (fun t1 => (sr_bI (F11_letters t1) (fun v2 t2 => (sr_lt (sr_u t2 11 0 12 v2) (fun t3 => (if a1 = 0 then f11_starts_37 a0 a1 t3 else (sr_bI (F11_nextOf (t3.1 11 0 10) t3) (fun v4 t4 => (if v4 = ((-1)) then f11_starts_37 a0 a1 t4 else (sr_bI (F11_letters t4) (fun v5 t5 => f11_starts_43 a0 a1 (f11_starts_97 a0 a1) (f11_starts_134 a0 a1) sr_fu v5 t5)))))))))))))
theorem C11_starts (l : Launch) (a0 : Int32) (a1 : Int32)  (t : sr_t) : sr_ct' l sr_m11_starts [sr_r 11 0, sr_i a0, sr_i a1] t (F11_starts a0 a1 t) 0 0 := by
  refine sr_T_of (L0 := [some (sr_r 11 0), some (sr_i a0), some (sr_i a1), none, none, none]) rfl (by decide +kernel) (fun _ => rfl) (fun _ => Nat.le_of_ble_eq_true rfl) ?_
  unfold F11_starts
  refine sr_aloadn (pc := 0) (n := 0) (by decide +kernel) rfl ?_
  refine sr_aloadn (pc := 1) (n := 0) (by decide +kernel) rfl ?_
  refine sr_gC (pc := 2) (i2 := 0) fg_11_7 (by decide +kernel) (sr_in11 _ (by omega)) (fun _ => rfl) ?_
  refine sr_aloadn (pc := 5) (n := 0) (by decide +kernel) rfl ?_
  refine sr_gI (pc := 6) fg_11_174 (by decide +kernel) (sr_in11 _ (by omega)) (fun _ => rfl) ?_
  refine sr_aI (pc := 9) (n := 24) rfl (by decide +kernel) (sr_in24 _ (by omega)) (fun _ _ => rfl) ?_
  refine sr_pI (pc := 10) fg_11_177 ft_11_11 (by decide +kernel) (sr_in11 _ (by omega)) (fun _ => rfl) (fun t1 => ?_)
  refine sr_aloadn (pc := 13) (n := 0) (by decide +kernel) rfl ?_
  refine sr_aloadn (pc := 14) (n := 0) (by decide +kernel) rfl ?_
  refine sr_cV (pc := 15) (As := []) (mc1 := 0) (ms1 := 0) (mc2 := 0) (ms2 := 0) fm_11_153 fl_11_153 (by decide +kernel) (sr_in11 _ (by omega)) (rm_11_starts_11_letters) rfl rfl rfl (C11_letters l t1) ?_
  refine sr_kI (fun v2 t2 => ?_)
  refine sr_pI (pc := 18) fg_11_180 ft_11_12 (by decide +kernel) (sr_in11 _ (by omega)) (fun _ => rfl) (fun t3 => ?_)
  refine sr_iloadn (pc := 21) (n := 2) (by decide +kernel) rfl ?_
  refine sr_if_eq (pc := 22) (off := 15) (tg := 37) (by decide +kernel) (by decide) (fun _ => ?_) (fun _ => ?_)
  · exact sr_wk (sr_mono (mc := 0) (ms := 0) (by omega) (by omega) (g11_starts_37 l a0 a1 t3)) ⟨rfl, ⟨rfl, ⟨rfl, trivial⟩⟩⟩
  · refine sr_aloadn (pc := 25) (n := 0) (by decide +kernel) rfl ?_
    refine sr_aloadn (pc := 26) (n := 0) (by decide +kernel) rfl ?_
    refine sr_gI (pc := 27) fg_11_174 (by decide +kernel) (sr_in11 _ (by omega)) (fun _ => rfl) ?_
    refine sr_cV (pc := 30) (As := [sr_i (t3.1 11 0 10)]) (mc1 := 0) (ms1 := 0) (mc2 := 0) (ms2 := 0) fm_11_168 fl_11_168 (by decide +kernel) (sr_in11 _ (by omega)) (rm_11_starts_11_nextOf) rfl rfl rfl (C11_nextOf l (t3.1 11 0 10) t3) ?_
    refine sr_kI (fun v4 t4 => ?_)
    refine sr_iconst (pc := 33) (n := (-1)) (v := (-1)) (by decide +kernel) rfl ?_
    refine sr_icmp_ne (pc := 34) (off := 4) (tg := 38) (by decide +kernel) (by decide) (fun _ => ?_) (fun _ => ?_)
    · refine sr_aloadn (pc := 38) (n := 0) (by decide +kernel) rfl ?_
      refine sr_cV (pc := 39) (As := []) (mc1 := 0) (ms1 := 0) (mc2 := 0) (ms2 := 0) fm_11_153 fl_11_153 (by decide +kernel) (sr_in11 _ (by omega)) (rm_11_starts_11_letters) rfl rfl rfl (C11_letters l t4) ?_
      refine sr_kI (fun v5 t5 => ?_)
      refine sr_istoren (pc := 42) (n := 3) (by decide +kernel) (by decide) rfl rfl ?_
      exact sr_wk (sr_mono (mc := 0) (ms := 0) (by omega) (by omega) (g11_starts_43 l a0 a1 (f11_starts_97 a0 a1) (f11_starts_134 a0 a1) (g11_starts_97 l a0 a1) (g11_starts_134 l a0 a1) sr_fu v5 t5)) ⟨rfl, ⟨rfl, ⟨rfl, ⟨rfl, trivial⟩⟩⟩⟩
    · exact sr_wk (sr_mono (mc := 0) (ms := 0) (by omega) (by omega) (g11_starts_37 l a0 a1 t4)) ⟨rfl, ⟨rfl, ⟨rfl, trivial⟩⟩⟩
def f11_isInArc_23 (a0 : Int32) (a1 : Int32)  : Int32 → sr_t → sr_Rs := fun xs0 t => (if xs0 = 0 ∨ xs0 = 1 then some (.inl (some (sr_i xs0)), t) else none)
theorem g11_isInArc_23 (l : Launch) (a0 : Int32) (a1 : Int32)    : ∀ (xs0 : Int32), ∀ (t : sr_t), sr_g l sr_m11_isInArc 23 [some (sr_r 11 0), some (sr_i a0), some (sr_i a1)] [sr_i xs0] t (f11_isInArc_23 a0 a1  xs0 t) 0 0 := by
  intro xs0  t
  unfold f11_isInArc_23
  exact sr_zr (pc := 23) (by decide +kernel) rfl
def F11_isInArc (a0 : Int32) (a1 : Int32) (t : sr_t) : sr_Rs := (if a0 < 0 ∨ 24 ≤ a0.toNatClampNeg then none else (sr_bI (F11_from (t.1 24 0 a0.toNatClampNeg) a1 t) (fun v1 t1 => (sr_bI (F11_arcOf a0 t1) (fun v2 t2 => (if v2 ≤ v1 then f11_isInArc_23 a0 a1 0 t2 else f11_isInArc_23 a0 a1 1 t2))))))
theorem C11_isInArc (l : Launch) (a0 : Int32) (a1 : Int32)  (t : sr_t) : sr_ct' l sr_m11_isInArc [sr_r 11 0, sr_i a0, sr_i a1] t (F11_isInArc a0 a1 t) 0 0 := by
  refine sr_T_of (L0 := [some (sr_r 11 0), some (sr_i a0), some (sr_i a1)]) rfl (by decide +kernel) (fun _ => rfl) (fun _ => Nat.le_of_ble_eq_true rfl) ?_
  unfold F11_isInArc
  refine sr_aloadn (pc := 0) (n := 0) (by decide +kernel) rfl ?_
  refine sr_gC (pc := 1) (i2 := 0) fg_11_7 (by decide +kernel) (sr_in11 _ (by omega)) (fun _ => rfl) ?_
  refine sr_iloadn (pc := 4) (n := 1) (by decide +kernel) rfl ?_
  refine sr_aI (pc := 5) (n := 24) rfl (by decide +kernel) (sr_in24 _ (by omega)) (fun _ _ => rfl) ?_
  refine sr_iloadn (pc := 6) (n := 2) (by decide +kernel) rfl ?_
  refine sr_cS (pc := 7) (As := [sr_i (t.1 24 0 a0.toNatClampNeg), sr_i a1]) (mc1 := 0) (ms1 := 0) (mc2 := 0) (ms2 := 0) fm_11_103 fl_11_103 (by decide +kernel) (rm_11_isInArc_11_from) rfl rfl rfl (C11_from l (t.1 24 0 a0.toNatClampNeg) a1 t) ?_
  refine sr_kI (fun v1 t1 => ?_)
  refine sr_aloadn (pc := 10) (n := 0) (by decide +kernel) rfl ?_
  refine sr_iloadn (pc := 11) (n := 1) (by decide +kernel) rfl ?_
  refine sr_cV (pc := 12) (As := [sr_i a0]) (mc1 := 0) (ms1 := 0) (mc2 := 0) (ms2 := 0) fm_11_171 fl_11_171 (by decide +kernel) (sr_in11 _ (by omega)) (rm_11_isInArc_11_arcOf) rfl rfl rfl (C11_arcOf l a0 t1) ?_
  refine sr_kI (fun v2 t2 => ?_)
  refine sr_icmp_ge (pc := 15) (off := 7) (tg := 22) (by decide +kernel) (by decide) (fun _ => ?_) (fun _ => ?_)
  · refine sr_iconst (pc := 22) (n := 0) (v := 0) (by decide +kernel) rfl ?_
    exact sr_wk (sr_mono (mc := 0) (ms := 0) (by omega) (by omega) (g11_isInArc_23 l a0 a1 0 t2)) ⟨rfl, ⟨rfl, ⟨rfl, trivial⟩⟩⟩
  · refine sr_iconst (pc := 18) (n := 1) (v := 1) (by decide +kernel) rfl ?_
    refine sr_goto (pc := 19) (off := 4) (tg := 23) (by decide +kernel) (by decide) ?_
    exact sr_wk (sr_mono (mc := 0) (ms := 0) (by omega) (by omega) (g11_isInArc_23 l a0 a1 1 t2)) ⟨rfl, ⟨rfl, ⟨rfl, trivial⟩⟩⟩
def f11_pointerTo_76 (a0 : Int32) (a1 : Int32) (k19 : Int32 → Int32 → Int32 → sr_t → sr_Rs) (k82 : Int32 → sr_t → sr_Rs) : Int32 → Int32 → Int32 → sr_t → sr_Rs := fun x3 x4 x5 t => k19 x3 x4 (x5 + 1) t
theorem g11_pointerTo_76 (l : Launch) (a0 : Int32) (a1 : Int32)  (k19 : Int32 → Int32 → Int32 → sr_t → sr_Rs) (k82 : Int32 → sr_t → sr_Rs) (hk19 : ∀ (x3 : Int32) (x4 : Int32) (x5 : Int32), ∀ (t : sr_t), sr_g l sr_m11_pointerTo 19 [some (sr_r 11 0), some (sr_i a0), some (sr_i a1), some (sr_i x3), some (sr_i x4), some (sr_i x5), none] [] t (k19 x3 x4 x5 t) 0 0) (hk82 : ∀ (x4 : Int32), ∀ (t : sr_t), sr_g l sr_m11_pointerTo 82 [some (sr_r 11 0), some (sr_i a0), some (sr_i a1), none, some (sr_i x4), none, none] [] t (k82 x4 t) 0 0) : ∀ (x3 : Int32) (x4 : Int32) (x5 : Int32), ∀ (t : sr_t), sr_g l sr_m11_pointerTo 76 [some (sr_r 11 0), some (sr_i a0), some (sr_i a1), some (sr_i x3), some (sr_i x4), some (sr_i x5), none] [] t (f11_pointerTo_76 a0 a1 k19 k82 x3 x4 x5 t) 0 0 := by
  intro x3 x4 x5  t
  unfold f11_pointerTo_76
  refine sr_iinc (pc := 76) (i := 5) (n := 1) (w := x5 + 1) (by decide +kernel) rfl rfl (by decide) rfl rfl ?_
  refine sr_goto (pc := 79) (off := (-60)) (tg := 19) (by decide +kernel) (by decide) ?_
  exact sr_wk (sr_mono (mc := 0) (ms := 0) (by omega) (by omega) (hk19 x3 x4 (x5 + 1) t)) ⟨rfl, ⟨rfl, ⟨rfl, ⟨rfl, ⟨rfl, ⟨rfl, trivial⟩⟩⟩⟩⟩⟩
def f11_pointerTo_19 (a0 : Int32) (a1 : Int32) (k82 : Int32 → sr_t → sr_Rs) : Nat → Int32 → Int32 → Int32 → sr_t → sr_Rs
  | 0 => fun _ _ _ _ => none
  | n + 1 => fun x3 x4 x5 t => (sr_bI (F11_tableOf a0 5 t) (fun v1 t1 => (if v1 ≤ x5 then k82 x4 t1 else (sr_bI (F11_tableOf a0 (6 + x5) t1) (fun v2 t2 => (if v2 < 0 ∨ 24 ≤ v2.toNatClampNeg then none else (if (t2.1 25 0 v2.toNatClampNeg) = 1 then (if v2 < 0 ∨ 24 ≤ v2.toNatClampNeg then none else (sr_bI (F11_from x3 (t2.1 24 0 v2.toNatClampNeg) t2) (fun v3 t3 => (sr_bI (F11_from x3 a1 t3) (fun v4 t4 => (if v4 < v3 then f11_pointerTo_76 a0 a1 (f11_pointerTo_19 a0 a1 k82 n) k82 x3 x4 x5 t4 else f11_pointerTo_76 a0 a1 (f11_pointerTo_19 a0 a1 k82 n) k82 x3 v2 x5 t4)))))) else f11_pointerTo_76 a0 a1 (f11_pointerTo_19 a0 a1 k82 n) k82 x3 x4 x5 t2)))))))
theorem g11_pointerTo_19 (l : Launch) (a0 : Int32) (a1 : Int32)  (k82 : Int32 → sr_t → sr_Rs) (hk82 : ∀ (x4 : Int32), ∀ (t : sr_t), sr_g l sr_m11_pointerTo 82 [some (sr_r 11 0), some (sr_i a0), some (sr_i a1), none, some (sr_i x4), none, none] [] t (k82 x4 t) 0 0) : ∀ (n : Nat) (x3 : Int32) (x4 : Int32) (x5 : Int32), ∀ (t : sr_t), sr_g l sr_m11_pointerTo 19 [some (sr_r 11 0), some (sr_i a0), some (sr_i a1), some (sr_i x3), some (sr_i x4), some (sr_i x5), none] [] t (f11_pointerTo_19 a0 a1 k82 n x3 x4 x5 t) 0 0 := by
  intro n
  induction n with
  | zero => intros; exact sr_Gn
  | succ n ih =>
    intro x3 x4 x5  t
    unfold f11_pointerTo_19
    refine sr_iload (pc := 19) (i := 5) (by decide +kernel) rfl ?_
    refine sr_aloadn (pc := 21) (n := 0) (by decide +kernel) rfl ?_
    refine sr_iloadn (pc := 22) (n := 1) (by decide +kernel) rfl ?_
    refine sr_iconst (pc := 23) (n := 5) (v := 5) (by decide +kernel) rfl ?_
    refine sr_cV (pc := 24) (As := [sr_i a0, sr_i 5]) (mc1 := 0) (ms1 := 0) (mc2 := 0) (ms2 := 0) fm_11_123 fl_11_123 (by decide +kernel) (sr_in11 _ (by omega)) (rm_11_pointerTo_11_tableOf) rfl rfl rfl (C11_tableOf l a0 5 t) ?_
    refine sr_kI (fun v1 t1 => ?_)
    refine sr_icmp_ge (pc := 27) (off := 55) (tg := 82) (by decide +kernel) (by decide) (fun _ => ?_) (fun _ => ?_)
    · exact sr_wk (sr_mono (mc := 0) (ms := 0) (by omega) (by omega) (hk82 x4 t1)) ⟨rfl, ⟨rfl, ⟨rfl, ⟨rfl, trivial⟩⟩⟩⟩
    · refine sr_aloadn (pc := 30) (n := 0) (by decide +kernel) rfl ?_
      refine sr_iloadn (pc := 31) (n := 1) (by decide +kernel) rfl ?_
      refine sr_bipush (pc := 32) (n := 6) (v := 6) (by decide +kernel) (by decide) ?_
      refine sr_iload (pc := 34) (i := 5) (by decide +kernel) rfl ?_
      refine sr_iadd (pc := 36) (by decide +kernel) ?_
      refine sr_cV (pc := 37) (As := [sr_i a0, sr_i (6 + x5)]) (mc1 := 0) (ms1 := 0) (mc2 := 0) (ms2 := 0) fm_11_123 fl_11_123 (by decide +kernel) (sr_in11 _ (by omega)) (rm_11_pointerTo_11_tableOf) rfl rfl rfl (C11_tableOf l a0 (6 + x5) t1) ?_
      refine sr_kI (fun v2 t2 => ?_)
      refine sr_istore (pc := 40) (i := 6) (by decide +kernel) (by decide) rfl rfl ?_
      refine sr_aloadn (pc := 42) (n := 0) (by decide +kernel) rfl ?_
      refine sr_gC (pc := 43) (i2 := 0) fg_11_13 (by decide +kernel) (sr_in11 _ (by omega)) (fun _ => rfl) ?_
      refine sr_iload (pc := 46) (i := 6) (by decide +kernel) rfl ?_
      refine sr_aI (pc := 48) (n := 24) rfl (by decide +kernel) (sr_in25 _ (by omega)) (fun _ _ => rfl) ?_
      refine sr_iconst (pc := 49) (n := 1) (v := 1) (by decide +kernel) rfl ?_
      refine sr_icmp_ne (pc := 50) (off := 26) (tg := 76) (by decide +kernel) (by decide) (fun _ => ?_) (fun _ => ?_)
      · exact sr_wk (sr_mono (mc := 0) (ms := 0) (by omega) (by omega) (g11_pointerTo_76 l a0 a1 (f11_pointerTo_19 a0 a1 k82 n) k82 ih hk82 x3 x4 x5 t2)) ⟨rfl, ⟨rfl, ⟨rfl, ⟨rfl, ⟨rfl, ⟨rfl, trivial⟩⟩⟩⟩⟩⟩
      · refine sr_iloadn (pc := 53) (n := 3) (by decide +kernel) rfl ?_
        refine sr_aloadn (pc := 54) (n := 0) (by decide +kernel) rfl ?_
        refine sr_gC (pc := 55) (i2 := 0) fg_11_7 (by decide +kernel) (sr_in11 _ (by omega)) (fun _ => rfl) ?_
        refine sr_iload (pc := 58) (i := 6) (by decide +kernel) rfl ?_
        refine sr_aI (pc := 60) (n := 24) rfl (by decide +kernel) (sr_in24 _ (by omega)) (fun _ _ => rfl) ?_
        refine sr_cS (pc := 61) (As := [sr_i x3, sr_i (t2.1 24 0 v2.toNatClampNeg)]) (mc1 := 0) (ms1 := 0) (mc2 := 0) (ms2 := 0) fm_11_103 fl_11_103 (by decide +kernel) (rm_11_pointerTo_11_from) rfl rfl rfl (C11_from l x3 (t2.1 24 0 v2.toNatClampNeg) t2) ?_
        refine sr_kI (fun v3 t3 => ?_)
        refine sr_iloadn (pc := 64) (n := 3) (by decide +kernel) rfl ?_
        refine sr_iloadn (pc := 65) (n := 2) (by decide +kernel) rfl ?_
        refine sr_cS (pc := 66) (As := [sr_i x3, sr_i a1]) (mc1 := 0) (ms1 := 0) (mc2 := 0) (ms2 := 0) fm_11_103 fl_11_103 (by decide +kernel) (rm_11_pointerTo_11_from) rfl rfl rfl (C11_from l x3 a1 t3) ?_
        refine sr_kI (fun v4 t4 => ?_)
        refine sr_icmp_gt (pc := 69) (off := 7) (tg := 76) (by decide +kernel) (by decide) (fun _ => ?_) (fun _ => ?_)
        · exact sr_wk (sr_mono (mc := 0) (ms := 0) (by omega) (by omega) (g11_pointerTo_76 l a0 a1 (f11_pointerTo_19 a0 a1 k82 n) k82 ih hk82 x3 x4 x5 t4)) ⟨rfl, ⟨rfl, ⟨rfl, ⟨rfl, ⟨rfl, ⟨rfl, trivial⟩⟩⟩⟩⟩⟩
        · refine sr_iload (pc := 72) (i := 6) (by decide +kernel) rfl ?_
          refine sr_istore (pc := 74) (i := 4) (by decide +kernel) (by decide) rfl rfl ?_
          exact sr_wk (sr_mono (mc := 0) (ms := 0) (by omega) (by omega) (g11_pointerTo_76 l a0 a1 (f11_pointerTo_19 a0 a1 k82 n) k82 ih hk82 x3 v2 x5 t4)) ⟨rfl, ⟨rfl, ⟨rfl, ⟨rfl, ⟨rfl, ⟨rfl, trivial⟩⟩⟩⟩⟩⟩
def f11_pointerTo_82 (a0 : Int32) (a1 : Int32)  : Int32 → sr_t → sr_Rs := fun x4 t => (some (.inl (some (sr_i x4)), t))
theorem g11_pointerTo_82 (l : Launch) (a0 : Int32) (a1 : Int32)    : ∀ (x4 : Int32), ∀ (t : sr_t), sr_g l sr_m11_pointerTo 82 [some (sr_r 11 0), some (sr_i a0), some (sr_i a1), none, some (sr_i x4), none, none] [] t (f11_pointerTo_82 a0 a1  x4 t) 0 0 := by
  intro x4  t
  unfold f11_pointerTo_82
  refine sr_iload (pc := 82) (i := 4) (by decide +kernel) rfl ?_
  exact sr_iret (pc := 84) (by decide +kernel) rfl
def F11_pointerTo (a0 : Int32) (a1 : Int32) (t : sr_t) : sr_Rs := (sr_bI (F11_tableOf a0 6 t) (fun v1 t1 => (if v1 < 0 ∨ 24 ≤ v1.toNatClampNeg then none else f11_pointerTo_19 a0 a1 (f11_pointerTo_82 a0 a1) sr_fu (t1.1 24 0 v1.toNatClampNeg) ((-1)) 0 t1)))
theorem C11_pointerTo (l : Launch) (a0 : Int32) (a1 : Int32)  (t : sr_t) : sr_ct' l sr_m11_pointerTo [sr_r 11 0, sr_i a0, sr_i a1] t (F11_pointerTo a0 a1 t) 0 0 := by
  refine sr_T_of (L0 := [some (sr_r 11 0), some (sr_i a0), some (sr_i a1), none, none, none, none]) rfl (by decide +kernel) (fun _ => rfl) (fun _ => Nat.le_of_ble_eq_true rfl) ?_
  unfold F11_pointerTo
  refine sr_aloadn (pc := 0) (n := 0) (by decide +kernel) rfl ?_
  refine sr_gC (pc := 1) (i2 := 0) fg_11_7 (by decide +kernel) (sr_in11 _ (by omega)) (fun _ => rfl) ?_
  refine sr_aloadn (pc := 4) (n := 0) (by decide +kernel) rfl ?_
  refine sr_iloadn (pc := 5) (n := 1) (by decide +kernel) rfl ?_
  refine sr_bipush (pc := 6) (n := 6) (v := 6) (by decide +kernel) (by decide) ?_
  refine sr_cV (pc := 8) (As := [sr_i a0, sr_i 6]) (mc1 := 0) (ms1 := 0) (mc2 := 0) (ms2 := 0) fm_11_123 fl_11_123 (by decide +kernel) (sr_in11 _ (by omega)) (rm_11_pointerTo_11_tableOf) rfl rfl rfl (C11_tableOf l a0 6 t) ?_
  refine sr_kI (fun v1 t1 => ?_)
  refine sr_aI (pc := 11) (n := 24) rfl (by decide +kernel) (sr_in24 _ (by omega)) (fun _ _ => rfl) ?_
  refine sr_istoren (pc := 12) (n := 3) (by decide +kernel) (by decide) rfl rfl ?_
  refine sr_iconst (pc := 13) (n := (-1)) (v := (-1)) (by decide +kernel) rfl ?_
  refine sr_istore (pc := 14) (i := 4) (by decide +kernel) (by decide) rfl rfl ?_
  refine sr_iconst (pc := 16) (n := 0) (v := 0) (by decide +kernel) rfl ?_
  refine sr_istore (pc := 17) (i := 5) (by decide +kernel) (by decide) rfl rfl ?_
  exact sr_wk (sr_mono (mc := 0) (ms := 0) (by omega) (by omega) (g11_pointerTo_19 l a0 a1 (f11_pointerTo_82 a0 a1) (g11_pointerTo_82 l a0 a1) sr_fu (t1.1 24 0 v1.toNatClampNeg) ((-1)) 0 t1)) ⟨rfl, ⟨rfl, ⟨rfl, ⟨rfl, ⟨rfl, ⟨rfl, trivial⟩⟩⟩⟩⟩⟩
def f11_hopsTo_81 (a0 : Int32)  : sr_t → sr_Rs := fun  t => (sr_lt (sr_u t 11 0 10 a0) (fun t1 => (some (.inl none, t1))))
theorem g11_hopsTo_81 (l : Launch) (a0 : Int32)    : ∀ (t : sr_t), sr_g l sr_m11_hopsTo 81 [some (sr_r 11 0), some (sr_i a0), none] [] t (f11_hopsTo_81 a0   t) 0 0 := by
  intro t
  unfold f11_hopsTo_81
  refine sr_aloadn (pc := 81) (n := 0) (by decide +kernel) rfl ?_
  refine sr_iloadn (pc := 82) (n := 1) (by decide +kernel) rfl ?_
  refine sr_pI (pc := 83) fg_11_174 ft_11_10 (by decide +kernel) (sr_in11 _ (by omega)) (fun _ => rfl) (fun t1 => ?_)
  exact sr_ret (pc := 86) (by decide +kernel) rfl
def f11_hopsTo_51 (a0 : Int32)  : Int32 → Int32 → Int32 → sr_t → sr_Rs := fun xs0 xs1 xs2 t => (sr_lt (sr_u t 11 0 19 (xs2 + (xs1 + xs0))) (fun t1 => (if a0 < 0 ∨ 24 ≤ a0.toNatClampNeg then none else sr_lt (sr_u t1 35 0 a0.toNatClampNeg 1) (fun t2 => (if (24 * (t2.1 11 0 10)) + a0 < 0 ∨ 576 ≤ ((24 * (t2.1 11 0 10)) + a0).toNatClampNeg then none else (if (24 * (t2.1 11 0 10)) + a0 < 0 ∨ 576 ≤ ((24 * (t2.1 11 0 10)) + a0).toNatClampNeg then none else sr_lt (sr_u t2 36 0 ((24 * (t2.1 11 0 10)) + a0).toNatClampNeg ((t2.1 36 0 ((24 * (t2.1 11 0 10)) + a0).toNatClampNeg) + 1)) (fun t3 => f11_hopsTo_81 a0 t3)))))))
theorem g11_hopsTo_51 (l : Launch) (a0 : Int32)    : ∀ (xs0 : Int32) (xs1 : Int32) (xs2 : Int32), ∀ (t : sr_t), sr_g l sr_m11_hopsTo 51 [some (sr_r 11 0), some (sr_i a0), none] [sr_i xs0, sr_i xs1, sr_i xs2, sr_r 11 0] t (f11_hopsTo_51 a0  xs0 xs1 xs2 t) 0 0 := by
  intro xs0 xs1 xs2  t
  unfold f11_hopsTo_51
  refine sr_iadd (pc := 51) (by decide +kernel) ?_
  refine sr_iadd (pc := 52) (by decide +kernel) ?_
  refine sr_pI (pc := 53) fg_11_186 ft_11_19 (by decide +kernel) (sr_in11 _ (by omega)) (fun _ => rfl) (fun t1 => ?_)
  refine sr_aloadn (pc := 56) (n := 0) (by decide +kernel) rfl ?_
  refine sr_gC (pc := 57) (i2 := 0) fg_11_53 (by decide +kernel) (sr_in11 _ (by omega)) (fun _ => rfl) ?_
  refine sr_iloadn (pc := 60) (n := 1) (by decide +kernel) rfl ?_
  refine sr_iconst (pc := 61) (n := 1) (v := 1) (by decide +kernel) rfl ?_
  refine sr_sI (pc := 62) (n := 24) rfl (by decide +kernel) (sr_in35 _ (by omega)) (fun _ _ => rfl) (fun t2 => ?_)
  refine sr_aloadn (pc := 63) (n := 0) (by decide +kernel) rfl ?_
  refine sr_gC (pc := 64) (i2 := 0) fg_11_56 (by decide +kernel) (sr_in11 _ (by omega)) (fun _ => rfl) ?_
  refine sr_bipush (pc := 67) (n := 24) (v := 24) (by decide +kernel) (by decide) ?_
  refine sr_aloadn (pc := 69) (n := 0) (by decide +kernel) rfl ?_
  refine sr_gI (pc := 70) fg_11_174 (by decide +kernel) (sr_in11 _ (by omega)) (fun _ => rfl) ?_
  refine sr_imul (pc := 73) (by decide +kernel) ?_
  refine sr_iloadn (pc := 74) (n := 1) (by decide +kernel) rfl ?_
  refine sr_iadd (pc := 75) (by decide +kernel) ?_
  refine sr_dup2 (pc := 76) (by decide +kernel) rfl rfl ?_
  refine sr_aI (pc := 77) (n := 576) rfl (by decide +kernel) (sr_in36 _ (by omega)) (fun _ _ => rfl) ?_
  refine sr_iconst (pc := 78) (n := 1) (v := 1) (by decide +kernel) rfl ?_
  refine sr_iadd (pc := 79) (by decide +kernel) ?_
  refine sr_sI (pc := 80) (n := 576) rfl (by decide +kernel) (sr_in36 _ (by omega)) (fun _ _ => rfl) (fun t3 => ?_)
  exact sr_wk (sr_mono (mc := 0) (ms := 0) (by omega) (by omega) (g11_hopsTo_81 l a0 t3)) ⟨rfl, ⟨rfl, trivial⟩⟩
def F11_hopsTo (a0 : Int32) (t : sr_t) : sr_Rs := (if a0 = (t.1 11 0 10) then f11_hopsTo_81 a0 t else (sr_lt (sr_u t 11 0 13 ((t.1 11 0 13) + 1)) (fun t1 => (if a0 < 0 ∨ 24 ≤ a0.toNatClampNeg then none else (if t1.1 11 0 10 < 0 ∨ 24 ≤ (t1.1 11 0 10).toNatClampNeg then none else (if 0 ≤ ((t1.1 26 0 a0.toNatClampNeg) - (t1.1 26 0 (t1.1 11 0 10).toNatClampNeg)) then f11_hopsTo_51 a0 ((t1.1 26 0 a0.toNatClampNeg) - (t1.1 26 0 (t1.1 11 0 10).toNatClampNeg)) 1 (t1.1 11 0 19) t1 else f11_hopsTo_51 a0 (-((t1.1 26 0 a0.toNatClampNeg) - (t1.1 26 0 (t1.1 11 0 10).toNatClampNeg))) 1 (t1.1 11 0 19) t1))))))
theorem C11_hopsTo (l : Launch) (a0 : Int32)  (t : sr_t) : sr_ct' l sr_m11_hopsTo [sr_r 11 0, sr_i a0] t (F11_hopsTo a0 t) 0 0 := by
  refine sr_T_of (L0 := [some (sr_r 11 0), some (sr_i a0), none]) rfl (by decide +kernel) (fun _ => rfl) (fun _ => Nat.le_of_ble_eq_true rfl) ?_
  unfold F11_hopsTo
  refine sr_iloadn (pc := 0) (n := 1) (by decide +kernel) rfl ?_
  refine sr_aloadn (pc := 1) (n := 0) (by decide +kernel) rfl ?_
  refine sr_gI (pc := 2) fg_11_174 (by decide +kernel) (sr_in11 _ (by omega)) (fun _ => rfl) ?_
  refine sr_icmp_eq (pc := 5) (off := 76) (tg := 81) (by decide +kernel) (by decide) (fun _ => ?_) (fun _ => ?_)
  · exact sr_wk (sr_mono (mc := 0) (ms := 0) (by omega) (by omega) (g11_hopsTo_81 l a0 t)) ⟨rfl, ⟨rfl, trivial⟩⟩
  · refine sr_aloadn (pc := 8) (n := 0) (by decide +kernel) rfl ?_
    refine sr_dup (pc := 9) (by decide +kernel) rfl ?_
    refine sr_gI (pc := 10) fg_11_183 (by decide +kernel) (sr_in11 _ (by omega)) (fun _ => rfl) ?_
    refine sr_iconst (pc := 13) (n := 1) (v := 1) (by decide +kernel) rfl ?_
    refine sr_iadd (pc := 14) (by decide +kernel) ?_
    refine sr_pI (pc := 15) fg_11_183 ft_11_13 (by decide +kernel) (sr_in11 _ (by omega)) (fun _ => rfl) (fun t1 => ?_)
    refine sr_aloadn (pc := 18) (n := 0) (by decide +kernel) rfl ?_
    refine sr_gC (pc := 19) (i2 := 0) fg_11_16 (by decide +kernel) (sr_in11 _ (by omega)) (fun _ => rfl) ?_
    refine sr_iloadn (pc := 22) (n := 1) (by decide +kernel) rfl ?_
    refine sr_aI (pc := 23) (n := 24) rfl (by decide +kernel) (sr_in26 _ (by omega)) (fun _ _ => rfl) ?_
    refine sr_aloadn (pc := 24) (n := 0) (by decide +kernel) rfl ?_
    refine sr_gC (pc := 25) (i2 := 0) fg_11_16 (by decide +kernel) (sr_in11 _ (by omega)) (fun _ => rfl) ?_
    refine sr_aloadn (pc := 28) (n := 0) (by decide +kernel) rfl ?_
    refine sr_gI (pc := 29) fg_11_174 (by decide +kernel) (sr_in11 _ (by omega)) (fun _ => rfl) ?_
    refine sr_aI (pc := 32) (n := 24) rfl (by decide +kernel) (sr_in26 _ (by omega)) (fun _ _ => rfl) ?_
    refine sr_isub (pc := 33) (by decide +kernel) ?_
    refine sr_istoren (pc := 34) (n := 2) (by decide +kernel) (by decide) rfl rfl ?_
    refine sr_aloadn (pc := 35) (n := 0) (by decide +kernel) rfl ?_
    refine sr_dup (pc := 36) (by decide +kernel) rfl ?_
    refine sr_gI (pc := 37) fg_11_186 (by decide +kernel) (sr_in11 _ (by omega)) (fun _ => rfl) ?_
    refine sr_iconst (pc := 40) (n := 1) (v := 1) (by decide +kernel) rfl ?_
    refine sr_iloadn (pc := 41) (n := 2) (by decide +kernel) rfl ?_
    refine sr_if_ge (pc := 42) (off := 8) (tg := 50) (by decide +kernel) (by decide) (fun _ => ?_) (fun _ => ?_)
    · refine sr_iloadn (pc := 50) (n := 2) (by decide +kernel) rfl ?_
      exact sr_wk (sr_mono (mc := 0) (ms := 0) (by omega) (by omega) (g11_hopsTo_51 l a0 ((t1.1 26 0 a0.toNatClampNeg) - (t1.1 26 0 (t1.1 11 0 10).toNatClampNeg)) 1 (t1.1 11 0 19) t1)) ⟨rfl, ⟨rfl, trivial⟩⟩
    · refine sr_iloadn (pc := 45) (n := 2) (by decide +kernel) rfl ?_
      refine sr_ineg (pc := 46) (by decide +kernel) ?_
      refine sr_goto (pc := 47) (off := 4) (tg := 51) (by decide +kernel) (by decide) ?_
      exact sr_wk (sr_mono (mc := 0) (ms := 0) (by omega) (by omega) (g11_hopsTo_51 l a0 (-((t1.1 26 0 a0.toNatClampNeg) - (t1.1 26 0 (t1.1 11 0 10).toNatClampNeg))) 1 (t1.1 11 0 19) t1)) ⟨rfl, ⟨rfl, trivial⟩⟩
def f11_goes_279 (a0 : Int32) (a1 : Int32)  : sr_t → sr_Rs := fun  t => (sr_lt (sr_u t 11 0 17 ((t.1 11 0 17) + 1)) (fun t1 => (some (.inl none, t1))))
theorem g11_goes_279 (l : Launch) (a0 : Int32) (a1 : Int32)    : ∀ (t : sr_t), sr_g l sr_m11_goes 279 [some (sr_r 11 0), some (sr_i a0), some (sr_i a1), none, none, none, none, none, none] [] t (f11_goes_279 a0 a1   t) 0 0 := by
  intro t
  unfold f11_goes_279
  refine sr_aloadn (pc := 279) (n := 0) (by decide +kernel) rfl ?_
  refine sr_dup (pc := 280) (by decide +kernel) rfl ?_
  refine sr_gI (pc := 281) fg_11_212 (by decide +kernel) (sr_in11 _ (by omega)) (fun _ => rfl) ?_
  refine sr_iconst (pc := 284) (n := 1) (v := 1) (by decide +kernel) rfl ?_
  refine sr_iadd (pc := 285) (by decide +kernel) ?_
  refine sr_pI (pc := 286) fg_11_212 ft_11_17 (by decide +kernel) (sr_in11 _ (by omega)) (fun _ => rfl) (fun t1 => ?_)
  exact sr_ret (pc := 289) (by decide +kernel) rfl
def f11_goes_225 (a0 : Int32) (a1 : Int32)  : Int32 → Int32 → Int32 → Int32 → Int32 → Int32 → sr_t → sr_Rs := fun x3 x4 x5 x6 xs0 xs1 t => (sr_lt (sr_u t 11 0 16 (xs1 + xs0)) (fun t1 => (if (t1.1 11 0 22) = 0 then f11_goes_279 a0 a1 t1 else (if t1.1 11 0 17 < 0 ∨ 200 ≤ (t1.1 11 0 17).toNatClampNeg then none else sr_lt (sr_u t1 29 0 (t1.1 11 0 17).toNatClampNeg x4) (fun t2 => (if t2.1 11 0 17 < 0 ∨ 200 ≤ (t2.1 11 0 17).toNatClampNeg then none else sr_lt (sr_u t2 30 0 (t2.1 11 0 17).toNatClampNeg x5) (fun t3 => (if t3.1 11 0 17 < 0 ∨ 200 ≤ (t3.1 11 0 17).toNatClampNeg then none else sr_lt (sr_u t3 31 0 (t3.1 11 0 17).toNatClampNeg x6) (fun t4 => (if t4.1 11 0 17 < 0 ∨ 200 ≤ (t4.1 11 0 17).toNatClampNeg then none else sr_lt (sr_u t4 32 0 (t4.1 11 0 17).toNatClampNeg x3) (fun t5 => f11_goes_279 a0 a1 t5)))))))))))
theorem g11_goes_225 (l : Launch) (a0 : Int32) (a1 : Int32)    : ∀ (x3 : Int32) (x4 : Int32) (x5 : Int32) (x6 : Int32) (xs0 : Int32) (xs1 : Int32), ∀ (t : sr_t), sr_g l sr_m11_goes 225 [some (sr_r 11 0), some (sr_i a0), some (sr_i a1), some (sr_i x3), some (sr_i x4), some (sr_i x5), some (sr_i x6), none, none] [sr_i xs0, sr_i xs1, sr_r 11 0] t (f11_goes_225 a0 a1  x3 x4 x5 x6 xs0 xs1 t) 0 0 := by
  intro x3 x4 x5 x6 xs0 xs1  t
  unfold f11_goes_225
  refine sr_iadd (pc := 225) (by decide +kernel) ?_
  refine sr_pI (pc := 226) fg_11_209 ft_11_16 (by decide +kernel) (sr_in11 _ (by omega)) (fun _ => rfl) (fun t1 => ?_)
  refine sr_aloadn (pc := 229) (n := 0) (by decide +kernel) rfl ?_
  refine sr_gI (pc := 230) fg_11_89 (by decide +kernel) (sr_in11 _ (by omega)) (fun _ => rfl) ?_
  refine sr_if_eq (pc := 233) (off := 46) (tg := 279) (by decide +kernel) (by decide) (fun _ => ?_) (fun _ => ?_)
  · exact sr_wk (sr_mono (mc := 0) (ms := 0) (by omega) (by omega) (g11_goes_279 l a0 a1 t1)) ⟨rfl, ⟨rfl, ⟨rfl, trivial⟩⟩⟩
  · refine sr_aloadn (pc := 236) (n := 0) (by decide +kernel) rfl ?_
    refine sr_gC (pc := 237) (i2 := 0) fg_11_35 (by decide +kernel) (sr_in11 _ (by omega)) (fun _ => rfl) ?_
    refine sr_aloadn (pc := 240) (n := 0) (by decide +kernel) rfl ?_
    refine sr_gI (pc := 241) fg_11_212 (by decide +kernel) (sr_in11 _ (by omega)) (fun _ => rfl) ?_
    refine sr_iload (pc := 244) (i := 4) (by decide +kernel) rfl ?_
    refine sr_sI (pc := 246) (n := 200) rfl (by decide +kernel) (sr_in29 _ (by omega)) (fun _ _ => rfl) (fun t2 => ?_)
    refine sr_aloadn (pc := 247) (n := 0) (by decide +kernel) rfl ?_
    refine sr_gC (pc := 248) (i2 := 0) fg_11_38 (by decide +kernel) (sr_in11 _ (by omega)) (fun _ => rfl) ?_
    refine sr_aloadn (pc := 251) (n := 0) (by decide +kernel) rfl ?_
    refine sr_gI (pc := 252) fg_11_212 (by decide +kernel) (sr_in11 _ (by omega)) (fun _ => rfl) ?_
    refine sr_iload (pc := 255) (i := 5) (by decide +kernel) rfl ?_
    refine sr_sI (pc := 257) (n := 200) rfl (by decide +kernel) (sr_in30 _ (by omega)) (fun _ _ => rfl) (fun t3 => ?_)
    refine sr_aloadn (pc := 258) (n := 0) (by decide +kernel) rfl ?_
    refine sr_gC (pc := 259) (i2 := 0) fg_11_41 (by decide +kernel) (sr_in11 _ (by omega)) (fun _ => rfl) ?_
    refine sr_aloadn (pc := 262) (n := 0) (by decide +kernel) rfl ?_
    refine sr_gI (pc := 263) fg_11_212 (by decide +kernel) (sr_in11 _ (by omega)) (fun _ => rfl) ?_
    refine sr_iload (pc := 266) (i := 6) (by decide +kernel) rfl ?_
    refine sr_sI (pc := 268) (n := 200) rfl (by decide +kernel) (sr_in31 _ (by omega)) (fun _ _ => rfl) (fun t4 => ?_)
    refine sr_aloadn (pc := 269) (n := 0) (by decide +kernel) rfl ?_
    refine sr_gC (pc := 270) (i2 := 0) fg_11_44 (by decide +kernel) (sr_in11 _ (by omega)) (fun _ => rfl) ?_
    refine sr_aloadn (pc := 273) (n := 0) (by decide +kernel) rfl ?_
    refine sr_gI (pc := 274) fg_11_212 (by decide +kernel) (sr_in11 _ (by omega)) (fun _ => rfl) ?_
    refine sr_iloadn (pc := 277) (n := 3) (by decide +kernel) rfl ?_
    refine sr_sI (pc := 278) (n := 200) rfl (by decide +kernel) (sr_in32 _ (by omega)) (fun _ _ => rfl) (fun t5 => ?_)
    exact sr_wk (sr_mono (mc := 0) (ms := 0) (by omega) (by omega) (g11_goes_279 l a0 a1 t5)) ⟨rfl, ⟨rfl, ⟨rfl, trivial⟩⟩⟩
def f11_goes_206 (a0 : Int32) (a1 : Int32)  : Int32 → Int32 → Int32 → Int32 → Int32 → Int32 → sr_t → sr_Rs := fun x3 x4 x5 x6 xs0 xs1 t => (sr_lt (sr_u t 11 0 15 (xs1 + xs0)) (fun t1 => (if x3 = 2 then f11_goes_225 a0 a1 x3 x4 x5 x6 1 (t1.1 11 0 16) t1 else f11_goes_225 a0 a1 x3 x4 x5 x6 0 (t1.1 11 0 16) t1)))
theorem g11_goes_206 (l : Launch) (a0 : Int32) (a1 : Int32)    : ∀ (x3 : Int32) (x4 : Int32) (x5 : Int32) (x6 : Int32) (xs0 : Int32) (xs1 : Int32), ∀ (t : sr_t), sr_g l sr_m11_goes 206 [some (sr_r 11 0), some (sr_i a0), some (sr_i a1), some (sr_i x3), some (sr_i x4), some (sr_i x5), some (sr_i x6), none, none] [sr_i xs0, sr_i xs1, sr_r 11 0] t (f11_goes_206 a0 a1  x3 x4 x5 x6 xs0 xs1 t) 0 0 := by
  intro x3 x4 x5 x6 xs0 xs1  t
  unfold f11_goes_206
  refine sr_iadd (pc := 206) (by decide +kernel) ?_
  refine sr_pI (pc := 207) fg_11_206 ft_11_15 (by decide +kernel) (sr_in11 _ (by omega)) (fun _ => rfl) (fun t1 => ?_)
  refine sr_aloadn (pc := 210) (n := 0) (by decide +kernel) rfl ?_
  refine sr_dup (pc := 211) (by decide +kernel) rfl ?_
  refine sr_gI (pc := 212) fg_11_209 (by decide +kernel) (sr_in11 _ (by omega)) (fun _ => rfl) ?_
  refine sr_iloadn (pc := 215) (n := 3) (by decide +kernel) rfl ?_
  refine sr_iconst (pc := 216) (n := 2) (v := 2) (by decide +kernel) rfl ?_
  refine sr_icmp_ne (pc := 217) (off := 7) (tg := 224) (by decide +kernel) (by decide) (fun _ => ?_) (fun _ => ?_)
  · refine sr_iconst (pc := 224) (n := 0) (v := 0) (by decide +kernel) rfl ?_
    exact sr_wk (sr_mono (mc := 0) (ms := 0) (by omega) (by omega) (g11_goes_225 l a0 a1 x3 x4 x5 x6 0 (t1.1 11 0 16) t1)) ⟨rfl, ⟨rfl, ⟨rfl, ⟨rfl, ⟨rfl, ⟨rfl, ⟨rfl, trivial⟩⟩⟩⟩⟩⟩⟩
  · refine sr_iconst (pc := 220) (n := 1) (v := 1) (by decide +kernel) rfl ?_
    refine sr_goto (pc := 221) (off := 4) (tg := 225) (by decide +kernel) (by decide) ?_
    exact sr_wk (sr_mono (mc := 0) (ms := 0) (by omega) (by omega) (g11_goes_225 l a0 a1 x3 x4 x5 x6 1 (t1.1 11 0 16) t1)) ⟨rfl, ⟨rfl, ⟨rfl, ⟨rfl, ⟨rfl, ⟨rfl, ⟨rfl, trivial⟩⟩⟩⟩⟩⟩⟩
def f11_goes_187 (a0 : Int32) (a1 : Int32)  : Int32 → Int32 → Int32 → Int32 → Int32 → Int32 → sr_t → sr_Rs := fun x3 x4 x5 x6 xs0 xs1 t => (sr_lt (sr_u t 11 0 14 (xs1 + xs0)) (fun t1 => (if x3 = 1 then f11_goes_206 a0 a1 x3 x4 x5 x6 1 (t1.1 11 0 15) t1 else f11_goes_206 a0 a1 x3 x4 x5 x6 0 (t1.1 11 0 15) t1)))
theorem g11_goes_187 (l : Launch) (a0 : Int32) (a1 : Int32)    : ∀ (x3 : Int32) (x4 : Int32) (x5 : Int32) (x6 : Int32) (xs0 : Int32) (xs1 : Int32), ∀ (t : sr_t), sr_g l sr_m11_goes 187 [some (sr_r 11 0), some (sr_i a0), some (sr_i a1), some (sr_i x3), some (sr_i x4), some (sr_i x5), some (sr_i x6), none, none] [sr_i xs0, sr_i xs1, sr_r 11 0] t (f11_goes_187 a0 a1  x3 x4 x5 x6 xs0 xs1 t) 0 0 := by
  intro x3 x4 x5 x6 xs0 xs1  t
  unfold f11_goes_187
  refine sr_iadd (pc := 187) (by decide +kernel) ?_
  refine sr_pI (pc := 188) fg_11_203 ft_11_14 (by decide +kernel) (sr_in11 _ (by omega)) (fun _ => rfl) (fun t1 => ?_)
  refine sr_aloadn (pc := 191) (n := 0) (by decide +kernel) rfl ?_
  refine sr_dup (pc := 192) (by decide +kernel) rfl ?_
  refine sr_gI (pc := 193) fg_11_206 (by decide +kernel) (sr_in11 _ (by omega)) (fun _ => rfl) ?_
  refine sr_iloadn (pc := 196) (n := 3) (by decide +kernel) rfl ?_
  refine sr_iconst (pc := 197) (n := 1) (v := 1) (by decide +kernel) rfl ?_
  refine sr_icmp_ne (pc := 198) (off := 7) (tg := 205) (by decide +kernel) (by decide) (fun _ => ?_) (fun _ => ?_)
  · refine sr_iconst (pc := 205) (n := 0) (v := 0) (by decide +kernel) rfl ?_
    exact sr_wk (sr_mono (mc := 0) (ms := 0) (by omega) (by omega) (g11_goes_206 l a0 a1 x3 x4 x5 x6 0 (t1.1 11 0 15) t1)) ⟨rfl, ⟨rfl, ⟨rfl, ⟨rfl, ⟨rfl, ⟨rfl, ⟨rfl, trivial⟩⟩⟩⟩⟩⟩⟩
  · refine sr_iconst (pc := 201) (n := 1) (v := 1) (by decide +kernel) rfl ?_
    refine sr_goto (pc := 202) (off := 4) (tg := 206) (by decide +kernel) (by decide) ?_
    exact sr_wk (sr_mono (mc := 0) (ms := 0) (by omega) (by omega) (g11_goes_206 l a0 a1 x3 x4 x5 x6 1 (t1.1 11 0 15) t1)) ⟨rfl, ⟨rfl, ⟨rfl, ⟨rfl, ⟨rfl, ⟨rfl, ⟨rfl, trivial⟩⟩⟩⟩⟩⟩⟩
def f11_goes_173 (a0 : Int32) (a1 : Int32)  : Int32 → Int32 → Int32 → Int32 → sr_t → sr_Rs := fun x3 x4 x5 x6 t => (if x3 = 0 then f11_goes_187 a0 a1 x3 x4 x5 x6 1 (t.1 11 0 14) t else f11_goes_187 a0 a1 x3 x4 x5 x6 0 (t.1 11 0 14) t)
theorem g11_goes_173 (l : Launch) (a0 : Int32) (a1 : Int32)    : ∀ (x3 : Int32) (x4 : Int32) (x5 : Int32) (x6 : Int32), ∀ (t : sr_t), sr_g l sr_m11_goes 173 [some (sr_r 11 0), some (sr_i a0), some (sr_i a1), some (sr_i x3), some (sr_i x4), some (sr_i x5), some (sr_i x6), none, none] [] t (f11_goes_173 a0 a1  x3 x4 x5 x6 t) 0 0 := by
  intro x3 x4 x5 x6  t
  unfold f11_goes_173
  refine sr_aloadn (pc := 173) (n := 0) (by decide +kernel) rfl ?_
  refine sr_dup (pc := 174) (by decide +kernel) rfl ?_
  refine sr_gI (pc := 175) fg_11_203 (by decide +kernel) (sr_in11 _ (by omega)) (fun _ => rfl) ?_
  refine sr_iloadn (pc := 178) (n := 3) (by decide +kernel) rfl ?_
  refine sr_if_ne (pc := 179) (off := 7) (tg := 186) (by decide +kernel) (by decide) (fun _ => ?_) (fun _ => ?_)
  · refine sr_iconst (pc := 186) (n := 0) (v := 0) (by decide +kernel) rfl ?_
    exact sr_wk (sr_mono (mc := 0) (ms := 0) (by omega) (by omega) (g11_goes_187 l a0 a1 x3 x4 x5 x6 0 (t.1 11 0 14) t)) ⟨rfl, ⟨rfl, ⟨rfl, ⟨rfl, ⟨rfl, ⟨rfl, ⟨rfl, trivial⟩⟩⟩⟩⟩⟩⟩
  · refine sr_iconst (pc := 182) (n := 1) (v := 1) (by decide +kernel) rfl ?_
    refine sr_goto (pc := 183) (off := 4) (tg := 187) (by decide +kernel) (by decide) ?_
    exact sr_wk (sr_mono (mc := 0) (ms := 0) (by omega) (by omega) (g11_goes_187 l a0 a1 x3 x4 x5 x6 1 (t.1 11 0 14) t)) ⟨rfl, ⟨rfl, ⟨rfl, ⟨rfl, ⟨rfl, ⟨rfl, ⟨rfl, trivial⟩⟩⟩⟩⟩⟩⟩
def f11_goes_156 (a0 : Int32) (a1 : Int32)  : Int32 → Int32 → Int32 → Int32 → Int32 → sr_t → sr_Rs := fun x3 x4 x5 x6 x7 t => (sr_bV (F11_hopsTo x7 t) (fun t1 => (if x3 = 2 then (sr_bV (F11_starts a0 a1 t1) (fun t2 => f11_goes_173 a0 a1 x3 x4 x5 x6 t2)) else f11_goes_173 a0 a1 x3 x4 x5 x6 t1)))
theorem g11_goes_156 (l : Launch) (a0 : Int32) (a1 : Int32)    : ∀ (x3 : Int32) (x4 : Int32) (x5 : Int32) (x6 : Int32) (x7 : Int32), ∀ (t : sr_t), sr_g l sr_m11_goes 156 [some (sr_r 11 0), some (sr_i a0), some (sr_i a1), some (sr_i x3), some (sr_i x4), some (sr_i x5), some (sr_i x6), some (sr_i x7), none] [] t (f11_goes_156 a0 a1  x3 x4 x5 x6 x7 t) 0 0 := by
  intro x3 x4 x5 x6 x7  t
  unfold f11_goes_156
  refine sr_aloadn (pc := 156) (n := 0) (by decide +kernel) rfl ?_
  refine sr_iload (pc := 157) (i := 7) (by decide +kernel) rfl ?_
  refine sr_cV (pc := 159) (As := [sr_i x7]) (mc1 := 0) (ms1 := 0) (mc2 := 0) (ms2 := 0) fm_11_196 fl_11_196 (by decide +kernel) (sr_in11 _ (by omega)) (rm_11_goes_11_hopsTo) rfl rfl rfl (C11_hopsTo l x7 t) ?_
  refine sr_kV (fun t1 => ?_)
  refine sr_iloadn (pc := 162) (n := 3) (by decide +kernel) rfl ?_
  refine sr_iconst (pc := 163) (n := 2) (v := 2) (by decide +kernel) rfl ?_
  refine sr_icmp_ne (pc := 164) (off := 9) (tg := 173) (by decide +kernel) (by decide) (fun _ => ?_) (fun _ => ?_)
  · exact sr_wk (sr_mono (mc := 0) (ms := 0) (by omega) (by omega) (g11_goes_173 l a0 a1 x3 x4 x5 x6 t1)) ⟨rfl, ⟨rfl, ⟨rfl, ⟨rfl, ⟨rfl, ⟨rfl, ⟨rfl, trivial⟩⟩⟩⟩⟩⟩⟩
  · refine sr_aloadn (pc := 167) (n := 0) (by decide +kernel) rfl ?_
    refine sr_iloadn (pc := 168) (n := 1) (by decide +kernel) rfl ?_
    refine sr_iloadn (pc := 169) (n := 2) (by decide +kernel) rfl ?_
    refine sr_cV (pc := 170) (As := [sr_i a0, sr_i a1]) (mc1 := 0) (ms1 := 0) (mc2 := 0) (ms2 := 0) fm_11_199 fl_11_199 (by decide +kernel) (sr_in11 _ (by omega)) (rm_11_goes_11_starts) rfl rfl rfl (C11_starts l a0 a1 t1) ?_
    refine sr_kV (fun t2 => ?_)
    exact sr_wk (sr_mono (mc := 0) (ms := 0) (by omega) (by omega) (g11_goes_173 l a0 a1 x3 x4 x5 x6 t2)) ⟨rfl, ⟨rfl, ⟨rfl, ⟨rfl, ⟨rfl, ⟨rfl, ⟨rfl, trivial⟩⟩⟩⟩⟩⟩⟩
def f11_goes_154 (a0 : Int32) (a1 : Int32)  : Int32 → Int32 → Int32 → Int32 → Int32 → sr_t → sr_Rs := fun x3 x4 x5 x6 xs0 t => f11_goes_156 a0 a1 x3 x4 x5 x6 xs0 t
theorem g11_goes_154 (l : Launch) (a0 : Int32) (a1 : Int32)    : ∀ (x3 : Int32) (x4 : Int32) (x5 : Int32) (x6 : Int32) (xs0 : Int32), ∀ (t : sr_t), sr_g l sr_m11_goes 154 [some (sr_r 11 0), some (sr_i a0), some (sr_i a1), some (sr_i x3), some (sr_i x4), some (sr_i x5), some (sr_i x6), none, none] [sr_i xs0] t (f11_goes_154 a0 a1  x3 x4 x5 x6 xs0 t) 0 0 := by
  intro x3 x4 x5 x6 xs0  t
  unfold f11_goes_154
  refine sr_istore (pc := 154) (i := 7) (by decide +kernel) (by decide) rfl rfl ?_
  exact sr_wk (sr_mono (mc := 0) (ms := 0) (by omega) (by omega) (g11_goes_156 l a0 a1 x3 x4 x5 x6 xs0 t)) ⟨rfl, ⟨rfl, ⟨rfl, ⟨rfl, ⟨rfl, ⟨rfl, ⟨rfl, ⟨rfl, trivial⟩⟩⟩⟩⟩⟩⟩⟩
def f11_goes_140 (a0 : Int32) (a1 : Int32)  : Int32 → Int32 → Int32 → Int32 → Int32 → Int32 → sr_t → sr_Rs := fun x4 x5 x6 x7 x8 xs0 t => (if x8 = ((-1)) then f11_goes_154 a0 a1 xs0 x4 x5 x6 x7 t else f11_goes_154 a0 a1 xs0 x4 x5 x6 x8 t)
theorem g11_goes_140 (l : Launch) (a0 : Int32) (a1 : Int32)    : ∀ (x4 : Int32) (x5 : Int32) (x6 : Int32) (x7 : Int32) (x8 : Int32) (xs0 : Int32), ∀ (t : sr_t), sr_g l sr_m11_goes 140 [some (sr_r 11 0), some (sr_i a0), some (sr_i a1), none, some (sr_i x4), some (sr_i x5), some (sr_i x6), some (sr_i x7), some (sr_i x8)] [sr_i xs0] t (f11_goes_140 a0 a1  x4 x5 x6 x7 x8 xs0 t) 0 0 := by
  intro x4 x5 x6 x7 x8 xs0  t
  unfold f11_goes_140
  refine sr_istoren (pc := 140) (n := 3) (by decide +kernel) (by decide) rfl rfl ?_
  refine sr_iload (pc := 141) (i := 8) (by decide +kernel) rfl ?_
  refine sr_iconst (pc := 143) (n := (-1)) (v := (-1)) (by decide +kernel) rfl ?_
  refine sr_icmp_ne (pc := 144) (off := 8) (tg := 152) (by decide +kernel) (by decide) (fun _ => ?_) (fun _ => ?_)
  · refine sr_iload (pc := 152) (i := 8) (by decide +kernel) rfl ?_
    exact sr_wk (sr_mono (mc := 0) (ms := 0) (by omega) (by omega) (g11_goes_154 l a0 a1 xs0 x4 x5 x6 x8 t)) ⟨rfl, ⟨rfl, ⟨rfl, ⟨rfl, ⟨rfl, ⟨rfl, ⟨rfl, trivial⟩⟩⟩⟩⟩⟩⟩
  · refine sr_iload (pc := 147) (i := 7) (by decide +kernel) rfl ?_
    refine sr_goto (pc := 149) (off := 5) (tg := 154) (by decide +kernel) (by decide) ?_
    exact sr_wk (sr_mono (mc := 0) (ms := 0) (by omega) (by omega) (g11_goes_154 l a0 a1 xs0 x4 x5 x6 x7 t)) ⟨rfl, ⟨rfl, ⟨rfl, ⟨rfl, ⟨rfl, ⟨rfl, ⟨rfl, trivial⟩⟩⟩⟩⟩⟩⟩
def F11_goes (a0 : Int32) (a1 : Int32) (t : sr_t) : sr_Rs := (sr_bI (F11_nextOf (t.1 11 0 10) t) (fun v1 t1 => (sr_bI (F11_tableOf (t1.1 11 0 10) 0 t1) (fun v2 t2 => (if v2 = (t2.1 11 0 7) then (sr_bI (F11_isInArc (t2.1 11 0 10) (t2.1 11 0 11) t2) (fun v3 t3 => (if v3 = 0 then f11_goes_156 a0 a1 1 (t.1 11 0 10) (t.1 11 0 11) (t.1 11 0 12) v1 t3 else (if (t3.1 11 0 12) ≤ 0 then f11_goes_156 a0 a1 1 (t.1 11 0 10) (t.1 11 0 11) (t.1 11 0 12) v1 t3 else (sr_bI (F11_letters t3) (fun v4 t4 => (sr_bI (F11_letterOf a0 (v4 - (t4.1 11 0 12)) t4) (fun v5 t5 => (if 4096 = 0 then none else (sr_lt (sr_u t5 11 0 11 ((((t3.1 11 0 11) * (t3.1 11 0 7)) + v5) - (((t3.1 11 0 11) * (t3.1 11 0 7)) + v5) / 4096 * 4096)) (fun t6 => (sr_lt (sr_u t6 11 0 12 ((t6.1 11 0 12) - 1)) (fun t7 => (sr_bI (F11_pointerTo (t7.1 11 0 10) (t7.1 11 0 11) t7) (fun v8 t8 => (if v8 = ((-1)) then f11_goes_140 a0 a1 (t.1 11 0 10) (t.1 11 0 11) (t.1 11 0 12) v1 v8 2 t8 else f11_goes_140 a0 a1 (t.1 11 0 10) (t.1 11 0 11) (t.1 11 0 12) v1 v8 0 t8)))))))))))))))) else f11_goes_156 a0 a1 2 (t.1 11 0 10) (t.1 11 0 11) (t.1 11 0 12) v1 t2)))))
theorem C11_goes (l : Launch) (a0 : Int32) (a1 : Int32)  (t : sr_t) : sr_ct' l sr_m11_goes [sr_r 11 0, sr_i a0, sr_i a1] t (F11_goes a0 a1 t) 0 0 := by
  refine sr_T_of (L0 := [some (sr_r 11 0), some (sr_i a0), some (sr_i a1), none, none, none, none, none, none]) rfl (by decide +kernel) (fun _ => rfl) (fun _ => Nat.le_of_ble_eq_true rfl) ?_
  unfold F11_goes
  refine sr_iconst (pc := 0) (n := 1) (v := 1) (by decide +kernel) rfl ?_
  refine sr_istoren (pc := 1) (n := 3) (by decide +kernel) (by decide) rfl rfl ?_
  refine sr_aloadn (pc := 2) (n := 0) (by decide +kernel) rfl ?_
  refine sr_gI (pc := 3) fg_11_174 (by decide +kernel) (sr_in11 _ (by omega)) (fun _ => rfl) ?_
  refine sr_istore (pc := 6) (i := 4) (by decide +kernel) (by decide) rfl rfl ?_
  refine sr_aloadn (pc := 8) (n := 0) (by decide +kernel) rfl ?_
  refine sr_gI (pc := 9) fg_11_177 (by decide +kernel) (sr_in11 _ (by omega)) (fun _ => rfl) ?_
  refine sr_istore (pc := 12) (i := 5) (by decide +kernel) (by decide) rfl rfl ?_
  refine sr_aloadn (pc := 14) (n := 0) (by decide +kernel) rfl ?_
  refine sr_gI (pc := 15) fg_11_180 (by decide +kernel) (sr_in11 _ (by omega)) (fun _ => rfl) ?_
  refine sr_istore (pc := 18) (i := 6) (by decide +kernel) (by decide) rfl rfl ?_
  refine sr_aloadn (pc := 20) (n := 0) (by decide +kernel) rfl ?_
  refine sr_aloadn (pc := 21) (n := 0) (by decide +kernel) rfl ?_
  refine sr_gI (pc := 22) fg_11_174 (by decide +kernel) (sr_in11 _ (by omega)) (fun _ => rfl) ?_
  refine sr_cV (pc := 25) (As := [sr_i (t.1 11 0 10)]) (mc1 := 0) (ms1 := 0) (mc2 := 0) (ms2 := 0) fm_11_168 fl_11_168 (by decide +kernel) (sr_in11 _ (by omega)) (rm_11_goes_11_nextOf) rfl rfl rfl (C11_nextOf l (t.1 11 0 10) t) ?_
  refine sr_kI (fun v1 t1 => ?_)
  refine sr_istore (pc := 28) (i := 7) (by decide +kernel) (by decide) rfl rfl ?_
  refine sr_aloadn (pc := 30) (n := 0) (by decide +kernel) rfl ?_
  refine sr_aloadn (pc := 31) (n := 0) (by decide +kernel) rfl ?_
  refine sr_gI (pc := 32) fg_11_174 (by decide +kernel) (sr_in11 _ (by omega)) (fun _ => rfl) ?_
  refine sr_iconst (pc := 35) (n := 0) (v := 0) (by decide +kernel) rfl ?_
  refine sr_cV (pc := 36) (As := [sr_i (t1.1 11 0 10), sr_i 0]) (mc1 := 0) (ms1 := 0) (mc2 := 0) (ms2 := 0) fm_11_123 fl_11_123 (by decide +kernel) (sr_in11 _ (by omega)) (rm_11_goes_11_tableOf) rfl rfl rfl (C11_tableOf l (t1.1 11 0 10) 0 t1) ?_
  refine sr_kI (fun v2 t2 => ?_)
  refine sr_aloadn (pc := 39) (n := 0) (by decide +kernel) rfl ?_
  refine sr_gI (pc := 40) fg_11_25 (by decide +kernel) (sr_in11 _ (by omega)) (fun _ => rfl) ?_
  refine sr_icmp_eq (pc := 43) (off := 8) (tg := 51) (by decide +kernel) (by decide) (fun _ => ?_) (fun _ => ?_)
  · refine sr_aloadn (pc := 51) (n := 0) (by decide +kernel) rfl ?_
    refine sr_aloadn (pc := 52) (n := 0) (by decide +kernel) rfl ?_
    refine sr_gI (pc := 53) fg_11_174 (by decide +kernel) (sr_in11 _ (by omega)) (fun _ => rfl) ?_
    refine sr_aloadn (pc := 56) (n := 0) (by decide +kernel) rfl ?_
    refine sr_gI (pc := 57) fg_11_177 (by decide +kernel) (sr_in11 _ (by omega)) (fun _ => rfl) ?_
    refine sr_cV (pc := 60) (As := [sr_i (t2.1 11 0 10), sr_i (t2.1 11 0 11)]) (mc1 := 0) (ms1 := 0) (mc2 := 0) (ms2 := 0) fm_11_189 fl_11_189 (by decide +kernel) (sr_in11 _ (by omega)) (rm_11_goes_11_isInArc) rfl rfl rfl (C11_isInArc l (t2.1 11 0 10) (t2.1 11 0 11) t2) ?_
    refine sr_kI (fun v3 t3 => ?_)
    refine sr_if_eq (pc := 63) (off := 93) (tg := 156) (by decide +kernel) (by decide) (fun _ => ?_) (fun _ => ?_)
    · exact sr_wk (sr_mono (mc := 0) (ms := 0) (by omega) (by omega) (g11_goes_156 l a0 a1 1 (t.1 11 0 10) (t.1 11 0 11) (t.1 11 0 12) v1 t3)) ⟨rfl, ⟨rfl, ⟨rfl, ⟨rfl, ⟨rfl, ⟨rfl, ⟨rfl, ⟨rfl, trivial⟩⟩⟩⟩⟩⟩⟩⟩
    · refine sr_aloadn (pc := 66) (n := 0) (by decide +kernel) rfl ?_
      refine sr_gI (pc := 67) fg_11_180 (by decide +kernel) (sr_in11 _ (by omega)) (fun _ => rfl) ?_
      refine sr_if_le (pc := 70) (off := 86) (tg := 156) (by decide +kernel) (by decide) (fun _ => ?_) (fun _ => ?_)
      · exact sr_wk (sr_mono (mc := 0) (ms := 0) (by omega) (by omega) (g11_goes_156 l a0 a1 1 (t.1 11 0 10) (t.1 11 0 11) (t.1 11 0 12) v1 t3)) ⟨rfl, ⟨rfl, ⟨rfl, ⟨rfl, ⟨rfl, ⟨rfl, ⟨rfl, ⟨rfl, trivial⟩⟩⟩⟩⟩⟩⟩⟩
      · refine sr_aloadn (pc := 73) (n := 0) (by decide +kernel) rfl ?_
        refine sr_aloadn (pc := 74) (n := 0) (by decide +kernel) rfl ?_
        refine sr_gI (pc := 75) fg_11_177 (by decide +kernel) (sr_in11 _ (by omega)) (fun _ => rfl) ?_
        refine sr_aloadn (pc := 78) (n := 0) (by decide +kernel) rfl ?_
        refine sr_gI (pc := 79) fg_11_25 (by decide +kernel) (sr_in11 _ (by omega)) (fun _ => rfl) ?_
        refine sr_imul (pc := 82) (by decide +kernel) ?_
        refine sr_aloadn (pc := 83) (n := 0) (by decide +kernel) rfl ?_
        refine sr_iloadn (pc := 84) (n := 1) (by decide +kernel) rfl ?_
        refine sr_aloadn (pc := 85) (n := 0) (by decide +kernel) rfl ?_
        refine sr_cV (pc := 86) (As := []) (mc1 := 0) (ms1 := 0) (mc2 := 0) (ms2 := 0) fm_11_153 fl_11_153 (by decide +kernel) (sr_in11 _ (by omega)) (rm_11_goes_11_letters) rfl rfl rfl (C11_letters l t3) ?_
        refine sr_kI (fun v4 t4 => ?_)
        refine sr_aloadn (pc := 89) (n := 0) (by decide +kernel) rfl ?_
        refine sr_gI (pc := 90) fg_11_180 (by decide +kernel) (sr_in11 _ (by omega)) (fun _ => rfl) ?_
        refine sr_isub (pc := 93) (by decide +kernel) ?_
        refine sr_cV (pc := 94) (As := [sr_i a0, sr_i (v4 - (t4.1 11 0 12))]) (mc1 := 0) (ms1 := 0) (mc2 := 0) (ms2 := 0) fm_11_162 fl_11_162 (by decide +kernel) (sr_in11 _ (by omega)) (rm_11_goes_11_letterOf) rfl rfl rfl (C11_letterOf l a0 (v4 - (t4.1 11 0 12)) t4) ?_
        refine sr_kI (fun v5 t5 => ?_)
        refine sr_iadd (pc := 97) (by decide +kernel) ?_
        refine sr_sipush (pc := 98) (n := 4096) (v := 4096) (by decide +kernel) (by decide) ?_
        refine sr_irem (pc := 101) (by decide +kernel) (fun _ => ?_)
        refine sr_pI (pc := 102) fg_11_177 ft_11_11 (by decide +kernel) (sr_in11 _ (by omega)) (fun _ => rfl) (fun t6 => ?_)
        refine sr_aloadn (pc := 105) (n := 0) (by decide +kernel) rfl ?_
        refine sr_dup (pc := 106) (by decide +kernel) rfl ?_
        refine sr_gI (pc := 107) fg_11_180 (by decide +kernel) (sr_in11 _ (by omega)) (fun _ => rfl) ?_
        refine sr_iconst (pc := 110) (n := 1) (v := 1) (by decide +kernel) rfl ?_
        refine sr_isub (pc := 111) (by decide +kernel) ?_
        refine sr_pI (pc := 112) fg_11_180 ft_11_12 (by decide +kernel) (sr_in11 _ (by omega)) (fun _ => rfl) (fun t7 => ?_)
        refine sr_aloadn (pc := 115) (n := 0) (by decide +kernel) rfl ?_
        refine sr_aloadn (pc := 116) (n := 0) (by decide +kernel) rfl ?_
        refine sr_gI (pc := 117) fg_11_174 (by decide +kernel) (sr_in11 _ (by omega)) (fun _ => rfl) ?_
        refine sr_aloadn (pc := 120) (n := 0) (by decide +kernel) rfl ?_
        refine sr_gI (pc := 121) fg_11_177 (by decide +kernel) (sr_in11 _ (by omega)) (fun _ => rfl) ?_
        refine sr_cV (pc := 124) (As := [sr_i (t7.1 11 0 10), sr_i (t7.1 11 0 11)]) (mc1 := 0) (ms1 := 0) (mc2 := 0) (ms2 := 0) fm_11_193 fl_11_193 (by decide +kernel) (sr_in11 _ (by omega)) (rm_11_goes_11_pointerTo) rfl rfl rfl (C11_pointerTo l (t7.1 11 0 10) (t7.1 11 0 11) t7) ?_
        refine sr_kI (fun v8 t8 => ?_)
        refine sr_istore (pc := 127) (i := 8) (by decide +kernel) (by decide) rfl rfl ?_
        refine sr_iload (pc := 129) (i := 8) (by decide +kernel) rfl ?_
        refine sr_iconst (pc := 131) (n := (-1)) (v := (-1)) (by decide +kernel) rfl ?_
        refine sr_icmp_ne (pc := 132) (off := 7) (tg := 139) (by decide +kernel) (by decide) (fun _ => ?_) (fun _ => ?_)
        · refine sr_iconst (pc := 139) (n := 0) (v := 0) (by decide +kernel) rfl ?_
          exact sr_wk (sr_mono (mc := 0) (ms := 0) (by omega) (by omega) (g11_goes_140 l a0 a1 (t.1 11 0 10) (t.1 11 0 11) (t.1 11 0 12) v1 v8 0 t8)) ⟨rfl, ⟨rfl, ⟨rfl, ⟨rfl, ⟨rfl, ⟨rfl, ⟨rfl, ⟨rfl, trivial⟩⟩⟩⟩⟩⟩⟩⟩
        · refine sr_iconst (pc := 135) (n := 2) (v := 2) (by decide +kernel) rfl ?_
          refine sr_goto (pc := 136) (off := 4) (tg := 140) (by decide +kernel) (by decide) ?_
          exact sr_wk (sr_mono (mc := 0) (ms := 0) (by omega) (by omega) (g11_goes_140 l a0 a1 (t.1 11 0 10) (t.1 11 0 11) (t.1 11 0 12) v1 v8 2 t8)) ⟨rfl, ⟨rfl, ⟨rfl, ⟨rfl, ⟨rfl, ⟨rfl, ⟨rfl, ⟨rfl, trivial⟩⟩⟩⟩⟩⟩⟩⟩
  · refine sr_iconst (pc := 46) (n := 2) (v := 2) (by decide +kernel) rfl ?_
    refine sr_istoren (pc := 47) (n := 3) (by decide +kernel) (by decide) rfl rfl ?_
    refine sr_goto (pc := 48) (off := 108) (tg := 156) (by decide +kernel) (by decide) ?_
    exact sr_wk (sr_mono (mc := 0) (ms := 0) (by omega) (by omega) (g11_goes_156 l a0 a1 2 (t.1 11 0 10) (t.1 11 0 11) (t.1 11 0 12) v1 t2)) ⟨rfl, ⟨rfl, ⟨rfl, ⟨rfl, ⟨rfl, ⟨rfl, ⟨rfl, ⟨rfl, trivial⟩⟩⟩⟩⟩⟩⟩⟩
def f11_looks_38 (a0 : Int32) (a1 : Int32) (a2 : Int32) (k59 : sr_t → sr_Rs) : Nat → Int32 → sr_t → sr_Rs
  | 0 => fun _ _ => none
  | n + 1 => fun x4 t => (if 24 ≤ x4 then k59 t else (if x4 < 0 ∨ 24 ≤ x4.toNatClampNeg then none else sr_lt (sr_u t 35 0 x4.toNatClampNeg 0) (fun t1 => (f11_looks_38 a0 a1 a2 k59 n) (x4 + 1) t1)))
theorem g11_looks_38 (l : Launch) (a0 : Int32) (a1 : Int32) (a2 : Int32)  (k59 : sr_t → sr_Rs) (hk59 : ∀ (t : sr_t), sr_g l sr_m11_looks 59 [some (sr_r 11 0), some (sr_i a0), some (sr_i a1), some (sr_i a2), none] [] t (k59 t) 0 0) : ∀ (n : Nat) (x4 : Int32), ∀ (t : sr_t), sr_g l sr_m11_looks 38 [some (sr_r 11 0), some (sr_i a0), some (sr_i a1), some (sr_i a2), some (sr_i x4)] [] t (f11_looks_38 a0 a1 a2 k59 n x4 t) 0 0 := by
  intro n
  induction n with
  | zero => intros; exact sr_Gn
  | succ n ih =>
    intro x4  t
    unfold f11_looks_38
    refine sr_iload (pc := 38) (i := 4) (by decide +kernel) rfl ?_
    refine sr_bipush (pc := 40) (n := 24) (v := 24) (by decide +kernel) (by decide) ?_
    refine sr_icmp_ge (pc := 42) (off := 17) (tg := 59) (by decide +kernel) (by decide) (fun _ => ?_) (fun _ => ?_)
    · exact sr_wk (sr_mono (mc := 0) (ms := 0) (by omega) (by omega) (hk59 t)) ⟨rfl, ⟨rfl, ⟨rfl, ⟨rfl, trivial⟩⟩⟩⟩
    · refine sr_aloadn (pc := 45) (n := 0) (by decide +kernel) rfl ?_
      refine sr_gC (pc := 46) (i2 := 0) fg_11_53 (by decide +kernel) (sr_in11 _ (by omega)) (fun _ => rfl) ?_
      refine sr_iload (pc := 49) (i := 4) (by decide +kernel) rfl ?_
      refine sr_iconst (pc := 51) (n := 0) (v := 0) (by decide +kernel) rfl ?_
      refine sr_sI (pc := 52) (n := 24) rfl (by decide +kernel) (sr_in35 _ (by omega)) (fun _ _ => rfl) (fun t1 => ?_)
      refine sr_iinc (pc := 53) (i := 4) (n := 1) (w := x4 + 1) (by decide +kernel) rfl rfl (by decide) rfl rfl ?_
      refine sr_goto (pc := 56) (off := (-18)) (tg := 38) (by decide +kernel) (by decide) ?_
      exact sr_wk (sr_mono (mc := 0) (ms := 0) (by omega) (by omega) (ih (x4 + 1) t1)) ⟨rfl, ⟨rfl, ⟨rfl, ⟨rfl, ⟨rfl, trivial⟩⟩⟩⟩⟩
def f11_looks_78 (a0 : Int32) (a1 : Int32) (a2 : Int32) (k94 : sr_t → sr_Rs) (k110 : sr_t → sr_Rs) (k138 : Int32 → sr_t → sr_Rs) (k151 : sr_t → sr_Rs) : Nat → sr_t → sr_Rs
  | 0 => fun _ => none
  | n + 1 => fun  t => (sr_bI (F11_nextOf (t.1 11 0 10) t) (fun v1 t1 => (if v1 = ((-1)) then k94 t1 else (if t1.1 11 0 10 < 0 ∨ 24 ≤ (t1.1 11 0 10).toNatClampNeg then none else (if a1 = (t1.1 24 0 (t1.1 11 0 10).toNatClampNeg) then k110 t1 else (sr_bI (F11_isInArc (t1.1 11 0 10) a1 t1) (fun v2 t2 => (if v2 = 0 then (if v1 < 0 ∨ 24 ≤ v1.toNatClampNeg then none else (if a1 = (t2.1 24 0 v1.toNatClampNeg) then k138 v1 t2 else (if (t2.1 11 0 17) = 200 then k151 t2 else (sr_bV (F11_goes a1 a2 t2) (fun t3 => (f11_looks_78 a0 a1 a2 k94 k110 k138 k151 n) t3))))) else k138 v1 t2))))))))
theorem g11_looks_78 (l : Launch) (a0 : Int32) (a1 : Int32) (a2 : Int32)  (k94 : sr_t → sr_Rs) (k110 : sr_t → sr_Rs) (k138 : Int32 → sr_t → sr_Rs) (k151 : sr_t → sr_Rs) (hk94 : ∀ (t : sr_t), sr_g l sr_m11_looks 94 [some (sr_r 11 0), some (sr_i a0), some (sr_i a1), some (sr_i a2), none] [] t (k94 t) 0 0) (hk110 : ∀ (t : sr_t), sr_g l sr_m11_looks 110 [some (sr_r 11 0), some (sr_i a0), some (sr_i a1), some (sr_i a2), none] [] t (k110 t) 0 0) (hk138 : ∀ (x4 : Int32), ∀ (t : sr_t), sr_g l sr_m11_looks 138 [some (sr_r 11 0), some (sr_i a0), some (sr_i a1), some (sr_i a2), some (sr_i x4)] [] t (k138 x4 t) 0 0) (hk151 : ∀ (t : sr_t), sr_g l sr_m11_looks 151 [some (sr_r 11 0), some (sr_i a0), some (sr_i a1), some (sr_i a2), none] [] t (k151 t) 0 0) : ∀ (n : Nat), ∀ (t : sr_t), sr_g l sr_m11_looks 78 [some (sr_r 11 0), some (sr_i a0), some (sr_i a1), some (sr_i a2), none] [] t (f11_looks_78 a0 a1 a2 k94 k110 k138 k151 n  t) 0 0 := by
  intro n
  induction n with
  | zero => intros; exact sr_Gn
  | succ n ih =>
    intro t
    unfold f11_looks_78
    refine sr_aloadn (pc := 78) (n := 0) (by decide +kernel) rfl ?_
    refine sr_aloadn (pc := 79) (n := 0) (by decide +kernel) rfl ?_
    refine sr_gI (pc := 80) fg_11_174 (by decide +kernel) (sr_in11 _ (by omega)) (fun _ => rfl) ?_
    refine sr_cV (pc := 83) (As := [sr_i (t.1 11 0 10)]) (mc1 := 0) (ms1 := 0) (mc2 := 0) (ms2 := 0) fm_11_168 fl_11_168 (by decide +kernel) (sr_in11 _ (by omega)) (rm_11_looks_11_nextOf) rfl rfl rfl (C11_nextOf l (t.1 11 0 10) t) ?_
    refine sr_kI (fun v1 t1 => ?_)
    refine sr_istore (pc := 86) (i := 4) (by decide +kernel) (by decide) rfl rfl ?_
    refine sr_iload (pc := 88) (i := 4) (by decide +kernel) rfl ?_
    refine sr_iconst (pc := 90) (n := (-1)) (v := (-1)) (by decide +kernel) rfl ?_
    refine sr_icmp_ne (pc := 91) (off := 6) (tg := 97) (by decide +kernel) (by decide) (fun _ => ?_) (fun _ => ?_)
    · refine sr_iloadn (pc := 97) (n := 2) (by decide +kernel) rfl ?_
      refine sr_aloadn (pc := 98) (n := 0) (by decide +kernel) rfl ?_
      refine sr_gC (pc := 99) (i2 := 0) fg_11_7 (by decide +kernel) (sr_in11 _ (by omega)) (fun _ => rfl) ?_
      refine sr_aloadn (pc := 102) (n := 0) (by decide +kernel) rfl ?_
      refine sr_gI (pc := 103) fg_11_174 (by decide +kernel) (sr_in11 _ (by omega)) (fun _ => rfl) ?_
      refine sr_aI (pc := 106) (n := 24) rfl (by decide +kernel) (sr_in24 _ (by omega)) (fun _ _ => rfl) ?_
      refine sr_icmp_ne (pc := 107) (off := 8) (tg := 115) (by decide +kernel) (by decide) (fun _ => ?_) (fun _ => ?_)
      · refine sr_aloadn (pc := 115) (n := 0) (by decide +kernel) rfl ?_
        refine sr_aloadn (pc := 116) (n := 0) (by decide +kernel) rfl ?_
        refine sr_gI (pc := 117) fg_11_174 (by decide +kernel) (sr_in11 _ (by omega)) (fun _ => rfl) ?_
        refine sr_iloadn (pc := 120) (n := 2) (by decide +kernel) rfl ?_
        refine sr_cV (pc := 121) (As := [sr_i (t1.1 11 0 10), sr_i a1]) (mc1 := 0) (ms1 := 0) (mc2 := 0) (ms2 := 0) fm_11_189 fl_11_189 (by decide +kernel) (sr_in11 _ (by omega)) (rm_11_looks_11_isInArc) rfl rfl rfl (C11_isInArc l (t1.1 11 0 10) a1 t1) ?_
        refine sr_kI (fun v2 t2 => ?_)
        refine sr_if_ne (pc := 124) (off := 14) (tg := 138) (by decide +kernel) (by decide) (fun _ => ?_) (fun _ => ?_)
        · exact sr_wk (sr_mono (mc := 0) (ms := 0) (by omega) (by omega) (hk138 v1 t2)) ⟨rfl, ⟨rfl, ⟨rfl, ⟨rfl, ⟨rfl, trivial⟩⟩⟩⟩⟩
        · refine sr_iloadn (pc := 127) (n := 2) (by decide +kernel) rfl ?_
          refine sr_aloadn (pc := 128) (n := 0) (by decide +kernel) rfl ?_
          refine sr_gC (pc := 129) (i2 := 0) fg_11_7 (by decide +kernel) (sr_in11 _ (by omega)) (fun _ => rfl) ?_
          refine sr_iload (pc := 132) (i := 4) (by decide +kernel) rfl ?_
          refine sr_aI (pc := 134) (n := 24) rfl (by decide +kernel) (sr_in24 _ (by omega)) (fun _ _ => rfl) ?_
          refine sr_icmp_ne (pc := 135) (off := 6) (tg := 141) (by decide +kernel) (by decide) (fun _ => ?_) (fun _ => ?_)
          · refine sr_aloadn (pc := 141) (n := 0) (by decide +kernel) rfl ?_
            refine sr_gI (pc := 142) fg_11_212 (by decide +kernel) (sr_in11 _ (by omega)) (fun _ => rfl) ?_
            refine sr_sipush (pc := 145) (n := 200) (v := 200) (by decide +kernel) (by decide) ?_
            refine sr_icmp_ne (pc := 148) (off := 6) (tg := 154) (by decide +kernel) (by decide) (fun _ => ?_) (fun _ => ?_)
            · refine sr_aloadn (pc := 154) (n := 0) (by decide +kernel) rfl ?_
              refine sr_iloadn (pc := 155) (n := 2) (by decide +kernel) rfl ?_
              refine sr_iloadn (pc := 156) (n := 3) (by decide +kernel) rfl ?_
              refine sr_cV (pc := 157) (As := [sr_i a1, sr_i a2]) (mc1 := 0) (ms1 := 0) (mc2 := 0) (ms2 := 0) fm_11_218 fl_11_218 (by decide +kernel) (sr_in11 _ (by omega)) (rm_11_looks_11_goes) rfl rfl rfl (C11_goes l a1 a2 t2) ?_
              refine sr_kV (fun t3 => ?_)
              refine sr_goto (pc := 160) (off := (-82)) (tg := 78) (by decide +kernel) (by decide) ?_
              exact sr_wk (sr_mono (mc := 0) (ms := 0) (by omega) (by omega) (ih t3)) ⟨rfl, ⟨rfl, ⟨rfl, ⟨rfl, trivial⟩⟩⟩⟩
            · exact sr_wk (sr_mono (mc := 0) (ms := 0) (by omega) (by omega) (hk151 t2)) ⟨rfl, ⟨rfl, ⟨rfl, ⟨rfl, trivial⟩⟩⟩⟩
          · exact sr_wk (sr_mono (mc := 0) (ms := 0) (by omega) (by omega) (hk138 v1 t2)) ⟨rfl, ⟨rfl, ⟨rfl, ⟨rfl, ⟨rfl, trivial⟩⟩⟩⟩⟩
      · exact sr_wk (sr_mono (mc := 0) (ms := 0) (by omega) (by omega) (hk110 t1)) ⟨rfl, ⟨rfl, ⟨rfl, ⟨rfl, trivial⟩⟩⟩⟩
    · exact sr_wk (sr_mono (mc := 0) (ms := 0) (by omega) (by omega) (hk94 t1)) ⟨rfl, ⟨rfl, ⟨rfl, ⟨rfl, trivial⟩⟩⟩⟩
def f11_looks_94 (a0 : Int32) (a1 : Int32) (a2 : Int32)  : sr_t → sr_Rs := fun  t => (some (.inl (some (sr_i ((-2)))), t))
theorem g11_looks_94 (l : Launch) (a0 : Int32) (a1 : Int32) (a2 : Int32)    : ∀ (t : sr_t), sr_g l sr_m11_looks 94 [some (sr_r 11 0), some (sr_i a0), some (sr_i a1), some (sr_i a2), none] [] t (f11_looks_94 a0 a1 a2   t) 0 0 := by
  intro t
  unfold f11_looks_94
  refine sr_bipush (pc := 94) (n := (-2)) (v := (-2)) (by decide +kernel) (by decide) ?_
  exact sr_iret (pc := 96) (by decide +kernel) rfl
def f11_looks_110 (a0 : Int32) (a1 : Int32) (a2 : Int32)  : sr_t → sr_Rs := fun  t => (some (.inl (some (sr_i (t.1 11 0 10))), t))
theorem g11_looks_110 (l : Launch) (a0 : Int32) (a1 : Int32) (a2 : Int32)    : ∀ (t : sr_t), sr_g l sr_m11_looks 110 [some (sr_r 11 0), some (sr_i a0), some (sr_i a1), some (sr_i a2), none] [] t (f11_looks_110 a0 a1 a2   t) 0 0 := by
  intro t
  unfold f11_looks_110
  refine sr_aloadn (pc := 110) (n := 0) (by decide +kernel) rfl ?_
  refine sr_gI (pc := 111) fg_11_174 (by decide +kernel) (sr_in11 _ (by omega)) (fun _ => rfl) ?_
  exact sr_iret (pc := 114) (by decide +kernel) rfl
def f11_looks_138 (a0 : Int32) (a1 : Int32) (a2 : Int32)  : Int32 → sr_t → sr_Rs := fun x4 t => (some (.inl (some (sr_i x4)), t))
theorem g11_looks_138 (l : Launch) (a0 : Int32) (a1 : Int32) (a2 : Int32)    : ∀ (x4 : Int32), ∀ (t : sr_t), sr_g l sr_m11_looks 138 [some (sr_r 11 0), some (sr_i a0), some (sr_i a1), some (sr_i a2), some (sr_i x4)] [] t (f11_looks_138 a0 a1 a2  x4 t) 0 0 := by
  intro x4  t
  unfold f11_looks_138
  refine sr_iload (pc := 138) (i := 4) (by decide +kernel) rfl ?_
  exact sr_iret (pc := 140) (by decide +kernel) rfl
def f11_looks_151 (a0 : Int32) (a1 : Int32) (a2 : Int32)  : sr_t → sr_Rs := fun  t => (some (.inl (some (sr_i ((-3)))), t))
theorem g11_looks_151 (l : Launch) (a0 : Int32) (a1 : Int32) (a2 : Int32)    : ∀ (t : sr_t), sr_g l sr_m11_looks 151 [some (sr_r 11 0), some (sr_i a0), some (sr_i a1), some (sr_i a2), none] [] t (f11_looks_151 a0 a1 a2   t) 0 0 := by
  intro t
  unfold f11_looks_151
  refine sr_bipush (pc := 151) (n := (-3)) (v := (-3)) (by decide +kernel) (by decide) ?_
  exact sr_iret (pc := 153) (by decide +kernel) rfl
def f11_looks_59 (a0 : Int32) (a1 : Int32) (a2 : Int32)  : sr_t → sr_Rs := fun  t => (sr_bV (F11_starts a1 a2 t) (fun t1 => (sr_bI (F11_letters t1) (fun v2 t2 => (sr_lt (sr_u t2 11 0 18 (v2 - (t2.1 11 0 12))) (fun t3 => f11_looks_78 a0 a1 a2 (f11_looks_94 a0 a1 a2) (f11_looks_110 a0 a1 a2) (f11_looks_138 a0 a1 a2) (f11_looks_151 a0 a1 a2) sr_fu t3))))))
theorem g11_looks_59 (l : Launch) (a0 : Int32) (a1 : Int32) (a2 : Int32)    : ∀ (t : sr_t), sr_g l sr_m11_looks 59 [some (sr_r 11 0), some (sr_i a0), some (sr_i a1), some (sr_i a2), none] [] t (f11_looks_59 a0 a1 a2   t) 0 0 := by
  intro t
  unfold f11_looks_59
  refine sr_aloadn (pc := 59) (n := 0) (by decide +kernel) rfl ?_
  refine sr_iloadn (pc := 60) (n := 2) (by decide +kernel) rfl ?_
  refine sr_iloadn (pc := 61) (n := 3) (by decide +kernel) rfl ?_
  refine sr_cV (pc := 62) (As := [sr_i a1, sr_i a2]) (mc1 := 0) (ms1 := 0) (mc2 := 0) (ms2 := 0) fm_11_199 fl_11_199 (by decide +kernel) (sr_in11 _ (by omega)) (rm_11_looks_11_starts) rfl rfl rfl (C11_starts l a1 a2 t) ?_
  refine sr_kV (fun t1 => ?_)
  refine sr_aloadn (pc := 65) (n := 0) (by decide +kernel) rfl ?_
  refine sr_aloadn (pc := 66) (n := 0) (by decide +kernel) rfl ?_
  refine sr_cV (pc := 67) (As := []) (mc1 := 0) (ms1 := 0) (mc2 := 0) (ms2 := 0) fm_11_153 fl_11_153 (by decide +kernel) (sr_in11 _ (by omega)) (rm_11_looks_11_letters) rfl rfl rfl (C11_letters l t1) ?_
  refine sr_kI (fun v2 t2 => ?_)
  refine sr_aloadn (pc := 70) (n := 0) (by decide +kernel) rfl ?_
  refine sr_gI (pc := 71) fg_11_180 (by decide +kernel) (sr_in11 _ (by omega)) (fun _ => rfl) ?_
  refine sr_isub (pc := 74) (by decide +kernel) ?_
  refine sr_pI (pc := 75) fg_11_215 ft_11_18 (by decide +kernel) (sr_in11 _ (by omega)) (fun _ => rfl) (fun t3 => ?_)
  exact sr_wk (sr_mono (mc := 0) (ms := 0) (by omega) (by omega) (g11_looks_78 l a0 a1 a2 (f11_looks_94 a0 a1 a2) (f11_looks_110 a0 a1 a2) (f11_looks_138 a0 a1 a2) (f11_looks_151 a0 a1 a2) (g11_looks_94 l a0 a1 a2) (g11_looks_110 l a0 a1 a2) (g11_looks_138 l a0 a1 a2) (g11_looks_151 l a0 a1 a2) sr_fu t3)) ⟨rfl, ⟨rfl, ⟨rfl, ⟨rfl, trivial⟩⟩⟩⟩
def F11_looks (a0 : Int32) (a1 : Int32) (a2 : Int32) (t : sr_t) : sr_Rs := (sr_lt (sr_u t 11 0 10 a0) (fun t1 => (sr_lt (sr_u t1 11 0 13 0) (fun t2 => (sr_lt (sr_u t2 11 0 14 0) (fun t3 => (sr_lt (sr_u t3 11 0 15 0) (fun t4 => (sr_lt (sr_u t4 11 0 16 0) (fun t5 => (sr_lt (sr_u t5 11 0 17 0) (fun t6 => (sr_lt (sr_u t6 11 0 19 0) (fun t7 => f11_looks_38 a0 a1 a2 (f11_looks_59 a0 a1 a2) sr_fu 0 t7))))))))))))))
theorem C11_looks (l : Launch) (a0 : Int32) (a1 : Int32) (a2 : Int32)  (t : sr_t) : sr_ct' l sr_m11_looks [sr_r 11 0, sr_i a0, sr_i a1, sr_i a2] t (F11_looks a0 a1 a2 t) 0 0 := by
  refine sr_T_of (L0 := [some (sr_r 11 0), some (sr_i a0), some (sr_i a1), some (sr_i a2), none]) rfl (by decide +kernel) (fun _ => rfl) (fun _ => Nat.le_of_ble_eq_true rfl) ?_
  unfold F11_looks
  refine sr_aloadn (pc := 0) (n := 0) (by decide +kernel) rfl ?_
  refine sr_iloadn (pc := 1) (n := 1) (by decide +kernel) rfl ?_
  refine sr_pI (pc := 2) fg_11_174 ft_11_10 (by decide +kernel) (sr_in11 _ (by omega)) (fun _ => rfl) (fun t1 => ?_)
  refine sr_aloadn (pc := 5) (n := 0) (by decide +kernel) rfl ?_
  refine sr_iconst (pc := 6) (n := 0) (v := 0) (by decide +kernel) rfl ?_
  refine sr_pI (pc := 7) fg_11_183 ft_11_13 (by decide +kernel) (sr_in11 _ (by omega)) (fun _ => rfl) (fun t2 => ?_)
  refine sr_aloadn (pc := 10) (n := 0) (by decide +kernel) rfl ?_
  refine sr_iconst (pc := 11) (n := 0) (v := 0) (by decide +kernel) rfl ?_
  refine sr_pI (pc := 12) fg_11_203 ft_11_14 (by decide +kernel) (sr_in11 _ (by omega)) (fun _ => rfl) (fun t3 => ?_)
  refine sr_aloadn (pc := 15) (n := 0) (by decide +kernel) rfl ?_
  refine sr_iconst (pc := 16) (n := 0) (v := 0) (by decide +kernel) rfl ?_
  refine sr_pI (pc := 17) fg_11_206 ft_11_15 (by decide +kernel) (sr_in11 _ (by omega)) (fun _ => rfl) (fun t4 => ?_)
  refine sr_aloadn (pc := 20) (n := 0) (by decide +kernel) rfl ?_
  refine sr_iconst (pc := 21) (n := 0) (v := 0) (by decide +kernel) rfl ?_
  refine sr_pI (pc := 22) fg_11_209 ft_11_16 (by decide +kernel) (sr_in11 _ (by omega)) (fun _ => rfl) (fun t5 => ?_)
  refine sr_aloadn (pc := 25) (n := 0) (by decide +kernel) rfl ?_
  refine sr_iconst (pc := 26) (n := 0) (v := 0) (by decide +kernel) rfl ?_
  refine sr_pI (pc := 27) fg_11_212 ft_11_17 (by decide +kernel) (sr_in11 _ (by omega)) (fun _ => rfl) (fun t6 => ?_)
  refine sr_aloadn (pc := 30) (n := 0) (by decide +kernel) rfl ?_
  refine sr_iconst (pc := 31) (n := 0) (v := 0) (by decide +kernel) rfl ?_
  refine sr_pI (pc := 32) fg_11_186 ft_11_19 (by decide +kernel) (sr_in11 _ (by omega)) (fun _ => rfl) (fun t7 => ?_)
  refine sr_iconst (pc := 35) (n := 0) (v := 0) (by decide +kernel) rfl ?_
  refine sr_istore (pc := 36) (i := 4) (by decide +kernel) (by decide) rfl rfl ?_
  exact sr_wk (sr_mono (mc := 0) (ms := 0) (by omega) (by omega) (g11_looks_38 l a0 a1 a2 (f11_looks_59 a0 a1 a2) (g11_looks_59 l a0 a1 a2) sr_fu 0 t7)) ⟨rfl, ⟨rfl, ⟨rfl, ⟨rfl, ⟨rfl, trivial⟩⟩⟩⟩⟩
def f11_isRight_19 (a0 : Int32) (a1 : Int32)  : Int32 → sr_t → sr_Rs := fun xs0 t => (if xs0 = 0 ∨ xs0 = 1 then some (.inl (some (sr_i xs0)), t) else none)
theorem g11_isRight_19 (l : Launch) (a0 : Int32) (a1 : Int32)    : ∀ (xs0 : Int32), ∀ (t : sr_t), sr_g l sr_m11_isRight 19 [some (sr_r 11 0), some (sr_i a0), some (sr_i a1)] [sr_i xs0] t (f11_isRight_19 a0 a1  xs0 t) 0 0 := by
  intro xs0  t
  unfold f11_isRight_19
  exact sr_zr (pc := 19) (by decide +kernel) rfl
def f11_isRight_18 (a0 : Int32) (a1 : Int32)  : sr_t → sr_Rs := fun  t => f11_isRight_19 a0 a1 0 t
theorem g11_isRight_18 (l : Launch) (a0 : Int32) (a1 : Int32)    : ∀ (t : sr_t), sr_g l sr_m11_isRight 18 [some (sr_r 11 0), some (sr_i a0), some (sr_i a1)] [] t (f11_isRight_18 a0 a1   t) 0 0 := by
  intro t
  unfold f11_isRight_18
  refine sr_iconst (pc := 18) (n := 0) (v := 0) (by decide +kernel) rfl ?_
  exact sr_wk (sr_mono (mc := 0) (ms := 0) (by omega) (by omega) (g11_isRight_19 l a0 a1 0 t)) ⟨rfl, ⟨rfl, ⟨rfl, trivial⟩⟩⟩
def F11_isRight (a0 : Int32) (a1 : Int32) (t : sr_t) : sr_Rs := (if a1 < 0 then f11_isRight_18 a0 a1 t else (sr_bI (F11_upFrom a0 1 t) (fun v1 t1 => (if a1 = v1 then f11_isRight_19 a0 a1 1 t1 else f11_isRight_18 a0 a1 t1))))
theorem C11_isRight (l : Launch) (a0 : Int32) (a1 : Int32)  (t : sr_t) : sr_ct' l sr_m11_isRight [sr_r 11 0, sr_i a0, sr_i a1] t (F11_isRight a0 a1 t) 0 0 := by
  refine sr_T_of (L0 := [some (sr_r 11 0), some (sr_i a0), some (sr_i a1)]) rfl (by decide +kernel) (fun _ => rfl) (fun _ => Nat.le_of_ble_eq_true rfl) ?_
  unfold F11_isRight
  refine sr_iloadn (pc := 0) (n := 2) (by decide +kernel) rfl ?_
  refine sr_if_lt (pc := 1) (off := 17) (tg := 18) (by decide +kernel) (by decide) (fun _ => ?_) (fun _ => ?_)
  · exact sr_wk (sr_mono (mc := 0) (ms := 0) (by omega) (by omega) (g11_isRight_18 l a0 a1 t)) ⟨rfl, ⟨rfl, ⟨rfl, trivial⟩⟩⟩
  · refine sr_iloadn (pc := 4) (n := 2) (by decide +kernel) rfl ?_
    refine sr_aloadn (pc := 5) (n := 0) (by decide +kernel) rfl ?_
    refine sr_iloadn (pc := 6) (n := 1) (by decide +kernel) rfl ?_
    refine sr_iconst (pc := 7) (n := 1) (v := 1) (by decide +kernel) rfl ?_
    refine sr_cV (pc := 8) (As := [sr_i a0, sr_i 1]) (mc1 := 0) (ms1 := 0) (mc2 := 0) (ms2 := 0) fm_11_107 fl_11_107 (by decide +kernel) (sr_in11 _ (by omega)) (rm_11_isRight_11_upFrom) rfl rfl rfl (C11_upFrom l a0 1 t) ?_
    refine sr_kI (fun v1 t1 => ?_)
    refine sr_icmp_ne (pc := 11) (off := 7) (tg := 18) (by decide +kernel) (by decide) (fun _ => ?_) (fun _ => ?_)
    · exact sr_wk (sr_mono (mc := 0) (ms := 0) (by omega) (by omega) (g11_isRight_18 l a0 a1 t1)) ⟨rfl, ⟨rfl, ⟨rfl, trivial⟩⟩⟩
    · refine sr_iconst (pc := 14) (n := 1) (v := 1) (by decide +kernel) rfl ?_
      refine sr_goto (pc := 15) (off := 4) (tg := 19) (by decide +kernel) (by decide) ?_
      exact sr_wk (sr_mono (mc := 0) (ms := 0) (by omega) (by omega) (g11_isRight_19 l a0 a1 1 t1)) ⟨rfl, ⟨rfl, ⟨rfl, trivial⟩⟩⟩
def f11_latestLook_170 (a0 : Int32) (a1 : Int32) (a2 : Int32) (k209 : Int32 → Int32 → sr_t → sr_Rs) : Nat → Int32 → Int32 → Int32 → sr_t → sr_Rs
  | 0 => fun _ _ _ _ => none
  | n + 1 => fun x4 x5 x6 t => (if x5 ≤ x6 then k209 x4 x5 t else (sr_bI (F11_tableOf (t.1 11 0 10) (((2 + x5) - 1) - x6) t) (fun v1 t1 => (if 1 + x6 < 0 ∨ 4 ≤ (1 + x6).toNatClampNeg then none else sr_lt (sr_u t1 34 0 (1 + x6).toNatClampNeg v1) (fun t2 => (f11_latestLook_170 a0 a1 a2 k209 n) x4 x5 (x6 + 1) t2)))))
theorem g11_latestLook_170 (l : Launch) (a0 : Int32) (a1 : Int32) (a2 : Int32)  (k209 : Int32 → Int32 → sr_t → sr_Rs) (hk209 : ∀ (x4 : Int32) (x5 : Int32), ∀ (t : sr_t), sr_g l sr_m11_latestLook 209 [some (sr_r 11 0), some (sr_i a0), some (sr_i a1), some (sr_i a2), some (sr_i x4), some (sr_i x5), none] [] t (k209 x4 x5 t) 0 0) : ∀ (n : Nat) (x4 : Int32) (x5 : Int32) (x6 : Int32), ∀ (t : sr_t), sr_g l sr_m11_latestLook 170 [some (sr_r 11 0), some (sr_i a0), some (sr_i a1), some (sr_i a2), some (sr_i x4), some (sr_i x5), some (sr_i x6)] [] t (f11_latestLook_170 a0 a1 a2 k209 n x4 x5 x6 t) 0 0 := by
  intro n
  induction n with
  | zero => intros; exact sr_Gn
  | succ n ih =>
    intro x4 x5 x6  t
    unfold f11_latestLook_170
    refine sr_iload (pc := 170) (i := 6) (by decide +kernel) rfl ?_
    refine sr_iload (pc := 172) (i := 5) (by decide +kernel) rfl ?_
    refine sr_icmp_ge (pc := 174) (off := 35) (tg := 209) (by decide +kernel) (by decide) (fun _ => ?_) (fun _ => ?_)
    · exact sr_wk (sr_mono (mc := 0) (ms := 0) (by omega) (by omega) (hk209 x4 x5 t)) ⟨rfl, ⟨rfl, ⟨rfl, ⟨rfl, ⟨rfl, ⟨rfl, trivial⟩⟩⟩⟩⟩⟩
    · refine sr_aloadn (pc := 177) (n := 0) (by decide +kernel) rfl ?_
      refine sr_gC (pc := 178) (i2 := 0) fg_11_50 (by decide +kernel) (sr_in11 _ (by omega)) (fun _ => rfl) ?_
      refine sr_iconst (pc := 181) (n := 1) (v := 1) (by decide +kernel) rfl ?_
      refine sr_iload (pc := 182) (i := 6) (by decide +kernel) rfl ?_
      refine sr_iadd (pc := 184) (by decide +kernel) ?_
      refine sr_aloadn (pc := 185) (n := 0) (by decide +kernel) rfl ?_
      refine sr_aloadn (pc := 186) (n := 0) (by decide +kernel) rfl ?_
      refine sr_gI (pc := 187) fg_11_174 (by decide +kernel) (sr_in11 _ (by omega)) (fun _ => rfl) ?_
      refine sr_iconst (pc := 190) (n := 2) (v := 2) (by decide +kernel) rfl ?_
      refine sr_iload (pc := 191) (i := 5) (by decide +kernel) rfl ?_
      refine sr_iadd (pc := 193) (by decide +kernel) ?_
      refine sr_iconst (pc := 194) (n := 1) (v := 1) (by decide +kernel) rfl ?_
      refine sr_isub (pc := 195) (by decide +kernel) ?_
      refine sr_iload (pc := 196) (i := 6) (by decide +kernel) rfl ?_
      refine sr_isub (pc := 198) (by decide +kernel) ?_
      refine sr_cV (pc := 199) (As := [sr_i (t.1 11 0 10), sr_i (((2 + x5) - 1) - x6)]) (mc1 := 0) (ms1 := 0) (mc2 := 0) (ms2 := 0) fm_11_123 fl_11_123 (by decide +kernel) (sr_in11 _ (by omega)) (rm_11_latestLook_11_tableOf) rfl rfl rfl (C11_tableOf l (t.1 11 0 10) (((2 + x5) - 1) - x6) t) ?_
      refine sr_kI (fun v1 t1 => ?_)
      refine sr_sI (pc := 202) (n := 4) rfl (by decide +kernel) (sr_in34 _ (by omega)) (fun _ _ => rfl) (fun t2 => ?_)
      refine sr_iinc (pc := 203) (i := 6) (n := 1) (w := x6 + 1) (by decide +kernel) rfl rfl (by decide) rfl rfl ?_
      refine sr_goto (pc := 206) (off := (-36)) (tg := 170) (by decide +kernel) (by decide) ?_
      exact sr_wk (sr_mono (mc := 0) (ms := 0) (by omega) (by omega) (ih x4 x5 (x6 + 1) t2)) ⟨rfl, ⟨rfl, ⟨rfl, ⟨rfl, ⟨rfl, ⟨rfl, ⟨rfl, trivial⟩⟩⟩⟩⟩⟩⟩
def f11_latestLook_209 (a0 : Int32) (a1 : Int32) (a2 : Int32)  : Int32 → Int32 → sr_t → sr_Rs := fun x4 x5 t => (sr_lt (sr_u t 11 0 30 (1 + x5)) (fun t1 => (some (.inl (some (sr_i x4)), t1))))
theorem g11_latestLook_209 (l : Launch) (a0 : Int32) (a1 : Int32) (a2 : Int32)    : ∀ (x4 : Int32) (x5 : Int32), ∀ (t : sr_t), sr_g l sr_m11_latestLook 209 [some (sr_r 11 0), some (sr_i a0), some (sr_i a1), some (sr_i a2), some (sr_i x4), some (sr_i x5), none] [] t (f11_latestLook_209 a0 a1 a2  x4 x5 t) 0 0 := by
  intro x4 x5  t
  unfold f11_latestLook_209
  refine sr_aloadn (pc := 209) (n := 0) (by decide +kernel) rfl ?_
  refine sr_iconst (pc := 210) (n := 1) (v := 1) (by decide +kernel) rfl ?_
  refine sr_iload (pc := 211) (i := 5) (by decide +kernel) rfl ?_
  refine sr_iadd (pc := 213) (by decide +kernel) ?_
  refine sr_pI (pc := 214) fg_11_231 ft_11_30 (by decide +kernel) (sr_in11 _ (by omega)) (fun _ => rfl) (fun t1 => ?_)
  refine sr_iload (pc := 217) (i := 4) (by decide +kernel) rfl ?_
  exact sr_iret (pc := 219) (by decide +kernel) rfl
def f11_latestLook_79 (a0 : Int32) (a1 : Int32) (a2 : Int32)  : Int32 → Int32 → Int32 → sr_t → sr_Rs := fun x4 xs0 xs1 t => (if xs1 < 0 ∨ 9 ≤ xs1.toNatClampNeg then none else sr_lt (sr_u t 33 0 xs1.toNatClampNeg xs0) (fun t1 => (if (5 : Int32) < 0 ∨ 9 ≤ (5 : Int32).toNatClampNeg then none else sr_lt (sr_u t1 33 0 (5 : Int32).toNatClampNeg (t1.1 11 0 17)) (fun t2 => (if (6 : Int32) < 0 ∨ 9 ≤ (6 : Int32).toNatClampNeg then none else sr_lt (sr_u t2 33 0 (6 : Int32).toNatClampNeg (t2.1 11 0 18)) (fun t3 => (if (7 : Int32) < 0 ∨ 9 ≤ (7 : Int32).toNatClampNeg then none else sr_lt (sr_u t3 33 0 (7 : Int32).toNatClampNeg (t3.1 11 0 10)) (fun t4 => (if (8 : Int32) < 0 ∨ 9 ≤ (8 : Int32).toNatClampNeg then none else sr_lt (sr_u t4 33 0 (8 : Int32).toNatClampNeg (t4.1 11 0 19)) (fun t5 => (sr_lt (sr_u t5 11 0 28 (t5.1 11 0 17)) (fun t6 => (sr_lt (sr_u t6 11 0 30 0) (fun t7 => (if x4 = ((-2)) then (if (0 : Int32) < 0 ∨ 4 ≤ (0 : Int32).toNatClampNeg then none else sr_lt (sr_u t7 34 0 (0 : Int32).toNatClampNeg (t7.1 11 0 10)) (fun t8 => (sr_bI (F11_tableOf (t8.1 11 0 10) 1 t8) (fun v9 t9 => f11_latestLook_170 a0 a1 a2 (f11_latestLook_209 a0 a1 a2) sr_fu x4 v9 0 t9)))) else (some (.inl (some (sr_i x4)), t7)))))))))))))))))
theorem g11_latestLook_79 (l : Launch) (a0 : Int32) (a1 : Int32) (a2 : Int32)    : ∀ (x4 : Int32) (xs0 : Int32) (xs1 : Int32), ∀ (t : sr_t), sr_g l sr_m11_latestLook 79 [some (sr_r 11 0), some (sr_i a0), some (sr_i a1), some (sr_i a2), some (sr_i x4), none, none] [sr_i xs0, sr_i xs1, sr_r 33 0] t (f11_latestLook_79 a0 a1 a2  x4 xs0 xs1 t) 0 0 := by
  intro x4 xs0 xs1  t
  unfold f11_latestLook_79
  refine sr_sI (pc := 79) (n := 9) rfl (by decide +kernel) (sr_in33 _ (by omega)) (fun _ _ => rfl) (fun t1 => ?_)
  refine sr_aloadn (pc := 80) (n := 0) (by decide +kernel) rfl ?_
  refine sr_gC (pc := 81) (i2 := 0) fg_11_47 (by decide +kernel) (sr_in11 _ (by omega)) (fun _ => rfl) ?_
  refine sr_iconst (pc := 84) (n := 5) (v := 5) (by decide +kernel) rfl ?_
  refine sr_aloadn (pc := 85) (n := 0) (by decide +kernel) rfl ?_
  refine sr_gI (pc := 86) fg_11_212 (by decide +kernel) (sr_in11 _ (by omega)) (fun _ => rfl) ?_
  refine sr_sI (pc := 89) (n := 9) rfl (by decide +kernel) (sr_in33 _ (by omega)) (fun _ _ => rfl) (fun t2 => ?_)
  refine sr_aloadn (pc := 90) (n := 0) (by decide +kernel) rfl ?_
  refine sr_gC (pc := 91) (i2 := 0) fg_11_47 (by decide +kernel) (sr_in11 _ (by omega)) (fun _ => rfl) ?_
  refine sr_bipush (pc := 94) (n := 6) (v := 6) (by decide +kernel) (by decide) ?_
  refine sr_aloadn (pc := 96) (n := 0) (by decide +kernel) rfl ?_
  refine sr_gI (pc := 97) fg_11_215 (by decide +kernel) (sr_in11 _ (by omega)) (fun _ => rfl) ?_
  refine sr_sI (pc := 100) (n := 9) rfl (by decide +kernel) (sr_in33 _ (by omega)) (fun _ _ => rfl) (fun t3 => ?_)
  refine sr_aloadn (pc := 101) (n := 0) (by decide +kernel) rfl ?_
  refine sr_gC (pc := 102) (i2 := 0) fg_11_47 (by decide +kernel) (sr_in11 _ (by omega)) (fun _ => rfl) ?_
  refine sr_bipush (pc := 105) (n := 7) (v := 7) (by decide +kernel) (by decide) ?_
  refine sr_aloadn (pc := 107) (n := 0) (by decide +kernel) rfl ?_
  refine sr_gI (pc := 108) fg_11_174 (by decide +kernel) (sr_in11 _ (by omega)) (fun _ => rfl) ?_
  refine sr_sI (pc := 111) (n := 9) rfl (by decide +kernel) (sr_in33 _ (by omega)) (fun _ _ => rfl) (fun t4 => ?_)
  refine sr_aloadn (pc := 112) (n := 0) (by decide +kernel) rfl ?_
  refine sr_gC (pc := 113) (i2 := 0) fg_11_47 (by decide +kernel) (sr_in11 _ (by omega)) (fun _ => rfl) ?_
  refine sr_bipush (pc := 116) (n := 8) (v := 8) (by decide +kernel) (by decide) ?_
  refine sr_aloadn (pc := 118) (n := 0) (by decide +kernel) rfl ?_
  refine sr_gI (pc := 119) fg_11_186 (by decide +kernel) (sr_in11 _ (by omega)) (fun _ => rfl) ?_
  refine sr_sI (pc := 122) (n := 9) rfl (by decide +kernel) (sr_in33 _ (by omega)) (fun _ _ => rfl) (fun t5 => ?_)
  refine sr_aloadn (pc := 123) (n := 0) (by decide +kernel) rfl ?_
  refine sr_aloadn (pc := 124) (n := 0) (by decide +kernel) rfl ?_
  refine sr_gI (pc := 125) fg_11_212 (by decide +kernel) (sr_in11 _ (by omega)) (fun _ => rfl) ?_
  refine sr_pI (pc := 128) fg_11_228 ft_11_28 (by decide +kernel) (sr_in11 _ (by omega)) (fun _ => rfl) (fun t6 => ?_)
  refine sr_aloadn (pc := 131) (n := 0) (by decide +kernel) rfl ?_
  refine sr_iconst (pc := 132) (n := 0) (v := 0) (by decide +kernel) rfl ?_
  refine sr_pI (pc := 133) fg_11_231 ft_11_30 (by decide +kernel) (sr_in11 _ (by omega)) (fun _ => rfl) (fun t7 => ?_)
  refine sr_iload (pc := 136) (i := 4) (by decide +kernel) rfl ?_
  refine sr_bipush (pc := 138) (n := (-2)) (v := (-2)) (by decide +kernel) (by decide) ?_
  refine sr_icmp_eq (pc := 140) (off := 6) (tg := 146) (by decide +kernel) (by decide) (fun _ => ?_) (fun _ => ?_)
  · refine sr_aloadn (pc := 146) (n := 0) (by decide +kernel) rfl ?_
    refine sr_gC (pc := 147) (i2 := 0) fg_11_50 (by decide +kernel) (sr_in11 _ (by omega)) (fun _ => rfl) ?_
    refine sr_iconst (pc := 150) (n := 0) (v := 0) (by decide +kernel) rfl ?_
    refine sr_aloadn (pc := 151) (n := 0) (by decide +kernel) rfl ?_
    refine sr_gI (pc := 152) fg_11_174 (by decide +kernel) (sr_in11 _ (by omega)) (fun _ => rfl) ?_
    refine sr_sI (pc := 155) (n := 4) rfl (by decide +kernel) (sr_in34 _ (by omega)) (fun _ _ => rfl) (fun t8 => ?_)
    refine sr_aloadn (pc := 156) (n := 0) (by decide +kernel) rfl ?_
    refine sr_aloadn (pc := 157) (n := 0) (by decide +kernel) rfl ?_
    refine sr_gI (pc := 158) fg_11_174 (by decide +kernel) (sr_in11 _ (by omega)) (fun _ => rfl) ?_
    refine sr_iconst (pc := 161) (n := 1) (v := 1) (by decide +kernel) rfl ?_
    refine sr_cV (pc := 162) (As := [sr_i (t8.1 11 0 10), sr_i 1]) (mc1 := 0) (ms1 := 0) (mc2 := 0) (ms2 := 0) fm_11_123 fl_11_123 (by decide +kernel) (sr_in11 _ (by omega)) (rm_11_latestLook_11_tableOf) rfl rfl rfl (C11_tableOf l (t8.1 11 0 10) 1 t8) ?_
    refine sr_kI (fun v9 t9 => ?_)
    refine sr_istore (pc := 165) (i := 5) (by decide +kernel) (by decide) rfl rfl ?_
    refine sr_iconst (pc := 167) (n := 0) (v := 0) (by decide +kernel) rfl ?_
    refine sr_istore (pc := 168) (i := 6) (by decide +kernel) (by decide) rfl rfl ?_
    exact sr_wk (sr_mono (mc := 0) (ms := 0) (by omega) (by omega) (g11_latestLook_170 l a0 a1 a2 (f11_latestLook_209 a0 a1 a2) (g11_latestLook_209 l a0 a1 a2) sr_fu x4 v9 0 t9)) ⟨rfl, ⟨rfl, ⟨rfl, ⟨rfl, ⟨rfl, ⟨rfl, ⟨rfl, trivial⟩⟩⟩⟩⟩⟩⟩
  · refine sr_iload (pc := 143) (i := 4) (by decide +kernel) rfl ?_
    exact sr_iret (pc := 145) (by decide +kernel) rfl
def F11_latestLook (a0 : Int32) (a1 : Int32) (a2 : Int32) (t : sr_t) : sr_Rs := (if (1 : Int32) = 0 ∨ (1 : Int32) = 1 then (sr_lt (sr_u t 11 0 22 1) (fun t1 => (sr_bI (F11_looks a0 a1 a2 t1) (fun v2 t2 => (if (0 : Int32) = 0 ∨ (0 : Int32) = 1 then (sr_lt (sr_u t2 11 0 22 0) (fun t3 => (if (0 : Int32) < 0 ∨ 9 ≤ (0 : Int32).toNatClampNeg then none else sr_lt (sr_u t3 33 0 (0 : Int32).toNatClampNeg (t3.1 11 0 13)) (fun t4 => (if (1 : Int32) < 0 ∨ 9 ≤ (1 : Int32).toNatClampNeg then none else sr_lt (sr_u t4 33 0 (1 : Int32).toNatClampNeg (t4.1 11 0 14)) (fun t5 => (if (2 : Int32) < 0 ∨ 9 ≤ (2 : Int32).toNatClampNeg then none else sr_lt (sr_u t5 33 0 (2 : Int32).toNatClampNeg (t5.1 11 0 15)) (fun t6 => (if (3 : Int32) < 0 ∨ 9 ≤ (3 : Int32).toNatClampNeg then none else sr_lt (sr_u t6 33 0 (3 : Int32).toNatClampNeg (t6.1 11 0 16)) (fun t7 => (sr_bI (F11_isRight a1 v2 t7) (fun v8 t8 => (if v8 = 0 then f11_latestLook_79 a0 a1 a2 v2 0 4 t8 else f11_latestLook_79 a0 a1 a2 v2 1 4 t8))))))))))))) else none))))) else none)
theorem C11_latestLook (l : Launch) (a0 : Int32) (a1 : Int32) (a2 : Int32)  (t : sr_t) : sr_ct' l sr_m11_latestLook [sr_r 11 0, sr_i a0, sr_i a1, sr_i a2] t (F11_latestLook a0 a1 a2 t) 0 0 := by
  refine sr_T_of (L0 := [some (sr_r 11 0), some (sr_i a0), some (sr_i a1), some (sr_i a2), none, none, none]) rfl (by decide +kernel) (fun _ => rfl) (fun _ => Nat.le_of_ble_eq_true rfl) ?_
  unfold F11_latestLook
  refine sr_aloadn (pc := 0) (n := 0) (by decide +kernel) rfl ?_
  refine sr_iconst (pc := 1) (n := 1) (v := 1) (by decide +kernel) rfl ?_
  refine sr_pZ (pc := 2) fg_11_89 ft_11_22 (by decide +kernel) (sr_in11 _ (by omega)) (fun _ => rfl) (fun t1 => ?_)
  refine sr_aloadn (pc := 5) (n := 0) (by decide +kernel) rfl ?_
  refine sr_iloadn (pc := 6) (n := 1) (by decide +kernel) rfl ?_
  refine sr_iloadn (pc := 7) (n := 2) (by decide +kernel) rfl ?_
  refine sr_iloadn (pc := 8) (n := 3) (by decide +kernel) rfl ?_
  refine sr_cV (pc := 9) (As := [sr_i a0, sr_i a1, sr_i a2]) (mc1 := 0) (ms1 := 0) (mc2 := 0) (ms2 := 0) fm_11_221 fl_11_221 (by decide +kernel) (sr_in11 _ (by omega)) (rm_11_latestLook_11_looks) rfl rfl rfl (C11_looks l a0 a1 a2 t1) ?_
  refine sr_kI (fun v2 t2 => ?_)
  refine sr_istore (pc := 12) (i := 4) (by decide +kernel) (by decide) rfl rfl ?_
  refine sr_aloadn (pc := 14) (n := 0) (by decide +kernel) rfl ?_
  refine sr_iconst (pc := 15) (n := 0) (v := 0) (by decide +kernel) rfl ?_
  refine sr_pZ (pc := 16) fg_11_89 ft_11_22 (by decide +kernel) (sr_in11 _ (by omega)) (fun _ => rfl) (fun t3 => ?_)
  refine sr_aloadn (pc := 19) (n := 0) (by decide +kernel) rfl ?_
  refine sr_gC (pc := 20) (i2 := 0) fg_11_47 (by decide +kernel) (sr_in11 _ (by omega)) (fun _ => rfl) ?_
  refine sr_iconst (pc := 23) (n := 0) (v := 0) (by decide +kernel) rfl ?_
  refine sr_aloadn (pc := 24) (n := 0) (by decide +kernel) rfl ?_
  refine sr_gI (pc := 25) fg_11_183 (by decide +kernel) (sr_in11 _ (by omega)) (fun _ => rfl) ?_
  refine sr_sI (pc := 28) (n := 9) rfl (by decide +kernel) (sr_in33 _ (by omega)) (fun _ _ => rfl) (fun t4 => ?_)
  refine sr_aloadn (pc := 29) (n := 0) (by decide +kernel) rfl ?_
  refine sr_gC (pc := 30) (i2 := 0) fg_11_47 (by decide +kernel) (sr_in11 _ (by omega)) (fun _ => rfl) ?_
  refine sr_iconst (pc := 33) (n := 1) (v := 1) (by decide +kernel) rfl ?_
  refine sr_aloadn (pc := 34) (n := 0) (by decide +kernel) rfl ?_
  refine sr_gI (pc := 35) fg_11_203 (by decide +kernel) (sr_in11 _ (by omega)) (fun _ => rfl) ?_
  refine sr_sI (pc := 38) (n := 9) rfl (by decide +kernel) (sr_in33 _ (by omega)) (fun _ _ => rfl) (fun t5 => ?_)
  refine sr_aloadn (pc := 39) (n := 0) (by decide +kernel) rfl ?_
  refine sr_gC (pc := 40) (i2 := 0) fg_11_47 (by decide +kernel) (sr_in11 _ (by omega)) (fun _ => rfl) ?_
  refine sr_iconst (pc := 43) (n := 2) (v := 2) (by decide +kernel) rfl ?_
  refine sr_aloadn (pc := 44) (n := 0) (by decide +kernel) rfl ?_
  refine sr_gI (pc := 45) fg_11_206 (by decide +kernel) (sr_in11 _ (by omega)) (fun _ => rfl) ?_
  refine sr_sI (pc := 48) (n := 9) rfl (by decide +kernel) (sr_in33 _ (by omega)) (fun _ _ => rfl) (fun t6 => ?_)
  refine sr_aloadn (pc := 49) (n := 0) (by decide +kernel) rfl ?_
  refine sr_gC (pc := 50) (i2 := 0) fg_11_47 (by decide +kernel) (sr_in11 _ (by omega)) (fun _ => rfl) ?_
  refine sr_iconst (pc := 53) (n := 3) (v := 3) (by decide +kernel) rfl ?_
  refine sr_aloadn (pc := 54) (n := 0) (by decide +kernel) rfl ?_
  refine sr_gI (pc := 55) fg_11_209 (by decide +kernel) (sr_in11 _ (by omega)) (fun _ => rfl) ?_
  refine sr_sI (pc := 58) (n := 9) rfl (by decide +kernel) (sr_in33 _ (by omega)) (fun _ _ => rfl) (fun t7 => ?_)
  refine sr_aloadn (pc := 59) (n := 0) (by decide +kernel) rfl ?_
  refine sr_gC (pc := 60) (i2 := 0) fg_11_47 (by decide +kernel) (sr_in11 _ (by omega)) (fun _ => rfl) ?_
  refine sr_iconst (pc := 63) (n := 4) (v := 4) (by decide +kernel) rfl ?_
  refine sr_aloadn (pc := 64) (n := 0) (by decide +kernel) rfl ?_
  refine sr_iloadn (pc := 65) (n := 2) (by decide +kernel) rfl ?_
  refine sr_iload (pc := 66) (i := 4) (by decide +kernel) rfl ?_
  refine sr_cV (pc := 68) (As := [sr_i a1, sr_i v2]) (mc1 := 0) (ms1 := 0) (mc2 := 0) (ms2 := 0) fm_11_225 fl_11_225 (by decide +kernel) (sr_in11 _ (by omega)) (rm_11_latestLook_11_isRight) rfl rfl rfl (C11_isRight l a1 v2 t7) ?_
  refine sr_kI (fun v8 t8 => ?_)
  refine sr_if_eq (pc := 71) (off := 7) (tg := 78) (by decide +kernel) (by decide) (fun _ => ?_) (fun _ => ?_)
  · refine sr_iconst (pc := 78) (n := 0) (v := 0) (by decide +kernel) rfl ?_
    exact sr_wk (sr_mono (mc := 0) (ms := 0) (by omega) (by omega) (g11_latestLook_79 l a0 a1 a2 v2 0 4 t8)) ⟨rfl, ⟨rfl, ⟨rfl, ⟨rfl, ⟨rfl, trivial⟩⟩⟩⟩⟩
  · refine sr_iconst (pc := 74) (n := 1) (v := 1) (by decide +kernel) rfl ?_
    refine sr_goto (pc := 75) (off := 4) (tg := 79) (by decide +kernel) (by decide) ?_
    exact sr_wk (sr_mono (mc := 0) (ms := 0) (by omega) (by omega) (g11_latestLook_79 l a0 a1 a2 v2 1 4 t8)) ⟨rfl, ⟨rfl, ⟨rfl, ⟨rfl, ⟨rfl, trivial⟩⟩⟩⟩⟩
