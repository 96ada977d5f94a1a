def f11_settle_22 (a0 : Int32) (k45 : Int32 → sr_t → sr_Rs) : Nat → Int32 → Int32 → sr_t → sr_Rs
  | 0 => fun _ _ _ => none
  | n + 1 => fun x2 x3 t => (if (t.1 11 0 33) ≤ x3 then k45 x2 t else (sr_bI (F11_settles a0 x3 t) (fun v1 t1 => (f11_settle_22 a0 k45 n) (x2 + v1) (x3 + 1) t1)))
theorem g11_settle_22 (l : Launch) (a0 : Int32)  (k45 : Int32 → sr_t → sr_Rs) (hk45 : ∀ (x2 : Int32), ∀ (t : sr_t), sr_g l sr_m11_settle 45 [some (sr_r 11 0), some (sr_i a0), some (sr_i x2), none] [] t (k45 x2 t) 0 0) : ∀ (n : Nat) (x2 : Int32) (x3 : Int32), ∀ (t : sr_t), sr_g l sr_m11_settle 22 [some (sr_r 11 0), some (sr_i a0), some (sr_i x2), some (sr_i x3)] [] t (f11_settle_22 a0 k45 n x2 x3 t) 0 0 := by
  intro n
  induction n with
  | zero => intros; exact sr_Gn
  | succ n ih =>
    intro x2 x3  t
    unfold f11_settle_22
    refine sr_iloadn (pc := 22) (n := 3) (by decide +kernel) rfl ?_
    refine sr_aloadn (pc := 23) (n := 0) (by decide +kernel) rfl ?_
    refine sr_gI (pc := 24) fg_11_316 (by decide +kernel) (sr_in11 _ (by omega)) (fun _ => rfl) ?_
    refine sr_icmp_ge (pc := 27) (off := 18) (tg := 45) (by decide +kernel) (by decide) (fun _ => ?_) (fun _ => ?_)
    · exact sr_wk (sr_mono (mc := 0) (ms := 0) (by omega) (by omega) (hk45 x2 t)) ⟨rfl, ⟨rfl, ⟨rfl, trivial⟩⟩⟩
    · refine sr_iloadn (pc := 30) (n := 2) (by decide +kernel) rfl ?_
      refine sr_aloadn (pc := 31) (n := 0) (by decide +kernel) rfl ?_
      refine sr_iloadn (pc := 32) (n := 1) (by decide +kernel) rfl ?_
      refine sr_iloadn (pc := 33) (n := 3) (by decide +kernel) rfl ?_
      refine sr_cV (pc := 34) (As := [sr_i a0, sr_i x3]) (mc1 := 0) (ms1 := 0) (mc2 := 0) (ms2 := 0) fm_11_338 fl_11_338 (by decide +kernel) (sr_in11 _ (by omega)) (rm_11_settle_11_settles) rfl rfl rfl (C11_settles l a0 x3 t) ?_
      refine sr_kI (fun v1 t1 => ?_)
      refine sr_iadd (pc := 37) (by decide +kernel) ?_
      refine sr_istoren (pc := 38) (n := 2) (by decide +kernel) (by decide) rfl rfl ?_
      refine sr_iinc (pc := 39) (i := 3) (n := 1) (w := x3 + 1) (by decide +kernel) rfl rfl (by decide) rfl rfl ?_
      refine sr_goto (pc := 42) (off := (-20)) (tg := 22) (by decide +kernel) (by decide) ?_
      exact sr_wk (sr_mono (mc := 0) (ms := 0) (by omega) (by omega) (ih (x2 + v1) (x3 + 1) t1)) ⟨rfl, ⟨rfl, ⟨rfl, ⟨rfl, trivial⟩⟩⟩⟩
def f11_settle_45 (a0 : Int32)  : Int32 → sr_t → sr_Rs := fun x2 t => (some (.inl (some (sr_i x2)), t))
theorem g11_settle_45 (l : Launch) (a0 : Int32)    : ∀ (x2 : Int32), ∀ (t : sr_t), sr_g l sr_m11_settle 45 [some (sr_r 11 0), some (sr_i a0), some (sr_i x2), none] [] t (f11_settle_45 a0  x2 t) 0 0 := by
  intro x2  t
  unfold f11_settle_45
  refine sr_iloadn (pc := 45) (n := 2) (by decide +kernel) rfl ?_
  exact sr_iret (pc := 46) (by decide +kernel) rfl
def F11_settle (a0 : Int32) (t : sr_t) : sr_Rs := (sr_bI (F11_wrongUp a0 t) (fun v1 t1 => (sr_lt (sr_u t1 11 0 0 v1) (fun t2 => (if (t2.1 11 0 0) ≤ 0 then f11_settle_22 a0 (f11_settle_45 a0) sr_fu 0 0 t2 else (some (.inl (some (sr_i 0)), t2)))))))
theorem C11_settle (l : Launch) (a0 : Int32)  (t : sr_t) : sr_ct' l sr_m11_settle [sr_r 11 0, sr_i a0] t (F11_settle a0 t) 0 0 := by
  refine sr_T_of (L0 := [some (sr_r 11 0), some (sr_i a0), none, none]) rfl (by decide +kernel) (fun _ => rfl) (fun _ => Nat.le_of_ble_eq_true rfl) ?_
  unfold F11_settle
  refine sr_aloadn (pc := 0) (n := 0) (by decide +kernel) rfl ?_
  refine sr_aloadn (pc := 1) (n := 0) (by decide +kernel) rfl ?_
  refine sr_iloadn (pc := 2) (n := 1) (by decide +kernel) rfl ?_
  refine sr_cV (pc := 3) (As := [sr_i a0]) (mc1 := 0) (ms1 := 0) (mc2 := 0) (ms2 := 0) fm_11_144 fl_11_144 (by decide +kernel) (sr_in11 _ (by omega)) (rm_11_settle_11_wrongUp) rfl rfl rfl (C11_wrongUp l a0 t) ?_
  refine sr_kI (fun v1 t1 => ?_)
  refine sr_pI (pc := 6) fg_11_93 ft_11_0 (by decide +kernel) (sr_in11 _ (by omega)) (fun _ => rfl) (fun t2 => ?_)
  refine sr_aloadn (pc := 9) (n := 0) (by decide +kernel) rfl ?_
  refine sr_gI (pc := 10) fg_11_93 (by decide +kernel) (sr_in11 _ (by omega)) (fun _ => rfl) ?_
  refine sr_if_le (pc := 13) (off := 5) (tg := 18) (by decide +kernel) (by decide) (fun _ => ?_) (fun _ => ?_)
  · refine sr_iconst (pc := 18) (n := 0) (v := 0) (by decide +kernel) rfl ?_
    refine sr_istoren (pc := 19) (n := 2) (by decide +kernel) (by decide) rfl rfl ?_
    refine sr_iconst (pc := 20) (n := 0) (v := 0) (by decide +kernel) rfl ?_
    refine sr_istoren (pc := 21) (n := 3) (by decide +kernel) (by decide) rfl rfl ?_
    exact sr_wk (sr_mono (mc := 0) (ms := 0) (by omega) (by omega) (g11_settle_22 l a0 (f11_settle_45 a0) (g11_settle_45 l a0) sr_fu 0 0 t2)) ⟨rfl, ⟨rfl, ⟨rfl, ⟨rfl, trivial⟩⟩⟩⟩
  · refine sr_iconst (pc := 16) (n := 0) (v := 0) (by decide +kernel) rfl ?_
    exact sr_iret (pc := 17) (by decide +kernel) rfl
def sr_m11_held : sr_M := (⟨"ShiftRingModel", "held", "(III)I"⟩, prog_13_method_96_code, 5, (some .int), [], 2, 43)
theorem rm_11_held_11_cell : sr_RM sr_m11_held sr_m11_cell := ⟨Nat.le_of_ble_eq_true rfl, Nat.le_of_ble_eq_true rfl⟩
theorem rm_11_held_11_isIn : sr_RM sr_m11_held sr_m11_isIn := ⟨Nat.le_of_ble_eq_true rfl, Nat.le_of_ble_eq_true rfl⟩
theorem rm_11_held_11_isNode : sr_RM sr_m11_held sr_m11_isNode := ⟨Nat.le_of_ble_eq_true rfl, Nat.le_of_ble_eq_true rfl⟩
theorem rm_11_held_11_isPlace : sr_RM sr_m11_held sr_m11_isPlace := ⟨Nat.le_of_ble_eq_true rfl, Nat.le_of_ble_eq_true rfl⟩
theorem rm_11_held_11_knownAs : sr_RM sr_m11_held sr_m11_knownAs := ⟨Nat.le_of_ble_eq_true rfl, Nat.le_of_ble_eq_true rfl⟩
def f11_held_77 (a0 : Int32) (a1 : Int32) (a2 : Int32)  : sr_t → sr_Rs := fun  t => (some (.inl (some (sr_i ((-1)))), t))
theorem g11_held_77 (l : Launch) (a0 : Int32) (a1 : Int32) (a2 : Int32)    : ∀ (t : sr_t), sr_g l sr_m11_held 77 [some (sr_r 11 0), some (sr_i a0), some (sr_i a1), some (sr_i a2), none] [] t (f11_held_77 a0 a1 a2   t) 0 0 := by
  intro t
  unfold f11_held_77
  refine sr_iconst (pc := 77) (n := (-1)) (v := (-1)) (by decide +kernel) rfl ?_
  exact sr_iret (pc := 78) (by decide +kernel) rfl
def f11_held_108 (a0 : Int32) (a1 : Int32) (a2 : Int32)  : Int32 → sr_t → sr_Rs := fun xs0 t => (some (.inl (some (sr_i xs0)), t))
theorem g11_held_108 (l : Launch) (a0 : Int32) (a1 : Int32) (a2 : Int32)    : ∀ (xs0 : Int32), ∀ (t : sr_t), sr_g l sr_m11_held 108 [some (sr_r 11 0), some (sr_i a0), some (sr_i a1), some (sr_i a2), none] [sr_i xs0] t (f11_held_108 a0 a1 a2  xs0 t) 0 0 := by
  intro xs0  t
  unfold f11_held_108
  exact sr_iret (pc := 108) (by decide +kernel) rfl
def f11_held_38 (a0 : Int32) (a1 : Int32) (a2 : Int32)  : Int32 → sr_t → sr_Rs := fun xs0 t => (sr_lt (sr_u t 11 0 0 xs0) (fun t1 => (if (t1.1 11 0 0) ≤ 0 then (sr_bI (F11_knownAs a1 t1) (fun v2 t2 => (if v2 = ((-1)) then f11_held_77 a0 a1 a2 t2 else (sr_bI (F11_cell a0 v2 t2) (fun v3 t3 => (if v3 < 0 ∨ 768 ≤ v3.toNatClampNeg then none else (if (t3.1 40 0 v3.toNatClampNeg) = 0 then f11_held_77 a0 a1 a2 t3 else (if a2 = 0 then (sr_bI (F11_cell a0 v2 t3) (fun v5 t5 => (if v5 < 0 ∨ 768 ≤ v5.toNatClampNeg then none else f11_held_108 a0 a1 a2 (t5.1 39 0 v5.toNatClampNeg) t5))) else (sr_bI (F11_cell a0 v2 t3) (fun v4 t4 => (if v4 < 0 ∨ 768 ≤ v4.toNatClampNeg then none else f11_held_108 a0 a1 a2 (t4.1 40 0 v4.toNatClampNeg) t4))))))))))) else (some (.inl (some (sr_i 0)), t1)))))
theorem g11_held_38 (l : Launch) (a0 : Int32) (a1 : Int32) (a2 : Int32)    : ∀ (xs0 : Int32), ∀ (t : sr_t), sr_g l sr_m11_held 38 [some (sr_r 11 0), some (sr_i a0), some (sr_i a1), some (sr_i a2), none] [sr_i xs0, sr_r 11 0] t (f11_held_38 a0 a1 a2  xs0 t) 0 0 := by
  intro xs0  t
  unfold f11_held_38
  refine sr_pI (pc := 38) fg_11_93 ft_11_0 (by decide +kernel) (sr_in11 _ (by omega)) (fun _ => rfl) (fun t1 => ?_)
  refine sr_aloadn (pc := 41) (n := 0) (by decide +kernel) rfl ?_
  refine sr_gI (pc := 42) fg_11_93 (by decide +kernel) (sr_in11 _ (by omega)) (fun _ => rfl) ?_
  refine sr_if_le (pc := 45) (off := 5) (tg := 50) (by decide +kernel) (by decide) (fun _ => ?_) (fun _ => ?_)
  · refine sr_aloadn (pc := 50) (n := 0) (by decide +kernel) rfl ?_
    refine sr_iloadn (pc := 51) (n := 2) (by decide +kernel) rfl ?_
    refine sr_cV (pc := 52) (As := [sr_i a1]) (mc1 := 0) (ms1 := 0) (mc2 := 0) (ms2 := 0) fm_11_322 fl_11_322 (by decide +kernel) (sr_in11 _ (by omega)) (rm_11_held_11_knownAs) rfl rfl rfl (C11_knownAs l a1 t1) ?_
    refine sr_kI (fun v2 t2 => ?_)
    refine sr_istore (pc := 55) (i := 4) (by decide +kernel) (by decide) rfl rfl ?_
    refine sr_iload (pc := 57) (i := 4) (by decide +kernel) rfl ?_
    refine sr_iconst (pc := 59) (n := (-1)) (v := (-1)) (by decide +kernel) rfl ?_
    refine sr_icmp_eq (pc := 60) (off := 17) (tg := 77) (by decide +kernel) (by decide) (fun _ => ?_) (fun _ => ?_)
    · exact sr_wk (sr_mono (mc := 0) (ms := 0) (by omega) (by omega) (g11_held_77 l a0 a1 a2 t2)) ⟨rfl, ⟨rfl, ⟨rfl, ⟨rfl, trivial⟩⟩⟩⟩
    · refine sr_aloadn (pc := 63) (n := 0) (by decide +kernel) rfl ?_
      refine sr_gC (pc := 64) (i2 := 0) fg_11_68 (by decide +kernel) (sr_in11 _ (by omega)) (fun _ => rfl) ?_
      refine sr_iloadn (pc := 67) (n := 1) (by decide +kernel) rfl ?_
      refine sr_iload (pc := 68) (i := 4) (by decide +kernel) rfl ?_
      refine sr_cS (pc := 70) (As := [sr_i a0, sr_i v2]) (mc1 := 0) (ms1 := 0) (mc2 := 0) (ms2 := 0) fm_11_319 fl_11_319 (by decide +kernel) (rm_11_held_11_cell) rfl rfl rfl (C11_cell l a0 v2 t2) ?_
      refine sr_kI (fun v3 t3 => ?_)
      refine sr_aI (pc := 73) (n := 768) rfl (by decide +kernel) (sr_in40 _ (by omega)) (fun _ _ => rfl) ?_
      refine sr_if_ne (pc := 74) (off := 5) (tg := 79) (by decide +kernel) (by decide) (fun _ => ?_) (fun _ => ?_)
      · refine sr_iloadn (pc := 79) (n := 3) (by decide +kernel) rfl ?_
        refine sr_if_ne (pc := 80) (off := 17) (tg := 97) (by decide +kernel) (by decide) (fun _ => ?_) (fun _ => ?_)
        · refine sr_aloadn (pc := 97) (n := 0) (by decide +kernel) rfl ?_
          refine sr_gC (pc := 98) (i2 := 0) fg_11_68 (by decide +kernel) (sr_in11 _ (by omega)) (fun _ => rfl) ?_
          refine sr_iloadn (pc := 101) (n := 1) (by decide +kernel) rfl ?_
          refine sr_iload (pc := 102) (i := 4) (by decide +kernel) rfl ?_
          refine sr_cS (pc := 104) (As := [sr_i a0, sr_i v2]) (mc1 := 0) (ms1 := 0) (mc2 := 0) (ms2 := 0) fm_11_319 fl_11_319 (by decide +kernel) (rm_11_held_11_cell) rfl rfl rfl (C11_cell l a0 v2 t3) ?_
          refine sr_kI (fun v4 t4 => ?_)
          refine sr_aI (pc := 107) (n := 768) rfl (by decide +kernel) (sr_in40 _ (by omega)) (fun _ _ => rfl) ?_
          exact sr_wk (sr_mono (mc := 0) (ms := 0) (by omega) (by omega) (g11_held_108 l a0 a1 a2 (t4.1 40 0 v4.toNatClampNeg) t4)) ⟨rfl, ⟨rfl, ⟨rfl, ⟨rfl, trivial⟩⟩⟩⟩
        · refine sr_aloadn (pc := 83) (n := 0) (by decide +kernel) rfl ?_
          refine sr_gC (pc := 84) (i2 := 0) fg_11_65 (by decide +kernel) (sr_in11 _ (by omega)) (fun _ => rfl) ?_
          refine sr_iloadn (pc := 87) (n := 1) (by decide +kernel) rfl ?_
          refine sr_iload (pc := 88) (i := 4) (by decide +kernel) rfl ?_
          refine sr_cS (pc := 90) (As := [sr_i a0, sr_i v2]) (mc1 := 0) (ms1 := 0) (mc2 := 0) (ms2 := 0) fm_11_319 fl_11_319 (by decide +kernel) (rm_11_held_11_cell) rfl rfl rfl (C11_cell l a0 v2 t3) ?_
          refine sr_kI (fun v5 t5 => ?_)
          refine sr_aI (pc := 93) (n := 768) rfl (by decide +kernel) (sr_in39 _ (by omega)) (fun _ _ => rfl) ?_
          refine sr_goto (pc := 94) (off := 14) (tg := 108) (by decide +kernel) (by decide) ?_
          exact sr_wk (sr_mono (mc := 0) (ms := 0) (by omega) (by omega) (g11_held_108 l a0 a1 a2 (t5.1 39 0 v5.toNatClampNeg) t5)) ⟨rfl, ⟨rfl, ⟨rfl, ⟨rfl, trivial⟩⟩⟩⟩
      · exact sr_wk (sr_mono (mc := 0) (ms := 0) (by omega) (by omega) (g11_held_77 l a0 a1 a2 t3)) ⟨rfl, ⟨rfl, ⟨rfl, ⟨rfl, trivial⟩⟩⟩⟩
  · refine sr_iconst (pc := 48) (n := 0) (v := 0) (by decide +kernel) rfl ?_
    exact sr_iret (pc := 49) (by decide +kernel) rfl
def F11_held (a0 : Int32) (a1 : Int32) (a2 : Int32) (t : sr_t) : sr_Rs := (sr_bI (F11_isNode a0 t) (fun v1 t1 => (if v1 = 0 then f11_held_38 a0 a1 a2 1 t1 else (sr_bI (F11_isIn a2 0 1 t1) (fun v2 t2 => (if v2 = 0 then f11_held_38 a0 a1 a2 2 t2 else (sr_bI (F11_isPlace a1 t2) (fun v3 t3 => (if v3 = 0 then f11_held_38 a0 a1 a2 3 t3 else f11_held_38 a0 a1 a2 0 t3)))))))))
theorem C11_held (l : Launch) (a0 : Int32) (a1 : Int32) (a2 : Int32)  (t : sr_t) : sr_ct' l sr_m11_held [sr_r 11 0, sr_i a0, sr_i a1, sr_i a2] t (F11_held a0 a1 a2 t) 0 0 := by
  refine sr_T_of (L0 := [some (sr_r 11 0), some (sr_i a0), some (sr_i a1), some (sr_i a2), none]) rfl (by decide +kernel) (fun _ => rfl) (fun _ => Nat.le_of_ble_eq_true rfl) ?_
  unfold F11_held
  refine sr_aloadn (pc := 0) (n := 0) (by decide +kernel) rfl ?_
  refine sr_aloadn (pc := 1) (n := 0) (by decide +kernel) rfl ?_
  refine sr_iloadn (pc := 2) (n := 1) (by decide +kernel) rfl ?_
  refine sr_cV (pc := 3) (As := [sr_i a0]) (mc1 := 0) (ms1 := 0) (mc2 := 0) (ms2 := 0) fm_11_141 fl_11_141 (by decide +kernel) (sr_in11 _ (by omega)) (rm_11_held_11_isNode) rfl rfl rfl (C11_isNode l a0 t) ?_
  refine sr_kI (fun v1 t1 => ?_)
  refine sr_if_ne (pc := 6) (off := 7) (tg := 13) (by decide +kernel) (by decide) (fun _ => ?_) (fun _ => ?_)
  · refine sr_iloadn (pc := 13) (n := 3) (by decide +kernel) rfl ?_
    refine sr_iconst (pc := 14) (n := 0) (v := 0) (by decide +kernel) rfl ?_
    refine sr_iconst (pc := 15) (n := 1) (v := 1) (by decide +kernel) rfl ?_
    refine sr_cS (pc := 16) (As := [sr_i a2, sr_i 0, sr_i 1]) (mc1 := 0) (ms1 := 0) (mc2 := 0) (ms2 := 0) fm_11_96 fl_11_96 (by decide +kernel) (rm_11_held_11_isIn) rfl rfl rfl (C11_isIn l a2 0 1 t1) ?_
    refine sr_kI (fun v2 t2 => ?_)
    refine sr_if_ne (pc := 19) (off := 7) (tg := 26) (by decide +kernel) (by decide) (fun _ => ?_) (fun _ => ?_)
    · refine sr_iloadn (pc := 26) (n := 2) (by decide +kernel) rfl ?_
      refine sr_cS (pc := 27) (As := [sr_i a1]) (mc1 := 0) (ms1 := 0) (mc2 := 0) (ms2 := 0) fm_11_133 fl_11_133 (by decide +kernel) (rm_11_held_11_isPlace) rfl rfl rfl (C11_isPlace l a1 t2) ?_
      refine sr_kI (fun v3 t3 => ?_)
      refine sr_if_ne (pc := 30) (off := 7) (tg := 37) (by decide +kernel) (by decide) (fun _ => ?_) (fun _ => ?_)
      · refine sr_iconst (pc := 37) (n := 0) (v := 0) (by decide +kernel) rfl ?_
        exact sr_wk (sr_mono (mc := 0) (ms := 0) (by omega) (by omega) (g11_held_38 l a0 a1 a2 0 t3)) ⟨rfl, ⟨rfl, ⟨rfl, ⟨rfl, trivial⟩⟩⟩⟩
      · refine sr_iconst (pc := 33) (n := 3) (v := 3) (by decide +kernel) rfl ?_
        refine sr_goto (pc := 34) (off := 4) (tg := 38) (by decide +kernel) (by decide) ?_
        exact sr_wk (sr_mono (mc := 0) (ms := 0) (by omega) (by omega) (g11_held_38 l a0 a1 a2 3 t3)) ⟨rfl, ⟨rfl, ⟨rfl, ⟨rfl, trivial⟩⟩⟩⟩
    · refine sr_iconst (pc := 22) (n := 2) (v := 2) (by decide +kernel) rfl ?_
      refine sr_goto (pc := 23) (off := 15) (tg := 38) (by decide +kernel) (by decide) ?_
      exact sr_wk (sr_mono (mc := 0) (ms := 0) (by omega) (by omega) (g11_held_38 l a0 a1 a2 2 t2)) ⟨rfl, ⟨rfl, ⟨rfl, ⟨rfl, trivial⟩⟩⟩⟩
  · refine sr_iconst (pc := 9) (n := 1) (v := 1) (by decide +kernel) rfl ?_
    refine sr_goto (pc := 10) (off := 28) (tg := 38) (by decide +kernel) (by decide) ?_
    exact sr_wk (sr_mono (mc := 0) (ms := 0) (by omega) (by omega) (g11_held_38 l a0 a1 a2 1 t1)) ⟨rfl, ⟨rfl, ⟨rfl, ⟨rfl, trivial⟩⟩⟩⟩
def sr_m11_holdersOf : sr_M := (⟨"ShiftRingModel", "holdersOf", "(IZ)I"⟩, prog_13_method_97_code, 6, (some .int), [], 1, 21)
def sr_m11_about : sr_M := (⟨"ShiftRingModel", "about", "(II)I"⟩, prog_13_method_98_code, 4, (some .int), [], 3, 69)
theorem fl_11_341 : Cond.methodLink "ShiftRingModel" 341 (sr_My sr_m11_holdersOf) ∈ sr_TB := (sr_tb (n := 1915) (by decide +kernel) rfl)
theorem fm_11_341 : sr_FV "ShiftRingModel" 341 sr_m11_holdersOf 11 2 := ⟨⟨rfl, sr_tb (n := 1918) (by decide +kernel) rfl, sr_tb (n := 12) (by decide +kernel) rfl, ⟨by decide, by decide, by decide +kernel⟩, Or.inl fl_11_341⟩, ⟨TX11, 53, rfl, rfl⟩, sr_tb (n := 1917) (by decide +kernel) rfl, sr_ts (n := 88) (by decide +kernel) rfl⟩
theorem rm_11_about_11_holdersOf : sr_RM sr_m11_about sr_m11_holdersOf := ⟨Nat.le_of_ble_eq_true rfl, Nat.le_of_ble_eq_true rfl⟩
theorem rm_11_about_11_isIn : sr_RM sr_m11_about sr_m11_isIn := ⟨Nat.le_of_ble_eq_true rfl, Nat.le_of_ble_eq_true rfl⟩
theorem rm_11_about_11_isPlace : sr_RM sr_m11_about sr_m11_isPlace := ⟨Nat.le_of_ble_eq_true rfl, Nat.le_of_ble_eq_true rfl⟩
theorem rm_11_about_11_keepersOf : sr_RM sr_m11_about sr_m11_keepersOf := ⟨Nat.le_of_ble_eq_true rfl, Nat.le_of_ble_eq_true rfl⟩
theorem rm_11_about_11_knownAs : sr_RM sr_m11_about sr_m11_knownAs := ⟨Nat.le_of_ble_eq_true rfl, Nat.le_of_ble_eq_true rfl⟩
theorem rm_11_holdersOf_11_cell : sr_RM sr_m11_holdersOf sr_m11_cell := ⟨Nat.le_of_ble_eq_true rfl, Nat.le_of_ble_eq_true rfl⟩
def f11_holdersOf_66 (a0 : Int32) (a1 : Int32) (k5 : Int32 → Int32 → sr_t → sr_Rs) (k74 : Int32 → sr_t → sr_Rs) : Int32 → Int32 → Int32 → sr_t → sr_Rs := fun x4 xs0 xs1 t => k5 (xs1 ||| xs0) (x4 + 1) t
theorem g11_holdersOf_66 (l : Launch) (a0 : Int32) (a1 : Int32)  (k5 : Int32 → Int32 → sr_t → sr_Rs) (k74 : Int32 → sr_t → sr_Rs) (hk5 : ∀ (x3 : Int32) (x4 : Int32), ∀ (t : sr_t), sr_g l sr_m11_holdersOf 5 [some (sr_r 11 0), some (sr_i a0), some (sr_i a1), some (sr_i x3), some (sr_i x4), none] [] t (k5 x3 x4 t) 0 0) (hk74 : ∀ (x3 : Int32), ∀ (t : sr_t), sr_g l sr_m11_holdersOf 74 [some (sr_r 11 0), some (sr_i a0), some (sr_i a1), some (sr_i x3), none, none] [] t (k74 x3 t) 0 0) : ∀ (x4 : Int32) (xs0 : Int32) (xs1 : Int32), ∀ (t : sr_t), sr_g l sr_m11_holdersOf 66 [some (sr_r 11 0), some (sr_i a0), some (sr_i a1), none, some (sr_i x4), none] [sr_i xs0, sr_i xs1] t (f11_holdersOf_66 a0 a1 k5 k74 x4 xs0 xs1 t) 0 0 := by
  intro x4 xs0 xs1  t
  unfold f11_holdersOf_66
  refine sr_ior (pc := 66) (by decide +kernel) ?_
  refine sr_istoren (pc := 67) (n := 3) (by decide +kernel) (by decide) rfl rfl ?_
  refine sr_iinc (pc := 68) (i := 4) (n := 1) (w := x4 + 1) (by decide +kernel) rfl rfl (by decide) rfl rfl ?_
  refine sr_goto (pc := 71) (off := (-66)) (tg := 5) (by decide +kernel) (by decide) ?_
  exact sr_wk (sr_mono (mc := 0) (ms := 0) (by omega) (by omega) (hk5 (xs1 ||| xs0) (x4 + 1) t)) ⟨rfl, ⟨rfl, ⟨rfl, ⟨rfl, ⟨rfl, trivial⟩⟩⟩⟩⟩
def f11_holdersOf_65 (a0 : Int32) (a1 : Int32) (k5 : Int32 → Int32 → sr_t → sr_Rs) (k74 : Int32 → sr_t → sr_Rs) : Int32 → Int32 → sr_t → sr_Rs := fun x4 xs0 t => f11_holdersOf_66 a0 a1 k5 k74 x4 0 xs0 t
theorem g11_holdersOf_65 (l : Launch) (a0 : Int32) (a1 : Int32)  (k5 : Int32 → Int32 → sr_t → sr_Rs) (k74 : Int32 → sr_t → sr_Rs) (hk5 : ∀ (x3 : Int32) (x4 : Int32), ∀ (t : sr_t), sr_g l sr_m11_holdersOf 5 [some (sr_r 11 0), some (sr_i a0), some (sr_i a1), some (sr_i x3), some (sr_i x4), none] [] t (k5 x3 x4 t) 0 0) (hk74 : ∀ (x3 : Int32), ∀ (t : sr_t), sr_g l sr_m11_holdersOf 74 [some (sr_r 11 0), some (sr_i a0), some (sr_i a1), some (sr_i x3), none, none] [] t (k74 x3 t) 0 0) : ∀ (x4 : Int32) (xs0 : Int32), ∀ (t : sr_t), sr_g l sr_m11_holdersOf 65 [some (sr_r 11 0), some (sr_i a0), some (sr_i a1), none, some (sr_i x4), none] [sr_i xs0] t (f11_holdersOf_65 a0 a1 k5 k74 x4 xs0 t) 0 0 := by
  intro x4 xs0  t
  unfold f11_holdersOf_65
  refine sr_iconst (pc := 65) (n := 0) (v := 0) (by decide +kernel) rfl ?_
  exact sr_wk (sr_mono (mc := 0) (ms := 0) (by omega) (by omega) (g11_holdersOf_66 l a0 a1 k5 k74 hk5 hk74 x4 0 xs0 t)) ⟨rfl, ⟨rfl, ⟨rfl, ⟨rfl, trivial⟩⟩⟩⟩
def f11_holdersOf_54 (a0 : Int32) (a1 : Int32) (k5 : Int32 → Int32 → sr_t → sr_Rs) (k74 : Int32 → sr_t → sr_Rs) : Int32 → Int32 → Int32 → sr_t → sr_Rs := fun x4 xs0 xs1 t => (if xs0 = a1 then f11_holdersOf_66 a0 a1 k5 k74 x4 (1 <<< (x4 &&& 31)) xs1 t else f11_holdersOf_65 a0 a1 k5 k74 x4 xs1 t)
theorem g11_holdersOf_54 (l : Launch) (a0 : Int32) (a1 : Int32)  (k5 : Int32 → Int32 → sr_t → sr_Rs) (k74 : Int32 → sr_t → sr_Rs) (hk5 : ∀ (x3 : Int32) (x4 : Int32), ∀ (t : sr_t), sr_g l sr_m11_holdersOf 5 [some (sr_r 11 0), some (sr_i a0), some (sr_i a1), some (sr_i x3), some (sr_i x4), none] [] t (k5 x3 x4 t) 0 0) (hk74 : ∀ (x3 : Int32), ∀ (t : sr_t), sr_g l sr_m11_holdersOf 74 [some (sr_r 11 0), some (sr_i a0), some (sr_i a1), some (sr_i x3), none, none] [] t (k74 x3 t) 0 0) : ∀ (x4 : Int32) (xs0 : Int32) (xs1 : Int32), ∀ (t : sr_t), sr_g l sr_m11_holdersOf 54 [some (sr_r 11 0), some (sr_i a0), some (sr_i a1), none, some (sr_i x4), none] [sr_i xs0, sr_i xs1] t (f11_holdersOf_54 a0 a1 k5 k74 x4 xs0 xs1 t) 0 0 := by
  intro x4 xs0 xs1  t
  unfold f11_holdersOf_54
  refine sr_iloadn (pc := 54) (n := 2) (by decide +kernel) rfl ?_
  refine sr_icmp_ne (pc := 55) (off := 10) (tg := 65) (by decide +kernel) (by decide) (fun _ => ?_) (fun _ => ?_)
  · exact sr_wk (sr_mono (mc := 0) (ms := 0) (by omega) (by omega) (g11_holdersOf_65 l a0 a1 k5 k74 hk5 hk74 x4 xs1 t)) ⟨rfl, ⟨rfl, ⟨rfl, ⟨rfl, trivial⟩⟩⟩⟩
  · refine sr_iconst (pc := 58) (n := 1) (v := 1) (by decide +kernel) rfl ?_
    refine sr_iload (pc := 59) (i := 4) (by decide +kernel) rfl ?_
    refine sr_ishl (pc := 61) (by decide +kernel) ?_
    refine sr_goto (pc := 62) (off := 4) (tg := 66) (by decide +kernel) (by decide) ?_
    exact sr_wk (sr_mono (mc := 0) (ms := 0) (by omega) (by omega) (g11_holdersOf_66 l a0 a1 k5 k74 hk5 hk74 x4 (1 <<< (x4 &&& 31)) xs1 t)) ⟨rfl, ⟨rfl, ⟨rfl, ⟨rfl, trivial⟩⟩⟩⟩
def f11_holdersOf_5 (a0 : Int32) (a1 : Int32) (k74 : Int32 → sr_t → sr_Rs) : Nat → Int32 → Int32 → sr_t → sr_Rs
  | 0 => fun _ _ _ => none
  | n + 1 => fun x3 x4 t => (if (t.1 11 0 1) ≤ x4 then k74 x3 t else (if a0 = ((-1)) then k74 x3 t else (sr_bI (F11_cell x4 a0 t) (fun v1 t1 => (if v1 < 0 ∨ 768 ≤ v1.toNatClampNeg then none else (if (t1.1 40 0 v1.toNatClampNeg) ≤ 0 then f11_holdersOf_65 a0 a1 (f11_holdersOf_5 a0 a1 k74 n) k74 x4 x3 t1 else (if a0 < 0 ∨ 32 ≤ a0.toNatClampNeg then none else (if (t1.1 40 0 v1.toNatClampNeg) = (t1.1 38 0 a0.toNatClampNeg) then f11_holdersOf_54 a0 a1 (f11_holdersOf_5 a0 a1 k74 n) k74 x4 1 x3 t1 else f11_holdersOf_54 a0 a1 (f11_holdersOf_5 a0 a1 k74 n) k74 x4 0 x3 t1))))))))
theorem g11_holdersOf_5 (l : Launch) (a0 : Int32) (a1 : Int32)  (k74 : Int32 → sr_t → sr_Rs) (hk74 : ∀ (x3 : Int32), ∀ (t : sr_t), sr_g l sr_m11_holdersOf 74 [some (sr_r 11 0), some (sr_i a0), some (sr_i a1), some (sr_i x3), none, none] [] t (k74 x3 t) 0 0) : ∀ (n : Nat) (x3 : Int32) (x4 : Int32), ∀ (t : sr_t), sr_g l sr_m11_holdersOf 5 [some (sr_r 11 0), some (sr_i a0), some (sr_i a1), some (sr_i x3), some (sr_i x4), none] [] t (f11_holdersOf_5 a0 a1 k74 n x3 x4 t) 0 0 := by
  intro n
  induction n with
  | zero => intros; exact sr_Gn
  | succ n ih =>
    intro x3 x4  t
    unfold f11_holdersOf_5
    refine sr_iload (pc := 5) (i := 4) (by decide +kernel) rfl ?_
    refine sr_aloadn (pc := 7) (n := 0) (by decide +kernel) rfl ?_
    refine sr_gI (pc := 8) fg_11_100 (by decide +kernel) (sr_in11 _ (by omega)) (fun _ => rfl) ?_
    refine sr_icmp_ge (pc := 11) (off := 63) (tg := 74) (by decide +kernel) (by decide) (fun _ => ?_) (fun _ => ?_)
    · exact sr_wk (sr_mono (mc := 0) (ms := 0) (by omega) (by omega) (hk74 x3 t)) ⟨rfl, ⟨rfl, ⟨rfl, ⟨rfl, trivial⟩⟩⟩⟩
    · refine sr_iloadn (pc := 14) (n := 1) (by decide +kernel) rfl ?_
      refine sr_iconst (pc := 15) (n := (-1)) (v := (-1)) (by decide +kernel) rfl ?_
      refine sr_icmp_eq (pc := 16) (off := 58) (tg := 74) (by decide +kernel) (by decide) (fun _ => ?_) (fun _ => ?_)
      · exact sr_wk (sr_mono (mc := 0) (ms := 0) (by omega) (by omega) (hk74 x3 t)) ⟨rfl, ⟨rfl, ⟨rfl, ⟨rfl, trivial⟩⟩⟩⟩
      · refine sr_aloadn (pc := 19) (n := 0) (by decide +kernel) rfl ?_
        refine sr_gC (pc := 20) (i2 := 0) fg_11_68 (by decide +kernel) (sr_in11 _ (by omega)) (fun _ => rfl) ?_
        refine sr_iload (pc := 23) (i := 4) (by decide +kernel) rfl ?_
        refine sr_iloadn (pc := 25) (n := 1) (by decide +kernel) rfl ?_
        refine sr_cS (pc := 26) (As := [sr_i x4, sr_i a0]) (mc1 := 0) (ms1 := 0) (mc2 := 0) (ms2 := 0) fm_11_319 fl_11_319 (by decide +kernel) (rm_11_holdersOf_11_cell) rfl rfl rfl (C11_cell l x4 a0 t) ?_
        refine sr_kI (fun v1 t1 => ?_)
        refine sr_aI (pc := 29) (n := 768) rfl (by decide +kernel) (sr_in40 _ (by omega)) (fun _ _ => rfl) ?_
        refine sr_istore (pc := 30) (i := 5) (by decide +kernel) (by decide) rfl rfl ?_
        refine sr_iloadn (pc := 32) (n := 3) (by decide +kernel) rfl ?_
        refine sr_iload (pc := 33) (i := 5) (by decide +kernel) rfl ?_
        refine sr_if_le (pc := 35) (off := 30) (tg := 65) (by decide +kernel) (by decide) (fun _ => ?_) (fun _ => ?_)
        · exact sr_wk (sr_mono (mc := 0) (ms := 0) (by omega) (by omega) (g11_holdersOf_65 l a0 a1 (f11_holdersOf_5 a0 a1 k74 n) k74 ih hk74 x4 x3 t1)) ⟨rfl, ⟨rfl, ⟨rfl, ⟨rfl, trivial⟩⟩⟩⟩
        · refine sr_iload (pc := 38) (i := 5) (by decide +kernel) rfl ?_
          refine sr_aloadn (pc := 40) (n := 0) (by decide +kernel) rfl ?_
          refine sr_gC (pc := 41) (i2 := 0) fg_11_62 (by decide +kernel) (sr_in11 _ (by omega)) (fun _ => rfl) ?_
          refine sr_iloadn (pc := 44) (n := 1) (by decide +kernel) rfl ?_
          refine sr_aI (pc := 45) (n := 32) rfl (by decide +kernel) (sr_in38 _ (by omega)) (fun _ _ => rfl) ?_
          refine sr_icmp_ne (pc := 46) (off := 7) (tg := 53) (by decide +kernel) (by decide) (fun _ => ?_) (fun _ => ?_)
          · refine sr_iconst (pc := 53) (n := 0) (v := 0) (by decide +kernel) rfl ?_
            exact sr_wk (sr_mono (mc := 0) (ms := 0) (by omega) (by omega) (g11_holdersOf_54 l a0 a1 (f11_holdersOf_5 a0 a1 k74 n) k74 ih hk74 x4 0 x3 t1)) ⟨rfl, ⟨rfl, ⟨rfl, ⟨rfl, trivial⟩⟩⟩⟩
          · refine sr_iconst (pc := 49) (n := 1) (v := 1) (by decide +kernel) rfl ?_
            refine sr_goto (pc := 50) (off := 4) (tg := 54) (by decide +kernel) (by decide) ?_
            exact sr_wk (sr_mono (mc := 0) (ms := 0) (by omega) (by omega) (g11_holdersOf_54 l a0 a1 (f11_holdersOf_5 a0 a1 k74 n) k74 ih hk74 x4 1 x3 t1)) ⟨rfl, ⟨rfl, ⟨rfl, ⟨rfl, trivial⟩⟩⟩⟩
def f11_holdersOf_74 (a0 : Int32) (a1 : Int32)  : Int32 → sr_t → sr_Rs := fun x3 t => (some (.inl (some (sr_i x3)), t))
theorem g11_holdersOf_74 (l : Launch) (a0 : Int32) (a1 : Int32)    : ∀ (x3 : Int32), ∀ (t : sr_t), sr_g l sr_m11_holdersOf 74 [some (sr_r 11 0), some (sr_i a0), some (sr_i a1), some (sr_i x3), none, none] [] t (f11_holdersOf_74 a0 a1  x3 t) 0 0 := by
  intro x3  t
  unfold f11_holdersOf_74
  refine sr_iloadn (pc := 74) (n := 3) (by decide +kernel) rfl ?_
  exact sr_iret (pc := 75) (by decide +kernel) rfl
def F11_holdersOf (a0 : Int32) (a1 : Int32) (t : sr_t) : sr_Rs := f11_holdersOf_5 a0 a1 (f11_holdersOf_74 a0 a1) sr_fu 0 0 t
theorem C11_holdersOf (l : Launch) (a0 : Int32) (a1 : Int32)  (t : sr_t) : sr_ct' l sr_m11_holdersOf [sr_r 11 0, sr_i a0, sr_i a1] t (F11_holdersOf a0 a1 t) 0 0 := by
  refine sr_T_of (L0 := [some (sr_r 11 0), some (sr_i a0), some (sr_i a1), none, none, none]) rfl (by decide +kernel) (fun _ => rfl) (fun _ => Nat.le_of_ble_eq_true rfl) ?_
  unfold F11_holdersOf
  refine sr_iconst (pc := 0) (n := 0) (v := 0) (by decide +kernel) rfl ?_
  refine sr_istoren (pc := 1) (n := 3) (by decide +kernel) (by decide) rfl rfl ?_
  refine sr_iconst (pc := 2) (n := 0) (v := 0) (by decide +kernel) rfl ?_
  refine sr_istore (pc := 3) (i := 4) (by decide +kernel) (by decide) rfl rfl ?_
  exact sr_wk (sr_mono (mc := 0) (ms := 0) (by omega) (by omega) (g11_holdersOf_5 l a0 a1 (f11_holdersOf_74 a0 a1) (g11_holdersOf_74 l a0 a1) sr_fu 0 0 t)) ⟨rfl, ⟨rfl, ⟨rfl, ⟨rfl, ⟨rfl, trivial⟩⟩⟩⟩⟩
def f11_about_107 (a0 : Int32) (a1 : Int32)  : Int32 → sr_t → sr_Rs := fun xs0 t => (some (.inl (some (sr_i xs0)), t))
theorem g11_about_107 (l : Launch) (a0 : Int32) (a1 : Int32)    : ∀ (xs0 : Int32), ∀ (t : sr_t), sr_g l sr_m11_about 107 [some (sr_r 11 0), some (sr_i a0), some (sr_i a1), none] [sr_i xs0] t (f11_about_107 a0 a1  xs0 t) 0 0 := by
  intro xs0  t
  unfold f11_about_107
  exact sr_iret (pc := 107) (by decide +kernel) rfl
def f11_about_26 (a0 : Int32) (a1 : Int32)  : Int32 → sr_t → sr_Rs := fun xs0 t => (sr_lt (sr_u t 11 0 0 xs0) (fun t1 => (if (t1.1 11 0 0) ≤ 0 then (sr_bI (F11_knownAs a0 t1) (fun v2 t2 => (sr_sw 0 2 a1 ((if v2 = ((-1)) then f11_about_107 a0 a1 0 t2 else (if v2 < 0 ∨ 32 ≤ v2.toNatClampNeg then none else f11_about_107 a0 a1 (t2.1 38 0 v2.toNatClampNeg) t2))) (fun j => match j with | 0 => (sr_bI (F11_keepersOf a0 t2) (fun v3 t3 => (some (.inl (some (sr_i v3)), t3)))) | 1 => (sr_bI (F11_holdersOf v2 1 t2) (fun v4 t4 => (some (.inl (some (sr_i v4)), t4)))) | 2 => (sr_bI (F11_holdersOf v2 0 t2) (fun v5 t5 => (some (.inl (some (sr_i v5)), t5)))) | _ => none)))) else (some (.inl (some (sr_i 0)), t1)))))
theorem g11_about_26 (l : Launch) (a0 : Int32) (a1 : Int32)    : ∀ (xs0 : Int32), ∀ (t : sr_t), sr_g l sr_m11_about 26 [some (sr_r 11 0), some (sr_i a0), some (sr_i a1), none] [sr_i xs0, sr_r 11 0] t (f11_about_26 a0 a1  xs0 t) 0 0 := by
  intro xs0  t
  unfold f11_about_26
  refine sr_pI (pc := 26) fg_11_93 ft_11_0 (by decide +kernel) (sr_in11 _ (by omega)) (fun _ => rfl) (fun t1 => ?_)
  refine sr_aloadn (pc := 29) (n := 0) (by decide +kernel) rfl ?_
  refine sr_gI (pc := 30) fg_11_93 (by decide +kernel) (sr_in11 _ (by omega)) (fun _ => rfl) ?_
  refine sr_if_le (pc := 33) (off := 5) (tg := 38) (by decide +kernel) (by decide) (fun _ => ?_) (fun _ => ?_)
  · refine sr_aloadn (pc := 38) (n := 0) (by decide +kernel) rfl ?_
    refine sr_iloadn (pc := 39) (n := 1) (by decide +kernel) rfl ?_
    refine sr_cV (pc := 40) (As := [sr_i a0]) (mc1 := 0) (ms1 := 0) (mc2 := 0) (ms2 := 0) fm_11_322 fl_11_322 (by decide +kernel) (sr_in11 _ (by omega)) (rm_11_about_11_knownAs) rfl rfl rfl (C11_knownAs l a0 t1) ?_
    refine sr_kI (fun v2 t2 => ?_)
    refine sr_istoren (pc := 43) (n := 3) (by decide +kernel) (by decide) rfl rfl ?_
    refine sr_iloadn (pc := 44) (n := 2) (by decide +kernel) rfl ?_
    refine sr_tsw2 (pc := 45) (u := a1) (dflt := 47) (lo := 0) (hi := 2) (offs := #[27, 33, 40]) (len := 27) (tg := 92) (by decide +kernel) (by decide) (by decide) (fun _ => ?_) (fun j off ho _ => ?_)
    · refine sr_iloadn (pc := 92) (n := 3) (by decide +kernel) rfl ?_
      refine sr_iconst (pc := 93) (n := (-1)) (v := (-1)) (by decide +kernel) rfl ?_
      refine sr_icmp_ne (pc := 94) (off := 7) (tg := 101) (by decide +kernel) (by decide) (fun _ => ?_) (fun _ => ?_)
      · refine sr_aloadn (pc := 101) (n := 0) (by decide +kernel) rfl ?_
        refine sr_gC (pc := 102) (i2 := 0) fg_11_62 (by decide +kernel) (sr_in11 _ (by omega)) (fun _ => rfl) ?_
        refine sr_iloadn (pc := 105) (n := 3) (by decide +kernel) rfl ?_
        refine sr_aI (pc := 106) (n := 32) rfl (by decide +kernel) (sr_in38 _ (by omega)) (fun _ _ => rfl) ?_
        exact sr_wk (sr_mono (mc := 0) (ms := 0) (by omega) (by omega) (g11_about_107 l a0 a1 (t2.1 38 0 v2.toNatClampNeg) t2)) ⟨rfl, ⟨rfl, ⟨rfl, trivial⟩⟩⟩
      · refine sr_iconst (pc := 97) (n := 0) (v := 0) (by decide +kernel) rfl ?_
        refine sr_goto (pc := 98) (off := 9) (tg := 107) (by decide +kernel) (by decide) ?_
        exact sr_wk (sr_mono (mc := 0) (ms := 0) (by omega) (by omega) (g11_about_107 l a0 a1 0 t2)) ⟨rfl, ⟨rfl, ⟨rfl, trivial⟩⟩⟩
    · rcases j with _ | _ | _ | j
      · cases ho
        refine ⟨72, by decide, ?_⟩
        refine sr_aloadn (pc := 72) (n := 0) (by decide +kernel) rfl ?_
        refine sr_iloadn (pc := 73) (n := 1) (by decide +kernel) rfl ?_
        refine sr_cV (pc := 74) (As := [sr_i a0]) (mc1 := 0) (ms1 := 0) (mc2 := 0) (ms2 := 0) fm_11_335 fl_11_335 (by decide +kernel) (sr_in11 _ (by omega)) (rm_11_about_11_keepersOf) rfl rfl rfl (C11_keepersOf l a0 t2) ?_
        refine sr_kI (fun v3 t3 => ?_)
        exact sr_iret (pc := 77) (by decide +kernel) rfl
      · cases ho
        refine ⟨78, by decide, ?_⟩
        refine sr_aloadn (pc := 78) (n := 0) (by decide +kernel) rfl ?_
        refine sr_iloadn (pc := 79) (n := 3) (by decide +kernel) rfl ?_
        refine sr_iconst (pc := 80) (n := 1) (v := 1) (by decide +kernel) rfl ?_
        refine sr_cV (pc := 81) (As := [sr_i v2, sr_i 1]) (mc1 := 0) (ms1 := 0) (mc2 := 0) (ms2 := 0) fm_11_341 fl_11_341 (by decide +kernel) (sr_in11 _ (by omega)) (rm_11_about_11_holdersOf) rfl rfl rfl (C11_holdersOf l v2 1 t2) ?_
        refine sr_kI (fun v4 t4 => ?_)
        exact sr_iret (pc := 84) (by decide +kernel) rfl
      · cases ho
        refine ⟨85, by decide, ?_⟩
        refine sr_aloadn (pc := 85) (n := 0) (by decide +kernel) rfl ?_
        refine sr_iloadn (pc := 86) (n := 3) (by decide +kernel) rfl ?_
        refine sr_iconst (pc := 87) (n := 0) (v := 0) (by decide +kernel) rfl ?_
        refine sr_cV (pc := 88) (As := [sr_i v2, sr_i 0]) (mc1 := 0) (ms1 := 0) (mc2 := 0) (ms2 := 0) fm_11_341 fl_11_341 (by decide +kernel) (sr_in11 _ (by omega)) (rm_11_about_11_holdersOf) rfl rfl rfl (C11_holdersOf l v2 0 t2) ?_
        refine sr_kI (fun v5 t5 => ?_)
        exact sr_iret (pc := 91) (by decide +kernel) rfl
      · simp at ho
  · refine sr_iconst (pc := 36) (n := 0) (v := 0) (by decide +kernel) rfl ?_
    exact sr_iret (pc := 37) (by decide +kernel) rfl
def F11_about (a0 : Int32) (a1 : Int32) (t : sr_t) : sr_Rs := (sr_bI (F11_isIn a1 0 3 t) (fun v1 t1 => (if v1 = 0 then f11_about_26 a0 a1 1 t1 else (sr_bI (F11_isPlace a0 t1) (fun v2 t2 => (if v2 = 0 then f11_about_26 a0 a1 2 t2 else f11_about_26 a0 a1 0 t2))))))
theorem C11_about (l : Launch) (a0 : Int32) (a1 : Int32)  (t : sr_t) : sr_ct' l sr_m11_about [sr_r 11 0, sr_i a0, sr_i a1] t (F11_about a0 a1 t) 0 0 := by
  refine sr_T_of (L0 := [some (sr_r 11 0), some (sr_i a0), some (sr_i a1), none]) rfl (by decide +kernel) (fun _ => rfl) (fun _ => Nat.le_of_ble_eq_true rfl) ?_
  unfold F11_about
  refine sr_aloadn (pc := 0) (n := 0) (by decide +kernel) rfl ?_
  refine sr_iloadn (pc := 1) (n := 2) (by decide +kernel) rfl ?_
  refine sr_iconst (pc := 2) (n := 0) (v := 0) (by decide +kernel) rfl ?_
  refine sr_iconst (pc := 3) (n := 3) (v := 3) (by decide +kernel) rfl ?_
  refine sr_cS (pc := 4) (As := [sr_i a1, sr_i 0, sr_i 3]) (mc1 := 0) (ms1 := 0) (mc2 := 0) (ms2 := 0) fm_11_96 fl_11_96 (by decide +kernel) (rm_11_about_11_isIn) rfl rfl rfl (C11_isIn l a1 0 3 t) ?_
  refine sr_kI (fun v1 t1 => ?_)
  refine sr_if_ne (pc := 7) (off := 7) (tg := 14) (by decide +kernel) (by decide) (fun _ => ?_) (fun _ => ?_)
  · refine sr_iloadn (pc := 14) (n := 1) (by decide +kernel) rfl ?_
    refine sr_cS (pc := 15) (As := [sr_i a0]) (mc1 := 0) (ms1 := 0) (mc2 := 0) (ms2 := 0) fm_11_133 fl_11_133 (by decide +kernel) (rm_11_about_11_isPlace) rfl rfl rfl (C11_isPlace l a0 t1) ?_
    refine sr_kI (fun v2 t2 => ?_)
    refine sr_if_ne (pc := 18) (off := 7) (tg := 25) (by decide +kernel) (by decide) (fun _ => ?_) (fun _ => ?_)
    · refine sr_iconst (pc := 25) (n := 0) (v := 0) (by decide +kernel) rfl ?_
      exact sr_wk (sr_mono (mc := 0) (ms := 0) (by omega) (by omega) (g11_about_26 l a0 a1 0 t2)) ⟨rfl, ⟨rfl, ⟨rfl, trivial⟩⟩⟩
    · refine sr_iconst (pc := 21) (n := 2) (v := 2) (by decide +kernel) rfl ?_
      refine sr_goto (pc := 22) (off := 4) (tg := 26) (by decide +kernel) (by decide) ?_
      exact sr_wk (sr_mono (mc := 0) (ms := 0) (by omega) (by omega) (g11_about_26 l a0 a1 2 t2)) ⟨rfl, ⟨rfl, ⟨rfl, trivial⟩⟩⟩
  · refine sr_iconst (pc := 10) (n := 1) (v := 1) (by decide +kernel) rfl ?_
    refine sr_goto (pc := 11) (off := 15) (tg := 26) (by decide +kernel) (by decide) ?_
    exact sr_wk (sr_mono (mc := 0) (ms := 0) (by omega) (by omega) (g11_about_26 l a0 a1 1 t1)) ⟨rfl, ⟨rfl, ⟨rfl, trivial⟩⟩⟩
def sr_m11_width : sr_M := (⟨"ShiftRingModel", "width", "()I"⟩, prog_13_method_83_code, 4, (some .int), [], 4, 93)
def sr_m11_measure : sr_M := (⟨"ShiftRingModel", "measure", "(II)I"⟩, prog_13_method_101_code, 3, (some .int), [], 9, 212)
def sr_m11_mostOf : sr_M := (⟨"ShiftRingModel", "mostOf", "(I)I"⟩, prog_13_method_100_code, 6, (some .int), [], 10, 234)
def sr_m11_mostLinks : sr_M := (⟨"ShiftRingModel", "mostLinks", "()I"⟩, prog_13_method_102_code, 2, (some .int), [], 11, 259)
def sr_m11_firstToMend : sr_M := (⟨"ShiftRingModel", "firstToMend", "()I"⟩, prog_13_method_61_code, 4, (some .int), [], 8, 191)
def sr_m11_lostKeys : sr_M := (⟨"ShiftRingModel", "lostKeys", "()I"⟩, prog_13_method_99_code, 5, (some .int), [], 2, 46)
def sr_m11_gap : sr_M := (⟨"ShiftRingModel", "gap", "()I"⟩, prog_13_method_103_code, 5, (some .int), [], 2, 44)
def sr_m11_split : sr_M := (⟨"ShiftRingModel", "split", "()I"⟩, prog_13_method_104_code, 5, (some .int), [], 11, 259)
def sr_m11_busiest : sr_M := (⟨"ShiftRingModel", "busiest", "()I"⟩, prog_13_method_105_code, 1, (some .int), [], 11, 259)
def sr_m11_count : sr_M := (⟨"ShiftRingModel", "count", "(I)I"⟩, prog_13_method_106_code, 2, (some .int), [], 12, 283)
theorem fl_11_344 : Cond.methodLink "ShiftRingModel" 344 (sr_My sr_m11_measure) ∈ sr_TB := (sr_tb (n := 1931) (by decide +kernel) rfl)
theorem fm_11_344 : sr_FV "ShiftRingModel" 344 sr_m11_measure 11 2 := ⟨⟨rfl, sr_tb (n := 1934) (by decide +kernel) rfl, sr_tb (n := 12) (by decide +kernel) rfl, ⟨by decide, by decide, by decide +kernel⟩, Or.inl fl_11_344⟩, ⟨TX11, 53, rfl, rfl⟩, sr_tb (n := 1933) (by decide +kernel) rfl, sr_ts (n := 91) (by decide +kernel) rfl⟩
theorem fl_11_347 : Cond.methodLink "ShiftRingModel" 347 (sr_My sr_mn_bitCount) ∈ sr_TB := (sr_tb (n := 1935) (by decide +kernel) rfl)
theorem fm_11_347 : sr_FS "ShiftRingModel" 347 sr_mn_bitCount 1 := ⟨⟨rfl, sr_tb (n := 704) (by decide +kernel) rfl, sr_tb (n := 22) (by decide +kernel) rfl, ⟨by decide, by decide, by decide +kernel⟩, Or.inl fl_11_347⟩, sr_tb (n := 703) (by decide +kernel) rfl⟩
theorem fl_11_352 : Cond.methodLink "ShiftRingModel" 352 (sr_My sr_m11_mostOf) ∈ sr_TB := (sr_tb (n := 1927) (by decide +kernel) rfl)
theorem fm_11_352 : sr_FV "ShiftRingModel" 352 sr_m11_mostOf 11 1 := ⟨⟨rfl, sr_tb (n := 1930) (by decide +kernel) rfl, sr_tb (n := 12) (by decide +kernel) rfl, ⟨by decide, by decide, by decide +kernel⟩, Or.inl fl_11_352⟩, ⟨TX11, 53, rfl, rfl⟩, sr_tb (n := 1929) (by decide +kernel) rfl, sr_ts (n := 90) (by decide +kernel) rfl⟩
theorem fl_11_355 : Cond.methodLink "ShiftRingModel" 355 (sr_My sr_m11_width) ∈ sr_TB := (sr_tb (n := 1923) (by decide +kernel) rfl)
theorem fm_11_355 : sr_FV "ShiftRingModel" 355 sr_m11_width 11 0 := ⟨⟨rfl, sr_tb (n := 1926) (by decide +kernel) rfl, sr_tb (n := 12) (by decide +kernel) rfl, ⟨by decide, by decide, by decide +kernel⟩, Or.inl fl_11_355⟩, ⟨TX11, 53, rfl, rfl⟩, sr_tb (n := 1925) (by decide +kernel) rfl, sr_ts (n := 89) (by decide +kernel) rfl⟩
theorem fl_11_358 : Cond.methodLink "ShiftRingModel" 358 (sr_My sr_m11_mostLinks) ∈ sr_TB := (sr_tb (n := 1936) (by decide +kernel) rfl)
theorem fm_11_358 : sr_FV "ShiftRingModel" 358 sr_m11_mostLinks 11 0 := ⟨⟨rfl, sr_tb (n := 1939) (by decide +kernel) rfl, sr_tb (n := 12) (by decide +kernel) rfl, ⟨by decide, by decide, by decide +kernel⟩, Or.inl fl_11_358⟩, ⟨TX11, 53, rfl, rfl⟩, sr_tb (n := 1938) (by decide +kernel) rfl, sr_ts (n := 92) (by decide +kernel) rfl⟩
theorem fl_11_361 : Cond.methodLink "ShiftRingModel" 361 (sr_My sr_m11_firstToMend) ∈ sr_TB := (sr_tb (n := 1940) (by decide +kernel) rfl)
theorem fm_11_361 : sr_FV "ShiftRingModel" 361 sr_m11_firstToMend 11 0 := ⟨⟨rfl, sr_tb (n := 1943) (by decide +kernel) rfl, sr_tb (n := 12) (by decide +kernel) rfl, ⟨by decide, by decide, by decide +kernel⟩, Or.inl fl_11_361⟩, ⟨TX11, 53, rfl, rfl⟩, sr_tb (n := 1942) (by decide +kernel) rfl, sr_ts (n := 93) (by decide +kernel) rfl⟩
theorem fl_11_364 : Cond.methodLink "ShiftRingModel" 364 (sr_My sr_m11_lostKeys) ∈ sr_TB := (sr_tb (n := 1944) (by decide +kernel) rfl)
theorem fm_11_364 : sr_FV "ShiftRingModel" 364 sr_m11_lostKeys 11 0 := ⟨⟨rfl, sr_tb (n := 1947) (by decide +kernel) rfl, sr_tb (n := 12) (by decide +kernel) rfl, ⟨by decide, by decide, by decide +kernel⟩, Or.inl fl_11_364⟩, ⟨TX11, 53, rfl, rfl⟩, sr_tb (n := 1946) (by decide +kernel) rfl, sr_ts (n := 94) (by decide +kernel) rfl⟩
theorem fl_11_367 : Cond.methodLink "ShiftRingModel" 367 (sr_My sr_m11_gap) ∈ sr_TB := (sr_tb (n := 1948) (by decide +kernel) rfl)
theorem fm_11_367 : sr_FV "ShiftRingModel" 367 sr_m11_gap 11 0 := ⟨⟨rfl, sr_tb (n := 1951) (by decide +kernel) rfl, sr_tb (n := 12) (by decide +kernel) rfl, ⟨by decide, by decide, by decide +kernel⟩, Or.inl fl_11_367⟩, ⟨TX11, 53, rfl, rfl⟩, sr_tb (n := 1950) (by decide +kernel) rfl, sr_ts (n := 95) (by decide +kernel) rfl⟩
theorem fl_11_370 : Cond.methodLink "ShiftRingModel" 370 (sr_My sr_m11_split) ∈ sr_TB := (sr_tb (n := 1952) (by decide +kernel) rfl)
theorem fm_11_370 : sr_FV "ShiftRingModel" 370 sr_m11_split 11 0 := ⟨⟨rfl, sr_tb (n := 1955) (by decide +kernel) rfl, sr_tb (n := 12) (by decide +kernel) rfl, ⟨by decide, by decide, by decide +kernel⟩, Or.inl fl_11_370⟩, ⟨TX11, 53, rfl, rfl⟩, sr_tb (n := 1954) (by decide +kernel) rfl, sr_ts (n := 96) (by decide +kernel) rfl⟩
theorem fl_11_373 : Cond.methodLink "ShiftRingModel" 373 (sr_My sr_m11_busiest) ∈ sr_TB := (sr_tb (n := 1956) (by decide +kernel) rfl)
theorem fm_11_373 : sr_FV "ShiftRingModel" 373 sr_m11_busiest 11 0 := ⟨⟨rfl, sr_tb (n := 1959) (by decide +kernel) rfl, sr_tb (n := 12) (by decide +kernel) rfl, ⟨by decide, by decide, by decide +kernel⟩, Or.inl fl_11_373⟩, ⟨TX11, 53, rfl, rfl⟩, sr_tb (n := 1958) (by decide +kernel) rfl, sr_ts (n := 97) (by decide +kernel) rfl⟩
theorem rm_11_busiest_11_mostOf : sr_RM sr_m11_busiest sr_m11_mostOf := ⟨Nat.le_of_ble_eq_true rfl, Nat.le_of_ble_eq_true rfl⟩
theorem rm_11_busiest_11_samples : sr_RM sr_m11_busiest sr_m11_samples := ⟨Nat.le_of_ble_eq_true rfl, Nat.le_of_ble_eq_true rfl⟩
theorem rm_11_count_11_busiest : sr_RM sr_m11_count sr_m11_busiest := ⟨Nat.le_of_ble_eq_true rfl, Nat.le_of_ble_eq_true rfl⟩
theorem rm_11_count_11_firstToMend : sr_RM sr_m11_count sr_m11_firstToMend := ⟨Nat.le_of_ble_eq_true rfl, Nat.le_of_ble_eq_true rfl⟩
theorem rm_11_count_11_gap : sr_RM sr_m11_count sr_m11_gap := ⟨Nat.le_of_ble_eq_true rfl, Nat.le_of_ble_eq_true rfl⟩
theorem rm_11_count_11_letters : sr_RM sr_m11_count sr_m11_letters := ⟨Nat.le_of_ble_eq_true rfl, Nat.le_of_ble_eq_true rfl⟩
theorem rm_11_count_11_lostKeys : sr_RM sr_m11_count sr_m11_lostKeys := ⟨Nat.le_of_ble_eq_true rfl, Nat.le_of_ble_eq_true rfl⟩
theorem rm_11_count_11_mostLinks : sr_RM sr_m11_count sr_m11_mostLinks := ⟨Nat.le_of_ble_eq_true rfl, Nat.le_of_ble_eq_true rfl⟩
theorem rm_11_count_11_mostOf : sr_RM sr_m11_count sr_m11_mostOf := ⟨Nat.le_of_ble_eq_true rfl, Nat.le_of_ble_eq_true rfl⟩
theorem rm_11_count_11_split : sr_RM sr_m11_count sr_m11_split := ⟨Nat.le_of_ble_eq_true rfl, Nat.le_of_ble_eq_true rfl⟩
theorem rm_11_count_11_staleAll : sr_RM sr_m11_count sr_m11_staleAll := ⟨Nat.le_of_ble_eq_true rfl, Nat.le_of_ble_eq_true rfl⟩
theorem rm_11_count_11_ups : sr_RM sr_m11_count sr_m11_ups := ⟨Nat.le_of_ble_eq_true rfl, Nat.le_of_ble_eq_true rfl⟩
theorem rm_11_count_11_width : sr_RM sr_m11_count sr_m11_width := ⟨Nat.le_of_ble_eq_true rfl, Nat.le_of_ble_eq_true rfl⟩
theorem rm_11_firstToMend_11_laysNow : sr_RM sr_m11_firstToMend sr_m11_laysNow := ⟨Nat.le_of_ble_eq_true rfl, Nat.le_of_ble_eq_true rfl⟩
theorem rm_11_firstToMend_11_putsAside : sr_RM sr_m11_firstToMend sr_m11_putsAside := ⟨Nat.le_of_ble_eq_true rfl, Nat.le_of_ble_eq_true rfl⟩
theorem rm_11_firstToMend_11_putsBack : sr_RM sr_m11_firstToMend sr_m11_putsBack := ⟨Nat.le_of_ble_eq_true rfl, Nat.le_of_ble_eq_true rfl⟩
theorem rm_11_firstToMend_11_samples : sr_RM sr_m11_firstToMend sr_m11_samples := ⟨Nat.le_of_ble_eq_true rfl, Nat.le_of_ble_eq_true rfl⟩
theorem rm_11_gap_11_loadOf : sr_RM sr_m11_gap sr_m11_loadOf := ⟨Nat.le_of_ble_eq_true rfl, Nat.le_of_ble_eq_true rfl⟩
theorem rm_11_lostKeys_11_holdersOf : sr_RM sr_m11_lostKeys sr_m11_holdersOf := ⟨Nat.le_of_ble_eq_true rfl, Nat.le_of_ble_eq_true rfl⟩
theorem rm_11_measure_11_harmOf : sr_RM sr_m11_measure sr_m11_harmOf := ⟨Nat.le_of_ble_eq_true rfl, Nat.le_of_ble_eq_true rfl⟩
theorem rm_11_measure_11_linksOf : sr_RM sr_m11_measure sr_m11_linksOf := ⟨Nat.le_of_ble_eq_true rfl, Nat.le_of_ble_eq_true rfl⟩
theorem rm_11_measure_11_loadOf : sr_RM sr_m11_measure sr_m11_loadOf := ⟨Nat.le_of_ble_eq_true rfl, Nat.le_of_ble_eq_true rfl⟩
theorem rm_11_measure_n_bitCount : sr_RM sr_m11_measure sr_mn_bitCount := ⟨Nat.le_of_ble_eq_true rfl, Nat.le_of_ble_eq_true rfl⟩
theorem rm_11_mostLinks_11_measure : sr_RM sr_m11_mostLinks sr_m11_measure := ⟨Nat.le_of_ble_eq_true rfl, Nat.le_of_ble_eq_true rfl⟩
theorem rm_11_mostLinks_11_mostOf : sr_RM sr_m11_mostLinks sr_m11_mostOf := ⟨Nat.le_of_ble_eq_true rfl, Nat.le_of_ble_eq_true rfl⟩
theorem rm_11_mostOf_11_measure : sr_RM sr_m11_mostOf sr_m11_measure := ⟨Nat.le_of_ble_eq_true rfl, Nat.le_of_ble_eq_true rfl⟩
theorem rm_11_split_11_loadOf : sr_RM sr_m11_split sr_m11_loadOf := ⟨Nat.le_of_ble_eq_true rfl, Nat.le_of_ble_eq_true rfl⟩
theorem rm_11_split_11_mostOf : sr_RM sr_m11_split sr_m11_mostOf := ⟨Nat.le_of_ble_eq_true rfl, Nat.le_of_ble_eq_true rfl⟩
theorem rm_11_width_11_spreads : sr_RM sr_m11_width sr_m11_spreads := ⟨Nat.le_of_ble_eq_true rfl, Nat.le_of_ble_eq_true rfl⟩
def f11_width_86  (k4 : Int32 → Int32 → sr_t → sr_Rs) (k61 : sr_t → sr_Rs) (k92 : Int32 → sr_t → sr_Rs) : Int32 → Int32 → sr_t → sr_Rs := fun x1 x2 t => k4 x1 (x2 + 1) t
theorem g11_width_86 (l : Launch)   (k4 : Int32 → Int32 → sr_t → sr_Rs) (k61 : sr_t → sr_Rs) (k92 : Int32 → sr_t → sr_Rs) (hk4 : ∀ (x1 : Int32) (x2 : Int32), ∀ (t : sr_t), sr_g l sr_m11_width 4 [some (sr_r 11 0), some (sr_i x1), some (sr_i x2), none] [] t (k4 x1 x2 t) 0 0) (hk61 : ∀ (t : sr_t), sr_g l sr_m11_width 61 [some (sr_r 11 0), none, none, none] [] t (k61 t) 0 0) (hk92 : ∀ (x1 : Int32), ∀ (t : sr_t), sr_g l sr_m11_width 92 [some (sr_r 11 0), some (sr_i x1), none, none] [] t (k92 x1 t) 0 0) : ∀ (x1 : Int32) (x2 : Int32), ∀ (t : sr_t), sr_g l sr_m11_width 86 [some (sr_r 11 0), some (sr_i x1), some (sr_i x2), none] [] t (f11_width_86  k4 k61 k92 x1 x2 t) 0 0 := by
  intro x1 x2  t
  unfold f11_width_86
  refine sr_iinc (pc := 86) (i := 2) (n := 1) (w := x2 + 1) (by decide +kernel) rfl rfl (by decide) rfl rfl ?_
  refine sr_goto (pc := 89) (off := (-85)) (tg := 4) (by decide +kernel) (by decide) ?_
  exact sr_wk (sr_mono (mc := 0) (ms := 0) (by omega) (by omega) (hk4 x1 (x2 + 1) t)) ⟨rfl, ⟨rfl, ⟨rfl, trivial⟩⟩⟩
def f11_width_80  (k31 : Int32 → Int32 → Int32 → sr_t → sr_Rs) (k61 : sr_t → sr_Rs) (k86 : Int32 → Int32 → sr_t → sr_Rs) : Int32 → Int32 → Int32 → sr_t → sr_Rs := fun x1 x2 x3 t => k31 x1 x2 (x3 + 1) t
theorem g11_width_80 (l : Launch)   (k31 : Int32 → Int32 → Int32 → sr_t → sr_Rs) (k61 : sr_t → sr_Rs) (k86 : Int32 → Int32 → sr_t → sr_Rs) (hk31 : ∀ (x1 : Int32) (x2 : Int32) (x3 : Int32), ∀ (t : sr_t), sr_g l sr_m11_width 31 [some (sr_r 11 0), some (sr_i x1), some (sr_i x2), some (sr_i x3)] [] t (k31 x1 x2 x3 t) 0 0) (hk61 : ∀ (t : sr_t), sr_g l sr_m11_width 61 [some (sr_r 11 0), none, none, none] [] t (k61 t) 0 0) (hk86 : ∀ (x1 : Int32) (x2 : Int32), ∀ (t : sr_t), sr_g l sr_m11_width 86 [some (sr_r 11 0), some (sr_i x1), some (sr_i x2), none] [] t (k86 x1 x2 t) 0 0) : ∀ (x1 : Int32) (x2 : Int32) (x3 : Int32), ∀ (t : sr_t), sr_g l sr_m11_width 80 [some (sr_r 11 0), some (sr_i x1), some (sr_i x2), some (sr_i x3)] [] t (f11_width_80  k31 k61 k86 x1 x2 x3 t) 0 0 := by
  intro x1 x2 x3  t
  unfold f11_width_80
  refine sr_iinc (pc := 80) (i := 3) (n := 1) (w := x3 + 1) (by decide +kernel) rfl rfl (by decide) rfl rfl ?_
  refine sr_goto (pc := 83) (off := (-52)) (tg := 31) (by decide +kernel) (by decide) ?_
  exact sr_wk (sr_mono (mc := 0) (ms := 0) (by omega) (by omega) (hk31 x1 x2 (x3 + 1) t)) ⟨rfl, ⟨rfl, ⟨rfl, ⟨rfl, trivial⟩⟩⟩⟩
def f11_width_31  (k61 : sr_t → sr_Rs) (k86 : Int32 → Int32 → sr_t → sr_Rs) : Nat → Int32 → Int32 → Int32 → sr_t → sr_Rs
  | 0 => fun _ _ _ _ => none
  | n + 1 => fun x1 x2 x3 t => (if (t.1 11 0 1) ≤ x3 then k86 x1 x2 t else (if x3 < 0 ∨ 24 ≤ x3.toNatClampNeg then none else (if (t.1 25 0 x3.toNatClampNeg) = 0 then f11_width_80 (f11_width_31 k61 k86 n) k61 k86 x1 x2 x3 t else (if x3 < 0 ∨ 24 ≤ x3.toNatClampNeg then none else (if (t.1 43 0 x3.toNatClampNeg) = ((-1)) then k61 t else (if x3 < 0 ∨ 24 ≤ x3.toNatClampNeg then none else (if (t.1 43 0 x3.toNatClampNeg) ≤ x1 then f11_width_80 (f11_width_31 k61 k86 n) k61 k86 x1 x2 x3 t else (if x3 < 0 ∨ 24 ≤ x3.toNatClampNeg then none else f11_width_80 (f11_width_31 k61 k86 n) k61 k86 (t.1 43 0 x3.toNatClampNeg) x2 x3 t))))))))
theorem g11_width_31 (l : Launch)   (k61 : sr_t → sr_Rs) (k86 : Int32 → Int32 → sr_t → sr_Rs) (hk61 : ∀ (t : sr_t), sr_g l sr_m11_width 61 [some (sr_r 11 0), none, none, none] [] t (k61 t) 0 0) (hk86 : ∀ (x1 : Int32) (x2 : Int32), ∀ (t : sr_t), sr_g l sr_m11_width 86 [some (sr_r 11 0), some (sr_i x1), some (sr_i x2), none] [] t (k86 x1 x2 t) 0 0) : ∀ (n : Nat) (x1 : Int32) (x2 : Int32) (x3 : Int32), ∀ (t : sr_t), sr_g l sr_m11_width 31 [some (sr_r 11 0), some (sr_i x1), some (sr_i x2), some (sr_i x3)] [] t (f11_width_31  k61 k86 n x1 x2 x3 t) 0 0 := by
  intro n
  induction n with
  | zero => intros; exact sr_Gn
  | succ n ih =>
    intro x1 x2 x3  t
    unfold f11_width_31
    refine sr_iloadn (pc := 31) (n := 3) (by decide +kernel) rfl ?_
    refine sr_aloadn (pc := 32) (n := 0) (by decide +kernel) rfl ?_
    refine sr_gI (pc := 33) fg_11_100 (by decide +kernel) (sr_in11 _ (by omega)) (fun _ => rfl) ?_
    refine sr_icmp_ge (pc := 36) (off := 50) (tg := 86) (by decide +kernel) (by decide) (fun _ => ?_) (fun _ => ?_)
    · exact sr_wk (sr_mono (mc := 0) (ms := 0) (by omega) (by omega) (hk86 x1 x2 t)) ⟨rfl, ⟨rfl, ⟨rfl, trivial⟩⟩⟩
    · refine sr_aloadn (pc := 39) (n := 0) (by decide +kernel) rfl ?_
      refine sr_gC (pc := 40) (i2 := 0) fg_11_13 (by decide +kernel) (sr_in11 _ (by omega)) (fun _ => rfl) ?_
      refine sr_iloadn (pc := 43) (n := 3) (by decide +kernel) rfl ?_
      refine sr_aI (pc := 44) (n := 24) rfl (by decide +kernel) (sr_in25 _ (by omega)) (fun _ _ => rfl) ?_
      refine sr_if_ne (pc := 45) (off := 6) (tg := 51) (by decide +kernel) (by decide) (fun _ => ?_) (fun _ => ?_)
      · refine sr_aloadn (pc := 51) (n := 0) (by decide +kernel) rfl ?_
        refine sr_gC (pc := 52) (i2 := 0) fg_11_77 (by decide +kernel) (sr_in11 _ (by omega)) (fun _ => rfl) ?_
        refine sr_iloadn (pc := 55) (n := 3) (by decide +kernel) rfl ?_
        refine sr_aI (pc := 56) (n := 24) rfl (by decide +kernel) (sr_in43 _ (by omega)) (fun _ _ => rfl) ?_
        refine sr_iconst (pc := 57) (n := (-1)) (v := (-1)) (by decide +kernel) rfl ?_
        refine sr_icmp_ne (pc := 58) (off := 5) (tg := 63) (by decide +kernel) (by decide) (fun _ => ?_) (fun _ => ?_)
        · refine sr_aloadn (pc := 63) (n := 0) (by decide +kernel) rfl ?_
          refine sr_gC (pc := 64) (i2 := 0) fg_11_77 (by decide +kernel) (sr_in11 _ (by omega)) (fun _ => rfl) ?_
          refine sr_iloadn (pc := 67) (n := 3) (by decide +kernel) rfl ?_
          refine sr_aI (pc := 68) (n := 24) rfl (by decide +kernel) (sr_in43 _ (by omega)) (fun _ _ => rfl) ?_
          refine sr_iloadn (pc := 69) (n := 1) (by decide +kernel) rfl ?_
          refine sr_icmp_le (pc := 70) (off := 10) (tg := 80) (by decide +kernel) (by decide) (fun _ => ?_) (fun _ => ?_)
          · exact sr_wk (sr_mono (mc := 0) (ms := 0) (by omega) (by omega) (g11_width_80 l (f11_width_31 k61 k86 n) k61 k86 ih hk61 hk86 x1 x2 x3 t)) ⟨rfl, ⟨rfl, ⟨rfl, ⟨rfl, trivial⟩⟩⟩⟩
          · refine sr_aloadn (pc := 73) (n := 0) (by decide +kernel) rfl ?_
            refine sr_gC (pc := 74) (i2 := 0) fg_11_77 (by decide +kernel) (sr_in11 _ (by omega)) (fun _ => rfl) ?_
            refine sr_iloadn (pc := 77) (n := 3) (by decide +kernel) rfl ?_
            refine sr_aI (pc := 78) (n := 24) rfl (by decide +kernel) (sr_in43 _ (by omega)) (fun _ _ => rfl) ?_
            refine sr_istoren (pc := 79) (n := 1) (by decide +kernel) (by decide) rfl rfl ?_
            exact sr_wk (sr_mono (mc := 0) (ms := 0) (by omega) (by omega) (g11_width_80 l (f11_width_31 k61 k86 n) k61 k86 ih hk61 hk86 (t.1 43 0 x3.toNatClampNeg) x2 x3 t)) ⟨rfl, ⟨rfl, ⟨rfl, ⟨rfl, trivial⟩⟩⟩⟩
        · exact sr_wk (sr_mono (mc := 0) (ms := 0) (by omega) (by omega) (hk61 t)) ⟨rfl, trivial⟩
      · refine sr_goto (pc := 48) (off := 32) (tg := 80) (by decide +kernel) (by decide) ?_
        exact sr_wk (sr_mono (mc := 0) (ms := 0) (by omega) (by omega) (g11_width_80 l (f11_width_31 k61 k86 n) k61 k86 ih hk61 hk86 x1 x2 x3 t)) ⟨rfl, ⟨rfl, ⟨rfl, ⟨rfl, trivial⟩⟩⟩⟩
def f11_width_4  (k61 : sr_t → sr_Rs) (k92 : Int32 → sr_t → sr_Rs) : Nat → Int32 → Int32 → sr_t → sr_Rs
  | 0 => fun _ _ _ => none
  | n + 1 => fun x1 x2 t => (if (t.1 11 0 1) ≤ x2 then k92 x1 t else (if x2 < 0 ∨ 24 ≤ x2.toNatClampNeg then none else (if (t.1 25 0 x2.toNatClampNeg) = 0 then f11_width_86 (f11_width_4 k61 k92 n) k61 k92 x1 x2 t else (sr_bV (F11_spreads x2 t) (fun t1 => f11_width_31 k61 (f11_width_86 (f11_width_4 k61 k92 n) k61 k92) sr_fu x1 x2 0 t1)))))
theorem g11_width_4 (l : Launch)   (k61 : sr_t → sr_Rs) (k92 : Int32 → sr_t → sr_Rs) (hk61 : ∀ (t : sr_t), sr_g l sr_m11_width 61 [some (sr_r 11 0), none, none, none] [] t (k61 t) 0 0) (hk92 : ∀ (x1 : Int32), ∀ (t : sr_t), sr_g l sr_m11_width 92 [some (sr_r 11 0), some (sr_i x1), none, none] [] t (k92 x1 t) 0 0) : ∀ (n : Nat) (x1 : Int32) (x2 : Int32), ∀ (t : sr_t), sr_g l sr_m11_width 4 [some (sr_r 11 0), some (sr_i x1), some (sr_i x2), none] [] t (f11_width_4  k61 k92 n x1 x2 t) 0 0 := by
  intro n
  induction n with
  | zero => intros; exact sr_Gn
  | succ n ih =>
    intro x1 x2  t
    unfold f11_width_4
    refine sr_iloadn (pc := 4) (n := 2) (by decide +kernel) rfl ?_
    refine sr_aloadn (pc := 5) (n := 0) (by decide +kernel) rfl ?_
    refine sr_gI (pc := 6) fg_11_100 (by decide +kernel) (sr_in11 _ (by omega)) (fun _ => rfl) ?_
    refine sr_icmp_ge (pc := 9) (off := 83) (tg := 92) (by decide +kernel) (by decide) (fun _ => ?_) (fun _ => ?_)
    · exact sr_wk (sr_mono (mc := 0) (ms := 0) (by omega) (by omega) (hk92 x1 t)) ⟨rfl, ⟨rfl, trivial⟩⟩
    · refine sr_aloadn (pc := 12) (n := 0) (by decide +kernel) rfl ?_
      refine sr_gC (pc := 13) (i2 := 0) fg_11_13 (by decide +kernel) (sr_in11 _ (by omega)) (fun _ => rfl) ?_
      refine sr_iloadn (pc := 16) (n := 2) (by decide +kernel) rfl ?_
      refine sr_aI (pc := 17) (n := 24) rfl (by decide +kernel) (sr_in25 _ (by omega)) (fun _ _ => rfl) ?_
      refine sr_if_ne (pc := 18) (off := 6) (tg := 24) (by decide +kernel) (by decide) (fun _ => ?_) (fun _ => ?_)
      · refine sr_aloadn (pc := 24) (n := 0) (by decide +kernel) rfl ?_
        refine sr_iloadn (pc := 25) (n := 2) (by decide +kernel) rfl ?_
        refine sr_cV (pc := 26) (As := [sr_i x2]) (mc1 := 0) (ms1 := 0) (mc2 := 0) (ms2 := 0) fm_11_310 fl_11_310 (by decide +kernel) (sr_in11 _ (by omega)) (rm_11_width_11_spreads) rfl rfl rfl (C11_spreads l x2 t) ?_
        refine sr_kV (fun t1 => ?_)
        refine sr_iconst (pc := 29) (n := 0) (v := 0) (by decide +kernel) rfl ?_
        refine sr_istoren (pc := 30) (n := 3) (by decide +kernel) (by decide) rfl rfl ?_
        exact sr_wk (sr_mono (mc := 0) (ms := 0) (by omega) (by omega) (g11_width_31 l k61 (f11_width_86 (f11_width_4 k61 k92 n) k61 k92) hk61 (g11_width_86 l (f11_width_4 k61 k92 n) k61 k92 ih hk61 hk92) sr_fu x1 x2 0 t1)) ⟨rfl, ⟨rfl, ⟨rfl, ⟨rfl, trivial⟩⟩⟩⟩
      · refine sr_goto (pc := 21) (off := 65) (tg := 86) (by decide +kernel) (by decide) ?_
        exact sr_wk (sr_mono (mc := 0) (ms := 0) (by omega) (by omega) (g11_width_86 l (f11_width_4 k61 k92 n) k61 k92 ih hk61 hk92 x1 x2 t)) ⟨rfl, ⟨rfl, ⟨rfl, trivial⟩⟩⟩
def f11_width_61   : sr_t → sr_Rs := fun  t => (some (.inl (some (sr_i ((-1)))), t))
theorem g11_width_61 (l : Launch)     : ∀ (t : sr_t), sr_g l sr_m11_width 61 [some (sr_r 11 0), none, none, none] [] t (f11_width_61    t) 0 0 := by
  intro t
  unfold f11_width_61
  refine sr_iconst (pc := 61) (n := (-1)) (v := (-1)) (by decide +kernel) rfl ?_
  exact sr_iret (pc := 62) (by decide +kernel) rfl
def f11_width_92   : Int32 → sr_t → sr_Rs := fun x1 t => (some (.inl (some (sr_i x1)), t))
theorem g11_width_92 (l : Launch)     : ∀ (x1 : Int32), ∀ (t : sr_t), sr_g l sr_m11_width 92 [some (sr_r 11 0), some (sr_i x1), none, none] [] t (f11_width_92   x1 t) 0 0 := by
  intro x1  t
  unfold f11_width_92
  refine sr_iloadn (pc := 92) (n := 1) (by decide +kernel) rfl ?_
  exact sr_iret (pc := 93) (by decide +kernel) rfl
def F11_width  (t : sr_t) : sr_Rs := f11_width_4 f11_width_61 f11_width_92 sr_fu 0 0 t
theorem C11_width (l : Launch)   (t : sr_t) : sr_ct' l sr_m11_width [sr_r 11 0] t (F11_width  t) 0 0 := by
  refine sr_T_of (L0 := [some (sr_r 11 0), none, none, none]) rfl (by decide +kernel) (fun _ => rfl) (fun _ => Nat.le_of_ble_eq_true rfl) ?_
  unfold F11_width
  refine sr_iconst (pc := 0) (n := 0) (v := 0) (by decide +kernel) rfl ?_
  refine sr_istoren (pc := 1) (n := 1) (by decide +kernel) (by decide) rfl rfl ?_
  refine sr_iconst (pc := 2) (n := 0) (v := 0) (by decide +kernel) rfl ?_
  refine sr_istoren (pc := 3) (n := 2) (by decide +kernel) (by decide) rfl rfl ?_
  exact sr_wk (sr_mono (mc := 0) (ms := 0) (by omega) (by omega) (g11_width_4 l f11_width_61 f11_width_92 (g11_width_61 l) (g11_width_92 l) sr_fu 0 0 t)) ⟨rfl, ⟨rfl, ⟨rfl, trivial⟩⟩⟩
def F11_measure (a0 : Int32) (a1 : Int32) (t : sr_t) : sr_Rs := (sr_sw 0 2 a1 ((if a0 < 0 ∨ 24 ≤ a0.toNatClampNeg then none else (some (.inl (some (sr_i (t.1 42 0 a0.toNatClampNeg))), t)))) (fun j => match j with | 0 => (sr_bI (F11_loadOf a0 t) (fun v1 t1 => (some (.inl (some (sr_i v1)), t1)))) | 1 => (sr_bI (F11_harmOf a0 t) (fun v2 t2 => (some (.inl (some (sr_i v2)), t2)))) | 2 => (sr_bI (F11_linksOf a0 t) (fun v3 t3 => (sr_bI (Fn_bitCount v3 t3) (fun v4 t4 => (some (.inl (some (sr_i v4)), t4)))))) | _ => none))
theorem C11_measure (l : Launch) (a0 : Int32) (a1 : Int32)  (t : sr_t) : sr_ct' l sr_m11_measure [sr_r 11 0, sr_i a0, sr_i a1] t (F11_measure a0 a1 t) 0 0 := by
  refine sr_T_of (L0 := [some (sr_r 11 0), some (sr_i a0), some (sr_i a1)]) rfl (by decide +kernel) (fun _ => rfl) (fun _ => Nat.le_of_ble_eq_true rfl) ?_
  unfold F11_measure
  refine sr_iloadn (pc := 0) (n := 2) (by decide +kernel) rfl ?_
  refine sr_tsw2 (pc := 1) (u := a1) (dflt := 48) (lo := 0) (hi := 2) (offs := #[27, 33, 39]) (len := 27) (tg := 49) (by decide +kernel) (by decide) (by decide) (fun _ => ?_) (fun j off ho _ => ?_)
  · refine sr_aloadn (pc := 49) (n := 0) (by decide +kernel) rfl ?_
    refine sr_gC (pc := 50) (i2 := 0) fg_11_74 (by decide +kernel) (sr_in11 _ (by omega)) (fun _ => rfl) ?_
    refine sr_iloadn (pc := 53) (n := 1) (by decide +kernel) rfl ?_
    refine sr_aI (pc := 54) (n := 24) rfl (by decide +kernel) (sr_in42 _ (by omega)) (fun _ _ => rfl) ?_
    exact sr_iret (pc := 55) (by decide +kernel) rfl
  · rcases j with _ | _ | _ | j
    · cases ho
      refine ⟨28, by decide, ?_⟩
      refine sr_aloadn (pc := 28) (n := 0) (by decide +kernel) rfl ?_
      refine sr_iloadn (pc := 29) (n := 1) (by decide +kernel) rfl ?_
      refine sr_cV (pc := 30) (As := [sr_i a0]) (mc1 := 0) (ms1 := 0) (mc2 := 0) (ms2 := 0) fm_11_289 fl_11_289 (by decide +kernel) (sr_in11 _ (by omega)) (rm_11_measure_11_loadOf) rfl rfl rfl (C11_loadOf l a0 t) ?_
      refine sr_kI (fun v1 t1 => ?_)
      exact sr_iret (pc := 33) (by decide +kernel) rfl
    · cases ho
      refine ⟨34, by decide, ?_⟩
      refine sr_aloadn (pc := 34) (n := 0) (by decide +kernel) rfl ?_
      refine sr_iloadn (pc := 35) (n := 1) (by decide +kernel) rfl ?_
      refine sr_cV (pc := 36) (As := [sr_i a0]) (mc1 := 0) (ms1 := 0) (mc2 := 0) (ms2 := 0) fm_11_292 fl_11_292 (by decide +kernel) (sr_in11 _ (by omega)) (rm_11_measure_11_harmOf) rfl rfl rfl (C11_harmOf l a0 t) ?_
      refine sr_kI (fun v2 t2 => ?_)
      exact sr_iret (pc := 39) (by decide +kernel) rfl
    · cases ho
      refine ⟨40, by decide, ?_⟩
      refine sr_aloadn (pc := 40) (n := 0) (by decide +kernel) rfl ?_
      refine sr_iloadn (pc := 41) (n := 1) (by decide +kernel) rfl ?_
      refine sr_cV (pc := 42) (As := [sr_i a0]) (mc1 := 0) (ms1 := 0) (mc2 := 0) (ms2 := 0) fm_11_283 fl_11_283 (by decide +kernel) (sr_in11 _ (by omega)) (rm_11_measure_11_linksOf) rfl rfl rfl (C11_linksOf l a0 t) ?_
      refine sr_kI (fun v3 t3 => ?_)
      refine sr_cS (pc := 45) (As := [sr_i v3]) (mc1 := 0) (ms1 := 0) (mc2 := 0) (ms2 := 0) fm_11_347 fl_11_347 (by decide +kernel) (rm_11_measure_n_bitCount) rfl rfl rfl (Cn_bitCount l v3 t3) ?_
      refine sr_kI (fun v4 t4 => ?_)
      exact sr_iret (pc := 48) (by decide +kernel) rfl
    · simp at ho
def f11_mostOf_53 (a0 : Int32) (k7 : Int32 → Int32 → Int32 → sr_t → sr_Rs) (k59 : Int32 → sr_t → sr_Rs) : Int32 → Int32 → Int32 → sr_t → sr_Rs := fun x2 x3 x4 t => k7 x2 x3 (x4 + 1) t
theorem g11_mostOf_53 (l : Launch) (a0 : Int32)  (k7 : Int32 → Int32 → Int32 → sr_t → sr_Rs) (k59 : Int32 → sr_t → sr_Rs) (hk7 : ∀ (x2 : Int32) (x3 : Int32) (x4 : Int32), ∀ (t : sr_t), sr_g l sr_m11_mostOf 7 [some (sr_r 11 0), some (sr_i a0), some (sr_i x2), some (sr_i x3), some (sr_i x4), none] [] t (k7 x2 x3 x4 t) 0 0) (hk59 : ∀ (x2 : Int32), ∀ (t : sr_t), sr_g l sr_m11_mostOf 59 [some (sr_r 11 0), some (sr_i a0), some (sr_i x2), none, none, none] [] t (k59 x2 t) 0 0) : ∀ (x2 : Int32) (x3 : Int32) (x4 : Int32), ∀ (t : sr_t), sr_g l sr_m11_mostOf 53 [some (sr_r 11 0), some (sr_i a0), some (sr_i x2), some (sr_i x3), some (sr_i x4), none] [] t (f11_mostOf_53 a0 k7 k59 x2 x3 x4 t) 0 0 := by
  intro x2 x3 x4  t
  unfold f11_mostOf_53
  refine sr_iinc (pc := 53) (i := 4) (n := 1) (w := x4 + 1) (by decide +kernel) rfl rfl (by decide) rfl rfl ?_
  refine sr_goto (pc := 56) (off := (-49)) (tg := 7) (by decide +kernel) (by decide) ?_
  exact sr_wk (sr_mono (mc := 0) (ms := 0) (by omega) (by omega) (hk7 x2 x3 (x4 + 1) t)) ⟨rfl, ⟨rfl, ⟨rfl, ⟨rfl, ⟨rfl, trivial⟩⟩⟩⟩⟩
def f11_mostOf_7 (a0 : Int32) (k59 : Int32 → sr_t → sr_Rs) : Nat → Int32 → Int32 → Int32 → sr_t → sr_Rs
  | 0 => fun _ _ _ _ => none
  | n + 1 => fun x2 x3 x4 t => (if (t.1 11 0 1) ≤ x4 then k59 x2 t else (if x4 < 0 ∨ 24 ≤ x4.toNatClampNeg then none else (if (t.1 25 0 x4.toNatClampNeg) = 0 then f11_mostOf_53 a0 (f11_mostOf_7 a0 k59 n) k59 x2 x3 x4 t else (sr_bI (F11_measure x4 a0 t) (fun v1 t1 => (if x3 < v1 then f11_mostOf_53 a0 (f11_mostOf_7 a0 k59 n) k59 x4 v1 x4 t1 else f11_mostOf_53 a0 (f11_mostOf_7 a0 k59 n) k59 x2 x3 x4 t1))))))
theorem g11_mostOf_7 (l : Launch) (a0 : Int32)  (k59 : Int32 → sr_t → sr_Rs) (hk59 : ∀ (x2 : Int32), ∀ (t : sr_t), sr_g l sr_m11_mostOf 59 [some (sr_r 11 0), some (sr_i a0), some (sr_i x2), none, none, none] [] t (k59 x2 t) 0 0) : ∀ (n : Nat) (x2 : Int32) (x3 : Int32) (x4 : Int32), ∀ (t : sr_t), sr_g l sr_m11_mostOf 7 [some (sr_r 11 0), some (sr_i a0), some (sr_i x2), some (sr_i x3), some (sr_i x4), none] [] t (f11_mostOf_7 a0 k59 n x2 x3 x4 t) 0 0 := by
  intro n
  induction n with
  | zero => intros; exact sr_Gn
  | succ n ih =>
    intro x2 x3 x4  t
    unfold f11_mostOf_7
    refine sr_iload (pc := 7) (i := 4) (by decide +kernel) rfl ?_
    refine sr_aloadn (pc := 9) (n := 0) (by decide +kernel) rfl ?_
    refine sr_gI (pc := 10) fg_11_100 (by decide +kernel) (sr_in11 _ (by omega)) (fun _ => rfl) ?_
    refine sr_icmp_ge (pc := 13) (off := 46) (tg := 59) (by decide +kernel) (by decide) (fun _ => ?_) (fun _ => ?_)
    · exact sr_wk (sr_mono (mc := 0) (ms := 0) (by omega) (by omega) (hk59 x2 t)) ⟨rfl, ⟨rfl, ⟨rfl, trivial⟩⟩⟩
    · refine sr_aloadn (pc := 16) (n := 0) (by decide +kernel) rfl ?_
      refine sr_gC (pc := 17) (i2 := 0) fg_11_13 (by decide +kernel) (sr_in11 _ (by omega)) (fun _ => rfl) ?_
      refine sr_iload (pc := 20) (i := 4) (by decide +kernel) rfl ?_
      refine sr_aI (pc := 22) (n := 24) rfl (by decide +kernel) (sr_in25 _ (by omega)) (fun _ _ => rfl) ?_
      refine sr_if_ne (pc := 23) (off := 6) (tg := 29) (by decide +kernel) (by decide) (fun _ => ?_) (fun _ => ?_)
      · refine sr_aloadn (pc := 29) (n := 0) (by decide +kernel) rfl ?_
        refine sr_iload (pc := 30) (i := 4) (by decide +kernel) rfl ?_
        refine sr_iloadn (pc := 32) (n := 1) (by decide +kernel) rfl ?_
        refine sr_cV (pc := 33) (As := [sr_i x4, sr_i a0]) (mc1 := 0) (ms1 := 0) (mc2 := 0) (ms2 := 0) fm_11_344 fl_11_344 (by decide +kernel) (sr_in11 _ (by omega)) (rm_11_mostOf_11_measure) rfl rfl rfl (C11_measure l x4 a0 t) ?_
        refine sr_kI (fun v1 t1 => ?_)
        refine sr_istore (pc := 36) (i := 5) (by decide +kernel) (by decide) rfl rfl ?_
        refine sr_iload (pc := 38) (i := 5) (by decide +kernel) rfl ?_
        refine sr_iloadn (pc := 40) (n := 3) (by decide +kernel) rfl ?_
        refine sr_icmp_gt (pc := 41) (off := 6) (tg := 47) (by decide +kernel) (by decide) (fun _ => ?_) (fun _ => ?_)
        · refine sr_iload (pc := 47) (i := 5) (by decide +kernel) rfl ?_
          refine sr_istoren (pc := 49) (n := 3) (by decide +kernel) (by decide) rfl rfl ?_
          refine sr_iload (pc := 50) (i := 4) (by decide +kernel) rfl ?_
          refine sr_istoren (pc := 52) (n := 2) (by decide +kernel) (by decide) rfl rfl ?_
          exact sr_wk (sr_mono (mc := 0) (ms := 0) (by omega) (by omega) (g11_mostOf_53 l a0 (f11_mostOf_7 a0 k59 n) k59 ih hk59 x4 v1 x4 t1)) ⟨rfl, ⟨rfl, ⟨rfl, ⟨rfl, ⟨rfl, trivial⟩⟩⟩⟩⟩
        · refine sr_goto (pc := 44) (off := 9) (tg := 53) (by decide +kernel) (by decide) ?_
          exact sr_wk (sr_mono (mc := 0) (ms := 0) (by omega) (by omega) (g11_mostOf_53 l a0 (f11_mostOf_7 a0 k59 n) k59 ih hk59 x2 x3 x4 t1)) ⟨rfl, ⟨rfl, ⟨rfl, ⟨rfl, ⟨rfl, trivial⟩⟩⟩⟩⟩
      · refine sr_goto (pc := 26) (off := 27) (tg := 53) (by decide +kernel) (by decide) ?_
        exact sr_wk (sr_mono (mc := 0) (ms := 0) (by omega) (by omega) (g11_mostOf_53 l a0 (f11_mostOf_7 a0 k59 n) k59 ih hk59 x2 x3 x4 t)) ⟨rfl, ⟨rfl, ⟨rfl, ⟨rfl, ⟨rfl, trivial⟩⟩⟩⟩⟩
def f11_mostOf_59 (a0 : Int32)  : Int32 → sr_t → sr_Rs := fun x2 t => (some (.inl (some (sr_i x2)), t))
theorem g11_mostOf_59 (l : Launch) (a0 : Int32)    : ∀ (x2 : Int32), ∀ (t : sr_t), sr_g l sr_m11_mostOf 59 [some (sr_r 11 0), some (sr_i a0), some (sr_i x2), none, none, none] [] t (f11_mostOf_59 a0  x2 t) 0 0 := by
  intro x2  t
  unfold f11_mostOf_59
  refine sr_iloadn (pc := 59) (n := 2) (by decide +kernel) rfl ?_
  exact sr_iret (pc := 60) (by decide +kernel) rfl
def F11_mostOf (a0 : Int32) (t : sr_t) : sr_Rs := f11_mostOf_7 a0 (f11_mostOf_59 a0) sr_fu ((-1)) ((-1)) 0 t
theorem C11_mostOf (l : Launch) (a0 : Int32)  (t : sr_t) : sr_ct' l sr_m11_mostOf [sr_r 11 0, sr_i a0] t (F11_mostOf a0 t) 0 0 := by
  refine sr_T_of (L0 := [some (sr_r 11 0), some (sr_i a0), none, none, none, none]) rfl (by decide +kernel) (fun _ => rfl) (fun _ => Nat.le_of_ble_eq_true rfl) ?_
  unfold F11_mostOf
  refine sr_iconst (pc := 0) (n := (-1)) (v := (-1)) (by decide +kernel) rfl ?_
  refine sr_istoren (pc := 1) (n := 2) (by decide +kernel) (by decide) rfl rfl ?_
  refine sr_iconst (pc := 2) (n := (-1)) (v := (-1)) (by decide +kernel) rfl ?_
  refine sr_istoren (pc := 3) (n := 3) (by decide +kernel) (by decide) rfl rfl ?_
  refine sr_iconst (pc := 4) (n := 0) (v := 0) (by decide +kernel) rfl ?_
  refine sr_istore (pc := 5) (i := 4) (by decide +kernel) (by decide) rfl rfl ?_
  exact sr_wk (sr_mono (mc := 0) (ms := 0) (by omega) (by omega) (g11_mostOf_7 l a0 (f11_mostOf_59 a0) (g11_mostOf_59 l a0) sr_fu ((-1)) ((-1)) 0 t)) ⟨rfl, ⟨rfl, ⟨rfl, ⟨rfl, ⟨rfl, trivial⟩⟩⟩⟩⟩
def f11_mostLinks_21   : Int32 → sr_t → sr_Rs := fun xs0 t => (some (.inl (some (sr_i xs0)), t))
theorem g11_mostLinks_21 (l : Launch)     : ∀ (xs0 : Int32), ∀ (t : sr_t), sr_g l sr_m11_mostLinks 21 [some (sr_r 11 0), none] [sr_i xs0] t (f11_mostLinks_21   xs0 t) 0 0 := by
  intro xs0  t
  unfold f11_mostLinks_21
  exact sr_iret (pc := 21) (by decide +kernel) rfl
def F11_mostLinks  (t : sr_t) : sr_Rs := (sr_bI (F11_mostOf 2 t) (fun v1 t1 => (if v1 = ((-1)) then f11_mostLinks_21 0 t1 else (sr_bI (F11_measure v1 2 t1) (fun v2 t2 => f11_mostLinks_21 v2 t2)))))
theorem C11_mostLinks (l : Launch)   (t : sr_t) : sr_ct' l sr_m11_mostLinks [sr_r 11 0] t (F11_mostLinks  t) 0 0 := by
  refine sr_T_of (L0 := [some (sr_r 11 0), none]) rfl (by decide +kernel) (fun _ => rfl) (fun _ => Nat.le_of_ble_eq_true rfl) ?_
  unfold F11_mostLinks
  refine sr_aloadn (pc := 0) (n := 0) (by decide +kernel) rfl ?_
  refine sr_iconst (pc := 1) (n := 2) (v := 2) (by decide +kernel) rfl ?_
  refine sr_cV (pc := 2) (As := [sr_i 2]) (mc1 := 0) (ms1 := 0) (mc2 := 0) (ms2 := 0) fm_11_352 fl_11_352 (by decide +kernel) (sr_in11 _ (by omega)) (rm_11_mostLinks_11_mostOf) rfl rfl rfl (C11_mostOf l 2 t) ?_
  refine sr_kI (fun v1 t1 => ?_)
  refine sr_istoren (pc := 5) (n := 1) (by decide +kernel) (by decide) rfl rfl ?_
  refine sr_iloadn (pc := 6) (n := 1) (by decide +kernel) rfl ?_
  refine sr_iconst (pc := 7) (n := (-1)) (v := (-1)) (by decide +kernel) rfl ?_
  refine sr_icmp_ne (pc := 8) (off := 7) (tg := 15) (by decide +kernel) (by decide) (fun _ => ?_) (fun _ => ?_)
  · refine sr_aloadn (pc := 15) (n := 0) (by decide +kernel) rfl ?_
    refine sr_iloadn (pc := 16) (n := 1) (by decide +kernel) rfl ?_
    refine sr_iconst (pc := 17) (n := 2) (v := 2) (by decide +kernel) rfl ?_
    refine sr_cV (pc := 18) (As := [sr_i v1, sr_i 2]) (mc1 := 0) (ms1 := 0) (mc2 := 0) (ms2 := 0) fm_11_344 fl_11_344 (by decide +kernel) (sr_in11 _ (by omega)) (rm_11_mostLinks_11_measure) rfl rfl rfl (C11_measure l v1 2 t1) ?_
    refine sr_kI (fun v2 t2 => ?_)
    exact sr_wk (sr_mono (mc := 0) (ms := 0) (by omega) (by omega) (g11_mostLinks_21 l v2 t2)) ⟨rfl, trivial⟩
  · refine sr_iconst (pc := 11) (n := 0) (v := 0) (by decide +kernel) rfl ?_
    refine sr_goto (pc := 12) (off := 9) (tg := 21) (by decide +kernel) (by decide) ?_
    exact sr_wk (sr_mono (mc := 0) (ms := 0) (by omega) (by omega) (g11_mostLinks_21 l 0 t1)) ⟨rfl, trivial⟩
def f11_firstToMend_64  (k8 : Int32 → Int32 → Int32 → sr_t → sr_Rs) (k70 : Int32 → sr_t → sr_Rs) : Int32 → Int32 → Int32 → sr_t → sr_Rs := fun x1 x2 x3 t => k8 x1 x2 (x3 + 1) t
theorem g11_firstToMend_64 (l : Launch)   (k8 : Int32 → Int32 → Int32 → sr_t → sr_Rs) (k70 : Int32 → sr_t → sr_Rs) (hk8 : ∀ (x1 : Int32) (x2 : Int32) (x3 : Int32), ∀ (t : sr_t), sr_g l sr_m11_firstToMend 8 [some (sr_r 11 0), some (sr_i x1), some (sr_i x2), some (sr_i x3)] [] t (k8 x1 x2 x3 t) 0 0) (hk70 : ∀ (x1 : Int32), ∀ (t : sr_t), sr_g l sr_m11_firstToMend 70 [some (sr_r 11 0), some (sr_i x1), none, none] [] t (k70 x1 t) 0 0) : ∀ (x1 : Int32) (x2 : Int32) (x3 : Int32), ∀ (t : sr_t), sr_g l sr_m11_firstToMend 64 [some (sr_r 11 0), some (sr_i x1), some (sr_i x2), some (sr_i x3)] [] t (f11_firstToMend_64  k8 k70 x1 x2 x3 t) 0 0 := by
  intro x1 x2 x3  t
  unfold f11_firstToMend_64
  refine sr_iinc (pc := 64) (i := 3) (n := 1) (w := x3 + 1) (by decide +kernel) rfl rfl (by decide) rfl rfl ?_
  refine sr_goto (pc := 67) (off := (-59)) (tg := 8) (by decide +kernel) (by decide) ?_
  exact sr_wk (sr_mono (mc := 0) (ms := 0) (by omega) (by omega) (hk8 x1 x2 (x3 + 1) t)) ⟨rfl, ⟨rfl, ⟨rfl, ⟨rfl, trivial⟩⟩⟩⟩
def f11_firstToMend_8  (k70 : Int32 → sr_t → sr_Rs) : Nat → Int32 → Int32 → Int32 → sr_t → sr_Rs
  | 0 => fun _ _ _ _ => none
  | n + 1 => fun x1 x2 x3 t => (if (t.1 11 0 1) ≤ x3 then k70 x1 t else (if x3 < 0 ∨ 24 ≤ x3.toNatClampNeg then none else (if (t.1 25 0 x3.toNatClampNeg) = 0 then f11_firstToMend_64 (f11_firstToMend_8 k70 n) k70 x1 x2 x3 t else (sr_bV (F11_putsAside t) (fun t1 => (sr_bV (F11_laysNow x3 t1) (fun t2 => (sr_bV (F11_samples 1 t2) (fun t3 => (sr_bV (F11_putsBack t3) (fun t4 => (if (t4.1 11 0 40) < x2 then f11_firstToMend_64 (f11_firstToMend_8 k70 n) k70 x3 (t4.1 11 0 40) x3 t4 else f11_firstToMend_64 (f11_firstToMend_8 k70 n) k70 x1 x2 x3 t4))))))))))))
theorem g11_firstToMend_8 (l : Launch)   (k70 : Int32 → sr_t → sr_Rs) (hk70 : ∀ (x1 : Int32), ∀ (t : sr_t), sr_g l sr_m11_firstToMend 70 [some (sr_r 11 0), some (sr_i x1), none, none] [] t (k70 x1 t) 0 0) : ∀ (n : Nat) (x1 : Int32) (x2 : Int32) (x3 : Int32), ∀ (t : sr_t), sr_g l sr_m11_firstToMend 8 [some (sr_r 11 0), some (sr_i x1), some (sr_i x2), some (sr_i x3)] [] t (f11_firstToMend_8  k70 n x1 x2 x3 t) 0 0 := by
  intro n
  induction n with
  | zero => intros; exact sr_Gn
  | succ n ih =>
    intro x1 x2 x3  t
    unfold f11_firstToMend_8
    refine sr_iloadn (pc := 8) (n := 3) (by decide +kernel) rfl ?_
    refine sr_aloadn (pc := 9) (n := 0) (by decide +kernel) rfl ?_
    refine sr_gI (pc := 10) fg_11_100 (by decide +kernel) (sr_in11 _ (by omega)) (fun _ => rfl) ?_
    refine sr_icmp_ge (pc := 13) (off := 57) (tg := 70) (by decide +kernel) (by decide) (fun _ => ?_) (fun _ => ?_)
    · exact sr_wk (sr_mono (mc := 0) (ms := 0) (by omega) (by omega) (hk70 x1 t)) ⟨rfl, ⟨rfl, trivial⟩⟩
    · refine sr_aloadn (pc := 16) (n := 0) (by decide +kernel) rfl ?_
      refine sr_gC (pc := 17) (i2 := 0) fg_11_13 (by decide +kernel) (sr_in11 _ (by omega)) (fun _ => rfl) ?_
      refine sr_iloadn (pc := 20) (n := 3) (by decide +kernel) rfl ?_
      refine sr_aI (pc := 21) (n := 24) rfl (by decide +kernel) (sr_in25 _ (by omega)) (fun _ _ => rfl) ?_
      refine sr_if_ne (pc := 22) (off := 6) (tg := 28) (by decide +kernel) (by decide) (fun _ => ?_) (fun _ => ?_)
      · refine sr_aloadn (pc := 28) (n := 0) (by decide +kernel) rfl ?_
        refine sr_cV (pc := 29) (As := []) (mc1 := 0) (ms1 := 0) (mc2 := 0) (ms2 := 0) fm_11_272 fl_11_272 (by decide +kernel) (sr_in11 _ (by omega)) (rm_11_firstToMend_11_putsAside) rfl rfl rfl (C11_putsAside l t) ?_
        refine sr_kV (fun t1 => ?_)
        refine sr_aloadn (pc := 32) (n := 0) (by decide +kernel) rfl ?_
        refine sr_iloadn (pc := 33) (n := 3) (by decide +kernel) rfl ?_
        refine sr_cV (pc := 34) (As := [sr_i x3]) (mc1 := 0) (ms1 := 0) (mc2 := 0) (ms2 := 0) fm_11_137 fl_11_137 (by decide +kernel) (sr_in11 _ (by omega)) (rm_11_firstToMend_11_laysNow) rfl rfl rfl (C11_laysNow l x3 t1) ?_
        refine sr_kV (fun t2 => ?_)
        refine sr_aloadn (pc := 37) (n := 0) (by decide +kernel) rfl ?_
        refine sr_iconst (pc := 38) (n := 1) (v := 1) (by decide +kernel) rfl ?_
        refine sr_cV (pc := 39) (As := [sr_i 1]) (mc1 := 0) (ms1 := 0) (mc2 := 0) (ms2 := 0) fm_11_268 fl_11_268 (by decide +kernel) (sr_in11 _ (by omega)) (rm_11_firstToMend_11_samples) rfl rfl rfl (C11_samples l 1 t2) ?_
        refine sr_kV (fun t3 => ?_)
        refine sr_aloadn (pc := 42) (n := 0) (by decide +kernel) rfl ?_
        refine sr_cV (pc := 43) (As := []) (mc1 := 0) (ms1 := 0) (mc2 := 0) (ms2 := 0) fm_11_275 fl_11_275 (by decide +kernel) (sr_in11 _ (by omega)) (rm_11_firstToMend_11_putsBack) rfl rfl rfl (C11_putsBack l t3) ?_
        refine sr_kV (fun t4 => ?_)
        refine sr_aloadn (pc := 46) (n := 0) (by decide +kernel) rfl ?_
        refine sr_gI (pc := 47) fg_11_240 (by decide +kernel) (sr_in11 _ (by omega)) (fun _ => rfl) ?_
        refine sr_iloadn (pc := 50) (n := 2) (by decide +kernel) rfl ?_
        refine sr_icmp_lt (pc := 51) (off := 6) (tg := 57) (by decide +kernel) (by decide) (fun _ => ?_) (fun _ => ?_)
        · refine sr_aloadn (pc := 57) (n := 0) (by decide +kernel) rfl ?_
          refine sr_gI (pc := 58) fg_11_240 (by decide +kernel) (sr_in11 _ (by omega)) (fun _ => rfl) ?_
          refine sr_istoren (pc := 61) (n := 2) (by decide +kernel) (by decide) rfl rfl ?_
          refine sr_iloadn (pc := 62) (n := 3) (by decide +kernel) rfl ?_
          refine sr_istoren (pc := 63) (n := 1) (by decide +kernel) (by decide) rfl rfl ?_
          exact sr_wk (sr_mono (mc := 0) (ms := 0) (by omega) (by omega) (g11_firstToMend_64 l (f11_firstToMend_8 k70 n) k70 ih hk70 x3 (t4.1 11 0 40) x3 t4)) ⟨rfl, ⟨rfl, ⟨rfl, ⟨rfl, trivial⟩⟩⟩⟩
        · refine sr_goto (pc := 54) (off := 10) (tg := 64) (by decide +kernel) (by decide) ?_
          exact sr_wk (sr_mono (mc := 0) (ms := 0) (by omega) (by omega) (g11_firstToMend_64 l (f11_firstToMend_8 k70 n) k70 ih hk70 x1 x2 x3 t4)) ⟨rfl, ⟨rfl, ⟨rfl, ⟨rfl, trivial⟩⟩⟩⟩
      · refine sr_goto (pc := 25) (off := 39) (tg := 64) (by decide +kernel) (by decide) ?_
        exact sr_wk (sr_mono (mc := 0) (ms := 0) (by omega) (by omega) (g11_firstToMend_64 l (f11_firstToMend_8 k70 n) k70 ih hk70 x1 x2 x3 t)) ⟨rfl, ⟨rfl, ⟨rfl, ⟨rfl, trivial⟩⟩⟩⟩
def f11_firstToMend_70   : Int32 → sr_t → sr_Rs := fun x1 t => (some (.inl (some (sr_i x1)), t))
theorem g11_firstToMend_70 (l : Launch)     : ∀ (x1 : Int32), ∀ (t : sr_t), sr_g l sr_m11_firstToMend 70 [some (sr_r 11 0), some (sr_i x1), none, none] [] t (f11_firstToMend_70   x1 t) 0 0 := by
  intro x1  t
  unfold f11_firstToMend_70
  refine sr_iloadn (pc := 70) (n := 1) (by decide +kernel) rfl ?_
  exact sr_iret (pc := 71) (by decide +kernel) rfl
def F11_firstToMend  (t : sr_t) : sr_Rs := f11_firstToMend_8 f11_firstToMend_70 sr_fu ((-1)) 100000000 0 t
theorem C11_firstToMend (l : Launch)   (t : sr_t) : sr_ct' l sr_m11_firstToMend [sr_r 11 0] t (F11_firstToMend  t) 0 0 := by
  refine sr_T_of (L0 := [some (sr_r 11 0), none, none, none]) rfl (by decide +kernel) (fun _ => rfl) (fun _ => Nat.le_of_ble_eq_true rfl) ?_
  unfold F11_firstToMend
  refine sr_iconst (pc := 0) (n := (-1)) (v := (-1)) (by decide +kernel) rfl ?_
  refine sr_istoren (pc := 1) (n := 1) (by decide +kernel) (by decide) rfl rfl ?_
  refine sr_ldcw (pc := 2) (n := 282) (v := 100000000) (by decide +kernel) (sr_tb (n := 1767) (by decide +kernel) rfl) ?_
  refine sr_istoren (pc := 5) (n := 2) (by decide +kernel) (by decide) rfl rfl ?_
  refine sr_iconst (pc := 6) (n := 0) (v := 0) (by decide +kernel) rfl ?_
  refine sr_istoren (pc := 7) (n := 3) (by decide +kernel) (by decide) rfl rfl ?_
  exact sr_wk (sr_mono (mc := 0) (ms := 0) (by omega) (by omega) (g11_firstToMend_8 l f11_firstToMend_70 (g11_firstToMend_70 l) sr_fu ((-1)) 100000000 0 t)) ⟨rfl, ⟨rfl, ⟨rfl, ⟨rfl, trivial⟩⟩⟩⟩
def f11_lostKeys_50  (k22 : Int32 → Int32 → Int32 → Int32 → sr_t → sr_Rs) (k56 : Int32 → Int32 → Int32 → sr_t → sr_Rs) : Int32 → Int32 → Int32 → Int32 → sr_t → sr_Rs := fun x1 x2 x3 x4 t => k22 x1 x2 x3 (x4 + 1) t
theorem g11_lostKeys_50 (l : Launch)   (k22 : Int32 → Int32 → Int32 → Int32 → sr_t → sr_Rs) (k56 : Int32 → Int32 → Int32 → sr_t → sr_Rs) (hk22 : ∀ (x1 : Int32) (x2 : Int32) (x3 : Int32) (x4 : Int32), ∀ (t : sr_t), sr_g l sr_m11_lostKeys 22 [some (sr_r 11 0), some (sr_i x1), some (sr_i x2), some (sr_i x3), some (sr_i x4)] [] t (k22 x1 x2 x3 x4 t) 0 0) (hk56 : ∀ (x1 : Int32) (x2 : Int32) (x3 : Int32), ∀ (t : sr_t), sr_g l sr_m11_lostKeys 56 [some (sr_r 11 0), some (sr_i x1), some (sr_i x2), some (sr_i x3), none] [] t (k56 x1 x2 x3 t) 0 0) : ∀ (x1 : Int32) (x2 : Int32) (x3 : Int32) (x4 : Int32), ∀ (t : sr_t), sr_g l sr_m11_lostKeys 50 [some (sr_r 11 0), some (sr_i x1), some (sr_i x2), some (sr_i x3), some (sr_i x4)] [] t (f11_lostKeys_50  k22 k56 x1 x2 x3 x4 t) 0 0 := by
  intro x1 x2 x3 x4  t
  unfold f11_lostKeys_50
  refine sr_iinc (pc := 50) (i := 4) (n := 1) (w := x4 + 1) (by decide +kernel) rfl rfl (by decide) rfl rfl ?_
  refine sr_goto (pc := 53) (off := (-31)) (tg := 22) (by decide +kernel) (by decide) ?_
  exact sr_wk (sr_mono (mc := 0) (ms := 0) (by omega) (by omega) (hk22 x1 x2 x3 (x4 + 1) t)) ⟨rfl, ⟨rfl, ⟨rfl, ⟨rfl, ⟨rfl, trivial⟩⟩⟩⟩⟩
def f11_lostKeys_22  (k56 : Int32 → Int32 → Int32 → sr_t → sr_Rs) : Nat → Int32 → Int32 → Int32 → Int32 → sr_t → sr_Rs
  | 0 => fun _ _ _ _ _ => none
  | n + 1 => fun x1 x2 x3 x4 t => (if (t.1 11 0 1) ≤ x4 then k56 x1 x2 x3 t else (if x4 < 0 ∨ 24 ≤ x4.toNatClampNeg then none else (if (t.1 25 0 x4.toNatClampNeg) = 0 then f11_lostKeys_50 (f11_lostKeys_22 k56 n) k56 x1 x2 (x3 &&& ((1 <<< (x4 &&& 31)) ^^^ ((-1)))) x4 t else f11_lostKeys_50 (f11_lostKeys_22 k56 n) k56 x1 x2 x3 x4 t)))
theorem g11_lostKeys_22 (l : Launch)   (k56 : Int32 → Int32 → Int32 → sr_t → sr_Rs) (hk56 : ∀ (x1 : Int32) (x2 : Int32) (x3 : Int32), ∀ (t : sr_t), sr_g l sr_m11_lostKeys 56 [some (sr_r 11 0), some (sr_i x1), some (sr_i x2), some (sr_i x3), none] [] t (k56 x1 x2 x3 t) 0 0) : ∀ (n : Nat) (x1 : Int32) (x2 : Int32) (x3 : Int32) (x4 : Int32), ∀ (t : sr_t), sr_g l sr_m11_lostKeys 22 [some (sr_r 11 0), some (sr_i x1), some (sr_i x2), some (sr_i x3), some (sr_i x4)] [] t (f11_lostKeys_22  k56 n x1 x2 x3 x4 t) 0 0 := by
  intro n
  induction n with
  | zero => intros; exact sr_Gn
  | succ n ih =>
    intro x1 x2 x3 x4  t
    unfold f11_lostKeys_22
    refine sr_iload (pc := 22) (i := 4) (by decide +kernel) rfl ?_
    refine sr_aloadn (pc := 24) (n := 0) (by decide +kernel) rfl ?_
    refine sr_gI (pc := 25) fg_11_100 (by decide +kernel) (sr_in11 _ (by omega)) (fun _ => rfl) ?_
    refine sr_icmp_ge (pc := 28) (off := 28) (tg := 56) (by decide +kernel) (by decide) (fun _ => ?_) (fun _ => ?_)
    · exact sr_wk (sr_mono (mc := 0) (ms := 0) (by omega) (by omega) (hk56 x1 x2 x3 t)) ⟨rfl, ⟨rfl, ⟨rfl, ⟨rfl, trivial⟩⟩⟩⟩
    · refine sr_aloadn (pc := 31) (n := 0) (by decide +kernel) rfl ?_
      refine sr_gC (pc := 32) (i2 := 0) fg_11_13 (by decide +kernel) (sr_in11 _ (by omega)) (fun _ => rfl) ?_
      refine sr_iload (pc := 35) (i := 4) (by decide +kernel) rfl ?_
      refine sr_aI (pc := 37) (n := 24) rfl (by decide +kernel) (sr_in25 _ (by omega)) (fun _ _ => rfl) ?_
      refine sr_if_ne (pc := 38) (off := 12) (tg := 50) (by decide +kernel) (by decide) (fun _ => ?_) (fun _ => ?_)
      · exact sr_wk (sr_mono (mc := 0) (ms := 0) (by omega) (by omega) (g11_lostKeys_50 l (f11_lostKeys_22 k56 n) k56 ih hk56 x1 x2 x3 x4 t)) ⟨rfl, ⟨rfl, ⟨rfl, ⟨rfl, ⟨rfl, trivial⟩⟩⟩⟩⟩
      · refine sr_iloadn (pc := 41) (n := 3) (by decide +kernel) rfl ?_
        refine sr_iconst (pc := 42) (n := 1) (v := 1) (by decide +kernel) rfl ?_
        refine sr_iload (pc := 43) (i := 4) (by decide +kernel) rfl ?_
        refine sr_ishl (pc := 45) (by decide +kernel) ?_
        refine sr_iconst (pc := 46) (n := (-1)) (v := (-1)) (by decide +kernel) rfl ?_
        refine sr_ixor (pc := 47) (by decide +kernel) ?_
        refine sr_iand (pc := 48) (by decide +kernel) ?_
        refine sr_istoren (pc := 49) (n := 3) (by decide +kernel) (by decide) rfl rfl ?_
        exact sr_wk (sr_mono (mc := 0) (ms := 0) (by omega) (by omega) (g11_lostKeys_50 l (f11_lostKeys_22 k56 n) k56 ih hk56 x1 x2 (x3 &&& ((1 <<< (x4 &&& 31)) ^^^ ((-1)))) x4 t)) ⟨rfl, ⟨rfl, ⟨rfl, ⟨rfl, ⟨rfl, trivial⟩⟩⟩⟩⟩
def f11_lostKeys_66  (k4 : Int32 → Int32 → sr_t → sr_Rs) (k74 : Int32 → sr_t → sr_Rs) : Int32 → Int32 → Int32 → sr_t → sr_Rs := fun x2 xs0 xs1 t => k4 (xs1 + xs0) (x2 + 1) t
theorem g11_lostKeys_66 (l : Launch)   (k4 : Int32 → Int32 → sr_t → sr_Rs) (k74 : Int32 → sr_t → sr_Rs) (hk4 : ∀ (x1 : Int32) (x2 : Int32), ∀ (t : sr_t), sr_g l sr_m11_lostKeys 4 [some (sr_r 11 0), some (sr_i x1), some (sr_i x2), none, none] [] t (k4 x1 x2 t) 0 0) (hk74 : ∀ (x1 : Int32), ∀ (t : sr_t), sr_g l sr_m11_lostKeys 74 [some (sr_r 11 0), some (sr_i x1), none, none, none] [] t (k74 x1 t) 0 0) : ∀ (x2 : Int32) (xs0 : Int32) (xs1 : Int32), ∀ (t : sr_t), sr_g l sr_m11_lostKeys 66 [some (sr_r 11 0), none, some (sr_i x2), none, none] [sr_i xs0, sr_i xs1] t (f11_lostKeys_66  k4 k74 x2 xs0 xs1 t) 0 0 := by
  intro x2 xs0 xs1  t
  unfold f11_lostKeys_66
  refine sr_iadd (pc := 66) (by decide +kernel) ?_
  refine sr_istoren (pc := 67) (n := 1) (by decide +kernel) (by decide) rfl rfl ?_
  refine sr_iinc (pc := 68) (i := 2) (n := 1) (w := x2 + 1) (by decide +kernel) rfl rfl (by decide) rfl rfl ?_
  refine sr_goto (pc := 71) (off := (-67)) (tg := 4) (by decide +kernel) (by decide) ?_
  exact sr_wk (sr_mono (mc := 0) (ms := 0) (by omega) (by omega) (hk4 (xs1 + xs0) (x2 + 1) t)) ⟨rfl, ⟨rfl, ⟨rfl, trivial⟩⟩⟩
def f11_lostKeys_56  (k4 : Int32 → Int32 → sr_t → sr_Rs) (k74 : Int32 → sr_t → sr_Rs) : Int32 → Int32 → Int32 → sr_t → sr_Rs := fun x1 x2 x3 t => (if x3 = 0 then f11_lostKeys_66 k4 k74 x2 1 x1 t else f11_lostKeys_66 k4 k74 x2 0 x1 t)
theorem g11_lostKeys_56 (l : Launch)   (k4 : Int32 → Int32 → sr_t → sr_Rs) (k74 : Int32 → sr_t → sr_Rs) (hk4 : ∀ (x1 : Int32) (x2 : Int32), ∀ (t : sr_t), sr_g l sr_m11_lostKeys 4 [some (sr_r 11 0), some (sr_i x1), some (sr_i x2), none, none] [] t (k4 x1 x2 t) 0 0) (hk74 : ∀ (x1 : Int32), ∀ (t : sr_t), sr_g l sr_m11_lostKeys 74 [some (sr_r 11 0), some (sr_i x1), none, none, none] [] t (k74 x1 t) 0 0) : ∀ (x1 : Int32) (x2 : Int32) (x3 : Int32), ∀ (t : sr_t), sr_g l sr_m11_lostKeys 56 [some (sr_r 11 0), some (sr_i x1), some (sr_i x2), some (sr_i x3), none] [] t (f11_lostKeys_56  k4 k74 x1 x2 x3 t) 0 0 := by
  intro x1 x2 x3  t
  unfold f11_lostKeys_56
  refine sr_iloadn (pc := 56) (n := 1) (by decide +kernel) rfl ?_
  refine sr_iloadn (pc := 57) (n := 3) (by decide +kernel) rfl ?_
  refine sr_if_ne (pc := 58) (off := 7) (tg := 65) (by decide +kernel) (by decide) (fun _ => ?_) (fun _ => ?_)
  · refine sr_iconst (pc := 65) (n := 0) (v := 0) (by decide +kernel) rfl ?_
    exact sr_wk (sr_mono (mc := 0) (ms := 0) (by omega) (by omega) (g11_lostKeys_66 l k4 k74 hk4 hk74 x2 0 x1 t)) ⟨rfl, ⟨rfl, trivial⟩⟩
  · refine sr_iconst (pc := 61) (n := 1) (v := 1) (by decide +kernel) rfl ?_
    refine sr_goto (pc := 62) (off := 4) (tg := 66) (by decide +kernel) (by decide) ?_
    exact sr_wk (sr_mono (mc := 0) (ms := 0) (by omega) (by omega) (g11_lostKeys_66 l k4 k74 hk4 hk74 x2 1 x1 t)) ⟨rfl, ⟨rfl, trivial⟩⟩
def f11_lostKeys_4  (k74 : Int32 → sr_t → sr_Rs) : Nat → Int32 → Int32 → sr_t → sr_Rs
  | 0 => fun _ _ _ => none
  | n + 1 => fun x1 x2 t => (if (t.1 11 0 33) ≤ x2 then k74 x1 t else (sr_bI (F11_holdersOf x2 1 t) (fun v1 t1 => f11_lostKeys_22 (f11_lostKeys_56 (f11_lostKeys_4 k74 n) k74) sr_fu x1 x2 v1 0 t1)))
theorem g11_lostKeys_4 (l : Launch)   (k74 : Int32 → sr_t → sr_Rs) (hk74 : ∀ (x1 : Int32), ∀ (t : sr_t), sr_g l sr_m11_lostKeys 74 [some (sr_r 11 0), some (sr_i x1), none, none, none] [] t (k74 x1 t) 0 0) : ∀ (n : Nat) (x1 : Int32) (x2 : Int32), ∀ (t : sr_t), sr_g l sr_m11_lostKeys 4 [some (sr_r 11 0), some (sr_i x1), some (sr_i x2), none, none] [] t (f11_lostKeys_4  k74 n x1 x2 t) 0 0 := by
  intro n
  induction n with
  | zero => intros; exact sr_Gn
  | succ n ih =>
    intro x1 x2  t
    unfold f11_lostKeys_4
    refine sr_iloadn (pc := 4) (n := 2) (by decide +kernel) rfl ?_
    refine sr_aloadn (pc := 5) (n := 0) (by decide +kernel) rfl ?_
    refine sr_gI (pc := 6) fg_11_316 (by decide +kernel) (sr_in11 _ (by omega)) (fun _ => rfl) ?_
    refine sr_icmp_ge (pc := 9) (off := 65) (tg := 74) (by decide +kernel) (by decide) (fun _ => ?_) (fun _ => ?_)
    · exact sr_wk (sr_mono (mc := 0) (ms := 0) (by omega) (by omega) (hk74 x1 t)) ⟨rfl, ⟨rfl, trivial⟩⟩
    · refine sr_aloadn (pc := 12) (n := 0) (by decide +kernel) rfl ?_
      refine sr_iloadn (pc := 13) (n := 2) (by decide +kernel) rfl ?_
      refine sr_iconst (pc := 14) (n := 1) (v := 1) (by decide +kernel) rfl ?_
      refine sr_cV (pc := 15) (As := [sr_i x2, sr_i 1]) (mc1 := 0) (ms1 := 0) (mc2 := 0) (ms2 := 0) fm_11_341 fl_11_341 (by decide +kernel) (sr_in11 _ (by omega)) (rm_11_lostKeys_11_holdersOf) rfl rfl rfl (C11_holdersOf l x2 1 t) ?_
      refine sr_kI (fun v1 t1 => ?_)
      refine sr_istoren (pc := 18) (n := 3) (by decide +kernel) (by decide) rfl rfl ?_
      refine sr_iconst (pc := 19) (n := 0) (v := 0) (by decide +kernel) rfl ?_
      refine sr_istore (pc := 20) (i := 4) (by decide +kernel) (by decide) rfl rfl ?_
      exact sr_wk (sr_mono (mc := 0) (ms := 0) (by omega) (by omega) (g11_lostKeys_22 l (f11_lostKeys_56 (f11_lostKeys_4 k74 n) k74) (g11_lostKeys_56 l (f11_lostKeys_4 k74 n) k74 ih hk74) sr_fu x1 x2 v1 0 t1)) ⟨rfl, ⟨rfl, ⟨rfl, ⟨rfl, ⟨rfl, trivial⟩⟩⟩⟩⟩
def f11_lostKeys_74   : Int32 → sr_t → sr_Rs := fun x1 t => (some (.inl (some (sr_i x1)), t))
theorem g11_lostKeys_74 (l : Launch)     : ∀ (x1 : Int32), ∀ (t : sr_t), sr_g l sr_m11_lostKeys 74 [some (sr_r 11 0), some (sr_i x1), none, none, none] [] t (f11_lostKeys_74   x1 t) 0 0 := by
  intro x1  t
  unfold f11_lostKeys_74
  refine sr_iloadn (pc := 74) (n := 1) (by decide +kernel) rfl ?_
  exact sr_iret (pc := 75) (by decide +kernel) rfl
def F11_lostKeys  (t : sr_t) : sr_Rs := f11_lostKeys_4 f11_lostKeys_74 sr_fu 0 0 t
theorem C11_lostKeys (l : Launch)   (t : sr_t) : sr_ct' l sr_m11_lostKeys [sr_r 11 0] t (F11_lostKeys  t) 0 0 := by
  refine sr_T_of (L0 := [some (sr_r 11 0), none, none, none, none]) rfl (by decide +kernel) (fun _ => rfl) (fun _ => Nat.le_of_ble_eq_true rfl) ?_
  unfold F11_lostKeys
  refine sr_iconst (pc := 0) (n := 0) (v := 0) (by decide +kernel) rfl ?_
  refine sr_istoren (pc := 1) (n := 1) (by decide +kernel) (by decide) rfl rfl ?_
  refine sr_iconst (pc := 2) (n := 0) (v := 0) (by decide +kernel) rfl ?_
  refine sr_istoren (pc := 3) (n := 2) (by decide +kernel) (by decide) rfl rfl ?_
  exact sr_wk (sr_mono (mc := 0) (ms := 0) (by omega) (by omega) (g11_lostKeys_4 l f11_lostKeys_74 (g11_lostKeys_74 l) sr_fu 0 0 t)) ⟨rfl, ⟨rfl, ⟨rfl, trivial⟩⟩⟩
def f11_gap_53  (k8 : Int32 → Int32 → Int32 → sr_t → sr_Rs) (k59 : Int32 → Int32 → sr_t → sr_Rs) : Int32 → Int32 → Int32 → sr_t → sr_Rs := fun x1 x2 x3 t => k8 x1 x2 (x3 + 1) t
theorem g11_gap_53 (l : Launch)   (k8 : Int32 → Int32 → Int32 → sr_t → sr_Rs) (k59 : Int32 → Int32 → sr_t → sr_Rs) (hk8 : ∀ (x1 : Int32) (x2 : Int32) (x3 : Int32), ∀ (t : sr_t), sr_g l sr_m11_gap 8 [some (sr_r 11 0), some (sr_i x1), some (sr_i x2), some (sr_i x3), none] [] t (k8 x1 x2 x3 t) 0 0) (hk59 : ∀ (x1 : Int32) (x2 : Int32), ∀ (t : sr_t), sr_g l sr_m11_gap 59 [some (sr_r 11 0), some (sr_i x1), some (sr_i x2), none, none] [] t (k59 x1 x2 t) 0 0) : ∀ (x1 : Int32) (x2 : Int32) (x3 : Int32), ∀ (t : sr_t), sr_g l sr_m11_gap 53 [some (sr_r 11 0), some (sr_i x1), some (sr_i x2), some (sr_i x3), none] [] t (f11_gap_53  k8 k59 x1 x2 x3 t) 0 0 := by
  intro x1 x2 x3  t
  unfold f11_gap_53
  refine sr_iinc (pc := 53) (i := 3) (n := 1) (w := x3 + 1) (by decide +kernel) rfl rfl (by decide) rfl rfl ?_
  refine sr_goto (pc := 56) (off := (-48)) (tg := 8) (by decide +kernel) (by decide) ?_
  exact sr_wk (sr_mono (mc := 0) (ms := 0) (by omega) (by omega) (hk8 x1 x2 (x3 + 1) t)) ⟨rfl, ⟨rfl, ⟨rfl, ⟨rfl, trivial⟩⟩⟩⟩
def f11_gap_44  (k8 : Int32 → Int32 → Int32 → sr_t → sr_Rs) (k59 : Int32 → Int32 → sr_t → sr_Rs) : Int32 → Int32 → Int32 → Int32 → sr_t → sr_Rs := fun x1 x2 x3 x4 t => (if x2 ≤ x4 then f11_gap_53 k8 k59 x1 x2 x3 t else f11_gap_53 k8 k59 x1 x4 x3 t)
theorem g11_gap_44 (l : Launch)   (k8 : Int32 → Int32 → Int32 → sr_t → sr_Rs) (k59 : Int32 → Int32 → sr_t → sr_Rs) (hk8 : ∀ (x1 : Int32) (x2 : Int32) (x3 : Int32), ∀ (t : sr_t), sr_g l sr_m11_gap 8 [some (sr_r 11 0), some (sr_i x1), some (sr_i x2), some (sr_i x3), none] [] t (k8 x1 x2 x3 t) 0 0) (hk59 : ∀ (x1 : Int32) (x2 : Int32), ∀ (t : sr_t), sr_g l sr_m11_gap 59 [some (sr_r 11 0), some (sr_i x1), some (sr_i x2), none, none] [] t (k59 x1 x2 t) 0 0) : ∀ (x1 : Int32) (x2 : Int32) (x3 : Int32) (x4 : Int32), ∀ (t : sr_t), sr_g l sr_m11_gap 44 [some (sr_r 11 0), some (sr_i x1), some (sr_i x2), some (sr_i x3), some (sr_i x4)] [] t (f11_gap_44  k8 k59 x1 x2 x3 x4 t) 0 0 := by
  intro x1 x2 x3 x4  t
  unfold f11_gap_44
  refine sr_iload (pc := 44) (i := 4) (by decide +kernel) rfl ?_
  refine sr_iloadn (pc := 46) (n := 2) (by decide +kernel) rfl ?_
  refine sr_icmp_ge (pc := 47) (off := 6) (tg := 53) (by decide +kernel) (by decide) (fun _ => ?_) (fun _ => ?_)
  · exact sr_wk (sr_mono (mc := 0) (ms := 0) (by omega) (by omega) (g11_gap_53 l k8 k59 hk8 hk59 x1 x2 x3 t)) ⟨rfl, ⟨rfl, ⟨rfl, ⟨rfl, trivial⟩⟩⟩⟩
  · refine sr_iload (pc := 50) (i := 4) (by decide +kernel) rfl ?_
    refine sr_istoren (pc := 52) (n := 2) (by decide +kernel) (by decide) rfl rfl ?_
    exact sr_wk (sr_mono (mc := 0) (ms := 0) (by omega) (by omega) (g11_gap_53 l k8 k59 hk8 hk59 x1 x4 x3 t)) ⟨rfl, ⟨rfl, ⟨rfl, ⟨rfl, trivial⟩⟩⟩⟩
def f11_gap_8  (k59 : Int32 → Int32 → sr_t → sr_Rs) : Nat → Int32 → Int32 → Int32 → sr_t → sr_Rs
  | 0 => fun _ _ _ _ => none
  | n + 1 => fun x1 x2 x3 t => (if (t.1 11 0 1) ≤ x3 then k59 x1 x2 t else (if x3 < 0 ∨ 24 ≤ x3.toNatClampNeg then none else (if (t.1 25 0 x3.toNatClampNeg) = 0 then f11_gap_53 (f11_gap_8 k59 n) k59 x1 x2 x3 t else (sr_bI (F11_loadOf x3 t) (fun v1 t1 => (if v1 ≤ x1 then f11_gap_44 (f11_gap_8 k59 n) k59 x1 x2 x3 v1 t1 else f11_gap_44 (f11_gap_8 k59 n) k59 v1 x2 x3 v1 t1))))))
theorem g11_gap_8 (l : Launch)   (k59 : Int32 → Int32 → sr_t → sr_Rs) (hk59 : ∀ (x1 : Int32) (x2 : Int32), ∀ (t : sr_t), sr_g l sr_m11_gap 59 [some (sr_r 11 0), some (sr_i x1), some (sr_i x2), none, none] [] t (k59 x1 x2 t) 0 0) : ∀ (n : Nat) (x1 : Int32) (x2 : Int32) (x3 : Int32), ∀ (t : sr_t), sr_g l sr_m11_gap 8 [some (sr_r 11 0), some (sr_i x1), some (sr_i x2), some (sr_i x3), none] [] t (f11_gap_8  k59 n x1 x2 x3 t) 0 0 := by
  intro n
  induction n with
  | zero => intros; exact sr_Gn
  | succ n ih =>
    intro x1 x2 x3  t
    unfold f11_gap_8
    refine sr_iloadn (pc := 8) (n := 3) (by decide +kernel) rfl ?_
    refine sr_aloadn (pc := 9) (n := 0) (by decide +kernel) rfl ?_
    refine sr_gI (pc := 10) fg_11_100 (by decide +kernel) (sr_in11 _ (by omega)) (fun _ => rfl) ?_
    refine sr_icmp_ge (pc := 13) (off := 46) (tg := 59) (by decide +kernel) (by decide) (fun _ => ?_) (fun _ => ?_)
    · exact sr_wk (sr_mono (mc := 0) (ms := 0) (by omega) (by omega) (hk59 x1 x2 t)) ⟨rfl, ⟨rfl, ⟨rfl, trivial⟩⟩⟩
    · refine sr_aloadn (pc := 16) (n := 0) (by decide +kernel) rfl ?_
      refine sr_gC (pc := 17) (i2 := 0) fg_11_13 (by decide +kernel) (sr_in11 _ (by omega)) (fun _ => rfl) ?_
      refine sr_iloadn (pc := 20) (n := 3) (by decide +kernel) rfl ?_
      refine sr_aI (pc := 21) (n := 24) rfl (by decide +kernel) (sr_in25 _ (by omega)) (fun _ _ => rfl) ?_
      refine sr_if_ne (pc := 22) (off := 6) (tg := 28) (by decide +kernel) (by decide) (fun _ => ?_) (fun _ => ?_)
      · refine sr_aloadn (pc := 28) (n := 0) (by decide +kernel) rfl ?_
        refine sr_iloadn (pc := 29) (n := 3) (by decide +kernel) rfl ?_
        refine sr_cV (pc := 30) (As := [sr_i x3]) (mc1 := 0) (ms1 := 0) (mc2 := 0) (ms2 := 0) fm_11_289 fl_11_289 (by decide +kernel) (sr_in11 _ (by omega)) (rm_11_gap_11_loadOf) rfl rfl rfl (C11_loadOf l x3 t) ?_
        refine sr_kI (fun v1 t1 => ?_)
        refine sr_istore (pc := 33) (i := 4) (by decide +kernel) (by decide) rfl rfl ?_
        refine sr_iload (pc := 35) (i := 4) (by decide +kernel) rfl ?_
        refine sr_iloadn (pc := 37) (n := 1) (by decide +kernel) rfl ?_
        refine sr_icmp_le (pc := 38) (off := 6) (tg := 44) (by decide +kernel) (by decide) (fun _ => ?_) (fun _ => ?_)
        · exact sr_wk (sr_mono (mc := 0) (ms := 0) (by omega) (by omega) (g11_gap_44 l (f11_gap_8 k59 n) k59 ih hk59 x1 x2 x3 v1 t1)) ⟨rfl, ⟨rfl, ⟨rfl, ⟨rfl, ⟨rfl, trivial⟩⟩⟩⟩⟩
        · refine sr_iload (pc := 41) (i := 4) (by decide +kernel) rfl ?_
          refine sr_istoren (pc := 43) (n := 1) (by decide +kernel) (by decide) rfl rfl ?_
          exact sr_wk (sr_mono (mc := 0) (ms := 0) (by omega) (by omega) (g11_gap_44 l (f11_gap_8 k59 n) k59 ih hk59 v1 x2 x3 v1 t1)) ⟨rfl, ⟨rfl, ⟨rfl, ⟨rfl, ⟨rfl, trivial⟩⟩⟩⟩⟩
      · refine sr_goto (pc := 25) (off := 28) (tg := 53) (by decide +kernel) (by decide) ?_
        exact sr_wk (sr_mono (mc := 0) (ms := 0) (by omega) (by omega) (g11_gap_53 l (f11_gap_8 k59 n) k59 ih hk59 x1 x2 x3 t)) ⟨rfl, ⟨rfl, ⟨rfl, ⟨rfl, trivial⟩⟩⟩⟩
def f11_gap_73   : Int32 → sr_t → sr_Rs := fun xs0 t => (some (.inl (some (sr_i xs0)), t))
theorem g11_gap_73 (l : Launch)     : ∀ (xs0 : Int32), ∀ (t : sr_t), sr_g l sr_m11_gap 73 [some (sr_r 11 0), none, none, none, none] [sr_i xs0] t (f11_gap_73   xs0 t) 0 0 := by
  intro xs0  t
  unfold f11_gap_73
  exact sr_iret (pc := 73) (by decide +kernel) rfl
def f11_gap_59   : Int32 → Int32 → sr_t → sr_Rs := fun x1 x2 t => (if x2 = 100000000 then f11_gap_73 0 t else f11_gap_73 (x1 - x2) t)
theorem g11_gap_59 (l : Launch)     : ∀ (x1 : Int32) (x2 : Int32), ∀ (t : sr_t), sr_g l sr_m11_gap 59 [some (sr_r 11 0), some (sr_i x1), some (sr_i x2), none, none] [] t (f11_gap_59   x1 x2 t) 0 0 := by
  intro x1 x2  t
  unfold f11_gap_59
  refine sr_iloadn (pc := 59) (n := 2) (by decide +kernel) rfl ?_
  refine sr_ldcw (pc := 60) (n := 282) (v := 100000000) (by decide +kernel) (sr_tb (n := 1767) (by decide +kernel) rfl) ?_
  refine sr_icmp_ne (pc := 63) (off := 7) (tg := 70) (by decide +kernel) (by decide) (fun _ => ?_) (fun _ => ?_)
  · refine sr_iloadn (pc := 70) (n := 1) (by decide +kernel) rfl ?_
    refine sr_iloadn (pc := 71) (n := 2) (by decide +kernel) rfl ?_
    refine sr_isub (pc := 72) (by decide +kernel) ?_
    exact sr_wk (sr_mono (mc := 0) (ms := 0) (by omega) (by omega) (g11_gap_73 l (x1 - x2) t)) ⟨rfl, trivial⟩
  · refine sr_iconst (pc := 66) (n := 0) (v := 0) (by decide +kernel) rfl ?_
    refine sr_goto (pc := 67) (off := 6) (tg := 73) (by decide +kernel) (by decide) ?_
    exact sr_wk (sr_mono (mc := 0) (ms := 0) (by omega) (by omega) (g11_gap_73 l 0 t)) ⟨rfl, trivial⟩
def F11_gap  (t : sr_t) : sr_Rs := f11_gap_8 f11_gap_59 sr_fu 0 100000000 0 t
theorem C11_gap (l : Launch)   (t : sr_t) : sr_ct' l sr_m11_gap [sr_r 11 0] t (F11_gap  t) 0 0 := by
  refine sr_T_of (L0 := [some (sr_r 11 0), none, none, none, none]) rfl (by decide +kernel) (fun _ => rfl) (fun _ => Nat.le_of_ble_eq_true rfl) ?_
  unfold F11_gap
  refine sr_iconst (pc := 0) (n := 0) (v := 0) (by decide +kernel) rfl ?_
  refine sr_istoren (pc := 1) (n := 1) (by decide +kernel) (by decide) rfl rfl ?_
  refine sr_ldcw (pc := 2) (n := 282) (v := 100000000) (by decide +kernel) (sr_tb (n := 1767) (by decide +kernel) rfl) ?_
  refine sr_istoren (pc := 5) (n := 2) (by decide +kernel) (by decide) rfl rfl ?_
  refine sr_iconst (pc := 6) (n := 0) (v := 0) (by decide +kernel) rfl ?_
  refine sr_istoren (pc := 7) (n := 3) (by decide +kernel) (by decide) rfl rfl ?_
  exact sr_wk (sr_mono (mc := 0) (ms := 0) (by omega) (by omega) (g11_gap_8 l f11_gap_59 (g11_gap_59 l) sr_fu 0 100000000 0 t)) ⟨rfl, ⟨rfl, ⟨rfl, ⟨rfl, trivial⟩⟩⟩⟩
def f11_split_43  (k63 : sr_t → sr_Rs) (k71 : Int32 → sr_t → sr_Rs) : Nat → Int32 → Int32 → sr_t → sr_Rs
  | 0 => fun _ _ _ => none
  | n + 1 => fun x3 x4 t => (if (t.1 11 0 1) ≤ x4 then k71 x3 t else (if x4 < 0 ∨ 24 ≤ x4.toNatClampNeg then none else (if (t.1 24 0 x4.toNatClampNeg) = x3 then k63 t else (f11_split_43 k63 k71 n) x3 (x4 + 1) t)))
theorem g11_split_43 (l : Launch)   (k63 : sr_t → sr_Rs) (k71 : Int32 → sr_t → sr_Rs) (hk63 : ∀ (t : sr_t), sr_g l sr_m11_split 63 [some (sr_r 11 0), none, none, none, none] [] t (k63 t) 0 0) (hk71 : ∀ (x3 : Int32), ∀ (t : sr_t), sr_g l sr_m11_split 71 [some (sr_r 11 0), none, none, some (sr_i x3), none] [] t (k71 x3 t) 0 0) : ∀ (n : Nat) (x3 : Int32) (x4 : Int32), ∀ (t : sr_t), sr_g l sr_m11_split 43 [some (sr_r 11 0), none, none, some (sr_i x3), some (sr_i x4)] [] t (f11_split_43  k63 k71 n x3 x4 t) 0 0 := by
  intro n
  induction n with
  | zero => intros; exact sr_Gn
  | succ n ih =>
    intro x3 x4  t
    unfold f11_split_43
    refine sr_iload (pc := 43) (i := 4) (by decide +kernel) rfl ?_
    refine sr_aloadn (pc := 45) (n := 0) (by decide +kernel) rfl ?_
    refine sr_gI (pc := 46) fg_11_100 (by decide +kernel) (sr_in11 _ (by omega)) (fun _ => rfl) ?_
    refine sr_icmp_ge (pc := 49) (off := 22) (tg := 71) (by decide +kernel) (by decide) (fun _ => ?_) (fun _ => ?_)
    · exact sr_wk (sr_mono (mc := 0) (ms := 0) (by omega) (by omega) (hk71 x3 t)) ⟨rfl, ⟨rfl, trivial⟩⟩
    · refine sr_aloadn (pc := 52) (n := 0) (by decide +kernel) rfl ?_
      refine sr_gC (pc := 53) (i2 := 0) fg_11_7 (by decide +kernel) (sr_in11 _ (by omega)) (fun _ => rfl) ?_
      refine sr_iload (pc := 56) (i := 4) (by decide +kernel) rfl ?_
      refine sr_aI (pc := 58) (n := 24) rfl (by decide +kernel) (sr_in24 _ (by omega)) (fun _ _ => rfl) ?_
      refine sr_iloadn (pc := 59) (n := 3) (by decide +kernel) rfl ?_
      refine sr_icmp_ne (pc := 60) (off := 5) (tg := 65) (by decide +kernel) (by decide) (fun _ => ?_) (fun _ => ?_)
      · refine sr_iinc (pc := 65) (i := 4) (n := 1) (w := x4 + 1) (by decide +kernel) rfl rfl (by decide) rfl rfl ?_
        refine sr_goto (pc := 68) (off := (-25)) (tg := 43) (by decide +kernel) (by decide) ?_
        exact sr_wk (sr_mono (mc := 0) (ms := 0) (by omega) (by omega) (ih x3 (x4 + 1) t)) ⟨rfl, ⟨rfl, ⟨rfl, trivial⟩⟩⟩
      · exact sr_wk (sr_mono (mc := 0) (ms := 0) (by omega) (by omega) (hk63 t)) ⟨rfl, trivial⟩
def f11_split_63   : sr_t → sr_Rs := fun  t => (some (.inl (some (sr_i ((-1)))), t))
theorem g11_split_63 (l : Launch)     : ∀ (t : sr_t), sr_g l sr_m11_split 63 [some (sr_r 11 0), none, none, none, none] [] t (f11_split_63    t) 0 0 := by
  intro t
  unfold f11_split_63
  refine sr_iconst (pc := 63) (n := (-1)) (v := (-1)) (by decide +kernel) rfl ?_
  exact sr_iret (pc := 64) (by decide +kernel) rfl
def f11_split_71   : Int32 → sr_t → sr_Rs := fun x3 t => (some (.inl (some (sr_i x3)), t))
theorem g11_split_71 (l : Launch)     : ∀ (x3 : Int32), ∀ (t : sr_t), sr_g l sr_m11_split 71 [some (sr_r 11 0), none, none, some (sr_i x3), none] [] t (f11_split_71   x3 t) 0 0 := by
  intro x3  t
  unfold f11_split_71
  refine sr_iloadn (pc := 71) (n := 3) (by decide +kernel) rfl ?_
  exact sr_iret (pc := 72) (by decide +kernel) rfl
def F11_split  (t : sr_t) : sr_Rs := (sr_bI (F11_mostOf 0 t) (fun v1 t1 => (if v1 = ((-1)) then (some (.inl (some (sr_i ((-1)))), t1)) else (sr_bI (F11_loadOf v1 t1) (fun v2 t2 => (if v1 < 0 ∨ 24 ≤ v1.toNatClampNeg then none else (if 2 = 0 then none else (if 4096 = 0 then none else f11_split_43 f11_split_63 f11_split_71 sr_fu (((((t2.1 24 0 v1.toNatClampNeg) + 4096) - v2) + (v2 / 2)) - ((((t2.1 24 0 v1.toNatClampNeg) + 4096) - v2) + (v2 / 2)) / 4096 * 4096) 0 t2))))))))
theorem C11_split (l : Launch)   (t : sr_t) : sr_ct' l sr_m11_split [sr_r 11 0] t (F11_split  t) 0 0 := by
  refine sr_T_of (L0 := [some (sr_r 11 0), none, none, none, none]) rfl (by decide +kernel) (fun _ => rfl) (fun _ => Nat.le_of_ble_eq_true rfl) ?_
  unfold F11_split
  refine sr_aloadn (pc := 0) (n := 0) (by decide +kernel) rfl ?_
  refine sr_iconst (pc := 1) (n := 0) (v := 0) (by decide +kernel) rfl ?_
  refine sr_cV (pc := 2) (As := [sr_i 0]) (mc1 := 0) (ms1 := 0) (mc2 := 0) (ms2 := 0) fm_11_352 fl_11_352 (by decide +kernel) (sr_in11 _ (by omega)) (rm_11_split_11_mostOf) rfl rfl rfl (C11_mostOf l 0 t) ?_
  refine sr_kI (fun v1 t1 => ?_)
  refine sr_istoren (pc := 5) (n := 1) (by decide +kernel) (by decide) rfl rfl ?_
  refine sr_iloadn (pc := 6) (n := 1) (by decide +kernel) rfl ?_
  refine sr_iconst (pc := 7) (n := (-1)) (v := (-1)) (by decide +kernel) rfl ?_
  refine sr_icmp_ne (pc := 8) (off := 5) (tg := 13) (by decide +kernel) (by decide) (fun _ => ?_) (fun _ => ?_)
  · refine sr_aloadn (pc := 13) (n := 0) (by decide +kernel) rfl ?_
    refine sr_iloadn (pc := 14) (n := 1) (by decide +kernel) rfl ?_
    refine sr_cV (pc := 15) (As := [sr_i v1]) (mc1 := 0) (ms1 := 0) (mc2 := 0) (ms2 := 0) fm_11_289 fl_11_289 (by decide +kernel) (sr_in11 _ (by omega)) (rm_11_split_11_loadOf) rfl rfl rfl (C11_loadOf l v1 t1) ?_
    refine sr_kI (fun v2 t2 => ?_)
    refine sr_istoren (pc := 18) (n := 2) (by decide +kernel) (by decide) rfl rfl ?_
    refine sr_aloadn (pc := 19) (n := 0) (by decide +kernel) rfl ?_
    refine sr_gC (pc := 20) (i2 := 0) fg_11_7 (by decide +kernel) (sr_in11 _ (by omega)) (fun _ => rfl) ?_
    refine sr_iloadn (pc := 23) (n := 1) (by decide +kernel) rfl ?_
    refine sr_aI (pc := 24) (n := 24) rfl (by decide +kernel) (sr_in24 _ (by omega)) (fun _ _ => rfl) ?_
    refine sr_sipush (pc := 25) (n := 4096) (v := 4096) (by decide +kernel) (by decide) ?_
    refine sr_iadd (pc := 28) (by decide +kernel) ?_
    refine sr_iloadn (pc := 29) (n := 2) (by decide +kernel) rfl ?_
    refine sr_isub (pc := 30) (by decide +kernel) ?_
    refine sr_iloadn (pc := 31) (n := 2) (by decide +kernel) rfl ?_
    refine sr_iconst (pc := 32) (n := 2) (v := 2) (by decide +kernel) rfl ?_
    refine sr_idiv (pc := 33) (by decide +kernel) (fun _ => ?_)
    refine sr_iadd (pc := 34) (by decide +kernel) ?_
    refine sr_sipush (pc := 35) (n := 4096) (v := 4096) (by decide +kernel) (by decide) ?_
    refine sr_irem (pc := 38) (by decide +kernel) (fun _ => ?_)
    refine sr_istoren (pc := 39) (n := 3) (by decide +kernel) (by decide) rfl rfl ?_
    refine sr_iconst (pc := 40) (n := 0) (v := 0) (by decide +kernel) rfl ?_
    refine sr_istore (pc := 41) (i := 4) (by decide +kernel) (by decide) rfl rfl ?_
    exact sr_wk (sr_mono (mc := 0) (ms := 0) (by omega) (by omega) (g11_split_43 l f11_split_63 f11_split_71 (g11_split_63 l) (g11_split_71 l) sr_fu (((((t2.1 24 0 v1.toNatClampNeg) + 4096) - v2) + (v2 / 2)) - ((((t2.1 24 0 v1.toNatClampNeg) + 4096) - v2) + (v2 / 2)) / 4096 * 4096) 0 t2)) ⟨rfl, ⟨rfl, ⟨rfl, trivial⟩⟩⟩
  · refine sr_iconst (pc := 11) (n := (-1)) (v := (-1)) (by decide +kernel) rfl ?_
    exact sr_iret (pc := 12) (by decide +kernel) rfl
