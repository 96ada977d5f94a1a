def F11_tableOf (a0 : Int32) (a1 : Int32) (t : sr_t) : sr_Rs := (if (14 * a0) + a1 < 0 ∨ 336 ≤ ((14 * a0) + a1).toNatClampNeg then none else (some (.inl (some (sr_i (t.1 27 0 ((14 * a0) + a1).toNatClampNeg))), t)))
theorem C11_tableOf (l : Launch) (a0 : Int32) (a1 : Int32)  (t : sr_t) : sr_ct' l sr_m11_tableOf [sr_r 11 0, sr_i a0, sr_i a1] t (F11_tableOf a0 a1 t) 0 0 := by
  refine sr_T_of (L0 := [some (sr_r 11 0), some (sr_i a0), some (sr_i a1)]) rfl (by decide +kernel) (fun _ => rfl) (fun _ => Nat.le_of_ble_eq_true rfl) ?_
  unfold F11_tableOf
  refine sr_aloadn (pc := 0) (n := 0) (by decide +kernel) rfl ?_
  refine sr_gC (pc := 1) (i2 := 0) fg_11_19 (by decide +kernel) (sr_in11 _ (by omega)) (fun _ => rfl) ?_
  refine sr_bipush (pc := 4) (n := 14) (v := 14) (by decide +kernel) (by decide) ?_
  refine sr_iloadn (pc := 6) (n := 1) (by decide +kernel) rfl ?_
  refine sr_imul (pc := 7) (by decide +kernel) ?_
  refine sr_iloadn (pc := 8) (n := 2) (by decide +kernel) rfl ?_
  refine sr_iadd (pc := 9) (by decide +kernel) ?_
  refine sr_aI (pc := 10) (n := 336) rfl (by decide +kernel) (sr_in27 _ (by omega)) (fun _ _ => rfl) ?_
  exact sr_iret (pc := 11) (by decide +kernel) rfl
def f11_differ_80 (a0 : Int32) (a1 : Int32) (a2 : Int32) (a3 : Int32) (a4 : Int32) (k6 : Int32 → Int32 → sr_t → sr_Rs) (k89 : Int32 → sr_t → sr_Rs) : Int32 → Int32 → Int32 → sr_t → sr_Rs := fun x7 xs0 xs1 t => k6 (xs1 + xs0) (x7 + 1) t
theorem g11_differ_80 (l : Launch) (a0 : Int32) (a1 : Int32) (a2 : Int32) (a3 : Int32) (a4 : Int32)  (k6 : Int32 → Int32 → sr_t → sr_Rs) (k89 : Int32 → sr_t → sr_Rs) (hk6 : ∀ (x6 : Int32) (x7 : Int32), ∀ (t : sr_t), sr_g l sr_m11_differ 6 [some (sr_r 11 0), some (sr_i a0), some (sr_i a1), some (sr_i a2), some (sr_i a3), some (sr_i a4), some (sr_i x6), some (sr_i x7), none, none] [] t (k6 x6 x7 t) 0 0) (hk89 : ∀ (x6 : Int32), ∀ (t : sr_t), sr_g l sr_m11_differ 89 [some (sr_r 11 0), some (sr_i a0), some (sr_i a1), some (sr_i a2), some (sr_i a3), some (sr_i a4), some (sr_i x6), none, none, none] [] t (k89 x6 t) 0 0) : ∀ (x7 : Int32) (xs0 : Int32) (xs1 : Int32), ∀ (t : sr_t), sr_g l sr_m11_differ 80 [some (sr_r 11 0), some (sr_i a0), some (sr_i a1), some (sr_i a2), some (sr_i a3), some (sr_i a4), none, some (sr_i x7), none, none] [sr_i xs0, sr_i xs1] t (f11_differ_80 a0 a1 a2 a3 a4 k6 k89 x7 xs0 xs1 t) 0 0 := by
  intro x7 xs0 xs1  t
  unfold f11_differ_80
  refine sr_iadd (pc := 80) (by decide +kernel) ?_
  refine sr_istore (pc := 81) (i := 6) (by decide +kernel) (by decide) rfl rfl ?_
  refine sr_iinc (pc := 83) (i := 7) (n := 1) (w := x7 + 1) (by decide +kernel) rfl rfl (by decide) rfl rfl ?_
  refine sr_goto (pc := 86) (off := (-80)) (tg := 6) (by decide +kernel) (by decide) ?_
  exact sr_wk (sr_mono (mc := 0) (ms := 0) (by omega) (by omega) (hk6 (xs1 + xs0) (x7 + 1) t)) ⟨rfl, ⟨rfl, ⟨rfl, ⟨rfl, ⟨rfl, ⟨rfl, ⟨rfl, ⟨rfl, trivial⟩⟩⟩⟩⟩⟩⟩⟩
def f11_differ_79 (a0 : Int32) (a1 : Int32) (a2 : Int32) (a3 : Int32) (a4 : Int32) (k6 : Int32 → Int32 → sr_t → sr_Rs) (k89 : Int32 → sr_t → sr_Rs) : Int32 → Int32 → sr_t → sr_Rs := fun x7 xs0 t => f11_differ_80 a0 a1 a2 a3 a4 k6 k89 x7 0 xs0 t
theorem g11_differ_79 (l : Launch) (a0 : Int32) (a1 : Int32) (a2 : Int32) (a3 : Int32) (a4 : Int32)  (k6 : Int32 → Int32 → sr_t → sr_Rs) (k89 : Int32 → sr_t → sr_Rs) (hk6 : ∀ (x6 : Int32) (x7 : Int32), ∀ (t : sr_t), sr_g l sr_m11_differ 6 [some (sr_r 11 0), some (sr_i a0), some (sr_i a1), some (sr_i a2), some (sr_i a3), some (sr_i a4), some (sr_i x6), some (sr_i x7), none, none] [] t (k6 x6 x7 t) 0 0) (hk89 : ∀ (x6 : Int32), ∀ (t : sr_t), sr_g l sr_m11_differ 89 [some (sr_r 11 0), some (sr_i a0), some (sr_i a1), some (sr_i a2), some (sr_i a3), some (sr_i a4), some (sr_i x6), none, none, none] [] t (k89 x6 t) 0 0) : ∀ (x7 : Int32) (xs0 : Int32), ∀ (t : sr_t), sr_g l sr_m11_differ 79 [some (sr_r 11 0), some (sr_i a0), some (sr_i a1), some (sr_i a2), some (sr_i a3), some (sr_i a4), none, some (sr_i x7), none, none] [sr_i xs0] t (f11_differ_79 a0 a1 a2 a3 a4 k6 k89 x7 xs0 t) 0 0 := by
  intro x7 xs0  t
  unfold f11_differ_79
  refine sr_iconst (pc := 79) (n := 0) (v := 0) (by decide +kernel) rfl ?_
  exact sr_wk (sr_mono (mc := 0) (ms := 0) (by omega) (by omega) (g11_differ_80 l a0 a1 a2 a3 a4 k6 k89 hk6 hk89 x7 0 xs0 t)) ⟨rfl, ⟨rfl, ⟨rfl, ⟨rfl, ⟨rfl, ⟨rfl, ⟨rfl, trivial⟩⟩⟩⟩⟩⟩⟩
def f11_differ_75 (a0 : Int32) (a1 : Int32) (a2 : Int32) (a3 : Int32) (a4 : Int32) (k6 : Int32 → Int32 → sr_t → sr_Rs) (k89 : Int32 → sr_t → sr_Rs) : Int32 → Int32 → sr_t → sr_Rs := fun x7 xs0 t => f11_differ_80 a0 a1 a2 a3 a4 k6 k89 x7 1 xs0 t
theorem g11_differ_75 (l : Launch) (a0 : Int32) (a1 : Int32) (a2 : Int32) (a3 : Int32) (a4 : Int32)  (k6 : Int32 → Int32 → sr_t → sr_Rs) (k89 : Int32 → sr_t → sr_Rs) (hk6 : ∀ (x6 : Int32) (x7 : Int32), ∀ (t : sr_t), sr_g l sr_m11_differ 6 [some (sr_r 11 0), some (sr_i a0), some (sr_i a1), some (sr_i a2), some (sr_i a3), some (sr_i a4), some (sr_i x6), some (sr_i x7), none, none] [] t (k6 x6 x7 t) 0 0) (hk89 : ∀ (x6 : Int32), ∀ (t : sr_t), sr_g l sr_m11_differ 89 [some (sr_r 11 0), some (sr_i a0), some (sr_i a1), some (sr_i a2), some (sr_i a3), some (sr_i a4), some (sr_i x6), none, none, none] [] t (k89 x6 t) 0 0) : ∀ (x7 : Int32) (xs0 : Int32), ∀ (t : sr_t), sr_g l sr_m11_differ 75 [some (sr_r 11 0), some (sr_i a0), some (sr_i a1), some (sr_i a2), some (sr_i a3), some (sr_i a4), none, some (sr_i x7), none, none] [sr_i xs0] t (f11_differ_75 a0 a1 a2 a3 a4 k6 k89 x7 xs0 t) 0 0 := by
  intro x7 xs0  t
  unfold f11_differ_75
  refine sr_iconst (pc := 75) (n := 1) (v := 1) (by decide +kernel) rfl ?_
  refine sr_goto (pc := 76) (off := 4) (tg := 80) (by decide +kernel) (by decide) ?_
  exact sr_wk (sr_mono (mc := 0) (ms := 0) (by omega) (by omega) (g11_differ_80 l a0 a1 a2 a3 a4 k6 k89 hk6 hk89 x7 1 xs0 t)) ⟨rfl, ⟨rfl, ⟨rfl, ⟨rfl, ⟨rfl, ⟨rfl, ⟨rfl, trivial⟩⟩⟩⟩⟩⟩⟩
def f11_differ_38 (a0 : Int32) (a1 : Int32) (a2 : Int32) (a3 : Int32) (a4 : Int32) (k6 : Int32 → Int32 → sr_t → sr_Rs) (k89 : Int32 → sr_t → sr_Rs) : Int32 → Int32 → Int32 → Int32 → sr_t → sr_Rs := fun x6 x7 x8 xs0 t => (if x8 = xs0 then (if x8 = 0 then f11_differ_79 a0 a1 a2 a3 a4 k6 k89 x7 x6 t else (sr_bI (F11_tableOf a2 (a0 + x7) t) (fun v1 t1 => (if a0 + x7 < 0 ∨ 14 ≤ (a0 + x7).toNatClampNeg then none else (if v1 = (t1.1 41 0 (a0 + x7).toNatClampNeg) then f11_differ_79 a0 a1 a2 a3 a4 k6 k89 x7 x6 t1 else f11_differ_75 a0 a1 a2 a3 a4 k6 k89 x7 x6 t1))))) else f11_differ_75 a0 a1 a2 a3 a4 k6 k89 x7 x6 t)
theorem g11_differ_38 (l : Launch) (a0 : Int32) (a1 : Int32) (a2 : Int32) (a3 : Int32) (a4 : Int32)  (k6 : Int32 → Int32 → sr_t → sr_Rs) (k89 : Int32 → sr_t → sr_Rs) (hk6 : ∀ (x6 : Int32) (x7 : Int32), ∀ (t : sr_t), sr_g l sr_m11_differ 6 [some (sr_r 11 0), some (sr_i a0), some (sr_i a1), some (sr_i a2), some (sr_i a3), some (sr_i a4), some (sr_i x6), some (sr_i x7), none, none] [] t (k6 x6 x7 t) 0 0) (hk89 : ∀ (x6 : Int32), ∀ (t : sr_t), sr_g l sr_m11_differ 89 [some (sr_r 11 0), some (sr_i a0), some (sr_i a1), some (sr_i a2), some (sr_i a3), some (sr_i a4), some (sr_i x6), none, none, none] [] t (k89 x6 t) 0 0) : ∀ (x6 : Int32) (x7 : Int32) (x8 : Int32) (xs0 : Int32), ∀ (t : sr_t), sr_g l sr_m11_differ 38 [some (sr_r 11 0), some (sr_i a0), some (sr_i a1), some (sr_i a2), some (sr_i a3), some (sr_i a4), some (sr_i x6), some (sr_i x7), some (sr_i x8), none] [sr_i xs0] t (f11_differ_38 a0 a1 a2 a3 a4 k6 k89 x6 x7 x8 xs0 t) 0 0 := by
  intro x6 x7 x8 xs0  t
  unfold f11_differ_38
  refine sr_istore (pc := 38) (i := 9) (by decide +kernel) (by decide) rfl rfl ?_
  refine sr_iload (pc := 40) (i := 6) (by decide +kernel) rfl ?_
  refine sr_iload (pc := 42) (i := 8) (by decide +kernel) rfl ?_
  refine sr_iload (pc := 44) (i := 9) (by decide +kernel) rfl ?_
  refine sr_icmp_ne (pc := 46) (off := 29) (tg := 75) (by decide +kernel) (by decide) (fun _ => ?_) (fun _ => ?_)
  · exact sr_wk (sr_mono (mc := 0) (ms := 0) (by omega) (by omega) (g11_differ_75 l a0 a1 a2 a3 a4 k6 k89 hk6 hk89 x7 x6 t)) ⟨rfl, ⟨rfl, ⟨rfl, ⟨rfl, ⟨rfl, ⟨rfl, ⟨rfl, trivial⟩⟩⟩⟩⟩⟩⟩
  · refine sr_iload (pc := 49) (i := 8) (by decide +kernel) rfl ?_
    refine sr_if_eq (pc := 51) (off := 28) (tg := 79) (by decide +kernel) (by decide) (fun _ => ?_) (fun _ => ?_)
    · exact sr_wk (sr_mono (mc := 0) (ms := 0) (by omega) (by omega) (g11_differ_79 l a0 a1 a2 a3 a4 k6 k89 hk6 hk89 x7 x6 t)) ⟨rfl, ⟨rfl, ⟨rfl, ⟨rfl, ⟨rfl, ⟨rfl, ⟨rfl, trivial⟩⟩⟩⟩⟩⟩⟩
    · refine sr_aloadn (pc := 54) (n := 0) (by decide +kernel) rfl ?_
      refine sr_iloadn (pc := 55) (n := 3) (by decide +kernel) rfl ?_
      refine sr_iloadn (pc := 56) (n := 1) (by decide +kernel) rfl ?_
      refine sr_iload (pc := 57) (i := 7) (by decide +kernel) rfl ?_
      refine sr_iadd (pc := 59) (by decide +kernel) ?_
      refine sr_cV (pc := 60) (As := [sr_i a2, sr_i (a0 + x7)]) (mc1 := 0) (ms1 := 0) (mc2 := 0) (ms2 := 0) fm_11_123 fl_11_123 (by decide +kernel) (sr_in11 _ (by omega)) (rm_11_differ_11_tableOf) rfl rfl rfl (C11_tableOf l a2 (a0 + x7) t) ?_
      refine sr_kI (fun v1 t1 => ?_)
      refine sr_aloadn (pc := 63) (n := 0) (by decide +kernel) rfl ?_
      refine sr_gC (pc := 64) (i2 := 0) fg_11_71 (by decide +kernel) (sr_in11 _ (by omega)) (fun _ => rfl) ?_
      refine sr_iloadn (pc := 67) (n := 1) (by decide +kernel) rfl ?_
      refine sr_iload (pc := 68) (i := 7) (by decide +kernel) rfl ?_
      refine sr_iadd (pc := 70) (by decide +kernel) ?_
      refine sr_aI (pc := 71) (n := 14) rfl (by decide +kernel) (sr_in41 _ (by omega)) (fun _ _ => rfl) ?_
      refine sr_icmp_eq (pc := 72) (off := 7) (tg := 79) (by decide +kernel) (by decide) (fun _ => ?_) (fun _ => ?_)
      · exact sr_wk (sr_mono (mc := 0) (ms := 0) (by omega) (by omega) (g11_differ_79 l a0 a1 a2 a3 a4 k6 k89 hk6 hk89 x7 x6 t1)) ⟨rfl, ⟨rfl, ⟨rfl, ⟨rfl, ⟨rfl, ⟨rfl, ⟨rfl, trivial⟩⟩⟩⟩⟩⟩⟩
      · exact sr_wk (sr_mono (mc := 0) (ms := 0) (by omega) (by omega) (g11_differ_75 l a0 a1 a2 a3 a4 k6 k89 hk6 hk89 x7 x6 t1)) ⟨rfl, ⟨rfl, ⟨rfl, ⟨rfl, ⟨rfl, ⟨rfl, ⟨rfl, trivial⟩⟩⟩⟩⟩⟩⟩
def f11_differ_24 (a0 : Int32) (a1 : Int32) (a2 : Int32) (a3 : Int32) (a4 : Int32) (k6 : Int32 → Int32 → sr_t → sr_Rs) (k89 : Int32 → sr_t → sr_Rs) : Int32 → Int32 → Int32 → sr_t → sr_Rs := fun x6 x7 xs0 t => (if a4 ≤ x7 then f11_differ_38 a0 a1 a2 a3 a4 k6 k89 x6 x7 xs0 0 t else f11_differ_38 a0 a1 a2 a3 a4 k6 k89 x6 x7 xs0 1 t)
theorem g11_differ_24 (l : Launch) (a0 : Int32) (a1 : Int32) (a2 : Int32) (a3 : Int32) (a4 : Int32)  (k6 : Int32 → Int32 → sr_t → sr_Rs) (k89 : Int32 → sr_t → sr_Rs) (hk6 : ∀ (x6 : Int32) (x7 : Int32), ∀ (t : sr_t), sr_g l sr_m11_differ 6 [some (sr_r 11 0), some (sr_i a0), some (sr_i a1), some (sr_i a2), some (sr_i a3), some (sr_i a4), some (sr_i x6), some (sr_i x7), none, none] [] t (k6 x6 x7 t) 0 0) (hk89 : ∀ (x6 : Int32), ∀ (t : sr_t), sr_g l sr_m11_differ 89 [some (sr_r 11 0), some (sr_i a0), some (sr_i a1), some (sr_i a2), some (sr_i a3), some (sr_i a4), some (sr_i x6), none, none, none] [] t (k89 x6 t) 0 0) : ∀ (x6 : Int32) (x7 : Int32) (xs0 : Int32), ∀ (t : sr_t), sr_g l sr_m11_differ 24 [some (sr_r 11 0), some (sr_i a0), some (sr_i a1), some (sr_i a2), some (sr_i a3), some (sr_i a4), some (sr_i x6), some (sr_i x7), none, none] [sr_i xs0] t (f11_differ_24 a0 a1 a2 a3 a4 k6 k89 x6 x7 xs0 t) 0 0 := by
  intro x6 x7 xs0  t
  unfold f11_differ_24
  refine sr_istore (pc := 24) (i := 8) (by decide +kernel) (by decide) rfl rfl ?_
  refine sr_iload (pc := 26) (i := 7) (by decide +kernel) rfl ?_
  refine sr_iload (pc := 28) (i := 5) (by decide +kernel) rfl ?_
  refine sr_icmp_ge (pc := 30) (off := 7) (tg := 37) (by decide +kernel) (by decide) (fun _ => ?_) (fun _ => ?_)
  · refine sr_iconst (pc := 37) (n := 0) (v := 0) (by decide +kernel) rfl ?_
    exact sr_wk (sr_mono (mc := 0) (ms := 0) (by omega) (by omega) (g11_differ_38 l a0 a1 a2 a3 a4 k6 k89 hk6 hk89 x6 x7 xs0 0 t)) ⟨rfl, ⟨rfl, ⟨rfl, ⟨rfl, ⟨rfl, ⟨rfl, ⟨rfl, ⟨rfl, ⟨rfl, trivial⟩⟩⟩⟩⟩⟩⟩⟩⟩
  · refine sr_iconst (pc := 33) (n := 1) (v := 1) (by decide +kernel) rfl ?_
    refine sr_goto (pc := 34) (off := 4) (tg := 38) (by decide +kernel) (by decide) ?_
    exact sr_wk (sr_mono (mc := 0) (ms := 0) (by omega) (by omega) (g11_differ_38 l a0 a1 a2 a3 a4 k6 k89 hk6 hk89 x6 x7 xs0 1 t)) ⟨rfl, ⟨rfl, ⟨rfl, ⟨rfl, ⟨rfl, ⟨rfl, ⟨rfl, ⟨rfl, ⟨rfl, trivial⟩⟩⟩⟩⟩⟩⟩⟩⟩
def f11_differ_6 (a0 : Int32) (a1 : Int32) (a2 : Int32) (a3 : Int32) (a4 : Int32) (k89 : Int32 → sr_t → sr_Rs) : Nat → Int32 → Int32 → sr_t → sr_Rs
  | 0 => fun _ _ _ => none
  | n + 1 => fun x6 x7 t => (if a1 ≤ x7 then k89 x6 t else (if a3 ≤ x7 then f11_differ_24 a0 a1 a2 a3 a4 (f11_differ_6 a0 a1 a2 a3 a4 k89 n) k89 x6 x7 0 t else f11_differ_24 a0 a1 a2 a3 a4 (f11_differ_6 a0 a1 a2 a3 a4 k89 n) k89 x6 x7 1 t))
theorem g11_differ_6 (l : Launch) (a0 : Int32) (a1 : Int32) (a2 : Int32) (a3 : Int32) (a4 : Int32)  (k89 : Int32 → sr_t → sr_Rs) (hk89 : ∀ (x6 : Int32), ∀ (t : sr_t), sr_g l sr_m11_differ 89 [some (sr_r 11 0), some (sr_i a0), some (sr_i a1), some (sr_i a2), some (sr_i a3), some (sr_i a4), some (sr_i x6), none, none, none] [] t (k89 x6 t) 0 0) : ∀ (n : Nat) (x6 : Int32) (x7 : Int32), ∀ (t : sr_t), sr_g l sr_m11_differ 6 [some (sr_r 11 0), some (sr_i a0), some (sr_i a1), some (sr_i a2), some (sr_i a3), some (sr_i a4), some (sr_i x6), some (sr_i x7), none, none] [] t (f11_differ_6 a0 a1 a2 a3 a4 k89 n x6 x7 t) 0 0 := by
  intro n
  induction n with
  | zero => intros; exact sr_Gn
  | succ n ih =>
    intro x6 x7  t
    unfold f11_differ_6
    refine sr_iload (pc := 6) (i := 7) (by decide +kernel) rfl ?_
    refine sr_iloadn (pc := 8) (n := 2) (by decide +kernel) rfl ?_
    refine sr_icmp_ge (pc := 9) (off := 80) (tg := 89) (by decide +kernel) (by decide) (fun _ => ?_) (fun _ => ?_)
    · exact sr_wk (sr_mono (mc := 0) (ms := 0) (by omega) (by omega) (hk89 x6 t)) ⟨rfl, ⟨rfl, ⟨rfl, ⟨rfl, ⟨rfl, ⟨rfl, ⟨rfl, trivial⟩⟩⟩⟩⟩⟩⟩
    · refine sr_iload (pc := 12) (i := 7) (by decide +kernel) rfl ?_
      refine sr_iload (pc := 14) (i := 4) (by decide +kernel) rfl ?_
      refine sr_icmp_ge (pc := 16) (off := 7) (tg := 23) (by decide +kernel) (by decide) (fun _ => ?_) (fun _ => ?_)
      · refine sr_iconst (pc := 23) (n := 0) (v := 0) (by decide +kernel) rfl ?_
        exact sr_wk (sr_mono (mc := 0) (ms := 0) (by omega) (by omega) (g11_differ_24 l a0 a1 a2 a3 a4 (f11_differ_6 a0 a1 a2 a3 a4 k89 n) k89 ih hk89 x6 x7 0 t)) ⟨rfl, ⟨rfl, ⟨rfl, ⟨rfl, ⟨rfl, ⟨rfl, ⟨rfl, ⟨rfl, trivial⟩⟩⟩⟩⟩⟩⟩⟩
      · refine sr_iconst (pc := 19) (n := 1) (v := 1) (by decide +kernel) rfl ?_
        refine sr_goto (pc := 20) (off := 4) (tg := 24) (by decide +kernel) (by decide) ?_
        exact sr_wk (sr_mono (mc := 0) (ms := 0) (by omega) (by omega) (g11_differ_24 l a0 a1 a2 a3 a4 (f11_differ_6 a0 a1 a2 a3 a4 k89 n) k89 ih hk89 x6 x7 1 t)) ⟨rfl, ⟨rfl, ⟨rfl, ⟨rfl, ⟨rfl, ⟨rfl, ⟨rfl, ⟨rfl, trivial⟩⟩⟩⟩⟩⟩⟩⟩
def f11_differ_89 (a0 : Int32) (a1 : Int32) (a2 : Int32) (a3 : Int32) (a4 : Int32)  : Int32 → sr_t → sr_Rs := fun x6 t => (some (.inl (some (sr_i x6)), t))
theorem g11_differ_89 (l : Launch) (a0 : Int32) (a1 : Int32) (a2 : Int32) (a3 : Int32) (a4 : Int32)    : ∀ (x6 : Int32), ∀ (t : sr_t), sr_g l sr_m11_differ 89 [some (sr_r 11 0), some (sr_i a0), some (sr_i a1), some (sr_i a2), some (sr_i a3), some (sr_i a4), some (sr_i x6), none, none, none] [] t (f11_differ_89 a0 a1 a2 a3 a4  x6 t) 0 0 := by
  intro x6  t
  unfold f11_differ_89
  refine sr_iload (pc := 89) (i := 6) (by decide +kernel) rfl ?_
  exact sr_iret (pc := 91) (by decide +kernel) rfl
def F11_differ (a0 : Int32) (a1 : Int32) (a2 : Int32) (a3 : Int32) (a4 : Int32) (t : sr_t) : sr_Rs := f11_differ_6 a0 a1 a2 a3 a4 (f11_differ_89 a0 a1 a2 a3 a4) sr_fu 0 0 t
theorem C11_differ (l : Launch) (a0 : Int32) (a1 : Int32) (a2 : Int32) (a3 : Int32) (a4 : Int32)  (t : sr_t) : sr_ct' l sr_m11_differ [sr_r 11 0, sr_i a0, sr_i a1, sr_i a2, sr_i a3, sr_i a4] t (F11_differ a0 a1 a2 a3 a4 t) 0 0 := by
  refine sr_T_of (L0 := [some (sr_r 11 0), some (sr_i a0), some (sr_i a1), some (sr_i a2), some (sr_i a3), some (sr_i a4), none, none, none, none]) rfl (by decide +kernel) (fun _ => rfl) (fun _ => Nat.le_of_ble_eq_true rfl) ?_
  unfold F11_differ
  refine sr_iconst (pc := 0) (n := 0) (v := 0) (by decide +kernel) rfl ?_
  refine sr_istore (pc := 1) (i := 6) (by decide +kernel) (by decide) rfl rfl ?_
  refine sr_iconst (pc := 3) (n := 0) (v := 0) (by decide +kernel) rfl ?_
  refine sr_istore (pc := 4) (i := 7) (by decide +kernel) (by decide) rfl rfl ?_
  exact sr_wk (sr_mono (mc := 0) (ms := 0) (by omega) (by omega) (g11_differ_6 l a0 a1 a2 a3 a4 (f11_differ_89 a0 a1 a2 a3 a4) (g11_differ_89 l a0 a1 a2 a3 a4) sr_fu 0 0 t)) ⟨rfl, ⟨rfl, ⟨rfl, ⟨rfl, ⟨rfl, ⟨rfl, ⟨rfl, ⟨rfl, trivial⟩⟩⟩⟩⟩⟩⟩⟩
def f11_staleOf_81 (a0 : Int32)  : Int32 → Int32 → sr_t → sr_Rs := fun xs0 xs1 t => (some (.inl (some (sr_i (xs1 + xs0))), t))
theorem g11_staleOf_81 (l : Launch) (a0 : Int32)    : ∀ (xs0 : Int32) (xs1 : Int32), ∀ (t : sr_t), sr_g l sr_m11_staleOf 81 [some (sr_r 11 0), some (sr_i a0), none] [sr_i xs0, sr_i xs1] t (f11_staleOf_81 a0  xs0 xs1 t) 0 0 := by
  intro xs0 xs1  t
  unfold f11_staleOf_81
  refine sr_iadd (pc := 81) (by decide +kernel) ?_
  exact sr_iret (pc := 82) (by decide +kernel) rfl
def F11_staleOf (a0 : Int32) (t : sr_t) : sr_Rs := (sr_bV (F11_lays_41 a0 (t.1 11 0 7) (t.1 11 0 8) 0 t) (fun t1 => (sr_bI (F11_tableOf a0 1 t1) (fun v2 t2 => (if (1 : Int32) < 0 ∨ 14 ≤ (1 : Int32).toNatClampNeg then none else (sr_bI (F11_differ 2 3 a0 v2 (t2.1 41 0 (1 : Int32).toNatClampNeg) t2) (fun v3 t3 => (sr_bI (F11_tableOf a0 5 t3) (fun v4 t4 => (if (5 : Int32) < 0 ∨ 14 ≤ (5 : Int32).toNatClampNeg then none else (sr_bI (F11_differ 6 8 a0 v4 (t4.1 41 0 (5 : Int32).toNatClampNeg) t4) (fun v5 t5 => (sr_bI (F11_tableOf a0 0 t5) (fun v6 t6 => (if v6 = (t6.1 11 0 7) then f11_staleOf_81 a0 0 (v3 + v5) t6 else f11_staleOf_81 a0 1 (v3 + v5) t6)))))))))))))))
theorem C11_staleOf (l : Launch) (a0 : Int32)  (t : sr_t) : sr_ct' l sr_m11_staleOf [sr_r 11 0, sr_i a0] t (F11_staleOf a0 t) 0 0 := by
  refine sr_T_of (L0 := [some (sr_r 11 0), some (sr_i a0), none]) rfl (by decide +kernel) (fun _ => rfl) (fun _ => Nat.le_of_ble_eq_true rfl) ?_
  unfold F11_staleOf
  refine sr_aloadn (pc := 0) (n := 0) (by decide +kernel) rfl ?_
  refine sr_iloadn (pc := 1) (n := 1) (by decide +kernel) rfl ?_
  refine sr_aloadn (pc := 2) (n := 0) (by decide +kernel) rfl ?_
  refine sr_gI (pc := 3) fg_11_25 (by decide +kernel) (sr_in11 _ (by omega)) (fun _ => rfl) ?_
  refine sr_aloadn (pc := 6) (n := 0) (by decide +kernel) rfl ?_
  refine sr_gI (pc := 7) fg_11_29 (by decide +kernel) (sr_in11 _ (by omega)) (fun _ => rfl) ?_
  refine sr_aloadn (pc := 10) (n := 0) (by decide +kernel) rfl ?_
  refine sr_gC (pc := 11) (i2 := 0) fg_11_71 (by decide +kernel) (sr_in11 _ (by omega)) (fun _ => rfl) ?_
  refine sr_iconst (pc := 14) (n := 0) (v := 0) (by decide +kernel) rfl ?_
  refine sr_cV (pc := 15) (As := [sr_i a0, sr_i (t.1 11 0 7), sr_i (t.1 11 0 8), sr_r 41 0, sr_i 0]) (mc1 := 0) (ms1 := 0) (mc2 := 0) (ms2 := 0) fm_11_119 fl_11_119 (by decide +kernel) (sr_in11 _ (by omega)) (rm_11_staleOf_11_lays) rfl rfl rfl (C11_lays_41 l a0 (t.1 11 0 7) (t.1 11 0 8) 0 t) ?_
  refine sr_kV (fun t1 => ?_)
  refine sr_aloadn (pc := 18) (n := 0) (by decide +kernel) rfl ?_
  refine sr_iconst (pc := 19) (n := 2) (v := 2) (by decide +kernel) rfl ?_
  refine sr_iconst (pc := 20) (n := 3) (v := 3) (by decide +kernel) rfl ?_
  refine sr_iloadn (pc := 21) (n := 1) (by decide +kernel) rfl ?_
  refine sr_aloadn (pc := 22) (n := 0) (by decide +kernel) rfl ?_
  refine sr_iloadn (pc := 23) (n := 1) (by decide +kernel) rfl ?_
  refine sr_iconst (pc := 24) (n := 1) (v := 1) (by decide +kernel) rfl ?_
  refine sr_cV (pc := 25) (As := [sr_i a0, sr_i 1]) (mc1 := 0) (ms1 := 0) (mc2 := 0) (ms2 := 0) fm_11_123 fl_11_123 (by decide +kernel) (sr_in11 _ (by omega)) (rm_11_staleOf_11_tableOf) rfl rfl rfl (C11_tableOf l a0 1 t1) ?_
  refine sr_kI (fun v2 t2 => ?_)
  refine sr_aloadn (pc := 28) (n := 0) (by decide +kernel) rfl ?_
  refine sr_gC (pc := 29) (i2 := 0) fg_11_71 (by decide +kernel) (sr_in11 _ (by omega)) (fun _ => rfl) ?_
  refine sr_iconst (pc := 32) (n := 1) (v := 1) (by decide +kernel) rfl ?_
  refine sr_aI (pc := 33) (n := 14) rfl (by decide +kernel) (sr_in41 _ (by omega)) (fun _ _ => rfl) ?_
  refine sr_cV (pc := 34) (As := [sr_i 2, sr_i 3, sr_i a0, sr_i v2, sr_i (t2.1 41 0 (1 : Int32).toNatClampNeg)]) (mc1 := 0) (ms1 := 0) (mc2 := 0) (ms2 := 0) fm_11_126 fl_11_126 (by decide +kernel) (sr_in11 _ (by omega)) (rm_11_staleOf_11_differ) rfl rfl rfl (C11_differ l 2 3 a0 v2 (t2.1 41 0 (1 : Int32).toNatClampNeg) t2) ?_
  refine sr_kI (fun v3 t3 => ?_)
  refine sr_istoren (pc := 37) (n := 2) (by decide +kernel) (by decide) rfl rfl ?_
  refine sr_iloadn (pc := 38) (n := 2) (by decide +kernel) rfl ?_
  refine sr_aloadn (pc := 39) (n := 0) (by decide +kernel) rfl ?_
  refine sr_bipush (pc := 40) (n := 6) (v := 6) (by decide +kernel) (by decide) ?_
  refine sr_bipush (pc := 42) (n := 8) (v := 8) (by decide +kernel) (by decide) ?_
  refine sr_iloadn (pc := 44) (n := 1) (by decide +kernel) rfl ?_
  refine sr_aloadn (pc := 45) (n := 0) (by decide +kernel) rfl ?_
  refine sr_iloadn (pc := 46) (n := 1) (by decide +kernel) rfl ?_
  refine sr_iconst (pc := 47) (n := 5) (v := 5) (by decide +kernel) rfl ?_
  refine sr_cV (pc := 48) (As := [sr_i a0, sr_i 5]) (mc1 := 0) (ms1 := 0) (mc2 := 0) (ms2 := 0) fm_11_123 fl_11_123 (by decide +kernel) (sr_in11 _ (by omega)) (rm_11_staleOf_11_tableOf) rfl rfl rfl (C11_tableOf l a0 5 t3) ?_
  refine sr_kI (fun v4 t4 => ?_)
  refine sr_aloadn (pc := 51) (n := 0) (by decide +kernel) rfl ?_
  refine sr_gC (pc := 52) (i2 := 0) fg_11_71 (by decide +kernel) (sr_in11 _ (by omega)) (fun _ => rfl) ?_
  refine sr_iconst (pc := 55) (n := 5) (v := 5) (by decide +kernel) rfl ?_
  refine sr_aI (pc := 56) (n := 14) rfl (by decide +kernel) (sr_in41 _ (by omega)) (fun _ _ => rfl) ?_
  refine sr_cV (pc := 57) (As := [sr_i 6, sr_i 8, sr_i a0, sr_i v4, sr_i (t4.1 41 0 (5 : Int32).toNatClampNeg)]) (mc1 := 0) (ms1 := 0) (mc2 := 0) (ms2 := 0) fm_11_126 fl_11_126 (by decide +kernel) (sr_in11 _ (by omega)) (rm_11_staleOf_11_differ) rfl rfl rfl (C11_differ l 6 8 a0 v4 (t4.1 41 0 (5 : Int32).toNatClampNeg) t4) ?_
  refine sr_kI (fun v5 t5 => ?_)
  refine sr_iadd (pc := 60) (by decide +kernel) ?_
  refine sr_istoren (pc := 61) (n := 2) (by decide +kernel) (by decide) rfl rfl ?_
  refine sr_iloadn (pc := 62) (n := 2) (by decide +kernel) rfl ?_
  refine sr_aloadn (pc := 63) (n := 0) (by decide +kernel) rfl ?_
  refine sr_iloadn (pc := 64) (n := 1) (by decide +kernel) rfl ?_
  refine sr_iconst (pc := 65) (n := 0) (v := 0) (by decide +kernel) rfl ?_
  refine sr_cV (pc := 66) (As := [sr_i a0, sr_i 0]) (mc1 := 0) (ms1 := 0) (mc2 := 0) (ms2 := 0) fm_11_123 fl_11_123 (by decide +kernel) (sr_in11 _ (by omega)) (rm_11_staleOf_11_tableOf) rfl rfl rfl (C11_tableOf l a0 0 t5) ?_
  refine sr_kI (fun v6 t6 => ?_)
  refine sr_aloadn (pc := 69) (n := 0) (by decide +kernel) rfl ?_
  refine sr_gI (pc := 70) fg_11_25 (by decide +kernel) (sr_in11 _ (by omega)) (fun _ => rfl) ?_
  refine sr_icmp_eq (pc := 73) (off := 7) (tg := 80) (by decide +kernel) (by decide) (fun _ => ?_) (fun _ => ?_)
  · refine sr_iconst (pc := 80) (n := 0) (v := 0) (by decide +kernel) rfl ?_
    exact sr_wk (sr_mono (mc := 0) (ms := 0) (by omega) (by omega) (g11_staleOf_81 l a0 0 (v3 + v5) t6)) ⟨rfl, ⟨rfl, trivial⟩⟩
  · refine sr_iconst (pc := 76) (n := 1) (v := 1) (by decide +kernel) rfl ?_
    refine sr_goto (pc := 77) (off := 4) (tg := 81) (by decide +kernel) (by decide) ?_
    exact sr_wk (sr_mono (mc := 0) (ms := 0) (by omega) (by omega) (g11_staleOf_81 l a0 1 (v3 + v5) t6)) ⟨rfl, ⟨rfl, trivial⟩⟩
def F11_mend (a0 : Int32) (t : sr_t) : sr_Rs := (sr_bI (F11_wrongUp a0 t) (fun v1 t1 => (sr_lt (sr_u t1 11 0 0 v1) (fun t2 => (if (t2.1 11 0 0) ≤ 0 then (sr_bI (F11_staleOf a0 t2) (fun v3 t3 => (sr_bV (F11_laysNow a0 t3) (fun t4 => (some (.inl (some (sr_i v3)), t4)))))) else (some (.inl (some (sr_i 0)), t2)))))))
theorem C11_mend (l : Launch) (a0 : Int32)  (t : sr_t) : sr_ct' l sr_m11_mend [sr_r 11 0, sr_i a0] t (F11_mend a0 t) 0 0 := by
  refine sr_T_of (L0 := [some (sr_r 11 0), some (sr_i a0), none]) rfl (by decide +kernel) (fun _ => rfl) (fun _ => Nat.le_of_ble_eq_true rfl) ?_
  unfold F11_mend
  refine sr_aloadn (pc := 0) (n := 0) (by decide +kernel) rfl ?_
  refine sr_aloadn (pc := 1) (n := 0) (by decide +kernel) rfl ?_
  refine sr_iloadn (pc := 2) (n := 1) (by decide +kernel) rfl ?_
  refine sr_cV (pc := 3) (As := [sr_i a0]) (mc1 := 0) (ms1 := 0) (mc2 := 0) (ms2 := 0) fm_11_144 fl_11_144 (by decide +kernel) (sr_in11 _ (by omega)) (rm_11_mend_11_wrongUp) rfl rfl rfl (C11_wrongUp l a0 t) ?_
  refine sr_kI (fun v1 t1 => ?_)
  refine sr_pI (pc := 6) fg_11_93 ft_11_0 (by decide +kernel) (sr_in11 _ (by omega)) (fun _ => rfl) (fun t2 => ?_)
  refine sr_aloadn (pc := 9) (n := 0) (by decide +kernel) rfl ?_
  refine sr_gI (pc := 10) fg_11_93 (by decide +kernel) (sr_in11 _ (by omega)) (fun _ => rfl) ?_
  refine sr_if_le (pc := 13) (off := 5) (tg := 18) (by decide +kernel) (by decide) (fun _ => ?_) (fun _ => ?_)
  · refine sr_aloadn (pc := 18) (n := 0) (by decide +kernel) rfl ?_
    refine sr_iloadn (pc := 19) (n := 1) (by decide +kernel) rfl ?_
    refine sr_cV (pc := 20) (As := [sr_i a0]) (mc1 := 0) (ms1 := 0) (mc2 := 0) (ms2 := 0) fm_11_130 fl_11_130 (by decide +kernel) (sr_in11 _ (by omega)) (rm_11_mend_11_staleOf) rfl rfl rfl (C11_staleOf l a0 t2) ?_
    refine sr_kI (fun v3 t3 => ?_)
    refine sr_istoren (pc := 23) (n := 2) (by decide +kernel) (by decide) rfl rfl ?_
    refine sr_aloadn (pc := 24) (n := 0) (by decide +kernel) rfl ?_
    refine sr_iloadn (pc := 25) (n := 1) (by decide +kernel) rfl ?_
    refine sr_cV (pc := 26) (As := [sr_i a0]) (mc1 := 0) (ms1 := 0) (mc2 := 0) (ms2 := 0) fm_11_137 fl_11_137 (by decide +kernel) (sr_in11 _ (by omega)) (rm_11_mend_11_laysNow) rfl rfl rfl (C11_laysNow l a0 t3) ?_
    refine sr_kV (fun t4 => ?_)
    refine sr_iloadn (pc := 29) (n := 2) (by decide +kernel) rfl ?_
    exact sr_iret (pc := 30) (by decide +kernel) rfl
  · refine sr_iconst (pc := 16) (n := 0) (v := 0) (by decide +kernel) rfl ?_
    exact sr_iret (pc := 17) (by decide +kernel) rfl
def sr_m11_staleAll : sr_M := (⟨"ShiftRingModel", "staleAll", "()I"⟩, prog_13_method_16_code, 3, (some .int), [], 4, 95)
def sr_m11_mendAll : sr_M := (⟨"ShiftRingModel", "mendAll", "()I"⟩, prog_13_method_24_code, 3, (some .int), [], 5, 117)
theorem fl_11_147 : Cond.methodLink "ShiftRingModel" 147 (sr_My sr_m11_staleAll) ∈ sr_TB := (sr_tb (n := 1616) (by decide +kernel) rfl)
theorem fm_11_147 : sr_FV "ShiftRingModel" 147 sr_m11_staleAll 11 0 := ⟨⟨rfl, sr_tb (n := 1619) (by decide +kernel) rfl, sr_tb (n := 12) (by decide +kernel) rfl, ⟨by decide, by decide, by decide +kernel⟩, Or.inl fl_11_147⟩, ⟨TX11, 53, rfl, rfl⟩, sr_tb (n := 1618) (by decide +kernel) rfl, sr_ts (n := 50) (by decide +kernel) rfl⟩
theorem rm_11_mendAll_11_laysNow : sr_RM sr_m11_mendAll sr_m11_laysNow := ⟨Nat.le_of_ble_eq_true rfl, Nat.le_of_ble_eq_true rfl⟩
theorem rm_11_mendAll_11_staleAll : sr_RM sr_m11_mendAll sr_m11_staleAll := ⟨Nat.le_of_ble_eq_true rfl, Nat.le_of_ble_eq_true rfl⟩
theorem rm_11_staleAll_11_staleOf : sr_RM sr_m11_staleAll sr_m11_staleOf := ⟨Nat.le_of_ble_eq_true rfl, Nat.le_of_ble_eq_true rfl⟩
def f11_staleAll_32  (k4 : Int32 → Int32 → sr_t → sr_Rs) (k40 : Int32 → sr_t → sr_Rs) : Int32 → Int32 → Int32 → sr_t → sr_Rs := fun x2 xs0 xs1 t => k4 (xs1 + xs0) (x2 + 1) t
theorem g11_staleAll_32 (l : Launch)   (k4 : Int32 → Int32 → sr_t → sr_Rs) (k40 : Int32 → sr_t → sr_Rs) (hk4 : ∀ (x1 : Int32) (x2 : Int32), ∀ (t : sr_t), sr_g l sr_m11_staleAll 4 [some (sr_r 11 0), some (sr_i x1), some (sr_i x2)] [] t (k4 x1 x2 t) 0 0) (hk40 : ∀ (x1 : Int32), ∀ (t : sr_t), sr_g l sr_m11_staleAll 40 [some (sr_r 11 0), some (sr_i x1), none] [] t (k40 x1 t) 0 0) : ∀ (x2 : Int32) (xs0 : Int32) (xs1 : Int32), ∀ (t : sr_t), sr_g l sr_m11_staleAll 32 [some (sr_r 11 0), none, some (sr_i x2)] [sr_i xs0, sr_i xs1] t (f11_staleAll_32  k4 k40 x2 xs0 xs1 t) 0 0 := by
  intro x2 xs0 xs1  t
  unfold f11_staleAll_32
  refine sr_iadd (pc := 32) (by decide +kernel) ?_
  refine sr_istoren (pc := 33) (n := 1) (by decide +kernel) (by decide) rfl rfl ?_
  refine sr_iinc (pc := 34) (i := 2) (n := 1) (w := x2 + 1) (by decide +kernel) rfl rfl (by decide) rfl rfl ?_
  refine sr_goto (pc := 37) (off := (-33)) (tg := 4) (by decide +kernel) (by decide) ?_
  exact sr_wk (sr_mono (mc := 0) (ms := 0) (by omega) (by omega) (hk4 (xs1 + xs0) (x2 + 1) t)) ⟨rfl, ⟨rfl, ⟨rfl, trivial⟩⟩⟩
def f11_staleAll_4  (k40 : Int32 → sr_t → sr_Rs) : Nat → Int32 → Int32 → sr_t → sr_Rs
  | 0 => fun _ _ _ => none
  | n + 1 => fun x1 x2 t => (if (t.1 11 0 1) ≤ x2 then k40 x1 t else (if x2 < 0 ∨ 24 ≤ x2.toNatClampNeg then none else (if (t.1 25 0 x2.toNatClampNeg) = 1 then (sr_bI (F11_staleOf x2 t) (fun v1 t1 => f11_staleAll_32 (f11_staleAll_4 k40 n) k40 x2 v1 x1 t1)) else f11_staleAll_32 (f11_staleAll_4 k40 n) k40 x2 0 x1 t)))
theorem g11_staleAll_4 (l : Launch)   (k40 : Int32 → sr_t → sr_Rs) (hk40 : ∀ (x1 : Int32), ∀ (t : sr_t), sr_g l sr_m11_staleAll 40 [some (sr_r 11 0), some (sr_i x1), none] [] t (k40 x1 t) 0 0) : ∀ (n : Nat) (x1 : Int32) (x2 : Int32), ∀ (t : sr_t), sr_g l sr_m11_staleAll 4 [some (sr_r 11 0), some (sr_i x1), some (sr_i x2)] [] t (f11_staleAll_4  k40 n x1 x2 t) 0 0 := by
  intro n
  induction n with
  | zero => intros; exact sr_Gn
  | succ n ih =>
    intro x1 x2  t
    unfold f11_staleAll_4
    refine sr_iloadn (pc := 4) (n := 2) (by decide +kernel) rfl ?_
    refine sr_aloadn (pc := 5) (n := 0) (by decide +kernel) rfl ?_
    refine sr_gI (pc := 6) fg_11_100 (by decide +kernel) (sr_in11 _ (by omega)) (fun _ => rfl) ?_
    refine sr_icmp_ge (pc := 9) (off := 31) (tg := 40) (by decide +kernel) (by decide) (fun _ => ?_) (fun _ => ?_)
    · exact sr_wk (sr_mono (mc := 0) (ms := 0) (by omega) (by omega) (hk40 x1 t)) ⟨rfl, ⟨rfl, trivial⟩⟩
    · refine sr_iloadn (pc := 12) (n := 1) (by decide +kernel) rfl ?_
      refine sr_aloadn (pc := 13) (n := 0) (by decide +kernel) rfl ?_
      refine sr_gC (pc := 14) (i2 := 0) fg_11_13 (by decide +kernel) (sr_in11 _ (by omega)) (fun _ => rfl) ?_
      refine sr_iloadn (pc := 17) (n := 2) (by decide +kernel) rfl ?_
      refine sr_aI (pc := 18) (n := 24) rfl (by decide +kernel) (sr_in25 _ (by omega)) (fun _ _ => rfl) ?_
      refine sr_iconst (pc := 19) (n := 1) (v := 1) (by decide +kernel) rfl ?_
      refine sr_icmp_ne (pc := 20) (off := 11) (tg := 31) (by decide +kernel) (by decide) (fun _ => ?_) (fun _ => ?_)
      · refine sr_iconst (pc := 31) (n := 0) (v := 0) (by decide +kernel) rfl ?_
        exact sr_wk (sr_mono (mc := 0) (ms := 0) (by omega) (by omega) (g11_staleAll_32 l (f11_staleAll_4 k40 n) k40 ih hk40 x2 0 x1 t)) ⟨rfl, ⟨rfl, trivial⟩⟩
      · refine sr_aloadn (pc := 23) (n := 0) (by decide +kernel) rfl ?_
        refine sr_iloadn (pc := 24) (n := 2) (by decide +kernel) rfl ?_
        refine sr_cV (pc := 25) (As := [sr_i x2]) (mc1 := 0) (ms1 := 0) (mc2 := 0) (ms2 := 0) fm_11_130 fl_11_130 (by decide +kernel) (sr_in11 _ (by omega)) (rm_11_staleAll_11_staleOf) rfl rfl rfl (C11_staleOf l x2 t) ?_
        refine sr_kI (fun v1 t1 => ?_)
        refine sr_goto (pc := 28) (off := 4) (tg := 32) (by decide +kernel) (by decide) ?_
        exact sr_wk (sr_mono (mc := 0) (ms := 0) (by omega) (by omega) (g11_staleAll_32 l (f11_staleAll_4 k40 n) k40 ih hk40 x2 v1 x1 t1)) ⟨rfl, ⟨rfl, trivial⟩⟩
def f11_staleAll_40   : Int32 → sr_t → sr_Rs := fun x1 t => (some (.inl (some (sr_i x1)), t))
theorem g11_staleAll_40 (l : Launch)     : ∀ (x1 : Int32), ∀ (t : sr_t), sr_g l sr_m11_staleAll 40 [some (sr_r 11 0), some (sr_i x1), none] [] t (f11_staleAll_40   x1 t) 0 0 := by
  intro x1  t
  unfold f11_staleAll_40
  refine sr_iloadn (pc := 40) (n := 1) (by decide +kernel) rfl ?_
  exact sr_iret (pc := 41) (by decide +kernel) rfl
def F11_staleAll  (t : sr_t) : sr_Rs := f11_staleAll_4 f11_staleAll_40 sr_fu 0 0 t
theorem C11_staleAll (l : Launch)   (t : sr_t) : sr_ct' l sr_m11_staleAll [sr_r 11 0] t (F11_staleAll  t) 0 0 := by
  refine sr_T_of (L0 := [some (sr_r 11 0), none, none]) rfl (by decide +kernel) (fun _ => rfl) (fun _ => Nat.le_of_ble_eq_true rfl) ?_
  unfold F11_staleAll
  refine sr_iconst (pc := 0) (n := 0) (v := 0) (by decide +kernel) rfl ?_
  refine sr_istoren (pc := 1) (n := 1) (by decide +kernel) (by decide) rfl rfl ?_
  refine sr_iconst (pc := 2) (n := 0) (v := 0) (by decide +kernel) rfl ?_
  refine sr_istoren (pc := 3) (n := 2) (by decide +kernel) (by decide) rfl rfl ?_
  exact sr_wk (sr_mono (mc := 0) (ms := 0) (by omega) (by omega) (g11_staleAll_4 l f11_staleAll_40 (g11_staleAll_40 l) sr_fu 0 0 t)) ⟨rfl, ⟨rfl, ⟨rfl, trivial⟩⟩⟩
def f11_mendAll_35  (k12 : Int32 → Int32 → sr_t → sr_Rs) (k41 : Int32 → sr_t → sr_Rs) : Int32 → Int32 → sr_t → sr_Rs := fun x1 x2 t => k12 x1 (x2 + 1) t
theorem g11_mendAll_35 (l : Launch)   (k12 : Int32 → Int32 → sr_t → sr_Rs) (k41 : Int32 → sr_t → sr_Rs) (hk12 : ∀ (x1 : Int32) (x2 : Int32), ∀ (t : sr_t), sr_g l sr_m11_mendAll 12 [some (sr_r 11 0), some (sr_i x1), some (sr_i x2)] [] t (k12 x1 x2 t) 0 0) (hk41 : ∀ (x1 : Int32), ∀ (t : sr_t), sr_g l sr_m11_mendAll 41 [some (sr_r 11 0), some (sr_i x1), none] [] t (k41 x1 t) 0 0) : ∀ (x1 : Int32) (x2 : Int32), ∀ (t : sr_t), sr_g l sr_m11_mendAll 35 [some (sr_r 11 0), some (sr_i x1), some (sr_i x2)] [] t (f11_mendAll_35  k12 k41 x1 x2 t) 0 0 := by
  intro x1 x2  t
  unfold f11_mendAll_35
  refine sr_iinc (pc := 35) (i := 2) (n := 1) (w := x2 + 1) (by decide +kernel) rfl rfl (by decide) rfl rfl ?_
  refine sr_goto (pc := 38) (off := (-26)) (tg := 12) (by decide +kernel) (by decide) ?_
  exact sr_wk (sr_mono (mc := 0) (ms := 0) (by omega) (by omega) (hk12 x1 (x2 + 1) t)) ⟨rfl, ⟨rfl, ⟨rfl, trivial⟩⟩⟩
def f11_mendAll_12  (k41 : Int32 → sr_t → sr_Rs) : Nat → Int32 → Int32 → sr_t → sr_Rs
  | 0 => fun _ _ _ => none
  | n + 1 => fun x1 x2 t => (if (t.1 11 0 1) ≤ x2 then k41 x1 t else (if x2 < 0 ∨ 24 ≤ x2.toNatClampNeg then none else (if (t.1 25 0 x2.toNatClampNeg) = 1 then (sr_bV (F11_laysNow x2 t) (fun t1 => f11_mendAll_35 (f11_mendAll_12 k41 n) k41 x1 x2 t1)) else f11_mendAll_35 (f11_mendAll_12 k41 n) k41 x1 x2 t)))
theorem g11_mendAll_12 (l : Launch)   (k41 : Int32 → sr_t → sr_Rs) (hk41 : ∀ (x1 : Int32), ∀ (t : sr_t), sr_g l sr_m11_mendAll 41 [some (sr_r 11 0), some (sr_i x1), none] [] t (k41 x1 t) 0 0) : ∀ (n : Nat) (x1 : Int32) (x2 : Int32), ∀ (t : sr_t), sr_g l sr_m11_mendAll 12 [some (sr_r 11 0), some (sr_i x1), some (sr_i x2)] [] t (f11_mendAll_12  k41 n x1 x2 t) 0 0 := by
  intro n
  induction n with
  | zero => intros; exact sr_Gn
  | succ n ih =>
    intro x1 x2  t
    unfold f11_mendAll_12
    refine sr_iloadn (pc := 12) (n := 2) (by decide +kernel) rfl ?_
    refine sr_aloadn (pc := 13) (n := 0) (by decide +kernel) rfl ?_
    refine sr_gI (pc := 14) fg_11_100 (by decide +kernel) (sr_in11 _ (by omega)) (fun _ => rfl) ?_
    refine sr_icmp_ge (pc := 17) (off := 24) (tg := 41) (by decide +kernel) (by decide) (fun _ => ?_) (fun _ => ?_)
    · exact sr_wk (sr_mono (mc := 0) (ms := 0) (by omega) (by omega) (hk41 x1 t)) ⟨rfl, ⟨rfl, trivial⟩⟩
    · refine sr_aloadn (pc := 20) (n := 0) (by decide +kernel) rfl ?_
      refine sr_gC (pc := 21) (i2 := 0) fg_11_13 (by decide +kernel) (sr_in11 _ (by omega)) (fun _ => rfl) ?_
      refine sr_iloadn (pc := 24) (n := 2) (by decide +kernel) rfl ?_
      refine sr_aI (pc := 25) (n := 24) rfl (by decide +kernel) (sr_in25 _ (by omega)) (fun _ _ => rfl) ?_
      refine sr_iconst (pc := 26) (n := 1) (v := 1) (by decide +kernel) rfl ?_
      refine sr_icmp_ne (pc := 27) (off := 8) (tg := 35) (by decide +kernel) (by decide) (fun _ => ?_) (fun _ => ?_)
      · exact sr_wk (sr_mono (mc := 0) (ms := 0) (by omega) (by omega) (g11_mendAll_35 l (f11_mendAll_12 k41 n) k41 ih hk41 x1 x2 t)) ⟨rfl, ⟨rfl, ⟨rfl, trivial⟩⟩⟩
      · refine sr_aloadn (pc := 30) (n := 0) (by decide +kernel) rfl ?_
        refine sr_iloadn (pc := 31) (n := 2) (by decide +kernel) rfl ?_
        refine sr_cV (pc := 32) (As := [sr_i x2]) (mc1 := 0) (ms1 := 0) (mc2 := 0) (ms2 := 0) fm_11_137 fl_11_137 (by decide +kernel) (sr_in11 _ (by omega)) (rm_11_mendAll_11_laysNow) rfl rfl rfl (C11_laysNow l x2 t) ?_
        refine sr_kV (fun t1 => ?_)
        exact sr_wk (sr_mono (mc := 0) (ms := 0) (by omega) (by omega) (g11_mendAll_35 l (f11_mendAll_12 k41 n) k41 ih hk41 x1 x2 t1)) ⟨rfl, ⟨rfl, ⟨rfl, trivial⟩⟩⟩
def f11_mendAll_41   : Int32 → sr_t → sr_Rs := fun x1 t => (some (.inl (some (sr_i x1)), t))
theorem g11_mendAll_41 (l : Launch)     : ∀ (x1 : Int32), ∀ (t : sr_t), sr_g l sr_m11_mendAll 41 [some (sr_r 11 0), some (sr_i x1), none] [] t (f11_mendAll_41   x1 t) 0 0 := by
  intro x1  t
  unfold f11_mendAll_41
  refine sr_iloadn (pc := 41) (n := 1) (by decide +kernel) rfl ?_
  exact sr_iret (pc := 42) (by decide +kernel) rfl
def F11_mendAll  (t : sr_t) : sr_Rs := (sr_lt (sr_u t 11 0 0 0) (fun t1 => (sr_bI (F11_staleAll t1) (fun v2 t2 => f11_mendAll_12 f11_mendAll_41 sr_fu v2 0 t2))))
theorem C11_mendAll (l : Launch)   (t : sr_t) : sr_ct' l sr_m11_mendAll [sr_r 11 0] t (F11_mendAll  t) 0 0 := by
  refine sr_T_of (L0 := [some (sr_r 11 0), none, none]) rfl (by decide +kernel) (fun _ => rfl) (fun _ => Nat.le_of_ble_eq_true rfl) ?_
  unfold F11_mendAll
  refine sr_aloadn (pc := 0) (n := 0) (by decide +kernel) rfl ?_
  refine sr_iconst (pc := 1) (n := 0) (v := 0) (by decide +kernel) rfl ?_
  refine sr_pI (pc := 2) fg_11_93 ft_11_0 (by decide +kernel) (sr_in11 _ (by omega)) (fun _ => rfl) (fun t1 => ?_)
  refine sr_aloadn (pc := 5) (n := 0) (by decide +kernel) rfl ?_
  refine sr_cV (pc := 6) (As := []) (mc1 := 0) (ms1 := 0) (mc2 := 0) (ms2 := 0) fm_11_147 fl_11_147 (by decide +kernel) (sr_in11 _ (by omega)) (rm_11_mendAll_11_staleAll) rfl rfl rfl (C11_staleAll l t1) ?_
  refine sr_kI (fun v2 t2 => ?_)
  refine sr_istoren (pc := 9) (n := 1) (by decide +kernel) (by decide) rfl rfl ?_
  refine sr_iconst (pc := 10) (n := 0) (v := 0) (by decide +kernel) rfl ?_
  refine sr_istoren (pc := 11) (n := 2) (by decide +kernel) (by decide) rfl rfl ?_
  exact sr_wk (sr_mono (mc := 0) (ms := 0) (by omega) (by omega) (g11_mendAll_12 l f11_mendAll_41 (g11_mendAll_41 l) sr_fu v2 0 t2)) ⟨rfl, ⟨rfl, ⟨rfl, trivial⟩⟩⟩
def sr_m11_isBase : sr_M := (⟨"ShiftRingModel", "isBase", "(I)Z"⟩, prog_13_method_6_code, 1, (some .boolean), [], 0, 0)
def sr_m11_turn : sr_M := (⟨"ShiftRingModel", "turn", "(I)I"⟩, prog_13_method_25_code, 3, (some .int), [], 1, 20)
theorem ft_11_7 : sr_FT 11 7 53 0 false := ⟨RX11, TX11, rfl, rfl, (fun h => nomatch h), (show parseFieldDescriptor (TX11 7).2.2.1 = some .int from by decide +kernel)⟩
theorem fl_11_150 : Cond.methodLink "ShiftRingModel" 150 (sr_My sr_m11_isBase) ∈ sr_TB := (sr_tb (n := 1624) (by decide +kernel) rfl)
theorem fm_11_150 : sr_FS "ShiftRingModel" 150 sr_m11_isBase 1 := ⟨⟨rfl, sr_tb (n := 1626) (by decide +kernel) rfl, sr_tb (n := 12) (by decide +kernel) rfl, ⟨by decide, by decide, by decide +kernel⟩, Or.inl fl_11_150⟩, sr_tb (n := 1625) (by decide +kernel) rfl⟩
theorem rm_11_turn_11_isBase : sr_RM sr_m11_turn sr_m11_isBase := ⟨Nat.le_of_ble_eq_true rfl, Nat.le_of_ble_eq_true rfl⟩
def f11_isBase_27 (a0 : Int32)  : Int32 → sr_t → sr_Rs := fun xs0 t => (if xs0 = 0 ∨ xs0 = 1 then some (.inl (some (sr_i xs0)), t) else none)
theorem g11_isBase_27 (l : Launch) (a0 : Int32)    : ∀ (xs0 : Int32), ∀ (t : sr_t), sr_g l sr_m11_isBase 27 [some (sr_i a0)] [sr_i xs0] t (f11_isBase_27 a0  xs0 t) 0 0 := by
  intro xs0  t
  unfold f11_isBase_27
  exact sr_zr (pc := 27) (by decide +kernel) rfl
def f11_isBase_22 (a0 : Int32)  : sr_t → sr_Rs := fun  t => f11_isBase_27 a0 1 t
theorem g11_isBase_22 (l : Launch) (a0 : Int32)    : ∀ (t : sr_t), sr_g l sr_m11_isBase 22 [some (sr_i a0)] [] t (f11_isBase_22 a0   t) 0 0 := by
  intro t
  unfold f11_isBase_22
  refine sr_iconst (pc := 22) (n := 1) (v := 1) (by decide +kernel) rfl ?_
  refine sr_goto (pc := 23) (off := 4) (tg := 27) (by decide +kernel) (by decide) ?_
  exact sr_wk (sr_mono (mc := 0) (ms := 0) (by omega) (by omega) (g11_isBase_27 l a0 1 t)) ⟨rfl, trivial⟩
def F11_isBase (a0 : Int32) (t : sr_t) : sr_Rs := (if a0 = 2 then f11_isBase_22 a0 t else (if a0 = 4 then f11_isBase_22 a0 t else (if a0 = 8 then f11_isBase_22 a0 t else (if a0 = 16 then f11_isBase_22 a0 t else f11_isBase_27 a0 0 t))))
theorem C11_isBase (l : Launch) (a0 : Int32)  (t : sr_t) : sr_ct' l sr_m11_isBase [sr_i a0] t (F11_isBase a0 t) 0 0 := by
  refine sr_T_of (L0 := [some (sr_i a0)]) rfl (by decide +kernel) (fun _ => rfl) (fun _ => Nat.le_of_ble_eq_true rfl) ?_
  unfold F11_isBase
  refine sr_iloadn (pc := 0) (n := 0) (by decide +kernel) rfl ?_
  refine sr_iconst (pc := 1) (n := 2) (v := 2) (by decide +kernel) rfl ?_
  refine sr_icmp_eq (pc := 2) (off := 20) (tg := 22) (by decide +kernel) (by decide) (fun _ => ?_) (fun _ => ?_)
  · exact sr_wk (sr_mono (mc := 0) (ms := 0) (by omega) (by omega) (g11_isBase_22 l a0 t)) ⟨rfl, trivial⟩
  · refine sr_iloadn (pc := 5) (n := 0) (by decide +kernel) rfl ?_
    refine sr_iconst (pc := 6) (n := 4) (v := 4) (by decide +kernel) rfl ?_
    refine sr_icmp_eq (pc := 7) (off := 15) (tg := 22) (by decide +kernel) (by decide) (fun _ => ?_) (fun _ => ?_)
    · exact sr_wk (sr_mono (mc := 0) (ms := 0) (by omega) (by omega) (g11_isBase_22 l a0 t)) ⟨rfl, trivial⟩
    · refine sr_iloadn (pc := 10) (n := 0) (by decide +kernel) rfl ?_
      refine sr_bipush (pc := 11) (n := 8) (v := 8) (by decide +kernel) (by decide) ?_
      refine sr_icmp_eq (pc := 13) (off := 9) (tg := 22) (by decide +kernel) (by decide) (fun _ => ?_) (fun _ => ?_)
      · exact sr_wk (sr_mono (mc := 0) (ms := 0) (by omega) (by omega) (g11_isBase_22 l a0 t)) ⟨rfl, trivial⟩
      · refine sr_iloadn (pc := 16) (n := 0) (by decide +kernel) rfl ?_
        refine sr_bipush (pc := 17) (n := 16) (v := 16) (by decide +kernel) (by decide) ?_
        refine sr_icmp_ne (pc := 19) (off := 7) (tg := 26) (by decide +kernel) (by decide) (fun _ => ?_) (fun _ => ?_)
        · refine sr_iconst (pc := 26) (n := 0) (v := 0) (by decide +kernel) rfl ?_
          exact sr_wk (sr_mono (mc := 0) (ms := 0) (by omega) (by omega) (g11_isBase_27 l a0 0 t)) ⟨rfl, trivial⟩
        · exact sr_wk (sr_mono (mc := 0) (ms := 0) (by omega) (by omega) (g11_isBase_22 l a0 t)) ⟨rfl, trivial⟩
def f11_turn_13 (a0 : Int32)  : Int32 → sr_t → sr_Rs := fun xs0 t => (sr_lt (sr_u t 11 0 0 xs0) (fun t1 => (if (t1.1 11 0 0) ≤ 0 then (sr_lt (sr_u t1 11 0 7 a0) (fun t2 => (some (.inl (some (sr_i (t1.1 11 0 7))), t2)))) else (some (.inl (some (sr_i 0)), t1)))))
theorem g11_turn_13 (l : Launch) (a0 : Int32)    : ∀ (xs0 : Int32), ∀ (t : sr_t), sr_g l sr_m11_turn 13 [some (sr_r 11 0), some (sr_i a0), none] [sr_i xs0, sr_r 11 0] t (f11_turn_13 a0  xs0 t) 0 0 := by
  intro xs0  t
  unfold f11_turn_13
  refine sr_pI (pc := 13) fg_11_93 ft_11_0 (by decide +kernel) (sr_in11 _ (by omega)) (fun _ => rfl) (fun t1 => ?_)
  refine sr_aloadn (pc := 16) (n := 0) (by decide +kernel) rfl ?_
  refine sr_gI (pc := 17) fg_11_93 (by decide +kernel) (sr_in11 _ (by omega)) (fun _ => rfl) ?_
  refine sr_if_le (pc := 20) (off := 5) (tg := 25) (by decide +kernel) (by decide) (fun _ => ?_) (fun _ => ?_)
  · refine sr_aloadn (pc := 25) (n := 0) (by decide +kernel) rfl ?_
    refine sr_gI (pc := 26) fg_11_25 (by decide +kernel) (sr_in11 _ (by omega)) (fun _ => rfl) ?_
    refine sr_istoren (pc := 29) (n := 2) (by decide +kernel) (by decide) rfl rfl ?_
    refine sr_aloadn (pc := 30) (n := 0) (by decide +kernel) rfl ?_
    refine sr_iloadn (pc := 31) (n := 1) (by decide +kernel) rfl ?_
    refine sr_pI (pc := 32) fg_11_25 ft_11_7 (by decide +kernel) (sr_in11 _ (by omega)) (fun _ => rfl) (fun t2 => ?_)
    refine sr_iloadn (pc := 35) (n := 2) (by decide +kernel) rfl ?_
    exact sr_iret (pc := 36) (by decide +kernel) rfl
  · refine sr_iconst (pc := 23) (n := 0) (v := 0) (by decide +kernel) rfl ?_
    exact sr_iret (pc := 24) (by decide +kernel) rfl
def F11_turn (a0 : Int32) (t : sr_t) : sr_Rs := (sr_bI (F11_isBase a0 t) (fun v1 t1 => (if v1 = 0 then f11_turn_13 a0 1 t1 else f11_turn_13 a0 0 t1)))
theorem C11_turn (l : Launch) (a0 : Int32)  (t : sr_t) : sr_ct' l sr_m11_turn [sr_r 11 0, sr_i a0] t (F11_turn a0 t) 0 0 := by
  refine sr_T_of (L0 := [some (sr_r 11 0), some (sr_i a0), none]) rfl (by decide +kernel) (fun _ => rfl) (fun _ => Nat.le_of_ble_eq_true rfl) ?_
  unfold F11_turn
  refine sr_aloadn (pc := 0) (n := 0) (by decide +kernel) rfl ?_
  refine sr_iloadn (pc := 1) (n := 1) (by decide +kernel) rfl ?_
  refine sr_cS (pc := 2) (As := [sr_i a0]) (mc1 := 0) (ms1 := 0) (mc2 := 0) (ms2 := 0) fm_11_150 fl_11_150 (by decide +kernel) (rm_11_turn_11_isBase) rfl rfl rfl (C11_isBase l a0 t) ?_
  refine sr_kI (fun v1 t1 => ?_)
  refine sr_if_eq (pc := 5) (off := 7) (tg := 12) (by decide +kernel) (by decide) (fun _ => ?_) (fun _ => ?_)
  · refine sr_iconst (pc := 12) (n := 1) (v := 1) (by decide +kernel) rfl ?_
    exact sr_wk (sr_mono (mc := 0) (ms := 0) (by omega) (by omega) (g11_turn_13 l a0 1 t1)) ⟨rfl, ⟨rfl, trivial⟩⟩
  · refine sr_iconst (pc := 8) (n := 0) (v := 0) (by decide +kernel) rfl ?_
    refine sr_goto (pc := 9) (off := 4) (tg := 13) (by decide +kernel) (by decide) ?_
    exact sr_wk (sr_mono (mc := 0) (ms := 0) (by omega) (by omega) (g11_turn_13 l a0 0 t1)) ⟨rfl, ⟨rfl, trivial⟩⟩
def sr_m11_degree : sr_M := (⟨"ShiftRingModel", "degree", "(I)I"⟩, prog_13_method_26_code, 3, (some .int), [], 1, 22)
theorem ft_11_8 : sr_FT 11 8 53 0 false := ⟨RX11, TX11, rfl, rfl, (fun h => nomatch h), (show parseFieldDescriptor (TX11 8).2.2.1 = some .int from by decide +kernel)⟩
theorem rm_11_degree_11_isIn : sr_RM sr_m11_degree sr_m11_isIn := ⟨Nat.le_of_ble_eq_true rfl, Nat.le_of_ble_eq_true rfl⟩
def f11_degree_16 (a0 : Int32)  : Int32 → sr_t → sr_Rs := fun xs0 t => (sr_lt (sr_u t 11 0 0 xs0) (fun t1 => (if (t1.1 11 0 0) ≤ 0 then (sr_lt (sr_u t1 11 0 8 a0) (fun t2 => (some (.inl (some (sr_i (t1.1 11 0 8))), t2)))) else (some (.inl (some (sr_i 0)), t1)))))
theorem g11_degree_16 (l : Launch) (a0 : Int32)    : ∀ (xs0 : Int32), ∀ (t : sr_t), sr_g l sr_m11_degree 16 [some (sr_r 11 0), some (sr_i a0), none] [sr_i xs0, sr_r 11 0] t (f11_degree_16 a0  xs0 t) 0 0 := by
  intro xs0  t
  unfold f11_degree_16
  refine sr_pI (pc := 16) fg_11_93 ft_11_0 (by decide +kernel) (sr_in11 _ (by omega)) (fun _ => rfl) (fun t1 => ?_)
  refine sr_aloadn (pc := 19) (n := 0) (by decide +kernel) rfl ?_
  refine sr_gI (pc := 20) fg_11_93 (by decide +kernel) (sr_in11 _ (by omega)) (fun _ => rfl) ?_
  refine sr_if_le (pc := 23) (off := 5) (tg := 28) (by decide +kernel) (by decide) (fun _ => ?_) (fun _ => ?_)
  · refine sr_aloadn (pc := 28) (n := 0) (by decide +kernel) rfl ?_
    refine sr_gI (pc := 29) fg_11_29 (by decide +kernel) (sr_in11 _ (by omega)) (fun _ => rfl) ?_
    refine sr_istoren (pc := 32) (n := 2) (by decide +kernel) (by decide) rfl rfl ?_
    refine sr_aloadn (pc := 33) (n := 0) (by decide +kernel) rfl ?_
    refine sr_iloadn (pc := 34) (n := 1) (by decide +kernel) rfl ?_
    refine sr_pI (pc := 35) fg_11_29 ft_11_8 (by decide +kernel) (sr_in11 _ (by omega)) (fun _ => rfl) (fun t2 => ?_)
    refine sr_iloadn (pc := 38) (n := 2) (by decide +kernel) rfl ?_
    exact sr_iret (pc := 39) (by decide +kernel) rfl
  · refine sr_iconst (pc := 26) (n := 0) (v := 0) (by decide +kernel) rfl ?_
    exact sr_iret (pc := 27) (by decide +kernel) rfl
def F11_degree (a0 : Int32) (t : sr_t) : sr_Rs := (sr_bI (F11_isIn a0 1 8 t) (fun v1 t1 => (if v1 = 0 then f11_degree_16 a0 1 t1 else f11_degree_16 a0 0 t1)))
theorem C11_degree (l : Launch) (a0 : Int32)  (t : sr_t) : sr_ct' l sr_m11_degree [sr_r 11 0, sr_i a0] t (F11_degree a0 t) 0 0 := by
  refine sr_T_of (L0 := [some (sr_r 11 0), some (sr_i a0), none]) rfl (by decide +kernel) (fun _ => rfl) (fun _ => Nat.le_of_ble_eq_true rfl) ?_
  unfold F11_degree
  refine sr_aloadn (pc := 0) (n := 0) (by decide +kernel) rfl ?_
  refine sr_iloadn (pc := 1) (n := 1) (by decide +kernel) rfl ?_
  refine sr_iconst (pc := 2) (n := 1) (v := 1) (by decide +kernel) rfl ?_
  refine sr_bipush (pc := 3) (n := 8) (v := 8) (by decide +kernel) (by decide) ?_
  refine sr_cS (pc := 5) (As := [sr_i a0, sr_i 1, sr_i 8]) (mc1 := 0) (ms1 := 0) (mc2 := 0) (ms2 := 0) fm_11_96 fl_11_96 (by decide +kernel) (rm_11_degree_11_isIn) rfl rfl rfl (C11_isIn l a0 1 8 t) ?_
  refine sr_kI (fun v1 t1 => ?_)
  refine sr_if_eq (pc := 8) (off := 7) (tg := 15) (by decide +kernel) (by decide) (fun _ => ?_) (fun _ => ?_)
  · refine sr_iconst (pc := 15) (n := 1) (v := 1) (by decide +kernel) rfl ?_
    exact sr_wk (sr_mono (mc := 0) (ms := 0) (by omega) (by omega) (g11_degree_16 l a0 1 t1)) ⟨rfl, ⟨rfl, trivial⟩⟩
  · refine sr_iconst (pc := 11) (n := 0) (v := 0) (by decide +kernel) rfl ?_
    refine sr_goto (pc := 12) (off := 4) (tg := 16) (by decide +kernel) (by decide) ?_
    exact sr_wk (sr_mono (mc := 0) (ms := 0) (by omega) (by omega) (g11_degree_16 l a0 0 t1)) ⟨rfl, ⟨rfl, trivial⟩⟩
def sr_m11_spot : sr_M := (⟨"ShiftRingModel", "spot", "(II)I"⟩, prog_13_method_27_code, 4, (some .int), [], 2, 43)
theorem rm_11_spot_11_isIn : sr_RM sr_m11_spot sr_m11_isIn := ⟨Nat.le_of_ble_eq_true rfl, Nat.le_of_ble_eq_true rfl⟩
theorem rm_11_spot_11_isNode : sr_RM sr_m11_spot sr_m11_isNode := ⟨Nat.le_of_ble_eq_true rfl, Nat.le_of_ble_eq_true rfl⟩
def f11_spot_28 (a0 : Int32) (a1 : Int32)  : Int32 → sr_t → sr_Rs := fun xs0 t => (sr_lt (sr_u t 11 0 0 xs0) (fun t1 => (if (t1.1 11 0 0) ≤ 0 then (if a0 < 0 ∨ 24 ≤ a0.toNatClampNeg then none else (if a0 < 0 ∨ 24 ≤ a0.toNatClampNeg then none else sr_lt (sr_u t1 26 0 a0.toNatClampNeg a1) (fun t2 => (some (.inl (some (sr_i (t1.1 26 0 a0.toNatClampNeg))), t2))))) else (some (.inl (some (sr_i 0)), t1)))))
theorem g11_spot_28 (l : Launch) (a0 : Int32) (a1 : Int32)    : ∀ (xs0 : Int32), ∀ (t : sr_t), sr_g l sr_m11_spot 28 [some (sr_r 11 0), some (sr_i a0), some (sr_i a1), none] [sr_i xs0, sr_r 11 0] t (f11_spot_28 a0 a1  xs0 t) 0 0 := by
  intro xs0  t
  unfold f11_spot_28
  refine sr_pI (pc := 28) fg_11_93 ft_11_0 (by decide +kernel) (sr_in11 _ (by omega)) (fun _ => rfl) (fun t1 => ?_)
  refine sr_aloadn (pc := 31) (n := 0) (by decide +kernel) rfl ?_
  refine sr_gI (pc := 32) fg_11_93 (by decide +kernel) (sr_in11 _ (by omega)) (fun _ => rfl) ?_
  refine sr_if_le (pc := 35) (off := 5) (tg := 40) (by decide +kernel) (by decide) (fun _ => ?_) (fun _ => ?_)
  · refine sr_aloadn (pc := 40) (n := 0) (by decide +kernel) rfl ?_
    refine sr_gC (pc := 41) (i2 := 0) fg_11_16 (by decide +kernel) (sr_in11 _ (by omega)) (fun _ => rfl) ?_
    refine sr_iloadn (pc := 44) (n := 1) (by decide +kernel) rfl ?_
    refine sr_aI (pc := 45) (n := 24) rfl (by decide +kernel) (sr_in26 _ (by omega)) (fun _ _ => rfl) ?_
    refine sr_istoren (pc := 46) (n := 3) (by decide +kernel) (by decide) rfl rfl ?_
    refine sr_aloadn (pc := 47) (n := 0) (by decide +kernel) rfl ?_
    refine sr_gC (pc := 48) (i2 := 0) fg_11_16 (by decide +kernel) (sr_in11 _ (by omega)) (fun _ => rfl) ?_
    refine sr_iloadn (pc := 51) (n := 1) (by decide +kernel) rfl ?_
    refine sr_iloadn (pc := 52) (n := 2) (by decide +kernel) rfl ?_
    refine sr_sI (pc := 53) (n := 24) rfl (by decide +kernel) (sr_in26 _ (by omega)) (fun _ _ => rfl) (fun t2 => ?_)
    refine sr_iloadn (pc := 54) (n := 3) (by decide +kernel) rfl ?_
    exact sr_iret (pc := 55) (by decide +kernel) rfl
  · refine sr_iconst (pc := 38) (n := 0) (v := 0) (by decide +kernel) rfl ?_
    exact sr_iret (pc := 39) (by decide +kernel) rfl
def F11_spot (a0 : Int32) (a1 : Int32) (t : sr_t) : sr_Rs := (sr_bI (F11_isNode a0 t) (fun v1 t1 => (if v1 = 0 then f11_spot_28 a0 a1 1 t1 else (sr_bI (F11_isIn a1 0 99 t1) (fun v2 t2 => (if v2 = 0 then f11_spot_28 a0 a1 2 t2 else f11_spot_28 a0 a1 0 t2))))))
theorem C11_spot (l : Launch) (a0 : Int32) (a1 : Int32)  (t : sr_t) : sr_ct' l sr_m11_spot [sr_r 11 0, sr_i a0, sr_i a1] t (F11_spot a0 a1 t) 0 0 := by
  refine sr_T_of (L0 := [some (sr_r 11 0), some (sr_i a0), some (sr_i a1), none]) rfl (by decide +kernel) (fun _ => rfl) (fun _ => Nat.le_of_ble_eq_true rfl) ?_
  unfold F11_spot
  refine sr_aloadn (pc := 0) (n := 0) (by decide +kernel) rfl ?_
  refine sr_aloadn (pc := 1) (n := 0) (by decide +kernel) rfl ?_
  refine sr_iloadn (pc := 2) (n := 1) (by decide +kernel) rfl ?_
  refine sr_cV (pc := 3) (As := [sr_i a0]) (mc1 := 0) (ms1 := 0) (mc2 := 0) (ms2 := 0) fm_11_141 fl_11_141 (by decide +kernel) (sr_in11 _ (by omega)) (rm_11_spot_11_isNode) rfl rfl rfl (C11_isNode l a0 t) ?_
  refine sr_kI (fun v1 t1 => ?_)
  refine sr_if_ne (pc := 6) (off := 7) (tg := 13) (by decide +kernel) (by decide) (fun _ => ?_) (fun _ => ?_)
  · refine sr_iloadn (pc := 13) (n := 2) (by decide +kernel) rfl ?_
    refine sr_iconst (pc := 14) (n := 0) (v := 0) (by decide +kernel) rfl ?_
    refine sr_bipush (pc := 15) (n := 99) (v := 99) (by decide +kernel) (by decide) ?_
    refine sr_cS (pc := 17) (As := [sr_i a1, sr_i 0, sr_i 99]) (mc1 := 0) (ms1 := 0) (mc2 := 0) (ms2 := 0) fm_11_96 fl_11_96 (by decide +kernel) (rm_11_spot_11_isIn) rfl rfl rfl (C11_isIn l a1 0 99 t1) ?_
    refine sr_kI (fun v2 t2 => ?_)
    refine sr_if_ne (pc := 20) (off := 7) (tg := 27) (by decide +kernel) (by decide) (fun _ => ?_) (fun _ => ?_)
    · refine sr_iconst (pc := 27) (n := 0) (v := 0) (by decide +kernel) rfl ?_
      exact sr_wk (sr_mono (mc := 0) (ms := 0) (by omega) (by omega) (g11_spot_28 l a0 a1 0 t2)) ⟨rfl, ⟨rfl, ⟨rfl, trivial⟩⟩⟩
    · refine sr_iconst (pc := 23) (n := 2) (v := 2) (by decide +kernel) rfl ?_
      refine sr_goto (pc := 24) (off := 4) (tg := 28) (by decide +kernel) (by decide) ?_
      exact sr_wk (sr_mono (mc := 0) (ms := 0) (by omega) (by omega) (g11_spot_28 l a0 a1 2 t2)) ⟨rfl, ⟨rfl, ⟨rfl, trivial⟩⟩⟩
  · refine sr_iconst (pc := 9) (n := 1) (v := 1) (by decide +kernel) rfl ?_
    refine sr_goto (pc := 10) (off := 18) (tg := 28) (by decide +kernel) (by decide) ?_
    exact sr_wk (sr_mono (mc := 0) (ms := 0) (by omega) (by omega) (g11_spot_28 l a0 a1 1 t1)) ⟨rfl, ⟨rfl, ⟨rfl, trivial⟩⟩⟩
def sr_m11_letters : sr_M := (⟨"ShiftRingModel", "letters", "()I"⟩, prog_13_method_28_code, 1, (some .int), [], 0, 0)
def sr_m11_power : sr_M := (⟨"ShiftRingModel", "power", "(I)I"⟩, prog_13_method_29_code, 4, (some .int), [], 0, 0)
def sr_m11_letterOf : sr_M := (⟨"ShiftRingModel", "letterOf", "(II)I"⟩, prog_13_method_30_code, 3, (some .int), [], 1, 23)
def sr_m11_letter : sr_M := (⟨"ShiftRingModel", "letter", "(II)I"⟩, prog_13_method_33_code, 3, (some .int), [], 2, 45)
theorem fl_11_153 : Cond.methodLink "ShiftRingModel" 153 (sr_My sr_m11_letters) ∈ sr_TB := (sr_tb (n := 1639) (by decide +kernel) rfl)
theorem fm_11_153 : sr_FV "ShiftRingModel" 153 sr_m11_letters 11 0 := ⟨⟨rfl, sr_tb (n := 1642) (by decide +kernel) rfl, sr_tb (n := 12) (by decide +kernel) rfl, ⟨by decide, by decide, by decide +kernel⟩, Or.inl fl_11_153⟩, ⟨TX11, 53, rfl, rfl⟩, sr_tb (n := 1641) (by decide +kernel) rfl, sr_ts (n := 51) (by decide +kernel) rfl⟩
theorem fl_11_156 : Cond.methodLink "ShiftRingModel" 156 (sr_My sr_m11_power) ∈ sr_TB := (sr_tb (n := 1647) (by decide +kernel) rfl)
theorem fm_11_156 : sr_FV "ShiftRingModel" 156 sr_m11_power 11 1 := ⟨⟨rfl, sr_tb (n := 1650) (by decide +kernel) rfl, sr_tb (n := 12) (by decide +kernel) rfl, ⟨by decide, by decide, by decide +kernel⟩, Or.inl fl_11_156⟩, ⟨TX11, 53, rfl, rfl⟩, sr_tb (n := 1649) (by decide +kernel) rfl, sr_ts (n := 53) (by decide +kernel) rfl⟩
theorem fl_11_162 : Cond.methodLink "ShiftRingModel" 162 (sr_My sr_m11_letterOf) ∈ sr_TB := (sr_tb (n := 1643) (by decide +kernel) rfl)
theorem fm_11_162 : sr_FV "ShiftRingModel" 162 sr_m11_letterOf 11 2 := ⟨⟨rfl, sr_tb (n := 1646) (by decide +kernel) rfl, sr_tb (n := 12) (by decide +kernel) rfl, ⟨by decide, by decide, by decide +kernel⟩, Or.inl fl_11_162⟩, ⟨TX11, 53, rfl, rfl⟩, sr_tb (n := 1645) (by decide +kernel) rfl, sr_ts (n := 52) (by decide +kernel) rfl⟩
theorem rm_11_letter_11_isIn : sr_RM sr_m11_letter sr_m11_isIn := ⟨Nat.le_of_ble_eq_true rfl, Nat.le_of_ble_eq_true rfl⟩
theorem rm_11_letter_11_isPlace : sr_RM sr_m11_letter sr_m11_isPlace := ⟨Nat.le_of_ble_eq_true rfl, Nat.le_of_ble_eq_true rfl⟩
theorem rm_11_letter_11_letterOf : sr_RM sr_m11_letter sr_m11_letterOf := ⟨Nat.le_of_ble_eq_true rfl, Nat.le_of_ble_eq_true rfl⟩
theorem rm_11_letter_11_letters : sr_RM sr_m11_letter sr_m11_letters := ⟨Nat.le_of_ble_eq_true rfl, Nat.le_of_ble_eq_true rfl⟩
theorem rm_11_letterOf_11_letters : sr_RM sr_m11_letterOf sr_m11_letters := ⟨Nat.le_of_ble_eq_true rfl, Nat.le_of_ble_eq_true rfl⟩
theorem rm_11_letterOf_11_power : sr_RM sr_m11_letterOf sr_m11_power := ⟨Nat.le_of_ble_eq_true rfl, Nat.le_of_ble_eq_true rfl⟩
def f11_letters_40   : Int32 → sr_t → sr_Rs := fun xs0 t => (some (.inl (some (sr_i xs0)), t))
theorem g11_letters_40 (l : Launch)     : ∀ (xs0 : Int32), ∀ (t : sr_t), sr_g l sr_m11_letters 40 [some (sr_r 11 0)] [sr_i xs0] t (f11_letters_40   xs0 t) 0 0 := by
  intro xs0  t
  unfold f11_letters_40
  exact sr_iret (pc := 40) (by decide +kernel) rfl
def F11_letters  (t : sr_t) : sr_Rs := (if (t.1 11 0 7) = 2 then f11_letters_40 12 t else (if (t.1 11 0 7) = 4 then f11_letters_40 6 t else (if (t.1 11 0 7) = 8 then f11_letters_40 4 t else f11_letters_40 3 t)))
theorem C11_letters (l : Launch)   (t : sr_t) : sr_ct' l sr_m11_letters [sr_r 11 0] t (F11_letters  t) 0 0 := by
  refine sr_T_of (L0 := [some (sr_r 11 0)]) rfl (by decide +kernel) (fun _ => rfl) (fun _ => Nat.le_of_ble_eq_true rfl) ?_
  unfold F11_letters
  refine sr_aloadn (pc := 0) (n := 0) (by decide +kernel) rfl ?_
  refine sr_gI (pc := 1) fg_11_25 (by decide +kernel) (sr_in11 _ (by omega)) (fun _ => rfl) ?_
  refine sr_iconst (pc := 4) (n := 2) (v := 2) (by decide +kernel) rfl ?_
  refine sr_icmp_ne (pc := 5) (off := 8) (tg := 13) (by decide +kernel) (by decide) (fun _ => ?_) (fun _ => ?_)
  · refine sr_aloadn (pc := 13) (n := 0) (by decide +kernel) rfl ?_
    refine sr_gI (pc := 14) fg_11_25 (by decide +kernel) (sr_in11 _ (by omega)) (fun _ => rfl) ?_
    refine sr_iconst (pc := 17) (n := 4) (v := 4) (by decide +kernel) rfl ?_
    refine sr_icmp_ne (pc := 18) (off := 8) (tg := 26) (by decide +kernel) (by decide) (fun _ => ?_) (fun _ => ?_)
    · refine sr_aloadn (pc := 26) (n := 0) (by decide +kernel) rfl ?_
      refine sr_gI (pc := 27) fg_11_25 (by decide +kernel) (sr_in11 _ (by omega)) (fun _ => rfl) ?_
      refine sr_bipush (pc := 30) (n := 8) (v := 8) (by decide +kernel) (by decide) ?_
      refine sr_icmp_ne (pc := 32) (off := 7) (tg := 39) (by decide +kernel) (by decide) (fun _ => ?_) (fun _ => ?_)
      · refine sr_iconst (pc := 39) (n := 3) (v := 3) (by decide +kernel) rfl ?_
        exact sr_wk (sr_mono (mc := 0) (ms := 0) (by omega) (by omega) (g11_letters_40 l 3 t)) ⟨rfl, trivial⟩
      · refine sr_iconst (pc := 35) (n := 4) (v := 4) (by decide +kernel) rfl ?_
        refine sr_goto (pc := 36) (off := 4) (tg := 40) (by decide +kernel) (by decide) ?_
        exact sr_wk (sr_mono (mc := 0) (ms := 0) (by omega) (by omega) (g11_letters_40 l 4 t)) ⟨rfl, trivial⟩
    · refine sr_bipush (pc := 21) (n := 6) (v := 6) (by decide +kernel) (by decide) ?_
      refine sr_goto (pc := 23) (off := 17) (tg := 40) (by decide +kernel) (by decide) ?_
      exact sr_wk (sr_mono (mc := 0) (ms := 0) (by omega) (by omega) (g11_letters_40 l 6 t)) ⟨rfl, trivial⟩
  · refine sr_bipush (pc := 8) (n := 12) (v := 12) (by decide +kernel) (by decide) ?_
    refine sr_goto (pc := 10) (off := 30) (tg := 40) (by decide +kernel) (by decide) ?_
    exact sr_wk (sr_mono (mc := 0) (ms := 0) (by omega) (by omega) (g11_letters_40 l 12 t)) ⟨rfl, trivial⟩
def f11_power_4 (a0 : Int32) (k22 : Int32 → sr_t → sr_Rs) : Nat → Int32 → Int32 → sr_t → sr_Rs
  | 0 => fun _ _ _ => none
  | n + 1 => fun x2 x3 t => (if a0 ≤ x3 then k22 x2 t else (f11_power_4 a0 k22 n) (x2 * (t.1 11 0 7)) (x3 + 1) t)
theorem g11_power_4 (l : Launch) (a0 : Int32)  (k22 : Int32 → sr_t → sr_Rs) (hk22 : ∀ (x2 : Int32), ∀ (t : sr_t), sr_g l sr_m11_power 22 [some (sr_r 11 0), some (sr_i a0), some (sr_i x2), none] [] t (k22 x2 t) 0 0) : ∀ (n : Nat) (x2 : Int32) (x3 : Int32), ∀ (t : sr_t), sr_g l sr_m11_power 4 [some (sr_r 11 0), some (sr_i a0), some (sr_i x2), some (sr_i x3)] [] t (f11_power_4 a0 k22 n x2 x3 t) 0 0 := by
  intro n
  induction n with
  | zero => intros; exact sr_Gn
  | succ n ih =>
    intro x2 x3  t
    unfold f11_power_4
    refine sr_iloadn (pc := 4) (n := 3) (by decide +kernel) rfl ?_
    refine sr_iloadn (pc := 5) (n := 1) (by decide +kernel) rfl ?_
    refine sr_icmp_ge (pc := 6) (off := 16) (tg := 22) (by decide +kernel) (by decide) (fun _ => ?_) (fun _ => ?_)
    · exact sr_wk (sr_mono (mc := 0) (ms := 0) (by omega) (by omega) (hk22 x2 t)) ⟨rfl, ⟨rfl, ⟨rfl, trivial⟩⟩⟩
    · refine sr_iloadn (pc := 9) (n := 2) (by decide +kernel) rfl ?_
      refine sr_aloadn (pc := 10) (n := 0) (by decide +kernel) rfl ?_
      refine sr_gI (pc := 11) fg_11_25 (by decide +kernel) (sr_in11 _ (by omega)) (fun _ => rfl) ?_
      refine sr_imul (pc := 14) (by decide +kernel) ?_
      refine sr_istoren (pc := 15) (n := 2) (by decide +kernel) (by decide) rfl rfl ?_
      refine sr_iinc (pc := 16) (i := 3) (n := 1) (w := x3 + 1) (by decide +kernel) rfl rfl (by decide) rfl rfl ?_
      refine sr_goto (pc := 19) (off := (-15)) (tg := 4) (by decide +kernel) (by decide) ?_
      exact sr_wk (sr_mono (mc := 0) (ms := 0) (by omega) (by omega) (ih (x2 * (t.1 11 0 7)) (x3 + 1) t)) ⟨rfl, ⟨rfl, ⟨rfl, ⟨rfl, trivial⟩⟩⟩⟩
def f11_power_22 (a0 : Int32)  : Int32 → sr_t → sr_Rs := fun x2 t => (some (.inl (some (sr_i x2)), t))
theorem g11_power_22 (l : Launch) (a0 : Int32)    : ∀ (x2 : Int32), ∀ (t : sr_t), sr_g l sr_m11_power 22 [some (sr_r 11 0), some (sr_i a0), some (sr_i x2), none] [] t (f11_power_22 a0  x2 t) 0 0 := by
  intro x2  t
  unfold f11_power_22
  refine sr_iloadn (pc := 22) (n := 2) (by decide +kernel) rfl ?_
  exact sr_iret (pc := 23) (by decide +kernel) rfl
def F11_power (a0 : Int32) (t : sr_t) : sr_Rs := f11_power_4 a0 (f11_power_22 a0) sr_fu 1 0 t
theorem C11_power (l : Launch) (a0 : Int32)  (t : sr_t) : sr_ct' l sr_m11_power [sr_r 11 0, sr_i a0] t (F11_power a0 t) 0 0 := by
  refine sr_T_of (L0 := [some (sr_r 11 0), some (sr_i a0), none, none]) rfl (by decide +kernel) (fun _ => rfl) (fun _ => Nat.le_of_ble_eq_true rfl) ?_
  unfold F11_power
  refine sr_iconst (pc := 0) (n := 1) (v := 1) (by decide +kernel) rfl ?_
  refine sr_istoren (pc := 1) (n := 2) (by decide +kernel) (by decide) rfl rfl ?_
  refine sr_iconst (pc := 2) (n := 0) (v := 0) (by decide +kernel) rfl ?_
  refine sr_istoren (pc := 3) (n := 3) (by decide +kernel) (by decide) rfl rfl ?_
  exact sr_wk (sr_mono (mc := 0) (ms := 0) (by omega) (by omega) (g11_power_4 l a0 (f11_power_22 a0) (g11_power_22 l a0) sr_fu 1 0 t)) ⟨rfl, ⟨rfl, ⟨rfl, ⟨rfl, trivial⟩⟩⟩⟩
def F11_letterOf (a0 : Int32) (a1 : Int32) (t : sr_t) : sr_Rs := (sr_bI (F11_letters t) (fun v1 t1 => (sr_bI (F11_power ((v1 - 1) - a1) t1) (fun v2 t2 => (if v2 = 0 then none else (if t2.1 11 0 7 = 0 then none else (some (.inl (some (sr_i ((a0 / v2) - (a0 / v2) / (t2.1 11 0 7) * (t2.1 11 0 7)))), t2))))))))
theorem C11_letterOf (l : Launch) (a0 : Int32) (a1 : Int32)  (t : sr_t) : sr_ct' l sr_m11_letterOf [sr_r 11 0, sr_i a0, sr_i a1] t (F11_letterOf a0 a1 t) 0 0 := by
  refine sr_T_of (L0 := [some (sr_r 11 0), some (sr_i a0), some (sr_i a1)]) rfl (by decide +kernel) (fun _ => rfl) (fun _ => Nat.le_of_ble_eq_true rfl) ?_
  unfold F11_letterOf
  refine sr_iloadn (pc := 0) (n := 1) (by decide +kernel) rfl ?_
  refine sr_aloadn (pc := 1) (n := 0) (by decide +kernel) rfl ?_
  refine sr_aloadn (pc := 2) (n := 0) (by decide +kernel) rfl ?_
  refine sr_cV (pc := 3) (As := []) (mc1 := 0) (ms1 := 0) (mc2 := 0) (ms2 := 0) fm_11_153 fl_11_153 (by decide +kernel) (sr_in11 _ (by omega)) (rm_11_letterOf_11_letters) rfl rfl rfl (C11_letters l t) ?_
  refine sr_kI (fun v1 t1 => ?_)
  refine sr_iconst (pc := 6) (n := 1) (v := 1) (by decide +kernel) rfl ?_
  refine sr_isub (pc := 7) (by decide +kernel) ?_
  refine sr_iloadn (pc := 8) (n := 2) (by decide +kernel) rfl ?_
  refine sr_isub (pc := 9) (by decide +kernel) ?_
  refine sr_cV (pc := 10) (As := [sr_i ((v1 - 1) - a1)]) (mc1 := 0) (ms1 := 0) (mc2 := 0) (ms2 := 0) fm_11_156 fl_11_156 (by decide +kernel) (sr_in11 _ (by omega)) (rm_11_letterOf_11_power) rfl rfl rfl (C11_power l ((v1 - 1) - a1) t1) ?_
  refine sr_kI (fun v2 t2 => ?_)
  refine sr_idiv (pc := 13) (by decide +kernel) (fun _ => ?_)
  refine sr_aloadn (pc := 14) (n := 0) (by decide +kernel) rfl ?_
  refine sr_gI (pc := 15) fg_11_25 (by decide +kernel) (sr_in11 _ (by omega)) (fun _ => rfl) ?_
  refine sr_irem (pc := 18) (by decide +kernel) (fun _ => ?_)
  exact sr_iret (pc := 19) (by decide +kernel) rfl
def f11_letter_49 (a0 : Int32) (a1 : Int32)  : Int32 → sr_t → sr_Rs := fun xs0 t => (some (.inl (some (sr_i xs0)), t))
theorem g11_letter_49 (l : Launch) (a0 : Int32) (a1 : Int32)    : ∀ (xs0 : Int32), ∀ (t : sr_t), sr_g l sr_m11_letter 49 [some (sr_r 11 0), some (sr_i a0), some (sr_i a1)] [sr_i xs0] t (f11_letter_49 a0 a1  xs0 t) 0 0 := by
  intro xs0  t
  unfold f11_letter_49
  exact sr_iret (pc := 49) (by decide +kernel) rfl
def f11_letter_13 (a0 : Int32) (a1 : Int32)  : Int32 → sr_t → sr_Rs := fun xs0 t => (sr_lt (sr_u t 11 0 0 xs0) (fun t1 => (if (t1.1 11 0 0) ≤ 0 then (sr_bI (F11_letters t1) (fun v2 t2 => (sr_bI (F11_isIn a1 0 (v2 - 1) t2) (fun v3 t3 => (if v3 = 0 then f11_letter_49 a0 a1 ((-1)) t3 else (sr_bI (F11_letterOf a0 a1 t3) (fun v4 t4 => f11_letter_49 a0 a1 v4 t4))))))) else (some (.inl (some (sr_i 0)), t1)))))
theorem g11_letter_13 (l : Launch) (a0 : Int32) (a1 : Int32)    : ∀ (xs0 : Int32), ∀ (t : sr_t), sr_g l sr_m11_letter 13 [some (sr_r 11 0), some (sr_i a0), some (sr_i a1)] [sr_i xs0, sr_r 11 0] t (f11_letter_13 a0 a1  xs0 t) 0 0 := by
  intro xs0  t
  unfold f11_letter_13
  refine sr_pI (pc := 13) fg_11_93 ft_11_0 (by decide +kernel) (sr_in11 _ (by omega)) (fun _ => rfl) (fun t1 => ?_)
  refine sr_aloadn (pc := 16) (n := 0) (by decide +kernel) rfl ?_
  refine sr_gI (pc := 17) fg_11_93 (by decide +kernel) (sr_in11 _ (by omega)) (fun _ => rfl) ?_
  refine sr_if_le (pc := 20) (off := 5) (tg := 25) (by decide +kernel) (by decide) (fun _ => ?_) (fun _ => ?_)
  · refine sr_iloadn (pc := 25) (n := 2) (by decide +kernel) rfl ?_
    refine sr_iconst (pc := 26) (n := 0) (v := 0) (by decide +kernel) rfl ?_
    refine sr_aloadn (pc := 27) (n := 0) (by decide +kernel) rfl ?_
    refine sr_cV (pc := 28) (As := []) (mc1 := 0) (ms1 := 0) (mc2 := 0) (ms2 := 0) fm_11_153 fl_11_153 (by decide +kernel) (sr_in11 _ (by omega)) (rm_11_letter_11_letters) rfl rfl rfl (C11_letters l t1) ?_
    refine sr_kI (fun v2 t2 => ?_)
    refine sr_iconst (pc := 31) (n := 1) (v := 1) (by decide +kernel) rfl ?_
    refine sr_isub (pc := 32) (by decide +kernel) ?_
    refine sr_cS (pc := 33) (As := [sr_i a1, sr_i 0, sr_i (v2 - 1)]) (mc1 := 0) (ms1 := 0) (mc2 := 0) (ms2 := 0) fm_11_96 fl_11_96 (by decide +kernel) (rm_11_letter_11_isIn) rfl rfl rfl (C11_isIn l a1 0 (v2 - 1) t2) ?_
    refine sr_kI (fun v3 t3 => ?_)
    refine sr_if_eq (pc := 36) (off := 12) (tg := 48) (by decide +kernel) (by decide) (fun _ => ?_) (fun _ => ?_)
    · refine sr_iconst (pc := 48) (n := (-1)) (v := (-1)) (by decide +kernel) rfl ?_
      exact sr_wk (sr_mono (mc := 0) (ms := 0) (by omega) (by omega) (g11_letter_49 l a0 a1 ((-1)) t3)) ⟨rfl, ⟨rfl, ⟨rfl, trivial⟩⟩⟩
    · refine sr_aloadn (pc := 39) (n := 0) (by decide +kernel) rfl ?_
      refine sr_iloadn (pc := 40) (n := 1) (by decide +kernel) rfl ?_
      refine sr_iloadn (pc := 41) (n := 2) (by decide +kernel) rfl ?_
      refine sr_cV (pc := 42) (As := [sr_i a0, sr_i a1]) (mc1 := 0) (ms1 := 0) (mc2 := 0) (ms2 := 0) fm_11_162 fl_11_162 (by decide +kernel) (sr_in11 _ (by omega)) (rm_11_letter_11_letterOf) rfl rfl rfl (C11_letterOf l a0 a1 t3) ?_
      refine sr_kI (fun v4 t4 => ?_)
      refine sr_goto (pc := 45) (off := 4) (tg := 49) (by decide +kernel) (by decide) ?_
      exact sr_wk (sr_mono (mc := 0) (ms := 0) (by omega) (by omega) (g11_letter_49 l a0 a1 v4 t4)) ⟨rfl, ⟨rfl, ⟨rfl, trivial⟩⟩⟩
  · refine sr_iconst (pc := 23) (n := 0) (v := 0) (by decide +kernel) rfl ?_
    exact sr_iret (pc := 24) (by decide +kernel) rfl
def F11_letter (a0 : Int32) (a1 : Int32) (t : sr_t) : sr_Rs := (sr_bI (F11_isPlace a0 t) (fun v1 t1 => (if v1 = 0 then f11_letter_13 a0 a1 1 t1 else f11_letter_13 a0 a1 0 t1)))
theorem C11_letter (l : Launch) (a0 : Int32) (a1 : Int32)  (t : sr_t) : sr_ct' l sr_m11_letter [sr_r 11 0, sr_i a0, sr_i a1] t (F11_letter a0 a1 t) 0 0 := by
  refine sr_T_of (L0 := [some (sr_r 11 0), some (sr_i a0), some (sr_i a1)]) rfl (by decide +kernel) (fun _ => rfl) (fun _ => Nat.le_of_ble_eq_true rfl) ?_
  unfold F11_letter
  refine sr_aloadn (pc := 0) (n := 0) (by decide +kernel) rfl ?_
  refine sr_iloadn (pc := 1) (n := 1) (by decide +kernel) rfl ?_
  refine sr_cS (pc := 2) (As := [sr_i a0]) (mc1 := 0) (ms1 := 0) (mc2 := 0) (ms2 := 0) fm_11_133 fl_11_133 (by decide +kernel) (rm_11_letter_11_isPlace) rfl rfl rfl (C11_isPlace l a0 t) ?_
  refine sr_kI (fun v1 t1 => ?_)
  refine sr_if_eq (pc := 5) (off := 7) (tg := 12) (by decide +kernel) (by decide) (fun _ => ?_) (fun _ => ?_)
  · refine sr_iconst (pc := 12) (n := 1) (v := 1) (by decide +kernel) rfl ?_
    exact sr_wk (sr_mono (mc := 0) (ms := 0) (by omega) (by omega) (g11_letter_13 l a0 a1 1 t1)) ⟨rfl, ⟨rfl, ⟨rfl, trivial⟩⟩⟩
  · refine sr_iconst (pc := 8) (n := 0) (v := 0) (by decide +kernel) rfl ?_
    refine sr_goto (pc := 9) (off := 4) (tg := 13) (by decide +kernel) (by decide) ?_
    exact sr_wk (sr_mono (mc := 0) (ms := 0) (by omega) (by omega) (g11_letter_13 l a0 a1 0 t1)) ⟨rfl, ⟨rfl, ⟨rfl, trivial⟩⟩⟩
def sr_m11_firstOf : sr_M := (⟨"ShiftRingModel", "firstOf", "(II)I"⟩, prog_13_method_31_code, 3, (some .int), [], 1, 23)
def sr_m11_overlapOf : sr_M := (⟨"ShiftRingModel", "overlapOf", "(II)I"⟩, prog_13_method_32_code, 4, (some .int), [], 2, 45)
def sr_m11_overlap : sr_M := (⟨"ShiftRingModel", "overlap", "(II)I"⟩, prog_13_method_34_code, 3, (some .int), [], 3, 68)
theorem fl_11_159 : Cond.methodLink "ShiftRingModel" 159 (sr_My sr_m11_firstOf) ∈ sr_TB := (sr_tb (n := 1659) (by decide +kernel) rfl)
theorem fm_11_159 : sr_FV "ShiftRingModel" 159 sr_m11_firstOf 11 2 := ⟨⟨rfl, sr_tb (n := 1662) (by decide +kernel) rfl, sr_tb (n := 12) (by decide +kernel) rfl, ⟨by decide, by decide, by decide +kernel⟩, Or.inl fl_11_159⟩, ⟨TX11, 53, rfl, rfl⟩, sr_tb (n := 1661) (by decide +kernel) rfl, sr_ts (n := 55) (by decide +kernel) rfl⟩
theorem fl_11_165 : Cond.methodLink "ShiftRingModel" 165 (sr_My sr_m11_overlapOf) ∈ sr_TB := (sr_tb (n := 1655) (by decide +kernel) rfl)
theorem fm_11_165 : sr_FV "ShiftRingModel" 165 sr_m11_overlapOf 11 2 := ⟨⟨rfl, sr_tb (n := 1658) (by decide +kernel) rfl, sr_tb (n := 12) (by decide +kernel) rfl, ⟨by decide, by decide, by decide +kernel⟩, Or.inl fl_11_165⟩, ⟨TX11, 53, rfl, rfl⟩, sr_tb (n := 1657) (by decide +kernel) rfl, sr_ts (n := 54) (by decide +kernel) rfl⟩
theorem rm_11_firstOf_11_letters : sr_RM sr_m11_firstOf sr_m11_letters := ⟨Nat.le_of_ble_eq_true rfl, Nat.le_of_ble_eq_true rfl⟩
theorem rm_11_firstOf_11_power : sr_RM sr_m11_firstOf sr_m11_power := ⟨Nat.le_of_ble_eq_true rfl, Nat.le_of_ble_eq_true rfl⟩
theorem rm_11_overlap_11_isPlace : sr_RM sr_m11_overlap sr_m11_isPlace := ⟨Nat.le_of_ble_eq_true rfl, Nat.le_of_ble_eq_true rfl⟩
theorem rm_11_overlap_11_overlapOf : sr_RM sr_m11_overlap sr_m11_overlapOf := ⟨Nat.le_of_ble_eq_true rfl, Nat.le_of_ble_eq_true rfl⟩
theorem rm_11_overlapOf_11_firstOf : sr_RM sr_m11_overlapOf sr_m11_firstOf := ⟨Nat.le_of_ble_eq_true rfl, Nat.le_of_ble_eq_true rfl⟩
theorem rm_11_overlapOf_11_letters : sr_RM sr_m11_overlapOf sr_m11_letters := ⟨Nat.le_of_ble_eq_true rfl, Nat.le_of_ble_eq_true rfl⟩
theorem rm_11_overlapOf_11_power : sr_RM sr_m11_overlapOf sr_m11_power := ⟨Nat.le_of_ble_eq_true rfl, Nat.le_of_ble_eq_true rfl⟩
def F11_firstOf (a0 : Int32) (a1 : Int32) (t : sr_t) : sr_Rs := (sr_bI (F11_letters t) (fun v1 t1 => (sr_bI (F11_power (v1 - a1) t1) (fun v2 t2 => (if v2 = 0 then none else (some (.inl (some (sr_i (a0 / v2))), t2)))))))
theorem C11_firstOf (l : Launch) (a0 : Int32) (a1 : Int32)  (t : sr_t) : sr_ct' l sr_m11_firstOf [sr_r 11 0, sr_i a0, sr_i a1] t (F11_firstOf a0 a1 t) 0 0 := by
  refine sr_T_of (L0 := [some (sr_r 11 0), some (sr_i a0), some (sr_i a1)]) rfl (by decide +kernel) (fun _ => rfl) (fun _ => Nat.le_of_ble_eq_true rfl) ?_
  unfold F11_firstOf
  refine sr_iloadn (pc := 0) (n := 1) (by decide +kernel) rfl ?_
  refine sr_aloadn (pc := 1) (n := 0) (by decide +kernel) rfl ?_
  refine sr_aloadn (pc := 2) (n := 0) (by decide +kernel) rfl ?_
  refine sr_cV (pc := 3) (As := []) (mc1 := 0) (ms1 := 0) (mc2 := 0) (ms2 := 0) fm_11_153 fl_11_153 (by decide +kernel) (sr_in11 _ (by omega)) (rm_11_firstOf_11_letters) rfl rfl rfl (C11_letters l t) ?_
  refine sr_kI (fun v1 t1 => ?_)
  refine sr_iloadn (pc := 6) (n := 2) (by decide +kernel) rfl ?_
  refine sr_isub (pc := 7) (by decide +kernel) ?_
  refine sr_cV (pc := 8) (As := [sr_i (v1 - a1)]) (mc1 := 0) (ms1 := 0) (mc2 := 0) (ms2 := 0) fm_11_156 fl_11_156 (by decide +kernel) (sr_in11 _ (by omega)) (rm_11_firstOf_11_power) rfl rfl rfl (C11_power l (v1 - a1) t1) ?_
  refine sr_kI (fun v2 t2 => ?_)
  refine sr_idiv (pc := 11) (by decide +kernel) (fun _ => ?_)
  exact sr_iret (pc := 12) (by decide +kernel) rfl
def f11_overlapOf_17 (a0 : Int32) (a1 : Int32) (k39 : Int32 → sr_t → sr_Rs) : Nat → Int32 → sr_t → sr_Rs
  | 0 => fun _ _ => none
  | n + 1 => fun x3 t => (sr_bI (F11_power x3 t) (fun v1 t1 => (if v1 = 0 then none else (sr_bI (F11_firstOf a1 x3 t1) (fun v2 t2 => (if (a0 - a0 / v1 * v1) = v2 then k39 x3 t2 else (f11_overlapOf_17 a0 a1 k39 n) (x3 + (-1)) t2))))))
theorem g11_overlapOf_17 (l : Launch) (a0 : Int32) (a1 : Int32)  (k39 : Int32 → sr_t → sr_Rs) (hk39 : ∀ (x3 : Int32), ∀ (t : sr_t), sr_g l sr_m11_overlapOf 39 [some (sr_r 11 0), some (sr_i a0), some (sr_i a1), some (sr_i x3)] [] t (k39 x3 t) 0 0) : ∀ (n : Nat) (x3 : Int32), ∀ (t : sr_t), sr_g l sr_m11_overlapOf 17 [some (sr_r 11 0), some (sr_i a0), some (sr_i a1), some (sr_i x3)] [] t (f11_overlapOf_17 a0 a1 k39 n x3 t) 0 0 := by
  intro n
  induction n with
  | zero => intros; exact sr_Gn
  | succ n ih =>
    intro x3  t
    unfold f11_overlapOf_17
    refine sr_iloadn (pc := 17) (n := 1) (by decide +kernel) rfl ?_
    refine sr_aloadn (pc := 18) (n := 0) (by decide +kernel) rfl ?_
    refine sr_iloadn (pc := 19) (n := 3) (by decide +kernel) rfl ?_
    refine sr_cV (pc := 20) (As := [sr_i x3]) (mc1 := 0) (ms1 := 0) (mc2 := 0) (ms2 := 0) fm_11_156 fl_11_156 (by decide +kernel) (sr_in11 _ (by omega)) (rm_11_overlapOf_11_power) rfl rfl rfl (C11_power l x3 t) ?_
    refine sr_kI (fun v1 t1 => ?_)
    refine sr_irem (pc := 23) (by decide +kernel) (fun _ => ?_)
    refine sr_aloadn (pc := 24) (n := 0) (by decide +kernel) rfl ?_
    refine sr_iloadn (pc := 25) (n := 2) (by decide +kernel) rfl ?_
    refine sr_iloadn (pc := 26) (n := 3) (by decide +kernel) rfl ?_
    refine sr_cV (pc := 27) (As := [sr_i a1, sr_i x3]) (mc1 := 0) (ms1 := 0) (mc2 := 0) (ms2 := 0) fm_11_159 fl_11_159 (by decide +kernel) (sr_in11 _ (by omega)) (rm_11_overlapOf_11_firstOf) rfl rfl rfl (C11_firstOf l a1 x3 t1) ?_
    refine sr_kI (fun v2 t2 => ?_)
    refine sr_icmp_eq (pc := 30) (off := 9) (tg := 39) (by decide +kernel) (by decide) (fun _ => ?_) (fun _ => ?_)
    · exact sr_wk (sr_mono (mc := 0) (ms := 0) (by omega) (by omega) (hk39 x3 t2)) ⟨rfl, ⟨rfl, ⟨rfl, ⟨rfl, trivial⟩⟩⟩⟩
    · refine sr_iinc (pc := 33) (i := 3) (n := (-1)) (w := x3 + (-1)) (by decide +kernel) rfl rfl (by decide) rfl rfl ?_
      refine sr_goto (pc := 36) (off := (-19)) (tg := 17) (by decide +kernel) (by decide) ?_
      exact sr_wk (sr_mono (mc := 0) (ms := 0) (by omega) (by omega) (ih (x3 + (-1)) t2)) ⟨rfl, ⟨rfl, ⟨rfl, ⟨rfl, trivial⟩⟩⟩⟩
def f11_overlapOf_39 (a0 : Int32) (a1 : Int32)  : Int32 → sr_t → sr_Rs := fun x3 t => (some (.inl (some (sr_i x3)), t))
theorem g11_overlapOf_39 (l : Launch) (a0 : Int32) (a1 : Int32)    : ∀ (x3 : Int32), ∀ (t : sr_t), sr_g l sr_m11_overlapOf 39 [some (sr_r 11 0), some (sr_i a0), some (sr_i a1), some (sr_i x3)] [] t (f11_overlapOf_39 a0 a1  x3 t) 0 0 := by
  intro x3  t
  unfold f11_overlapOf_39
  refine sr_iloadn (pc := 39) (n := 3) (by decide +kernel) rfl ?_
  exact sr_iret (pc := 40) (by decide +kernel) rfl
def F11_overlapOf (a0 : Int32) (a1 : Int32) (t : sr_t) : sr_Rs := (if a0 = a1 then (sr_bI (F11_letters t) (fun v2 t2 => (some (.inl (some (sr_i v2)), t2)))) else (sr_bI (F11_letters t) (fun v1 t1 => f11_overlapOf_17 a0 a1 (f11_overlapOf_39 a0 a1) sr_fu (v1 - 1) t1)))
theorem C11_overlapOf (l : Launch) (a0 : Int32) (a1 : Int32)  (t : sr_t) : sr_ct' l sr_m11_overlapOf [sr_r 11 0, sr_i a0, sr_i a1] t (F11_overlapOf a0 a1 t) 0 0 := by
  refine sr_T_of (L0 := [some (sr_r 11 0), some (sr_i a0), some (sr_i a1), none]) rfl (by decide +kernel) (fun _ => rfl) (fun _ => Nat.le_of_ble_eq_true rfl) ?_
  unfold F11_overlapOf
  refine sr_iloadn (pc := 0) (n := 1) (by decide +kernel) rfl ?_
  refine sr_iloadn (pc := 1) (n := 2) (by decide +kernel) rfl ?_
  refine sr_icmp_ne (pc := 2) (off := 8) (tg := 10) (by decide +kernel) (by decide) (fun _ => ?_) (fun _ => ?_)
  · refine sr_aloadn (pc := 10) (n := 0) (by decide +kernel) rfl ?_
    refine sr_cV (pc := 11) (As := []) (mc1 := 0) (ms1 := 0) (mc2 := 0) (ms2 := 0) fm_11_153 fl_11_153 (by decide +kernel) (sr_in11 _ (by omega)) (rm_11_overlapOf_11_letters) rfl rfl rfl (C11_letters l t) ?_
    refine sr_kI (fun v1 t1 => ?_)
    refine sr_iconst (pc := 14) (n := 1) (v := 1) (by decide +kernel) rfl ?_
    refine sr_isub (pc := 15) (by decide +kernel) ?_
    refine sr_istoren (pc := 16) (n := 3) (by decide +kernel) (by decide) rfl rfl ?_
    exact sr_wk (sr_mono (mc := 0) (ms := 0) (by omega) (by omega) (g11_overlapOf_17 l a0 a1 (f11_overlapOf_39 a0 a1) (g11_overlapOf_39 l a0 a1) sr_fu (v1 - 1) t1)) ⟨rfl, ⟨rfl, ⟨rfl, ⟨rfl, trivial⟩⟩⟩⟩
  · refine sr_aloadn (pc := 5) (n := 0) (by decide +kernel) rfl ?_
    refine sr_cV (pc := 6) (As := []) (mc1 := 0) (ms1 := 0) (mc2 := 0) (ms2 := 0) fm_11_153 fl_11_153 (by decide +kernel) (sr_in11 _ (by omega)) (rm_11_overlapOf_11_letters) rfl rfl rfl (C11_letters l t) ?_
    refine sr_kI (fun v2 t2 => ?_)
    exact sr_iret (pc := 9) (by decide +kernel) rfl
def f11_overlap_40 (a0 : Int32) (a1 : Int32)  : Int32 → sr_t → sr_Rs := fun xs0 t => (some (.inl (some (sr_i xs0)), t))
theorem g11_overlap_40 (l : Launch) (a0 : Int32) (a1 : Int32)    : ∀ (xs0 : Int32), ∀ (t : sr_t), sr_g l sr_m11_overlap 40 [some (sr_r 11 0), some (sr_i a0), some (sr_i a1)] [sr_i xs0] t (f11_overlap_40 a0 a1  xs0 t) 0 0 := by
  intro xs0  t
  unfold f11_overlap_40
  exact sr_iret (pc := 40) (by decide +kernel) rfl
def f11_overlap_20 (a0 : Int32) (a1 : Int32)  : Int32 → sr_t → sr_Rs := fun xs0 t => (sr_lt (sr_u t 11 0 0 xs0) (fun t1 => (if (t1.1 11 0 0) ≤ 0 then (sr_bI (F11_overlapOf a0 a1 t1) (fun v2 t2 => f11_overlap_40 a0 a1 v2 t2)) else f11_overlap_40 a0 a1 0 t1)))
theorem g11_overlap_20 (l : Launch) (a0 : Int32) (a1 : Int32)    : ∀ (xs0 : Int32), ∀ (t : sr_t), sr_g l sr_m11_overlap 20 [some (sr_r 11 0), some (sr_i a0), some (sr_i a1)] [sr_i xs0, sr_r 11 0] t (f11_overlap_20 a0 a1  xs0 t) 0 0 := by
  intro xs0  t
  unfold f11_overlap_20
  refine sr_pI (pc := 20) fg_11_93 ft_11_0 (by decide +kernel) (sr_in11 _ (by omega)) (fun _ => rfl) (fun t1 => ?_)
  refine sr_aloadn (pc := 23) (n := 0) (by decide +kernel) rfl ?_
  refine sr_gI (pc := 24) fg_11_93 (by decide +kernel) (sr_in11 _ (by omega)) (fun _ => rfl) ?_
  refine sr_if_le (pc := 27) (off := 7) (tg := 34) (by decide +kernel) (by decide) (fun _ => ?_) (fun _ => ?_)
  · refine sr_aloadn (pc := 34) (n := 0) (by decide +kernel) rfl ?_
    refine sr_iloadn (pc := 35) (n := 1) (by decide +kernel) rfl ?_
    refine sr_iloadn (pc := 36) (n := 2) (by decide +kernel) rfl ?_
    refine sr_cV (pc := 37) (As := [sr_i a0, sr_i a1]) (mc1 := 0) (ms1 := 0) (mc2 := 0) (ms2 := 0) fm_11_165 fl_11_165 (by decide +kernel) (sr_in11 _ (by omega)) (rm_11_overlap_11_overlapOf) rfl rfl rfl (C11_overlapOf l a0 a1 t1) ?_
    refine sr_kI (fun v2 t2 => ?_)
    exact sr_wk (sr_mono (mc := 0) (ms := 0) (by omega) (by omega) (g11_overlap_40 l a0 a1 v2 t2)) ⟨rfl, ⟨rfl, ⟨rfl, trivial⟩⟩⟩
  · refine sr_iconst (pc := 30) (n := 0) (v := 0) (by decide +kernel) rfl ?_
    refine sr_goto (pc := 31) (off := 9) (tg := 40) (by decide +kernel) (by decide) ?_
    exact sr_wk (sr_mono (mc := 0) (ms := 0) (by omega) (by omega) (g11_overlap_40 l a0 a1 0 t1)) ⟨rfl, ⟨rfl, ⟨rfl, trivial⟩⟩⟩
def f11_overlap_19 (a0 : Int32) (a1 : Int32)  : sr_t → sr_Rs := fun  t => f11_overlap_20 a0 a1 1 t
theorem g11_overlap_19 (l : Launch) (a0 : Int32) (a1 : Int32)    : ∀ (t : sr_t), sr_g l sr_m11_overlap 19 [some (sr_r 11 0), some (sr_i a0), some (sr_i a1)] [sr_r 11 0] t (f11_overlap_19 a0 a1   t) 0 0 := by
  intro t
  unfold f11_overlap_19
  refine sr_iconst (pc := 19) (n := 1) (v := 1) (by decide +kernel) rfl ?_
  exact sr_wk (sr_mono (mc := 0) (ms := 0) (by omega) (by omega) (g11_overlap_20 l a0 a1 1 t)) ⟨rfl, ⟨rfl, ⟨rfl, trivial⟩⟩⟩
def F11_overlap (a0 : Int32) (a1 : Int32) (t : sr_t) : sr_Rs := (sr_bI (F11_isPlace a0 t) (fun v1 t1 => (if v1 = 0 then f11_overlap_19 a0 a1 t1 else (sr_bI (F11_isPlace a1 t1) (fun v2 t2 => (if v2 = 0 then f11_overlap_19 a0 a1 t2 else f11_overlap_20 a0 a1 0 t2))))))
theorem C11_overlap (l : Launch) (a0 : Int32) (a1 : Int32)  (t : sr_t) : sr_ct' l sr_m11_overlap [sr_r 11 0, sr_i a0, sr_i a1] t (F11_overlap a0 a1 t) 0 0 := by
  refine sr_T_of (L0 := [some (sr_r 11 0), some (sr_i a0), some (sr_i a1)]) rfl (by decide +kernel) (fun _ => rfl) (fun _ => Nat.le_of_ble_eq_true rfl) ?_
  unfold F11_overlap
  refine sr_aloadn (pc := 0) (n := 0) (by decide +kernel) rfl ?_
  refine sr_iloadn (pc := 1) (n := 1) (by decide +kernel) rfl ?_
  refine sr_cS (pc := 2) (As := [sr_i a0]) (mc1 := 0) (ms1 := 0) (mc2 := 0) (ms2 := 0) fm_11_133 fl_11_133 (by decide +kernel) (rm_11_overlap_11_isPlace) rfl rfl rfl (C11_isPlace l a0 t) ?_
  refine sr_kI (fun v1 t1 => ?_)
  refine sr_if_eq (pc := 5) (off := 14) (tg := 19) (by decide +kernel) (by decide) (fun _ => ?_) (fun _ => ?_)
  · exact sr_wk (sr_mono (mc := 0) (ms := 0) (by omega) (by omega) (g11_overlap_19 l a0 a1 t1)) ⟨rfl, ⟨rfl, ⟨rfl, trivial⟩⟩⟩
  · refine sr_iloadn (pc := 8) (n := 2) (by decide +kernel) rfl ?_
    refine sr_cS (pc := 9) (As := [sr_i a1]) (mc1 := 0) (ms1 := 0) (mc2 := 0) (ms2 := 0) fm_11_133 fl_11_133 (by decide +kernel) (rm_11_overlap_11_isPlace) rfl rfl rfl (C11_isPlace l a1 t1) ?_
    refine sr_kI (fun v2 t2 => ?_)
    refine sr_if_eq (pc := 12) (off := 7) (tg := 19) (by decide +kernel) (by decide) (fun _ => ?_) (fun _ => ?_)
    · exact sr_wk (sr_mono (mc := 0) (ms := 0) (by omega) (by omega) (g11_overlap_19 l a0 a1 t2)) ⟨rfl, ⟨rfl, ⟨rfl, trivial⟩⟩⟩
    · refine sr_iconst (pc := 15) (n := 0) (v := 0) (by decide +kernel) rfl ?_
      refine sr_goto (pc := 16) (off := 4) (tg := 20) (by decide +kernel) (by decide) ?_
      exact sr_wk (sr_mono (mc := 0) (ms := 0) (by omega) (by omega) (g11_overlap_20 l a0 a1 0 t2)) ⟨rfl, ⟨rfl, ⟨rfl, trivial⟩⟩⟩
def sr_m11_shifted : sr_M := (⟨"ShiftRingModel", "shifted", "(III)I"⟩, prog_13_method_35_code, 7, (some .int), [], 3, 68)
theorem rm_11_shifted_11_isIn : sr_RM sr_m11_shifted sr_m11_isIn := ⟨Nat.le_of_ble_eq_true rfl, Nat.le_of_ble_eq_true rfl⟩
theorem rm_11_shifted_11_isPlace : sr_RM sr_m11_shifted sr_m11_isPlace := ⟨Nat.le_of_ble_eq_true rfl, Nat.le_of_ble_eq_true rfl⟩
theorem rm_11_shifted_11_letterOf : sr_RM sr_m11_shifted sr_m11_letterOf := ⟨Nat.le_of_ble_eq_true rfl, Nat.le_of_ble_eq_true rfl⟩
theorem rm_11_shifted_11_letters : sr_RM sr_m11_shifted sr_m11_letters := ⟨Nat.le_of_ble_eq_true rfl, Nat.le_of_ble_eq_true rfl⟩
theorem rm_11_shifted_11_overlapOf : sr_RM sr_m11_shifted sr_m11_overlapOf := ⟨Nat.le_of_ble_eq_true rfl, Nat.le_of_ble_eq_true rfl⟩
def f11_shifted_63 (a0 : Int32) (a1 : Int32) (a2 : Int32) (k99 : Int32 → sr_t → sr_Rs) : Nat → Int32 → Int32 → Int32 → sr_t → sr_Rs
  | 0 => fun _ _ _ _ => none
  | n + 1 => fun x4 x5 x6 t => (if a2 ≤ x6 then k99 x5 t else (sr_bI (F11_letterOf a1 (x4 + x6) t) (fun v1 t1 => (if 4096 = 0 then none else (f11_shifted_63 a0 a1 a2 k99 n) x4 (((x5 * (t.1 11 0 7)) + v1) - ((x5 * (t.1 11 0 7)) + v1) / 4096 * 4096) (x6 + 1) t1))))
theorem g11_shifted_63 (l : Launch) (a0 : Int32) (a1 : Int32) (a2 : Int32)  (k99 : Int32 → sr_t → sr_Rs) (hk99 : ∀ (x5 : Int32), ∀ (t : sr_t), sr_g l sr_m11_shifted 99 [some (sr_r 11 0), some (sr_i a0), some (sr_i a1), some (sr_i a2), none, some (sr_i x5), none] [] t (k99 x5 t) 0 0) : ∀ (n : Nat) (x4 : Int32) (x5 : Int32) (x6 : Int32), ∀ (t : sr_t), sr_g l sr_m11_shifted 63 [some (sr_r 11 0), some (sr_i a0), some (sr_i a1), some (sr_i a2), some (sr_i x4), some (sr_i x5), some (sr_i x6)] [] t (f11_shifted_63 a0 a1 a2 k99 n x4 x5 x6 t) 0 0 := by
  intro n
  induction n with
  | zero => intros; exact sr_Gn
  | succ n ih =>
    intro x4 x5 x6  t
    unfold f11_shifted_63
    refine sr_iload (pc := 63) (i := 6) (by decide +kernel) rfl ?_
    refine sr_iloadn (pc := 65) (n := 3) (by decide +kernel) rfl ?_
    refine sr_icmp_ge (pc := 66) (off := 33) (tg := 99) (by decide +kernel) (by decide) (fun _ => ?_) (fun _ => ?_)
    · exact sr_wk (sr_mono (mc := 0) (ms := 0) (by omega) (by omega) (hk99 x5 t)) ⟨rfl, ⟨rfl, ⟨rfl, ⟨rfl, ⟨rfl, trivial⟩⟩⟩⟩⟩
    · refine sr_iload (pc := 69) (i := 5) (by decide +kernel) rfl ?_
      refine sr_aloadn (pc := 71) (n := 0) (by decide +kernel) rfl ?_
      refine sr_gI (pc := 72) fg_11_25 (by decide +kernel) (sr_in11 _ (by omega)) (fun _ => rfl) ?_
      refine sr_imul (pc := 75) (by decide +kernel) ?_
      refine sr_aloadn (pc := 76) (n := 0) (by decide +kernel) rfl ?_
      refine sr_iloadn (pc := 77) (n := 2) (by decide +kernel) rfl ?_
      refine sr_iload (pc := 78) (i := 4) (by decide +kernel) rfl ?_
      refine sr_iload (pc := 80) (i := 6) (by decide +kernel) rfl ?_
      refine sr_iadd (pc := 82) (by decide +kernel) ?_
      refine sr_cV (pc := 83) (As := [sr_i a1, sr_i (x4 + x6)]) (mc1 := 0) (ms1 := 0) (mc2 := 0) (ms2 := 0) fm_11_162 fl_11_162 (by decide +kernel) (sr_in11 _ (by omega)) (rm_11_shifted_11_letterOf) rfl rfl rfl (C11_letterOf l a1 (x4 + x6) t) ?_
      refine sr_kI (fun v1 t1 => ?_)
      refine sr_iadd (pc := 86) (by decide +kernel) ?_
      refine sr_sipush (pc := 87) (n := 4096) (v := 4096) (by decide +kernel) (by decide) ?_
      refine sr_irem (pc := 90) (by decide +kernel) (fun _ => ?_)
      refine sr_istore (pc := 91) (i := 5) (by decide +kernel) (by decide) rfl rfl ?_
      refine sr_iinc (pc := 93) (i := 6) (n := 1) (w := x6 + 1) (by decide +kernel) rfl rfl (by decide) rfl rfl ?_
      refine sr_goto (pc := 96) (off := (-33)) (tg := 63) (by decide +kernel) (by decide) ?_
      exact sr_wk (sr_mono (mc := 0) (ms := 0) (by omega) (by omega) (ih x4 (((x5 * (t.1 11 0 7)) + v1) - ((x5 * (t.1 11 0 7)) + v1) / 4096 * 4096) (x6 + 1) t1)) ⟨rfl, ⟨rfl, ⟨rfl, ⟨rfl, ⟨rfl, ⟨rfl, ⟨rfl, trivial⟩⟩⟩⟩⟩⟩⟩
def f11_shifted_99 (a0 : Int32) (a1 : Int32) (a2 : Int32)  : Int32 → sr_t → sr_Rs := fun x5 t => (some (.inl (some (sr_i x5)), t))
theorem g11_shifted_99 (l : Launch) (a0 : Int32) (a1 : Int32) (a2 : Int32)    : ∀ (x5 : Int32), ∀ (t : sr_t), sr_g l sr_m11_shifted 99 [some (sr_r 11 0), some (sr_i a0), some (sr_i a1), some (sr_i a2), none, some (sr_i x5), none] [] t (f11_shifted_99 a0 a1 a2  x5 t) 0 0 := by
  intro x5  t
  unfold f11_shifted_99
  refine sr_iload (pc := 99) (i := 5) (by decide +kernel) rfl ?_
  exact sr_iret (pc := 101) (by decide +kernel) rfl
def f11_shifted_20 (a0 : Int32) (a1 : Int32) (a2 : Int32)  : Int32 → sr_t → sr_Rs := fun xs0 t => (sr_lt (sr_u t 11 0 0 xs0) (fun t1 => (if (t1.1 11 0 0) ≤ 0 then (sr_bI (F11_overlapOf a0 a1 t1) (fun v2 t2 => (sr_bI (F11_letters t2) (fun v3 t3 => (sr_bI (F11_isIn a2 0 (v3 - v2) t3) (fun v4 t4 => (if v4 = 0 then (some (.inl (some (sr_i ((-1)))), t4)) else f11_shifted_63 a0 a1 a2 (f11_shifted_99 a0 a1 a2) sr_fu v2 a0 0 t4))))))) else (some (.inl (some (sr_i 0)), t1)))))
theorem g11_shifted_20 (l : Launch) (a0 : Int32) (a1 : Int32) (a2 : Int32)    : ∀ (xs0 : Int32), ∀ (t : sr_t), sr_g l sr_m11_shifted 20 [some (sr_r 11 0), some (sr_i a0), some (sr_i a1), some (sr_i a2), none, none, none] [sr_i xs0, sr_r 11 0] t (f11_shifted_20 a0 a1 a2  xs0 t) 0 0 := by
  intro xs0  t
  unfold f11_shifted_20
  refine sr_pI (pc := 20) fg_11_93 ft_11_0 (by decide +kernel) (sr_in11 _ (by omega)) (fun _ => rfl) (fun t1 => ?_)
  refine sr_aloadn (pc := 23) (n := 0) (by decide +kernel) rfl ?_
  refine sr_gI (pc := 24) fg_11_93 (by decide +kernel) (sr_in11 _ (by omega)) (fun _ => rfl) ?_
  refine sr_if_le (pc := 27) (off := 5) (tg := 32) (by decide +kernel) (by decide) (fun _ => ?_) (fun _ => ?_)
  · refine sr_aloadn (pc := 32) (n := 0) (by decide +kernel) rfl ?_
    refine sr_iloadn (pc := 33) (n := 1) (by decide +kernel) rfl ?_
    refine sr_iloadn (pc := 34) (n := 2) (by decide +kernel) rfl ?_
    refine sr_cV (pc := 35) (As := [sr_i a0, sr_i a1]) (mc1 := 0) (ms1 := 0) (mc2 := 0) (ms2 := 0) fm_11_165 fl_11_165 (by decide +kernel) (sr_in11 _ (by omega)) (rm_11_shifted_11_overlapOf) rfl rfl rfl (C11_overlapOf l a0 a1 t1) ?_
    refine sr_kI (fun v2 t2 => ?_)
    refine sr_istore (pc := 38) (i := 4) (by decide +kernel) (by decide) rfl rfl ?_
    refine sr_iloadn (pc := 40) (n := 3) (by decide +kernel) rfl ?_
    refine sr_iconst (pc := 41) (n := 0) (v := 0) (by decide +kernel) rfl ?_
    refine sr_aloadn (pc := 42) (n := 0) (by decide +kernel) rfl ?_
    refine sr_cV (pc := 43) (As := []) (mc1 := 0) (ms1 := 0) (mc2 := 0) (ms2 := 0) fm_11_153 fl_11_153 (by decide +kernel) (sr_in11 _ (by omega)) (rm_11_shifted_11_letters) rfl rfl rfl (C11_letters l t2) ?_
    refine sr_kI (fun v3 t3 => ?_)
    refine sr_iload (pc := 46) (i := 4) (by decide +kernel) rfl ?_
    refine sr_isub (pc := 48) (by decide +kernel) ?_
    refine sr_cS (pc := 49) (As := [sr_i a2, sr_i 0, sr_i (v3 - v2)]) (mc1 := 0) (ms1 := 0) (mc2 := 0) (ms2 := 0) fm_11_96 fl_11_96 (by decide +kernel) (rm_11_shifted_11_isIn) rfl rfl rfl (C11_isIn l a2 0 (v3 - v2) t3) ?_
    refine sr_kI (fun v4 t4 => ?_)
    refine sr_if_ne (pc := 52) (off := 5) (tg := 57) (by decide +kernel) (by decide) (fun _ => ?_) (fun _ => ?_)
    · refine sr_iloadn (pc := 57) (n := 1) (by decide +kernel) rfl ?_
      refine sr_istore (pc := 58) (i := 5) (by decide +kernel) (by decide) rfl rfl ?_
      refine sr_iconst (pc := 60) (n := 0) (v := 0) (by decide +kernel) rfl ?_
      refine sr_istore (pc := 61) (i := 6) (by decide +kernel) (by decide) rfl rfl ?_
      exact sr_wk (sr_mono (mc := 0) (ms := 0) (by omega) (by omega) (g11_shifted_63 l a0 a1 a2 (f11_shifted_99 a0 a1 a2) (g11_shifted_99 l a0 a1 a2) sr_fu v2 a0 0 t4)) ⟨rfl, ⟨rfl, ⟨rfl, ⟨rfl, ⟨rfl, ⟨rfl, ⟨rfl, trivial⟩⟩⟩⟩⟩⟩⟩
    · refine sr_iconst (pc := 55) (n := (-1)) (v := (-1)) (by decide +kernel) rfl ?_
      exact sr_iret (pc := 56) (by decide +kernel) rfl
  · refine sr_iconst (pc := 30) (n := 0) (v := 0) (by decide +kernel) rfl ?_
    exact sr_iret (pc := 31) (by decide +kernel) rfl
def f11_shifted_19 (a0 : Int32) (a1 : Int32) (a2 : Int32)  : sr_t → sr_Rs := fun  t => f11_shifted_20 a0 a1 a2 1 t
theorem g11_shifted_19 (l : Launch) (a0 : Int32) (a1 : Int32) (a2 : Int32)    : ∀ (t : sr_t), sr_g l sr_m11_shifted 19 [some (sr_r 11 0), some (sr_i a0), some (sr_i a1), some (sr_i a2), none, none, none] [sr_r 11 0] t (f11_shifted_19 a0 a1 a2   t) 0 0 := by
  intro t
  unfold f11_shifted_19
  refine sr_iconst (pc := 19) (n := 1) (v := 1) (by decide +kernel) rfl ?_
  exact sr_wk (sr_mono (mc := 0) (ms := 0) (by omega) (by omega) (g11_shifted_20 l a0 a1 a2 1 t)) ⟨rfl, ⟨rfl, ⟨rfl, ⟨rfl, trivial⟩⟩⟩⟩
def F11_shifted (a0 : Int32) (a1 : Int32) (a2 : Int32) (t : sr_t) : sr_Rs := (sr_bI (F11_isPlace a0 t) (fun v1 t1 => (if v1 = 0 then f11_shifted_19 a0 a1 a2 t1 else (sr_bI (F11_isPlace a1 t1) (fun v2 t2 => (if v2 = 0 then f11_shifted_19 a0 a1 a2 t2 else f11_shifted_20 a0 a1 a2 0 t2))))))
theorem C11_shifted (l : Launch) (a0 : Int32) (a1 : Int32) (a2 : Int32)  (t : sr_t) : sr_ct' l sr_m11_shifted [sr_r 11 0, sr_i a0, sr_i a1, sr_i a2] t (F11_shifted a0 a1 a2 t) 0 0 := by
  refine sr_T_of (L0 := [some (sr_r 11 0), some (sr_i a0), some (sr_i a1), some (sr_i a2), none, none, none]) rfl (by decide +kernel) (fun _ => rfl) (fun _ => Nat.le_of_ble_eq_true rfl) ?_
  unfold F11_shifted
  refine sr_aloadn (pc := 0) (n := 0) (by decide +kernel) rfl ?_
  refine sr_iloadn (pc := 1) (n := 1) (by decide +kernel) rfl ?_
  refine sr_cS (pc := 2) (As := [sr_i a0]) (mc1 := 0) (ms1 := 0) (mc2 := 0) (ms2 := 0) fm_11_133 fl_11_133 (by decide +kernel) (rm_11_shifted_11_isPlace) rfl rfl rfl (C11_isPlace l a0 t) ?_
  refine sr_kI (fun v1 t1 => ?_)
  refine sr_if_eq (pc := 5) (off := 14) (tg := 19) (by decide +kernel) (by decide) (fun _ => ?_) (fun _ => ?_)
  · exact sr_wk (sr_mono (mc := 0) (ms := 0) (by omega) (by omega) (g11_shifted_19 l a0 a1 a2 t1)) ⟨rfl, ⟨rfl, ⟨rfl, ⟨rfl, trivial⟩⟩⟩⟩
  · refine sr_iloadn (pc := 8) (n := 2) (by decide +kernel) rfl ?_
    refine sr_cS (pc := 9) (As := [sr_i a1]) (mc1 := 0) (ms1 := 0) (mc2 := 0) (ms2 := 0) fm_11_133 fl_11_133 (by decide +kernel) (rm_11_shifted_11_isPlace) rfl rfl rfl (C11_isPlace l a1 t1) ?_
    refine sr_kI (fun v2 t2 => ?_)
    refine sr_if_eq (pc := 12) (off := 7) (tg := 19) (by decide +kernel) (by decide) (fun _ => ?_) (fun _ => ?_)
    · exact sr_wk (sr_mono (mc := 0) (ms := 0) (by omega) (by omega) (g11_shifted_19 l a0 a1 a2 t2)) ⟨rfl, ⟨rfl, ⟨rfl, ⟨rfl, trivial⟩⟩⟩⟩
    · refine sr_iconst (pc := 15) (n := 0) (v := 0) (by decide +kernel) rfl ?_
      refine sr_goto (pc := 16) (off := 4) (tg := 20) (by decide +kernel) (by decide) ?_
      exact sr_wk (sr_mono (mc := 0) (ms := 0) (by omega) (by omega) (g11_shifted_20 l a0 a1 a2 0 t2)) ⟨rfl, ⟨rfl, ⟨rfl, ⟨rfl, trivial⟩⟩⟩⟩
def sr_m11_wrongLook : sr_M := (⟨"ShiftRingModel", "wrongLook", "(II)I"⟩, prog_13_method_46_code, 3, (some .int), [], 2, 43)
def sr_m11_nextOf : sr_M := (⟨"ShiftRingModel", "nextOf", "(I)I"⟩, prog_13_method_36_code, 4, (some .int), [], 1, 22)
def sr_m11_arcOf : sr_M := (⟨"ShiftRingModel", "arcOf", "(I)I"⟩, prog_13_method_37_code, 3, (some .int), [], 2, 45)
def sr_m11_starts : sr_M := (⟨"ShiftRingModel", "starts", "(IZ)V"⟩, prog_13_method_39_code, 6, none, [], 3, 67)
def sr_m11_isInArc : sr_M := (⟨"ShiftRingModel", "isInArc", "(II)Z"⟩, prog_13_method_38_code, 3, (some .boolean), [], 3, 67)
def sr_m11_pointerTo : sr_M := (⟨"ShiftRingModel", "pointerTo", "(II)I"⟩, prog_13_method_41_code, 7, (some .int), [], 1, 22)
def sr_m11_hopsTo : sr_M := (⟨"ShiftRingModel", "hopsTo", "(I)V"⟩, prog_13_method_40_code, 3, none, [], 0, 0)
def sr_m11_goes : sr_M := (⟨"ShiftRingModel", "goes", "(IZ)V"⟩, prog_13_method_42_code, 9, none, [], 4, 92)
def sr_m11_looks : sr_M := (⟨"ShiftRingModel", "looks", "(IIZ)I"⟩, prog_13_method_43_code, 5, (some .int), [], 5, 120)
def sr_m11_isRight : sr_M := (⟨"ShiftRingModel", "isRight", "(II)Z"⟩, prog_13_method_44_code, 3, (some .boolean), [], 2, 45)
def sr_m11_latestLook : sr_M := (⟨"ShiftRingModel", "latestLook", "(IIZ)I"⟩, prog_13_method_45_code, 7, (some .int), [], 6, 144)
def sr_m11_lookup : sr_M := (⟨"ShiftRingModel", "lookup", "(IIZ)I"⟩, prog_13_method_47_code, 4, (some .int), [], 7, 170)
theorem fg_11_35 : sr_FG "ShiftRingModel" 35 11 23 53 := ⟨RX11, TX11, tyX11, rfl, by decide, rfl, uw_11, tyX11_ok, nmX11, Or.inl (sr_tb (n := 1406) (by decide +kernel) rfl)⟩
theorem fg_11_38 : sr_FG "ShiftRingModel" 38 11 24 53 := ⟨RX11, TX11, tyX11, rfl, by decide, rfl, uw_11, tyX11_ok, nmX11, Or.inl (sr_tb (n := 1407) (by decide +kernel) rfl)⟩
theorem fg_11_41 : sr_FG "ShiftRingModel" 41 11 25 53 := ⟨RX11, TX11, tyX11, rfl, by decide, rfl, uw_11, tyX11_ok, nmX11, Or.inl (sr_tb (n := 1408) (by decide +kernel) rfl)⟩
theorem fg_11_44 : sr_FG "ShiftRingModel" 44 11 26 53 := ⟨RX11, TX11, tyX11, rfl, by decide, rfl, uw_11, tyX11_ok, nmX11, Or.inl (sr_tb (n := 1409) (by decide +kernel) rfl)⟩
theorem fg_11_47 : sr_FG "ShiftRingModel" 47 11 27 53 := ⟨RX11, TX11, tyX11, rfl, by decide, rfl, uw_11, tyX11_ok, nmX11, Or.inl (sr_tb (n := 1410) (by decide +kernel) rfl)⟩
theorem fg_11_50 : sr_FG "ShiftRingModel" 50 11 29 53 := ⟨RX11, TX11, tyX11, rfl, by decide, rfl, uw_11, tyX11_ok, nmX11, Or.inl (sr_tb (n := 1412) (by decide +kernel) rfl)⟩
theorem fg_11_53 : sr_FG "ShiftRingModel" 53 11 31 53 := ⟨RX11, TX11, tyX11, rfl, by decide, rfl, uw_11, tyX11_ok, nmX11, Or.inl (sr_tb (n := 1414) (by decide +kernel) rfl)⟩
theorem fg_11_56 : sr_FG "ShiftRingModel" 56 11 32 53 := ⟨RX11, TX11, tyX11, rfl, by decide, rfl, uw_11, tyX11_ok, nmX11, Or.inl (sr_tb (n := 1415) (by decide +kernel) rfl)⟩
theorem fg_11_89 : sr_FG "ShiftRingModel" 89 11 22 53 := ⟨RX11, TX11, tyX11, rfl, by decide, rfl, uw_11, tyX11_ok, nmX11, Or.inl (sr_tb (n := 1405) (by decide +kernel) rfl)⟩
theorem fg_11_174 : sr_FG "ShiftRingModel" 174 11 10 53 := ⟨RX11, TX11, tyX11, rfl, by decide, rfl, uw_11, tyX11_ok, nmX11, Or.inl (sr_tb (n := 1395) (by decide +kernel) rfl)⟩
theorem fg_11_177 : sr_FG "ShiftRingModel" 177 11 11 53 := ⟨RX11, TX11, tyX11, rfl, by decide, rfl, uw_11, tyX11_ok, nmX11, Or.inl (sr_tb (n := 1396) (by decide +kernel) rfl)⟩
theorem fg_11_180 : sr_FG "ShiftRingModel" 180 11 12 53 := ⟨RX11, TX11, tyX11, rfl, by decide, rfl, uw_11, tyX11_ok, nmX11, Or.inl (sr_tb (n := 1397) (by decide +kernel) rfl)⟩
theorem fg_11_183 : sr_FG "ShiftRingModel" 183 11 13 53 := ⟨RX11, TX11, tyX11, rfl, by decide, rfl, uw_11, tyX11_ok, nmX11, Or.inl (sr_tb (n := 1398) (by decide +kernel) rfl)⟩
theorem fg_11_186 : sr_FG "ShiftRingModel" 186 11 19 53 := ⟨RX11, TX11, tyX11, rfl, by decide, rfl, uw_11, tyX11_ok, nmX11, Or.inl (sr_tb (n := 1404) (by decide +kernel) rfl)⟩
theorem fg_11_203 : sr_FG "ShiftRingModel" 203 11 14 53 := ⟨RX11, TX11, tyX11, rfl, by decide, rfl, uw_11, tyX11_ok, nmX11, Or.inl (sr_tb (n := 1399) (by decide +kernel) rfl)⟩
theorem fg_11_206 : sr_FG "ShiftRingModel" 206 11 15 53 := ⟨RX11, TX11, tyX11, rfl, by decide, rfl, uw_11, tyX11_ok, nmX11, Or.inl (sr_tb (n := 1400) (by decide +kernel) rfl)⟩
theorem fg_11_209 : sr_FG "ShiftRingModel" 209 11 16 53 := ⟨RX11, TX11, tyX11, rfl, by decide, rfl, uw_11, tyX11_ok, nmX11, Or.inl (sr_tb (n := 1401) (by decide +kernel) rfl)⟩
theorem fg_11_212 : sr_FG "ShiftRingModel" 212 11 17 53 := ⟨RX11, TX11, tyX11, rfl, by decide, rfl, uw_11, tyX11_ok, nmX11, Or.inl (sr_tb (n := 1402) (by decide +kernel) rfl)⟩
theorem fg_11_215 : sr_FG "ShiftRingModel" 215 11 18 53 := ⟨RX11, TX11, tyX11, rfl, by decide, rfl, uw_11, tyX11_ok, nmX11, Or.inl (sr_tb (n := 1403) (by decide +kernel) rfl)⟩
theorem fg_11_228 : sr_FG "ShiftRingModel" 228 11 28 53 := ⟨RX11, TX11, tyX11, rfl, by decide, rfl, uw_11, tyX11_ok, nmX11, Or.inl (sr_tb (n := 1411) (by decide +kernel) rfl)⟩
theorem fg_11_231 : sr_FG "ShiftRingModel" 231 11 30 53 := ⟨RX11, TX11, tyX11, rfl, by decide, rfl, uw_11, tyX11_ok, nmX11, Or.inl (sr_tb (n := 1413) (by decide +kernel) rfl)⟩
theorem ft_11_10 : sr_FT 11 10 53 0 false := ⟨RX11, TX11, rfl, rfl, (fun h => nomatch h), (show parseFieldDescriptor (TX11 10).2.2.1 = some .int from by decide +kernel)⟩
theorem ft_11_11 : sr_FT 11 11 53 0 false := ⟨RX11, TX11, rfl, rfl, (fun h => nomatch h), (show parseFieldDescriptor (TX11 11).2.2.1 = some .int from by decide +kernel)⟩
theorem ft_11_12 : sr_FT 11 12 53 0 false := ⟨RX11, TX11, rfl, rfl, (fun h => nomatch h), (show parseFieldDescriptor (TX11 12).2.2.1 = some .int from by decide +kernel)⟩
theorem ft_11_13 : sr_FT 11 13 53 0 false := ⟨RX11, TX11, rfl, rfl, (fun h => nomatch h), (show parseFieldDescriptor (TX11 13).2.2.1 = some .int from by decide +kernel)⟩
theorem ft_11_14 : sr_FT 11 14 53 0 false := ⟨RX11, TX11, rfl, rfl, (fun h => nomatch h), (show parseFieldDescriptor (TX11 14).2.2.1 = some .int from by decide +kernel)⟩
theorem ft_11_15 : sr_FT 11 15 53 0 false := ⟨RX11, TX11, rfl, rfl, (fun h => nomatch h), (show parseFieldDescriptor (TX11 15).2.2.1 = some .int from by decide +kernel)⟩
theorem ft_11_16 : sr_FT 11 16 53 0 false := ⟨RX11, TX11, rfl, rfl, (fun h => nomatch h), (show parseFieldDescriptor (TX11 16).2.2.1 = some .int from by decide +kernel)⟩
theorem ft_11_17 : sr_FT 11 17 53 0 false := ⟨RX11, TX11, rfl, rfl, (fun h => nomatch h), (show parseFieldDescriptor (TX11 17).2.2.1 = some .int from by decide +kernel)⟩
theorem ft_11_18 : sr_FT 11 18 53 0 false := ⟨RX11, TX11, rfl, rfl, (fun h => nomatch h), (show parseFieldDescriptor (TX11 18).2.2.1 = some .int from by decide +kernel)⟩
theorem ft_11_19 : sr_FT 11 19 53 0 false := ⟨RX11, TX11, rfl, rfl, (fun h => nomatch h), (show parseFieldDescriptor (TX11 19).2.2.1 = some .int from by decide +kernel)⟩
theorem ft_11_22 : sr_FT 11 22 53 1 false := ⟨RX11, TX11, rfl, rfl, (fun h => nomatch h), (show parseFieldDescriptor (TX11 22).2.2.1 = some .boolean from by decide +kernel)⟩
theorem ft_11_28 : sr_FT 11 28 53 0 false := ⟨RX11, TX11, rfl, rfl, (fun h => nomatch h), (show parseFieldDescriptor (TX11 28).2.2.1 = some .int from by decide +kernel)⟩
theorem ft_11_30 : sr_FT 11 30 53 0 false := ⟨RX11, TX11, rfl, rfl, (fun h => nomatch h), (show parseFieldDescriptor (TX11 30).2.2.1 = some .int from by decide +kernel)⟩
theorem fl_11_168 : Cond.methodLink "ShiftRingModel" 168 (sr_My sr_m11_nextOf) ∈ sr_TB := (sr_tb (n := 1687) (by decide +kernel) rfl)
theorem fm_11_168 : sr_FV "ShiftRingModel" 168 sr_m11_nextOf 11 1 := ⟨⟨rfl, sr_tb (n := 1690) (by decide +kernel) rfl, sr_tb (n := 12) (by decide +kernel) rfl, ⟨by decide, by decide, by decide +kernel⟩, Or.inl fl_11_168⟩, ⟨TX11, 53, rfl, rfl⟩, sr_tb (n := 1689) (by decide +kernel) rfl, sr_ts (n := 60) (by decide +kernel) rfl⟩
theorem fl_11_171 : Cond.methodLink "ShiftRingModel" 171 (sr_My sr_m11_arcOf) ∈ sr_TB := (sr_tb (n := 1691) (by decide +kernel) rfl)
theorem fm_11_171 : sr_FV "ShiftRingModel" 171 sr_m11_arcOf 11 1 := ⟨⟨rfl, sr_tb (n := 1694) (by decide +kernel) rfl, sr_tb (n := 12) (by decide +kernel) rfl, ⟨by decide, by decide, by decide +kernel⟩, Or.inl fl_11_171⟩, ⟨TX11, 53, rfl, rfl⟩, sr_tb (n := 1693) (by decide +kernel) rfl, sr_ts (n := 61) (by decide +kernel) rfl⟩
theorem fl_11_189 : Cond.methodLink "ShiftRingModel" 189 (sr_My sr_m11_isInArc) ∈ sr_TB := (sr_tb (n := 1695) (by decide +kernel) rfl)
theorem fm_11_189 : sr_FV "ShiftRingModel" 189 sr_m11_isInArc 11 2 := ⟨⟨rfl, sr_tb (n := 1698) (by decide +kernel) rfl, sr_tb (n := 12) (by decide +kernel) rfl, ⟨by decide, by decide, by decide +kernel⟩, Or.inl fl_11_189⟩, ⟨TX11, 53, rfl, rfl⟩, sr_tb (n := 1697) (by decide +kernel) rfl, sr_ts (n := 62) (by decide +kernel) rfl⟩
theorem fl_11_193 : Cond.methodLink "ShiftRingModel" 193 (sr_My sr_m11_pointerTo) ∈ sr_TB := (sr_tb (n := 1703) (by decide +kernel) rfl)
theorem fm_11_193 : sr_FV "ShiftRingModel" 193 sr_m11_pointerTo 11 2 := ⟨⟨rfl, sr_tb (n := 1706) (by decide +kernel) rfl, sr_tb (n := 12) (by decide +kernel) rfl, ⟨by decide, by decide, by decide +kernel⟩, Or.inl fl_11_193⟩, ⟨TX11, 53, rfl, rfl⟩, sr_tb (n := 1705) (by decide +kernel) rfl, sr_ts (n := 64) (by decide +kernel) rfl⟩
theorem fl_11_196 : Cond.methodLink "ShiftRingModel" 196 (sr_My sr_m11_hopsTo) ∈ sr_TB := (sr_tb (n := 1707) (by decide +kernel) rfl)
theorem fm_11_196 : sr_FV "ShiftRingModel" 196 sr_m11_hopsTo 11 1 := ⟨⟨rfl, sr_tb (n := 1710) (by decide +kernel) rfl, sr_tb (n := 12) (by decide +kernel) rfl, ⟨by decide, by decide, by decide +kernel⟩, Or.inl fl_11_196⟩, ⟨TX11, 53, rfl, rfl⟩, sr_tb (n := 1709) (by decide +kernel) rfl, sr_ts (n := 65) (by decide +kernel) rfl⟩
theorem fl_11_199 : Cond.methodLink "ShiftRingModel" 199 (sr_My sr_m11_starts) ∈ sr_TB := (sr_tb (n := 1683) (by decide +kernel) rfl)
theorem fm_11_199 : sr_FV "ShiftRingModel" 199 sr_m11_starts 11 2 := ⟨⟨rfl, sr_tb (n := 1686) (by decide +kernel) rfl, sr_tb (n := 12) (by decide +kernel) rfl, ⟨by decide, by decide, by decide +kernel⟩, Or.inl fl_11_199⟩, ⟨TX11, 53, rfl, rfl⟩, sr_tb (n := 1685) (by decide +kernel) rfl, sr_ts (n := 59) (by decide +kernel) rfl⟩
theorem fl_11_218 : Cond.methodLink "ShiftRingModel" 218 (sr_My sr_m11_goes) ∈ sr_TB := (sr_tb (n := 1699) (by decide +kernel) rfl)
theorem fm_11_218 : sr_FV "ShiftRingModel" 218 sr_m11_goes 11 2 := ⟨⟨rfl, sr_tb (n := 1702) (by decide +kernel) rfl, sr_tb (n := 12) (by decide +kernel) rfl, ⟨by decide, by decide, by decide +kernel⟩, Or.inl fl_11_218⟩, ⟨TX11, 53, rfl, rfl⟩, sr_tb (n := 1701) (by decide +kernel) rfl, sr_ts (n := 63) (by decide +kernel) rfl⟩
theorem fl_11_221 : Cond.methodLink "ShiftRingModel" 221 (sr_My sr_m11_looks) ∈ sr_TB := (sr_tb (n := 1679) (by decide +kernel) rfl)
theorem fm_11_221 : sr_FV "ShiftRingModel" 221 sr_m11_looks 11 3 := ⟨⟨rfl, sr_tb (n := 1682) (by decide +kernel) rfl, sr_tb (n := 12) (by decide +kernel) rfl, ⟨by decide, by decide, by decide +kernel⟩, Or.inl fl_11_221⟩, ⟨TX11, 53, rfl, rfl⟩, sr_tb (n := 1681) (by decide +kernel) rfl, sr_ts (n := 58) (by decide +kernel) rfl⟩
theorem fl_11_225 : Cond.methodLink "ShiftRingModel" 225 (sr_My sr_m11_isRight) ∈ sr_TB := (sr_tb (n := 1711) (by decide +kernel) rfl)
theorem fm_11_225 : sr_FV "ShiftRingModel" 225 sr_m11_isRight 11 2 := ⟨⟨rfl, sr_tb (n := 1714) (by decide +kernel) rfl, sr_tb (n := 12) (by decide +kernel) rfl, ⟨by decide, by decide, by decide +kernel⟩, Or.inl fl_11_225⟩, ⟨TX11, 53, rfl, rfl⟩, sr_tb (n := 1713) (by decide +kernel) rfl, sr_ts (n := 66) (by decide +kernel) rfl⟩
theorem fl_11_234 : Cond.methodLink "ShiftRingModel" 234 (sr_My sr_m11_wrongLook) ∈ sr_TB := (sr_tb (n := 1671) (by decide +kernel) rfl)
theorem fm_11_234 : sr_FV "ShiftRingModel" 234 sr_m11_wrongLook 11 2 := ⟨⟨rfl, sr_tb (n := 1674) (by decide +kernel) rfl, sr_tb (n := 12) (by decide +kernel) rfl, ⟨by decide, by decide, by decide +kernel⟩, Or.inl fl_11_234⟩, ⟨TX11, 53, rfl, rfl⟩, sr_tb (n := 1673) (by decide +kernel) rfl, sr_ts (n := 56) (by decide +kernel) rfl⟩
theorem fl_11_237 : Cond.methodLink "ShiftRingModel" 237 (sr_My sr_m11_latestLook) ∈ sr_TB := (sr_tb (n := 1675) (by decide +kernel) rfl)
theorem fm_11_237 : sr_FV "ShiftRingModel" 237 sr_m11_latestLook 11 3 := ⟨⟨rfl, sr_tb (n := 1678) (by decide +kernel) rfl, sr_tb (n := 12) (by decide +kernel) rfl, ⟨by decide, by decide, by decide +kernel⟩, Or.inl fl_11_237⟩, ⟨TX11, 53, rfl, rfl⟩, sr_tb (n := 1677) (by decide +kernel) rfl, sr_ts (n := 57) (by decide +kernel) rfl⟩
theorem rm_11_arcOf_11_from : sr_RM sr_m11_arcOf sr_m11_from := ⟨Nat.le_of_ble_eq_true rfl, Nat.le_of_ble_eq_true rfl⟩
theorem rm_11_arcOf_11_nextOf : sr_RM sr_m11_arcOf sr_m11_nextOf := ⟨Nat.le_of_ble_eq_true rfl, Nat.le_of_ble_eq_true rfl⟩
theorem rm_11_goes_11_hopsTo : sr_RM sr_m11_goes sr_m11_hopsTo := ⟨Nat.le_of_ble_eq_true rfl, Nat.le_of_ble_eq_true rfl⟩
theorem rm_11_goes_11_isInArc : sr_RM sr_m11_goes sr_m11_isInArc := ⟨Nat.le_of_ble_eq_true rfl, Nat.le_of_ble_eq_true rfl⟩
theorem rm_11_goes_11_letterOf : sr_RM sr_m11_goes sr_m11_letterOf := ⟨Nat.le_of_ble_eq_true rfl, Nat.le_of_ble_eq_true rfl⟩
theorem rm_11_goes_11_letters : sr_RM sr_m11_goes sr_m11_letters := ⟨Nat.le_of_ble_eq_true rfl, Nat.le_of_ble_eq_true rfl⟩
theorem rm_11_goes_11_nextOf : sr_RM sr_m11_goes sr_m11_nextOf := ⟨Nat.le_of_ble_eq_true rfl, Nat.le_of_ble_eq_true rfl⟩
theorem rm_11_goes_11_pointerTo : sr_RM sr_m11_goes sr_m11_pointerTo := ⟨Nat.le_of_ble_eq_true rfl, Nat.le_of_ble_eq_true rfl⟩
theorem rm_11_goes_11_starts : sr_RM sr_m11_goes sr_m11_starts := ⟨Nat.le_of_ble_eq_true rfl, Nat.le_of_ble_eq_true rfl⟩
theorem rm_11_goes_11_tableOf : sr_RM sr_m11_goes sr_m11_tableOf := ⟨Nat.le_of_ble_eq_true rfl, Nat.le_of_ble_eq_true rfl⟩
theorem rm_11_isInArc_11_arcOf : sr_RM sr_m11_isInArc sr_m11_arcOf := ⟨Nat.le_of_ble_eq_true rfl, Nat.le_of_ble_eq_true rfl⟩
theorem rm_11_isInArc_11_from : sr_RM sr_m11_isInArc sr_m11_from := ⟨Nat.le_of_ble_eq_true rfl, Nat.le_of_ble_eq_true rfl⟩
theorem rm_11_isRight_11_upFrom : sr_RM sr_m11_isRight sr_m11_upFrom := ⟨Nat.le_of_ble_eq_true rfl, Nat.le_of_ble_eq_true rfl⟩
theorem rm_11_latestLook_11_isRight : sr_RM sr_m11_latestLook sr_m11_isRight := ⟨Nat.le_of_ble_eq_true rfl, Nat.le_of_ble_eq_true rfl⟩
theorem rm_11_latestLook_11_looks : sr_RM sr_m11_latestLook sr_m11_looks := ⟨Nat.le_of_ble_eq_true rfl, Nat.le_of_ble_eq_true rfl⟩
theorem rm_11_latestLook_11_tableOf : sr_RM sr_m11_latestLook sr_m11_tableOf := ⟨Nat.le_of_ble_eq_true rfl, Nat.le_of_ble_eq_true rfl⟩
theorem rm_11_looks_11_goes : sr_RM sr_m11_looks sr_m11_goes := ⟨Nat.le_of_ble_eq_true rfl, Nat.le_of_ble_eq_true rfl⟩
theorem rm_11_looks_11_isInArc : sr_RM sr_m11_looks sr_m11_isInArc := ⟨Nat.le_of_ble_eq_true rfl, Nat.le_of_ble_eq_true rfl⟩
theorem rm_11_looks_11_letters : sr_RM sr_m11_looks sr_m11_letters := ⟨Nat.le_of_ble_eq_true rfl, Nat.le_of_ble_eq_true rfl⟩
theorem rm_11_looks_11_nextOf : sr_RM sr_m11_looks sr_m11_nextOf := ⟨Nat.le_of_ble_eq_true rfl, Nat.le_of_ble_eq_true rfl⟩
theorem rm_11_looks_11_starts : sr_RM sr_m11_looks sr_m11_starts := ⟨Nat.le_of_ble_eq_true rfl, Nat.le_of_ble_eq_true rfl⟩
theorem rm_11_lookup_11_latestLook : sr_RM sr_m11_lookup sr_m11_latestLook := ⟨Nat.le_of_ble_eq_true rfl, Nat.le_of_ble_eq_true rfl⟩
theorem rm_11_lookup_11_wrongLook : sr_RM sr_m11_lookup sr_m11_wrongLook := ⟨Nat.le_of_ble_eq_true rfl, Nat.le_of_ble_eq_true rfl⟩
theorem rm_11_nextOf_11_tableOf : sr_RM sr_m11_nextOf sr_m11_tableOf := ⟨Nat.le_of_ble_eq_true rfl, Nat.le_of_ble_eq_true rfl⟩
theorem rm_11_pointerTo_11_from : sr_RM sr_m11_pointerTo sr_m11_from := ⟨Nat.le_of_ble_eq_true rfl, Nat.le_of_ble_eq_true rfl⟩
theorem rm_11_pointerTo_11_tableOf : sr_RM sr_m11_pointerTo sr_m11_tableOf := ⟨Nat.le_of_ble_eq_true rfl, Nat.le_of_ble_eq_true rfl⟩
theorem rm_11_starts_11_arcOf : sr_RM sr_m11_starts sr_m11_arcOf := ⟨Nat.le_of_ble_eq_true rfl, Nat.le_of_ble_eq_true rfl⟩
theorem rm_11_starts_11_firstOf : sr_RM sr_m11_starts sr_m11_firstOf := ⟨Nat.le_of_ble_eq_true rfl, Nat.le_of_ble_eq_true rfl⟩
theorem rm_11_starts_11_letters : sr_RM sr_m11_starts sr_m11_letters := ⟨Nat.le_of_ble_eq_true rfl, Nat.le_of_ble_eq_true rfl⟩
theorem rm_11_starts_11_nextOf : sr_RM sr_m11_starts sr_m11_nextOf := ⟨Nat.le_of_ble_eq_true rfl, Nat.le_of_ble_eq_true rfl⟩
theorem rm_11_starts_11_power : sr_RM sr_m11_starts sr_m11_power := ⟨Nat.le_of_ble_eq_true rfl, Nat.le_of_ble_eq_true rfl⟩
theorem rm_11_wrongLook_11_isNode : sr_RM sr_m11_wrongLook sr_m11_isNode := ⟨Nat.le_of_ble_eq_true rfl, Nat.le_of_ble_eq_true rfl⟩
theorem rm_11_wrongLook_11_isPlace : sr_RM sr_m11_wrongLook sr_m11_isPlace := ⟨Nat.le_of_ble_eq_true rfl, Nat.le_of_ble_eq_true rfl⟩
