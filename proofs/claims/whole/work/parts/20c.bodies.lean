def f3_setBase_32 (i0 : Nat) (a0 : Int32)  : Int32 → Nat → sr_t → sr_Rs := fun xs0 js1 t => (sr_lt (sr_u t 3 js1 7 xs0) (fun t1 => (some (.inl none, t1))))
theorem g3_setBase_32 (l : Launch) (i0 : Nat) (a0 : Int32) (hv_i0 : i0 < 2)   : ∀ (xs0 : Int32) (js1 : Nat), js1 < 2 → ∀ (t : sr_t), sr_g l sr_m3_setBase 32 [some (sr_r 3 i0), some (sr_i a0)] [sr_i xs0, sr_r 3 js1] t (f3_setBase_32 i0 a0  xs0 js1 t) 0 0 := by
  intro xs0 js1 hv_js1 t
  unfold f3_setBase_32
  refine sr_pI (pc := 32) fg_3_48 ft_3_7 (by decide +kernel) (sr_in3 _ (by omega)) (fun _ => rfl) (fun t1 => ?_)
  exact sr_ret (pc := 35) (by decide +kernel) rfl
def F3_setBase (i0 : Nat) (a0 : Int32) (t : sr_t) : sr_Rs := (sr_lt (sr_u t 3 i0 5 a0) (fun t1 => (sr_bI (sr_nt (F10_bitsOf a0 t1)) (fun v2 t2 => (sr_lt (sr_u t2 3 i0 6 v2) (fun t3 => (if (t3.1 3 i0 6) ≤ 0 then f3_setBase_32 i0 a0 0 i0 t3 else (if t3.1 3 i0 6 = 0 then none else f3_setBase_32 i0 a0 (12 / (t3.1 3 i0 6)) i0 t3))))))))
theorem C3_setBase (l : Launch) (i0 : Nat) (a0 : Int32) (hv_i0 : i0 < 2) (t : sr_t) : sr_ct' l sr_m3_setBase [sr_r 3 i0, sr_i a0] t (F3_setBase i0 a0 t) 0 0 := by
  refine sr_T_of (L0 := [some (sr_r 3 i0), some (sr_i a0)]) rfl (by decide +kernel) (fun _ => rfl) (fun _ => Nat.le_of_ble_eq_true rfl) ?_
  unfold F3_setBase
  refine sr_aloadn (pc := 0) (n := 0) (by decide +kernel) rfl ?_
  refine sr_iloadn (pc := 1) (n := 1) (by decide +kernel) rfl ?_
  refine sr_pI (pc := 2) fg_3_38 ft_3_5 (by decide +kernel) (sr_in3 _ (by omega)) (fun _ => rfl) (fun t1 => ?_)
  refine sr_aloadn (pc := 5) (n := 0) (by decide +kernel) rfl ?_
  refine sr_iloadn (pc := 6) (n := 1) (by decide +kernel) rfl ?_
  refine sr_cSN (pc := 7) (As := [sr_i a0]) (mc1 := 0) (ms1 := 0) (mc2 := 0) (ms2 := 0) fm_3_41 fl_3_41 (by decide +kernel) (rm_3_setBase_10_bitsOf) rfl rfl rfl (C10_bitsOf l a0 t1) ?_
  refine sr_kI (fun v2 t2 => ?_)
  refine sr_pI (pc := 10) fg_3_45 ft_3_6 (by decide +kernel) (sr_in3 _ (by omega)) (fun _ => rfl) (fun t3 => ?_)
  refine sr_aloadn (pc := 13) (n := 0) (by decide +kernel) rfl ?_
  refine sr_aloadn (pc := 14) (n := 0) (by decide +kernel) rfl ?_
  refine sr_gI (pc := 15) fg_3_45 (by decide +kernel) (sr_in3 _ (by omega)) (fun _ => rfl) ?_
  refine sr_if_le (pc := 18) (off := 13) (tg := 31) (by decide +kernel) (by decide) (fun _ => ?_) (fun _ => ?_)
  · refine sr_iconst (pc := 31) (n := 0) (v := 0) (by decide +kernel) rfl ?_
    exact sr_wk (sr_mono (mc := 0) (ms := 0) (by omega) (by omega) (g3_setBase_32 l i0 a0 hv_i0 0 i0 (by omega) t3)) ⟨rfl, ⟨rfl, trivial⟩⟩
  · refine sr_bipush (pc := 21) (n := 12) (v := 12) (by decide +kernel) (by decide) ?_
    refine sr_aloadn (pc := 23) (n := 0) (by decide +kernel) rfl ?_
    refine sr_gI (pc := 24) fg_3_45 (by decide +kernel) (sr_in3 _ (by omega)) (fun _ => rfl) ?_
    refine sr_idiv (pc := 27) (by decide +kernel) (fun _ => ?_)
    refine sr_goto (pc := 28) (off := 4) (tg := 32) (by decide +kernel) (by decide) ?_
    exact sr_wk (sr_mono (mc := 0) (ms := 0) (by omega) (by omega) (g3_setBase_32 l i0 a0 hv_i0 (12 / (t3.1 3 i0 6)) i0 (by omega) t3)) ⟨rfl, ⟨rfl, trivial⟩⟩
def f4_copyFrom_6 (i0 : Nat) (i1 : Nat) (k29 : sr_t → sr_Rs) : Nat → Int32 → sr_t → sr_Rs
  | 0 => fun _ _ => none
  | n + 1 => fun x2 t => (if (t.1 4 i1 1) ≤ x2 then k29 t else (sr_bI (F4_at i1 x2 t) (fun v1 t1 => (sr_bV (F4_add i0 v1 t1) (fun t2 => (f4_copyFrom_6 i0 i1 k29 n) (x2 + 1) t2)))))
theorem g4_copyFrom_6 (l : Launch) (i0 : Nat) (i1 : Nat) (hv_i0 : i0 < 107) (hv_i1 : i1 < 107) (k29 : sr_t → sr_Rs) (hk29 : ∀ (t : sr_t), sr_g l sr_m4_copyFrom 29 [some (sr_r 4 i0), some (sr_r 4 i1), none] [] t (k29 t) 0 0) : ∀ (n : Nat) (x2 : Int32), ∀ (t : sr_t), sr_g l sr_m4_copyFrom 6 [some (sr_r 4 i0), some (sr_r 4 i1), some (sr_i x2)] [] t (f4_copyFrom_6 i0 i1 k29 n x2 t) 0 0 := by
  intro n
  induction n with
  | zero => intros; exact sr_Gn
  | succ n ih =>
    intro x2  t
    unfold f4_copyFrom_6
    refine sr_iloadn (pc := 6) (n := 2) (by decide +kernel) rfl ?_
    refine sr_aloadn (pc := 7) (n := 1) (by decide +kernel) rfl ?_
    refine sr_gI (pc := 8) fg_4_15 (by decide +kernel) (sr_in4 _ (by omega)) (fun _ => rfl) ?_
    refine sr_icmp_ge (pc := 11) (off := 18) (tg := 29) (by decide +kernel) (by decide) (fun _ => ?_) (fun _ => ?_)
    · exact sr_wk (sr_mono (mc := 0) (ms := 0) (by omega) (by omega) (hk29 t)) ⟨rfl, ⟨rfl, trivial⟩⟩
    · refine sr_aloadn (pc := 14) (n := 0) (by decide +kernel) rfl ?_
      refine sr_aloadn (pc := 15) (n := 1) (by decide +kernel) rfl ?_
      refine sr_iloadn (pc := 16) (n := 2) (by decide +kernel) rfl ?_
      refine sr_cV (pc := 17) (As := [sr_i x2]) (mc1 := 0) (ms1 := 0) (mc2 := 0) (ms2 := 0) fm_4_22 fl_4_22 (by decide +kernel) (sr_in4 _ (by omega)) (rm_4_copyFrom_4_at) rfl rfl rfl (C4_at l i1 x2 (by omega) t) ?_
      refine sr_kI (fun v1 t1 => ?_)
      refine sr_cV (pc := 20) (As := [sr_i v1]) (mc1 := 0) (ms1 := 0) (mc2 := 0) (ms2 := 0) fm_4_26 fl_4_26 (by decide +kernel) (sr_in4 _ (by omega)) (rm_4_copyFrom_4_add) rfl rfl rfl (C4_add l i0 v1 (by omega) t1) ?_
      refine sr_kV (fun t2 => ?_)
      refine sr_iinc (pc := 23) (i := 2) (n := 1) (w := x2 + 1) (by decide +kernel) rfl rfl (by decide) rfl rfl ?_
      refine sr_goto (pc := 26) (off := (-20)) (tg := 6) (by decide +kernel) (by decide) ?_
      exact sr_wk (sr_mono (mc := 0) (ms := 0) (by omega) (by omega) (ih (x2 + 1) t2)) ⟨rfl, ⟨rfl, ⟨rfl, trivial⟩⟩⟩
def f4_copyFrom_29 (i0 : Nat) (i1 : Nat)  : sr_t → sr_Rs := fun  t => (some (.inl none, t))
theorem g4_copyFrom_29 (l : Launch) (i0 : Nat) (i1 : Nat) (hv_i0 : i0 < 107) (hv_i1 : i1 < 107)   : ∀ (t : sr_t), sr_g l sr_m4_copyFrom 29 [some (sr_r 4 i0), some (sr_r 4 i1), none] [] t (f4_copyFrom_29 i0 i1   t) 0 0 := by
  intro t
  unfold f4_copyFrom_29
  exact sr_ret (pc := 29) (by decide +kernel) rfl
def F4_copyFrom (i0 : Nat) (i1 : Nat) (t : sr_t) : sr_Rs := (sr_bV (F4_empty i0 t) (fun t1 => f4_copyFrom_6 i0 i1 (f4_copyFrom_29 i0 i1) sr_fu 0 t1))
theorem C4_copyFrom (l : Launch) (i0 : Nat) (i1 : Nat) (hv_i0 : i0 < 107) (hv_i1 : i1 < 107) (t : sr_t) : sr_ct' l sr_m4_copyFrom [sr_r 4 i0, sr_r 4 i1] t (F4_copyFrom i0 i1 t) 0 0 := by
  refine sr_T_of (L0 := [some (sr_r 4 i0), some (sr_r 4 i1), none]) rfl (by decide +kernel) (fun _ => rfl) (fun _ => Nat.le_of_ble_eq_true rfl) ?_
  unfold F4_copyFrom
  refine sr_aloadn (pc := 0) (n := 0) (by decide +kernel) rfl ?_
  refine sr_cV (pc := 1) (As := []) (mc1 := 0) (ms1 := 0) (mc2 := 0) (ms2 := 0) fm_4_19 fl_4_19 (by decide +kernel) (sr_in4 _ (by omega)) (rm_4_copyFrom_4_empty) rfl rfl rfl (C4_empty l i0 (by omega) t) ?_
  refine sr_kV (fun t1 => ?_)
  refine sr_iconst (pc := 4) (n := 0) (v := 0) (by decide +kernel) rfl ?_
  refine sr_istoren (pc := 5) (n := 2) (by decide +kernel) (by decide) rfl rfl ?_
  exact sr_wk (sr_mono (mc := 0) (ms := 0) (by omega) (by omega) (g4_copyFrom_6 l i0 i1 hv_i0 hv_i1 (f4_copyFrom_29 i0 i1) (g4_copyFrom_29 l i0 i1 hv_i0 hv_i1) sr_fu 0 t1)) ⟨rfl, ⟨rfl, ⟨rfl, trivial⟩⟩⟩
def F7_copyFrom (i0 : Nat) (i1 : Nat) (t : sr_t) : sr_Rs := (sr_lt (sr_u t 7 i0 0 (t.1 7 i1 0)) (fun t1 => (sr_bV (F4_copyFrom (2 * i0) (2 * i1) t1) (fun t2 => (sr_bV (F4_copyFrom (2 * i0 + 1) (2 * i1 + 1) t2) (fun t3 => (some (.inl none, t3))))))))
theorem C7_copyFrom (l : Launch) (i0 : Nat) (i1 : Nat) (hv_i0 : i0 < 52) (hv_i1 : i1 < 52) (t : sr_t) : sr_ct' l sr_m7_copyFrom [sr_r 7 i0, sr_r 7 i1] t (F7_copyFrom i0 i1 t) 0 0 := by
  refine sr_T_of (L0 := [some (sr_r 7 i0), some (sr_r 7 i1)]) rfl (by decide +kernel) (fun _ => rfl) (fun _ => Nat.le_of_ble_eq_true rfl) ?_
  unfold F7_copyFrom
  refine sr_aloadn (pc := 0) (n := 0) (by decide +kernel) rfl ?_
  refine sr_aloadn (pc := 1) (n := 1) (by decide +kernel) rfl ?_
  refine sr_gI (pc := 2) fg_7_19 (by decide +kernel) (sr_in7 _ (by omega)) (fun _ => rfl) ?_
  refine sr_pI (pc := 5) fg_7_19 ft_7_0 (by decide +kernel) (sr_in7 _ (by omega)) (fun _ => rfl) (fun t1 => ?_)
  refine sr_aloadn (pc := 8) (n := 0) (by decide +kernel) rfl ?_
  refine sr_gC (pc := 9) (i2 := 2 * i0) fg_7_10 (by decide +kernel) (sr_in7 _ (by omega)) (fun _ => rfl) ?_
  refine sr_aloadn (pc := 12) (n := 1) (by decide +kernel) rfl ?_
  refine sr_gC (pc := 13) (i2 := 2 * i1) fg_7_10 (by decide +kernel) (sr_in7 _ (by omega)) (fun _ => rfl) ?_
  refine sr_cV (pc := 16) (As := [sr_r 4 (2 * i1)]) (mc1 := 0) (ms1 := 0) (mc2 := 0) (ms2 := 0) fm_7_23 fl_7_23 (by decide +kernel) (sr_in4 _ (by omega)) (rm_7_copyFrom_4_copyFrom) rfl rfl rfl (C4_copyFrom l (2 * i0) (2 * i1) (by omega) (by omega) t1) ?_
  refine sr_kV (fun t2 => ?_)
  refine sr_aloadn (pc := 19) (n := 0) (by decide +kernel) rfl ?_
  refine sr_gC (pc := 20) (i2 := 2 * i0 + 1) fg_7_16 (by decide +kernel) (sr_in7 _ (by omega)) (fun _ => rfl) ?_
  refine sr_aloadn (pc := 23) (n := 1) (by decide +kernel) rfl ?_
  refine sr_gC (pc := 24) (i2 := 2 * i1 + 1) fg_7_16 (by decide +kernel) (sr_in7 _ (by omega)) (fun _ => rfl) ?_
  refine sr_cV (pc := 27) (As := [sr_r 4 (2 * i1 + 1)]) (mc1 := 0) (ms1 := 0) (mc2 := 0) (ms2 := 0) fm_7_23 fl_7_23 (by decide +kernel) (sr_in4 _ (by omega)) (rm_7_copyFrom_4_copyFrom) rfl rfl rfl (C4_copyFrom l (2 * i0 + 1) (2 * i1 + 1) (by omega) (by omega) t2) ?_
  refine sr_kV (fun t3 => ?_)
  exact sr_ret (pc := 30) (by decide +kernel) rfl
def F2_copyFrom (i0 : Nat) (i1 : Nat) (t : sr_t) : sr_Rs := (sr_lt (sr_u t 2 i0 1 (t.1 2 i1 1)) (fun t1 => (if t1.1 2 i1 2 = 0 ∨ t1.1 2 i1 2 = 1 then (sr_lt (sr_u t1 2 i0 2 (t1.1 2 i1 2)) (fun t2 => (sr_lt (sr_u t2 2 i0 3 (t2.1 2 i1 3)) (fun t3 => (sr_bV (F7_copyFrom i0 i1 t3) (fun t4 => (some (.inl none, t4)))))))) else none)))
theorem C2_copyFrom (l : Launch) (i0 : Nat) (i1 : Nat) (hv_i0 : i0 < 50) (hv_i1 : i1 < 50) (t : sr_t) : sr_ct' l sr_m2_copyFrom [sr_r 2 i0, sr_r 2 i1] t (F2_copyFrom i0 i1 t) 0 0 := by
  refine sr_T_of (L0 := [some (sr_r 2 i0), some (sr_r 2 i1)]) rfl (by decide +kernel) (fun _ => rfl) (fun _ => Nat.le_of_ble_eq_true rfl) ?_
  unfold F2_copyFrom
  refine sr_aloadn (pc := 0) (n := 0) (by decide +kernel) rfl ?_
  refine sr_aloadn (pc := 1) (n := 1) (by decide +kernel) rfl ?_
  refine sr_gI (pc := 2) fg_2_25 (by decide +kernel) (sr_in2 _ (by omega)) (fun _ => rfl) ?_
  refine sr_pI (pc := 5) fg_2_25 ft_2_1 (by decide +kernel) (sr_in2 _ (by omega)) (fun _ => rfl) (fun t1 => ?_)
  refine sr_aloadn (pc := 8) (n := 0) (by decide +kernel) rfl ?_
  refine sr_aloadn (pc := 9) (n := 1) (by decide +kernel) rfl ?_
  refine sr_gI (pc := 10) fg_2_28 (by decide +kernel) (sr_in2 _ (by omega)) (fun _ => rfl) ?_
  refine sr_pZ (pc := 13) fg_2_28 ft_2_2 (by decide +kernel) (sr_in2 _ (by omega)) (fun _ => rfl) (fun t2 => ?_)
  refine sr_aloadn (pc := 16) (n := 0) (by decide +kernel) rfl ?_
  refine sr_aloadn (pc := 17) (n := 1) (by decide +kernel) rfl ?_
  refine sr_gI (pc := 18) fg_2_32 (by decide +kernel) (sr_in2 _ (by omega)) (fun _ => rfl) ?_
  refine sr_pI (pc := 21) fg_2_32 ft_2_3 (by decide +kernel) (sr_in2 _ (by omega)) (fun _ => rfl) (fun t3 => ?_)
  refine sr_aloadn (pc := 24) (n := 0) (by decide +kernel) rfl ?_
  refine sr_gC (pc := 25) (i2 := i0) fg_2_12 (by decide +kernel) (sr_in2 _ (by omega)) (fun _ => rfl) ?_
  refine sr_aloadn (pc := 28) (n := 1) (by decide +kernel) rfl ?_
  refine sr_gC (pc := 29) (i2 := i1) fg_2_12 (by decide +kernel) (sr_in2 _ (by omega)) (fun _ => rfl) ?_
  refine sr_cV (pc := 32) (As := [sr_r 7 i1]) (mc1 := 0) (ms1 := 0) (mc2 := 0) (ms2 := 0) fm_2_35 fl_2_35 (by decide +kernel) (sr_in7 _ (by omega)) (rm_2_copyFrom_7_copyFrom) rfl rfl rfl (C7_copyFrom l i0 i1 (by omega) (by omega) t3) ?_
  refine sr_kV (fun t4 => ?_)
  exact sr_ret (pc := 35) (by decide +kernel) rfl
def f3_copyFrom_26 (i0 : Nat) (i1 : Nat) (k53 : sr_t → sr_Rs) : Nat → Int32 → sr_t → sr_Rs
  | 0 => fun _ _ => none
  | n + 1 => fun x2 t => (if (t.1 3 i0 3) ≤ x2 then k53 t else (sr_bR 2 50 (F3_of i0 x2 t) (fun n1 t1 => (sr_bR 2 50 (F3_of i1 x2 t1) (fun n2 t2 => (sr_bV (F2_copyFrom n1 n2 t2) (fun t3 => (f3_copyFrom_26 i0 i1 k53 n) (x2 + 1) t3)))))))
theorem g3_copyFrom_26 (l : Launch) (i0 : Nat) (i1 : Nat) (hv_i0 : i0 < 2) (hv_i1 : i1 < 2) (k53 : sr_t → sr_Rs) (hk53 : ∀ (t : sr_t), sr_g l sr_m3_copyFrom 53 [some (sr_r 3 i0), some (sr_r 3 i1), none] [] t (k53 t) 0 0) : ∀ (n : Nat) (x2 : Int32), ∀ (t : sr_t), sr_g l sr_m3_copyFrom 26 [some (sr_r 3 i0), some (sr_r 3 i1), some (sr_i x2)] [] t (f3_copyFrom_26 i0 i1 k53 n x2 t) 0 0 := by
  intro n
  induction n with
  | zero => intros; exact sr_Gn
  | succ n ih =>
    intro x2  t
    unfold f3_copyFrom_26
    refine sr_iloadn (pc := 26) (n := 2) (by decide +kernel) rfl ?_
    refine sr_aloadn (pc := 27) (n := 0) (by decide +kernel) rfl ?_
    refine sr_gI (pc := 28) fg_3_51 (by decide +kernel) (sr_in3 _ (by omega)) (fun _ => rfl) ?_
    refine sr_icmp_ge (pc := 31) (off := 22) (tg := 53) (by decide +kernel) (by decide) (fun _ => ?_) (fun _ => ?_)
    · exact sr_wk (sr_mono (mc := 0) (ms := 0) (by omega) (by omega) (hk53 t)) ⟨rfl, ⟨rfl, trivial⟩⟩
    · refine sr_aloadn (pc := 34) (n := 0) (by decide +kernel) rfl ?_
      refine sr_iloadn (pc := 35) (n := 2) (by decide +kernel) rfl ?_
      refine sr_cV (pc := 36) (As := [sr_i x2]) (mc1 := 0) (ms1 := 0) (mc2 := 0) (ms2 := 0) fm_3_54 fl_3_54 (by decide +kernel) (sr_in3 _ (by omega)) (rm_3_copyFrom_3_of) rfl rfl rfl (C3_of l i0 x2 (by omega) t) ?_
      refine sr_kR (fun n1 t1 hv_n1 => ?_)
      refine sr_aloadn (pc := 39) (n := 1) (by decide +kernel) rfl ?_
      refine sr_iloadn (pc := 40) (n := 2) (by decide +kernel) rfl ?_
      refine sr_cV (pc := 41) (As := [sr_i x2]) (mc1 := 0) (ms1 := 0) (mc2 := 0) (ms2 := 0) fm_3_54 fl_3_54 (by decide +kernel) (sr_in3 _ (by omega)) (rm_3_copyFrom_3_of) rfl rfl rfl (C3_of l i1 x2 (by omega) t1) ?_
      refine sr_kR (fun n2 t2 hv_n2 => ?_)
      refine sr_cV (pc := 44) (As := [sr_r 2 n2]) (mc1 := 0) (ms1 := 0) (mc2 := 0) (ms2 := 0) fm_3_182 fl_3_182 (by decide +kernel) (sr_in2 _ (by omega)) (rm_3_copyFrom_2_copyFrom) rfl rfl rfl (C2_copyFrom l n1 n2 (by omega) (by omega) t2) ?_
      refine sr_kV (fun t3 => ?_)
      refine sr_iinc (pc := 47) (i := 2) (n := 1) (w := x2 + 1) (by decide +kernel) rfl rfl (by decide) rfl rfl ?_
      refine sr_goto (pc := 50) (off := (-24)) (tg := 26) (by decide +kernel) (by decide) ?_
      exact sr_wk (sr_mono (mc := 0) (ms := 0) (by omega) (by omega) (ih (x2 + 1) t3)) ⟨rfl, ⟨rfl, ⟨rfl, trivial⟩⟩⟩
def f3_copyFrom_53 (i0 : Nat) (i1 : Nat)  : sr_t → sr_Rs := fun  t => (sr_bV (F3_refresh i0 t) (fun t1 => (some (.inl none, t1))))
theorem g3_copyFrom_53 (l : Launch) (i0 : Nat) (i1 : Nat) (hv_i0 : i0 < 2) (hv_i1 : i1 < 2)   : ∀ (t : sr_t), sr_g l sr_m3_copyFrom 53 [some (sr_r 3 i0), some (sr_r 3 i1), none] [] t (f3_copyFrom_53 i0 i1   t) 0 0 := by
  intro t
  unfold f3_copyFrom_53
  refine sr_aloadn (pc := 53) (n := 0) (by decide +kernel) rfl ?_
  refine sr_cV (pc := 54) (As := []) (mc1 := 0) (ms1 := 0) (mc2 := 0) (ms2 := 0) fm_3_75 fl_3_75 (by decide +kernel) (sr_in3 _ (by omega)) (rm_3_copyFrom_3_refresh) rfl rfl rfl (C3_refresh l i0 (by omega) t) ?_
  refine sr_kV (fun t1 => ?_)
  exact sr_ret (pc := 57) (by decide +kernel) rfl
def F3_copyFrom (i0 : Nat) (i1 : Nat) (t : sr_t) : sr_Rs := (sr_bV (F3_setBase i0 (t.1 3 i1 5) t) (fun t1 => (sr_lt (sr_u t1 3 i0 8 (t1.1 3 i1 8)) (fun t2 => (sr_lt (sr_u t2 3 i0 3 (t2.1 3 i1 3)) (fun t3 => f3_copyFrom_26 i0 i1 (f3_copyFrom_53 i0 i1) sr_fu 0 t3))))))
theorem C3_copyFrom (l : Launch) (i0 : Nat) (i1 : Nat) (hv_i0 : i0 < 2) (hv_i1 : i1 < 2) (t : sr_t) : sr_ct' l sr_m3_copyFrom [sr_r 3 i0, sr_r 3 i1] t (F3_copyFrom i0 i1 t) 0 0 := by
  refine sr_T_of (L0 := [some (sr_r 3 i0), some (sr_r 3 i1), none]) rfl (by decide +kernel) (fun _ => rfl) (fun _ => Nat.le_of_ble_eq_true rfl) ?_
  unfold F3_copyFrom
  refine sr_aloadn (pc := 0) (n := 0) (by decide +kernel) rfl ?_
  refine sr_aloadn (pc := 1) (n := 1) (by decide +kernel) rfl ?_
  refine sr_gI (pc := 2) fg_3_38 (by decide +kernel) (sr_in3 _ (by omega)) (fun _ => rfl) ?_
  refine sr_cV (pc := 5) (As := [sr_i (t.1 3 i1 5)]) (mc1 := 0) (ms1 := 0) (mc2 := 0) (ms2 := 0) fm_3_35 fl_3_35 (by decide +kernel) (sr_in3 _ (by omega)) (rm_3_copyFrom_3_setBase) rfl rfl rfl (C3_setBase l i0 (t.1 3 i1 5) (by omega) t) ?_
  refine sr_kV (fun t1 => ?_)
  refine sr_aloadn (pc := 8) (n := 0) (by decide +kernel) rfl ?_
  refine sr_aloadn (pc := 9) (n := 1) (by decide +kernel) rfl ?_
  refine sr_gI (pc := 10) fg_3_31 (by decide +kernel) (sr_in3 _ (by omega)) (fun _ => rfl) ?_
  refine sr_pI (pc := 13) fg_3_31 ft_3_8 (by decide +kernel) (sr_in3 _ (by omega)) (fun _ => rfl) (fun t2 => ?_)
  refine sr_aloadn (pc := 16) (n := 0) (by decide +kernel) rfl ?_
  refine sr_aloadn (pc := 17) (n := 1) (by decide +kernel) rfl ?_
  refine sr_gI (pc := 18) fg_3_51 (by decide +kernel) (sr_in3 _ (by omega)) (fun _ => rfl) ?_
  refine sr_pI (pc := 21) fg_3_51 ft_3_3 (by decide +kernel) (sr_in3 _ (by omega)) (fun _ => rfl) (fun t3 => ?_)
  refine sr_iconst (pc := 24) (n := 0) (v := 0) (by decide +kernel) rfl ?_
  refine sr_istoren (pc := 25) (n := 2) (by decide +kernel) (by decide) rfl rfl ?_
  exact sr_wk (sr_mono (mc := 0) (ms := 0) (by omega) (by omega) (g3_copyFrom_26 l i0 i1 hv_i0 hv_i1 (f3_copyFrom_53 i0 i1) (g3_copyFrom_53 l i0 i1 hv_i0 hv_i1) sr_fu 0 t3)) ⟨rfl, ⟨rfl, ⟨rfl, trivial⟩⟩⟩
def F3_takeDown (i0 : Nat) (i1 : Nat) (t : sr_t) : sr_Rs := (if (0 : Int32) = 0 ∨ (0 : Int32) = 1 then (sr_lt (sr_u t 2 i1 2 0) (fun t1 => (sr_bV (F3_refresh i0 t1) (fun t2 => (some (.inl none, t2)))))) else none)
theorem C3_takeDown (l : Launch) (i0 : Nat) (i1 : Nat) (hv_i0 : i0 < 2) (hv_i1 : i1 < 50) (t : sr_t) : sr_ct' l sr_m3_takeDown [sr_r 3 i0, sr_r 2 i1] t (F3_takeDown i0 i1 t) 0 0 := by
  refine sr_T_of (L0 := [some (sr_r 3 i0), some (sr_r 2 i1)]) rfl (by decide +kernel) (fun _ => rfl) (fun _ => Nat.le_of_ble_eq_true rfl) ?_
  unfold F3_takeDown
  refine sr_aloadn (pc := 0) (n := 1) (by decide +kernel) rfl ?_
  refine sr_iconst (pc := 1) (n := 0) (v := 0) (by decide +kernel) rfl ?_
  refine sr_pZ (pc := 2) fg_3_68 ft_2_2 (by decide +kernel) (sr_in2 _ (by omega)) (fun _ => rfl) (fun t1 => ?_)
  refine sr_aloadn (pc := 5) (n := 0) (by decide +kernel) rfl ?_
  refine sr_cV (pc := 6) (As := []) (mc1 := 0) (ms1 := 0) (mc2 := 0) (ms2 := 0) fm_3_75 fl_3_75 (by decide +kernel) (sr_in3 _ (by omega)) (rm_3_takeDown_3_refresh) rfl rfl rfl (C3_refresh l i0 (by omega) t1) ?_
  refine sr_kV (fun t2 => ?_)
  exact sr_ret (pc := 9) (by decide +kernel) rfl
def fa_fill_15_5 (a1 : Int32) (k20 : sr_t → sr_Rs) : Nat → Int32 → Int32 → sr_t → sr_Rs
  | 0 => fun _ _ _ => none
  | n + 1 => fun x2 x3 t => (if x3 ≤ x2 then k20 t else (if x2 < 0 ∨ 24 ≤ x2.toNatClampNeg then none else sr_lt (sr_u t 15 0 x2.toNatClampNeg a1) (fun t1 => (fa_fill_15_5 a1 k20 n) (x2 + 1) x3 t1)))
theorem ga_fill_15_5 (l : Launch) (a1 : Int32)  (k20 : sr_t → sr_Rs) (hk20 : ∀ (t : sr_t), sr_g l sr_ma_fill 20 [some (sr_r 15 0), some (sr_i a1), none, none] [] t (k20 t) 0 0) : ∀ (n : Nat) (x2 : Int32) (x3 : Int32), ∀ (t : sr_t), sr_g l sr_ma_fill 5 [some (sr_r 15 0), some (sr_i a1), some (sr_i x2), some (sr_i x3)] [] t (fa_fill_15_5 a1 k20 n x2 x3 t) 0 0 := by
  intro n
  induction n with
  | zero => intros; exact sr_Gn
  | succ n ih =>
    intro x2 x3  t
    unfold fa_fill_15_5
    refine sr_iloadn (pc := 5) (n := 2) (by decide +kernel) rfl ?_
    refine sr_iloadn (pc := 6) (n := 3) (by decide +kernel) rfl ?_
    refine sr_icmp_ge (pc := 7) (off := 13) (tg := 20) (by decide +kernel) (by decide) (fun _ => ?_) (fun _ => ?_)
    · exact sr_wk (sr_mono (mc := 0) (ms := 0) (by omega) (by omega) (hk20 t)) ⟨rfl, ⟨rfl, trivial⟩⟩
    · refine sr_aloadn (pc := 10) (n := 0) (by decide +kernel) rfl ?_
      refine sr_iloadn (pc := 11) (n := 2) (by decide +kernel) rfl ?_
      refine sr_iloadn (pc := 12) (n := 1) (by decide +kernel) rfl ?_
      refine sr_sI (pc := 13) (n := 24) rfl (by decide +kernel) (sr_in15 _ (by omega)) (fun _ _ => rfl) (fun t1 => ?_)
      refine sr_iinc (pc := 14) (i := 2) (n := 1) (w := x2 + 1) (by decide +kernel) rfl rfl (by decide) rfl rfl ?_
      refine sr_goto (pc := 17) (off := (-12)) (tg := 5) (by decide +kernel) (by decide) ?_
      exact sr_wk (sr_mono (mc := 0) (ms := 0) (by omega) (by omega) (ih (x2 + 1) x3 t1)) ⟨rfl, ⟨rfl, ⟨rfl, ⟨rfl, trivial⟩⟩⟩⟩
def fa_fill_15_20 (a1 : Int32)  : sr_t → sr_Rs := fun  t => (some (.inl none, t))
theorem ga_fill_15_20 (l : Launch) (a1 : Int32)    : ∀ (t : sr_t), sr_g l sr_ma_fill 20 [some (sr_r 15 0), some (sr_i a1), none, none] [] t (fa_fill_15_20 a1   t) 0 0 := by
  intro t
  unfold fa_fill_15_20
  exact sr_ret (pc := 20) (by decide +kernel) rfl
def Fa_fill_15 (a1 : Int32) (t : sr_t) : sr_Rs := fa_fill_15_5 a1 (fa_fill_15_20 a1) sr_fu 0 24 t
theorem Ca_fill_15 (l : Launch) (a1 : Int32)  (t : sr_t) : sr_ct' l sr_ma_fill [sr_r 15 0, sr_i a1] t (Fa_fill_15 a1 t) 0 0 := by
  refine sr_T_of (L0 := [some (sr_r 15 0), some (sr_i a1), none, none]) rfl (by decide +kernel) (fun _ => rfl) (fun _ => Nat.le_of_ble_eq_true rfl) ?_
  unfold Fa_fill_15
  refine sr_iconst (pc := 0) (n := 0) (v := 0) (by decide +kernel) rfl ?_
  refine sr_istoren (pc := 1) (n := 2) (by decide +kernel) (by decide) rfl rfl ?_
  refine sr_aloadn (pc := 2) (n := 0) (by decide +kernel) rfl ?_
  refine sr_al' (pc := 3) (ty := 0) (n := 24) (v := 24) rfl (by decide) (by decide +kernel) (sr_in15 _ (by omega)) (by decide) ?_
  refine sr_istoren (pc := 4) (n := 3) (by decide +kernel) (by decide) rfl rfl ?_
  exact sr_wk (sr_mono (mc := 0) (ms := 0) (by omega) (by omega) (ga_fill_15_5 l a1 (fa_fill_15_20 a1) (ga_fill_15_20 l a1) sr_fu 0 24 t)) ⟨rfl, ⟨rfl, ⟨rfl, ⟨rfl, trivial⟩⟩⟩⟩
def fa_fill_16_5 (a1 : Int32) (k20 : sr_t → sr_Rs) : Nat → Int32 → Int32 → sr_t → sr_Rs
  | 0 => fun _ _ _ => none
  | n + 1 => fun x2 x3 t => (if x3 ≤ x2 then k20 t else (if x2 < 0 ∨ 576 ≤ x2.toNatClampNeg then none else sr_lt (sr_u t 16 0 x2.toNatClampNeg a1) (fun t1 => (fa_fill_16_5 a1 k20 n) (x2 + 1) x3 t1)))
theorem ga_fill_16_5 (l : Launch) (a1 : Int32)  (k20 : sr_t → sr_Rs) (hk20 : ∀ (t : sr_t), sr_g l sr_ma_fill 20 [some (sr_r 16 0), some (sr_i a1), none, none] [] t (k20 t) 0 0) : ∀ (n : Nat) (x2 : Int32) (x3 : Int32), ∀ (t : sr_t), sr_g l sr_ma_fill 5 [some (sr_r 16 0), some (sr_i a1), some (sr_i x2), some (sr_i x3)] [] t (fa_fill_16_5 a1 k20 n x2 x3 t) 0 0 := by
  intro n
  induction n with
  | zero => intros; exact sr_Gn
  | succ n ih =>
    intro x2 x3  t
    unfold fa_fill_16_5
    refine sr_iloadn (pc := 5) (n := 2) (by decide +kernel) rfl ?_
    refine sr_iloadn (pc := 6) (n := 3) (by decide +kernel) rfl ?_
    refine sr_icmp_ge (pc := 7) (off := 13) (tg := 20) (by decide +kernel) (by decide) (fun _ => ?_) (fun _ => ?_)
    · exact sr_wk (sr_mono (mc := 0) (ms := 0) (by omega) (by omega) (hk20 t)) ⟨rfl, ⟨rfl, trivial⟩⟩
    · refine sr_aloadn (pc := 10) (n := 0) (by decide +kernel) rfl ?_
      refine sr_iloadn (pc := 11) (n := 2) (by decide +kernel) rfl ?_
      refine sr_iloadn (pc := 12) (n := 1) (by decide +kernel) rfl ?_
      refine sr_sI (pc := 13) (n := 576) rfl (by decide +kernel) (sr_in16 _ (by omega)) (fun _ _ => rfl) (fun t1 => ?_)
      refine sr_iinc (pc := 14) (i := 2) (n := 1) (w := x2 + 1) (by decide +kernel) rfl rfl (by decide) rfl rfl ?_
      refine sr_goto (pc := 17) (off := (-12)) (tg := 5) (by decide +kernel) (by decide) ?_
      exact sr_wk (sr_mono (mc := 0) (ms := 0) (by omega) (by omega) (ih (x2 + 1) x3 t1)) ⟨rfl, ⟨rfl, ⟨rfl, ⟨rfl, trivial⟩⟩⟩⟩
def fa_fill_16_20 (a1 : Int32)  : sr_t → sr_Rs := fun  t => (some (.inl none, t))
theorem ga_fill_16_20 (l : Launch) (a1 : Int32)    : ∀ (t : sr_t), sr_g l sr_ma_fill 20 [some (sr_r 16 0), some (sr_i a1), none, none] [] t (fa_fill_16_20 a1   t) 0 0 := by
  intro t
  unfold fa_fill_16_20
  exact sr_ret (pc := 20) (by decide +kernel) rfl
def Fa_fill_16 (a1 : Int32) (t : sr_t) : sr_Rs := fa_fill_16_5 a1 (fa_fill_16_20 a1) sr_fu 0 576 t
theorem Ca_fill_16 (l : Launch) (a1 : Int32)  (t : sr_t) : sr_ct' l sr_ma_fill [sr_r 16 0, sr_i a1] t (Fa_fill_16 a1 t) 0 0 := by
  refine sr_T_of (L0 := [some (sr_r 16 0), some (sr_i a1), none, none]) rfl (by decide +kernel) (fun _ => rfl) (fun _ => Nat.le_of_ble_eq_true rfl) ?_
  unfold Fa_fill_16
  refine sr_iconst (pc := 0) (n := 0) (v := 0) (by decide +kernel) rfl ?_
  refine sr_istoren (pc := 1) (n := 2) (by decide +kernel) (by decide) rfl rfl ?_
  refine sr_aloadn (pc := 2) (n := 0) (by decide +kernel) rfl ?_
  refine sr_al' (pc := 3) (ty := 0) (n := 576) (v := 576) rfl (by decide) (by decide +kernel) (sr_in16 _ (by omega)) (by decide) ?_
  refine sr_istoren (pc := 4) (n := 3) (by decide +kernel) (by decide) rfl rfl ?_
  exact sr_wk (sr_mono (mc := 0) (ms := 0) (by omega) (by omega) (ga_fill_16_5 l a1 (fa_fill_16_20 a1) (ga_fill_16_20 l a1) sr_fu 0 576 t)) ⟨rfl, ⟨rfl, ⟨rfl, ⟨rfl, trivial⟩⟩⟩⟩
def F5_reset  (t : sr_t) : sr_Rs := (sr_lt (sr_u t 5 0 3 0) (fun t1 => (sr_lt (sr_u t1 5 0 4 0) (fun t2 => (sr_lt (sr_u t2 5 0 5 0) (fun t3 => (sr_lt (sr_u t3 5 0 6 0) (fun t4 => (sr_lt (sr_u t4 5 0 7 0) (fun t5 => (sr_lt (sr_u t5 5 0 8 0) (fun t6 => (sr_lt (sr_u t6 5 0 9 0) (fun t7 => (sr_lt (sr_u t7 5 0 10 0) (fun t8 => (sr_bV (Fa_fill_15 0 t8) (fun t9 => (sr_bV (Fa_fill_16 0 t9) (fun t10 => (some (.inl none, t10))))))))))))))))))))))
theorem C5_reset (l : Launch)   (t : sr_t) : sr_ct' l sr_m5_reset [sr_r 5 0] t (F5_reset  t) 0 0 := by
  refine sr_T_of (L0 := [some (sr_r 5 0)]) rfl (by decide +kernel) (fun _ => rfl) (fun _ => Nat.le_of_ble_eq_true rfl) ?_
  unfold F5_reset
  refine sr_aloadn (pc := 0) (n := 0) (by decide +kernel) rfl ?_
  refine sr_iconst (pc := 1) (n := 0) (v := 0) (by decide +kernel) rfl ?_
  refine sr_pI (pc := 2) fg_5_56 ft_5_3 (by decide +kernel) (sr_in5 _ (by omega)) (fun _ => rfl) (fun t1 => ?_)
  refine sr_aloadn (pc := 5) (n := 0) (by decide +kernel) rfl ?_
  refine sr_iconst (pc := 6) (n := 0) (v := 0) (by decide +kernel) rfl ?_
  refine sr_pI (pc := 7) fg_5_59 ft_5_4 (by decide +kernel) (sr_in5 _ (by omega)) (fun _ => rfl) (fun t2 => ?_)
  refine sr_aloadn (pc := 10) (n := 0) (by decide +kernel) rfl ?_
  refine sr_iconst (pc := 11) (n := 0) (v := 0) (by decide +kernel) rfl ?_
  refine sr_pI (pc := 12) fg_5_62 ft_5_5 (by decide +kernel) (sr_in5 _ (by omega)) (fun _ => rfl) (fun t3 => ?_)
  refine sr_aloadn (pc := 15) (n := 0) (by decide +kernel) rfl ?_
  refine sr_iconst (pc := 16) (n := 0) (v := 0) (by decide +kernel) rfl ?_
  refine sr_pI (pc := 17) fg_5_65 ft_5_6 (by decide +kernel) (sr_in5 _ (by omega)) (fun _ => rfl) (fun t4 => ?_)
  refine sr_aloadn (pc := 20) (n := 0) (by decide +kernel) rfl ?_
  refine sr_iconst (pc := 21) (n := 0) (v := 0) (by decide +kernel) rfl ?_
  refine sr_pI (pc := 22) fg_5_68 ft_5_7 (by decide +kernel) (sr_in5 _ (by omega)) (fun _ => rfl) (fun t5 => ?_)
  refine sr_aloadn (pc := 25) (n := 0) (by decide +kernel) rfl ?_
  refine sr_iconst (pc := 26) (n := 0) (v := 0) (by decide +kernel) rfl ?_
  refine sr_pI (pc := 27) fg_5_71 ft_5_8 (by decide +kernel) (sr_in5 _ (by omega)) (fun _ => rfl) (fun t6 => ?_)
  refine sr_aloadn (pc := 30) (n := 0) (by decide +kernel) rfl ?_
  refine sr_iconst (pc := 31) (n := 0) (v := 0) (by decide +kernel) rfl ?_
  refine sr_pI (pc := 32) fg_5_74 ft_5_9 (by decide +kernel) (sr_in5 _ (by omega)) (fun _ => rfl) (fun t7 => ?_)
  refine sr_aloadn (pc := 35) (n := 0) (by decide +kernel) rfl ?_
  refine sr_iconst (pc := 36) (n := 0) (v := 0) (by decide +kernel) rfl ?_
  refine sr_pI (pc := 37) fg_5_77 ft_5_10 (by decide +kernel) (sr_in5 _ (by omega)) (fun _ => rfl) (fun t8 => ?_)
  refine sr_aloadn (pc := 40) (n := 0) (by decide +kernel) rfl ?_
  refine sr_gC (pc := 41) (i2 := 0) fg_5_9 (by decide +kernel) (sr_in5 _ (by omega)) (fun _ => rfl) ?_
  refine sr_iconst (pc := 44) (n := 0) (v := 0) (by decide +kernel) rfl ?_
  refine sr_cS (pc := 45) (As := [sr_r 15 0, sr_i 0]) (mc1 := 0) (ms1 := 0) (mc2 := 0) (ms2 := 0) fm_5_80 fl_5_80 (by decide +kernel) (rm_5_reset_a_fill) rfl rfl rfl (Ca_fill_15 l 0 t8) ?_
  refine sr_kV (fun t9 => ?_)
  refine sr_aloadn (pc := 48) (n := 0) (by decide +kernel) rfl ?_
  refine sr_gC (pc := 49) (i2 := 0) fg_5_15 (by decide +kernel) (sr_in5 _ (by omega)) (fun _ => rfl) ?_
  refine sr_iconst (pc := 52) (n := 0) (v := 0) (by decide +kernel) rfl ?_
  refine sr_cS (pc := 53) (As := [sr_r 16 0, sr_i 0]) (mc1 := 0) (ms1 := 0) (mc2 := 0) (ms2 := 0) fm_5_80 fl_5_80 (by decide +kernel) (rm_5_reset_a_fill) rfl rfl rfl (Ca_fill_16 l 0 t9) ?_
  refine sr_kV (fun t10 => ?_)
  exact sr_ret (pc := 56) (by decide +kernel) rfl
def F3_withoutLast (i0 : Nat) (a0 : Int32) (a1 : Int32) (t : sr_t) : sr_Rs := (some (.inl (some (sr_i (a0 >>> (((t.1 3 i0 6) * a1) &&& 31)))), t))
theorem C3_withoutLast (l : Launch) (i0 : Nat) (a0 : Int32) (a1 : Int32) (hv_i0 : i0 < 2) (t : sr_t) : sr_ct' l sr_m3_withoutLast [sr_r 3 i0, sr_i a0, sr_i a1] t (F3_withoutLast i0 a0 a1 t) 0 0 := by
  refine sr_T_of (L0 := [some (sr_r 3 i0), some (sr_i a0), some (sr_i a1)]) rfl (by decide +kernel) (fun _ => rfl) (fun _ => Nat.le_of_ble_eq_true rfl) ?_
  unfold F3_withoutLast
  refine sr_iloadn (pc := 0) (n := 1) (by decide +kernel) rfl ?_
  refine sr_aloadn (pc := 1) (n := 0) (by decide +kernel) rfl ?_
  refine sr_gI (pc := 2) fg_3_45 (by decide +kernel) (sr_in3 _ (by omega)) (fun _ => rfl) ?_
  refine sr_iloadn (pc := 5) (n := 2) (by decide +kernel) rfl ?_
  refine sr_imul (pc := 6) (by decide +kernel) ?_
  refine sr_ishr (pc := 7) (by decide +kernel) ?_
  exact sr_iret (pc := 8) (by decide +kernel) rfl
def F3_withoutFirst (i0 : Nat) (a0 : Int32) (a1 : Int32) (t : sr_t) : sr_Rs := (some (.inl (some (sr_i (a0 &&& (4095 >>> (((t.1 3 i0 6) * a1) &&& 31))))), t))
theorem C3_withoutFirst (l : Launch) (i0 : Nat) (a0 : Int32) (a1 : Int32) (hv_i0 : i0 < 2) (t : sr_t) : sr_ct' l sr_m3_withoutFirst [sr_r 3 i0, sr_i a0, sr_i a1] t (F3_withoutFirst i0 a0 a1 t) 0 0 := by
  refine sr_T_of (L0 := [some (sr_r 3 i0), some (sr_i a0), some (sr_i a1)]) rfl (by decide +kernel) (fun _ => rfl) (fun _ => Nat.le_of_ble_eq_true rfl) ?_
  unfold F3_withoutFirst
  refine sr_iloadn (pc := 0) (n := 1) (by decide +kernel) rfl ?_
  refine sr_sipush (pc := 1) (n := 4095) (v := 4095) (by decide +kernel) (by decide) ?_
  refine sr_aloadn (pc := 4) (n := 0) (by decide +kernel) rfl ?_
  refine sr_gI (pc := 5) fg_3_45 (by decide +kernel) (sr_in3 _ (by omega)) (fun _ => rfl) ?_
  refine sr_iloadn (pc := 8) (n := 2) (by decide +kernel) rfl ?_
  refine sr_imul (pc := 9) (by decide +kernel) ?_
  refine sr_ishr (pc := 10) (by decide +kernel) ?_
  refine sr_iand (pc := 11) (by decide +kernel) ?_
  exact sr_iret (pc := 12) (by decide +kernel) rfl
def f8_startHere_54 (i0 : Nat) (k103 : Int32 → Int32 → sr_t → sr_Rs) (k133 : sr_t → sr_Rs) : Nat → Int32 → Int32 → sr_t → sr_Rs
  | 0 => fun _ _ _ => none
  | n + 1 => fun x1 x2 t => (if x1 ≤ x2 then k133 t else (sr_ck (t.1 8 i0 0).toNatClampNeg 2 (fun n1 => (sr_bI (F3_withoutLast n1 (t.1 8 i0 1) x2 t) (fun v2 t2 => (sr_ck (t2.1 8 i0 0).toNatClampNeg 2 (fun n3 => (sr_ck (t2.1 8 i0 3).toNatClampNeg 50 (fun n4 => (sr_bI (F3_withoutFirst n3 (v2 - (t2.1 2 n4 1)) x2 t2) (fun v5 t5 => (sr_ck (t5.1 8 i0 3).toNatClampNeg 50 (fun n6 => (if (t5.1 2 n6 6) ≤ v5 then (f8_startHere_54 i0 k103 k133 n) x1 (x2 + 1) t5 else k103 x2 v5 t5))))))))))))))
theorem g8_startHere_54 (l : Launch) (i0 : Nat) (hv_i0 : i0 < 3) (k103 : Int32 → Int32 → sr_t → sr_Rs) (k133 : sr_t → sr_Rs) (hk103 : ∀ (x2 : Int32) (x4 : Int32), ∀ (t : sr_t), sr_g l sr_m8_startHere 103 [some (sr_r 8 i0), none, some (sr_i x2), none, some (sr_i x4)] [] t (k103 x2 x4 t) 0 0) (hk133 : ∀ (t : sr_t), sr_g l sr_m8_startHere 133 [some (sr_r 8 i0), none, none, none, none] [] t (k133 t) 0 0) : ∀ (n : Nat) (x1 : Int32) (x2 : Int32), ∀ (t : sr_t), sr_g l sr_m8_startHere 54 [some (sr_r 8 i0), some (sr_i x1), some (sr_i x2), none, none] [] t (f8_startHere_54 i0 k103 k133 n x1 x2 t) 0 0 := by
  intro n
  induction n with
  | zero => intros; exact sr_Gn
  | succ n ih =>
    intro x1 x2  t
    unfold f8_startHere_54
    refine sr_iloadn (pc := 54) (n := 2) (by decide +kernel) rfl ?_
    refine sr_iloadn (pc := 55) (n := 1) (by decide +kernel) rfl ?_
    refine sr_icmp_ge (pc := 56) (off := 77) (tg := 133) (by decide +kernel) (by decide) (fun _ => ?_) (fun _ => ?_)
    · exact sr_wk (sr_mono (mc := 0) (ms := 0) (by omega) (by omega) (hk133 t)) ⟨rfl, trivial⟩
    · refine sr_aloadn (pc := 59) (n := 0) (by decide +kernel) rfl ?_
      refine sr_gR (pc := 60) (cnt := 2) fg_8_26 (by decide +kernel) (sr_in8 _ (by omega)) (fun _ => rfl) (fun n1 hv_n1 => ?_)
      refine sr_aloadn (pc := 63) (n := 0) (by decide +kernel) rfl ?_
      refine sr_gI (pc := 64) fg_8_57 (by decide +kernel) (sr_in8 _ (by omega)) (fun _ => rfl) ?_
      refine sr_iloadn (pc := 67) (n := 2) (by decide +kernel) rfl ?_
      refine sr_cV (pc := 68) (As := [sr_i (t.1 8 i0 1), sr_i x2]) (mc1 := 0) (ms1 := 0) (mc2 := 0) (ms2 := 0) fm_8_115 fl_8_115 (by decide +kernel) (sr_in3 _ (by omega)) (rm_8_startHere_3_withoutLast) rfl rfl rfl (C3_withoutLast l n1 (t.1 8 i0 1) x2 (by omega) t) ?_
      refine sr_kI (fun v2 t2 => ?_)
      refine sr_istoren (pc := 71) (n := 3) (by decide +kernel) (by decide) rfl rfl ?_
      refine sr_aloadn (pc := 72) (n := 0) (by decide +kernel) rfl ?_
      refine sr_gR (pc := 73) (cnt := 2) fg_8_26 (by decide +kernel) (sr_in8 _ (by omega)) (fun _ => rfl) (fun n3 hv_n3 => ?_)
      refine sr_iloadn (pc := 76) (n := 3) (by decide +kernel) rfl ?_
      refine sr_aloadn (pc := 77) (n := 0) (by decide +kernel) rfl ?_
      refine sr_gR (pc := 78) (cnt := 50) fg_8_36 (by decide +kernel) (sr_in8 _ (by omega)) (fun _ => rfl) (fun n4 hv_n4 => ?_)
      refine sr_gI (pc := 81) fg_8_106 (by decide +kernel) (sr_in2 _ (by omega)) (fun _ => rfl) ?_
      refine sr_isub (pc := 84) (by decide +kernel) ?_
      refine sr_iloadn (pc := 85) (n := 2) (by decide +kernel) rfl ?_
      refine sr_cV (pc := 86) (As := [sr_i (v2 - (t2.1 2 n4 1)), sr_i x2]) (mc1 := 0) (ms1 := 0) (mc2 := 0) (ms2 := 0) fm_8_119 fl_8_119 (by decide +kernel) (sr_in3 _ (by omega)) (rm_8_startHere_3_withoutFirst) rfl rfl rfl (C3_withoutFirst l n3 (v2 - (t2.1 2 n4 1)) x2 (by omega) t2) ?_
      refine sr_kI (fun v5 t5 => ?_)
      refine sr_istore (pc := 89) (i := 4) (by decide +kernel) (by decide) rfl rfl ?_
      refine sr_iload (pc := 91) (i := 4) (by decide +kernel) rfl ?_
      refine sr_aloadn (pc := 93) (n := 0) (by decide +kernel) rfl ?_
      refine sr_gR (pc := 94) (cnt := 50) fg_8_36 (by decide +kernel) (sr_in8 _ (by omega)) (fun _ => rfl) (fun n6 hv_n6 => ?_)
      refine sr_gI (pc := 97) fg_8_122 (by decide +kernel) (sr_in2 _ (by omega)) (fun _ => rfl) ?_
      refine sr_icmp_ge (pc := 100) (off := 27) (tg := 127) (by decide +kernel) (by decide) (fun _ => ?_) (fun _ => ?_)
      · refine sr_iinc (pc := 127) (i := 2) (n := 1) (w := x2 + 1) (by decide +kernel) rfl rfl (by decide) rfl rfl ?_
        refine sr_goto (pc := 130) (off := (-76)) (tg := 54) (by decide +kernel) (by decide) ?_
        exact sr_wk (sr_mono (mc := 0) (ms := 0) (by omega) (by omega) (ih x1 (x2 + 1) t5)) ⟨rfl, ⟨rfl, ⟨rfl, trivial⟩⟩⟩
      · exact sr_wk (sr_mono (mc := 0) (ms := 0) (by omega) (by omega) (hk103 x2 v5 t5)) ⟨rfl, ⟨rfl, ⟨rfl, trivial⟩⟩⟩
def f8_startHere_103 (i0 : Nat)  : Int32 → Int32 → sr_t → sr_Rs := fun x2 x4 t => (sr_ck (t.1 8 i0 3).toNatClampNeg 50 (fun n1 => (sr_lt (sr_u t 8 i0 4 (((t.1 2 n1 1) + x4) &&& 4095)) (fun t2 => (sr_lt (sr_u t2 8 i0 5 x2) (fun t3 => (some (.inl none, t3))))))))
theorem g8_startHere_103 (l : Launch) (i0 : Nat) (hv_i0 : i0 < 3)   : ∀ (x2 : Int32) (x4 : Int32), ∀ (t : sr_t), sr_g l sr_m8_startHere 103 [some (sr_r 8 i0), none, some (sr_i x2), none, some (sr_i x4)] [] t (f8_startHere_103 i0  x2 x4 t) 0 0 := by
  intro x2 x4  t
  unfold f8_startHere_103
  refine sr_aloadn (pc := 103) (n := 0) (by decide +kernel) rfl ?_
  refine sr_aloadn (pc := 104) (n := 0) (by decide +kernel) rfl ?_
  refine sr_gR (pc := 105) (cnt := 50) fg_8_36 (by decide +kernel) (sr_in8 _ (by omega)) (fun _ => rfl) (fun n1 hv_n1 => ?_)
  refine sr_gI (pc := 108) fg_8_106 (by decide +kernel) (sr_in2 _ (by omega)) (fun _ => rfl) ?_
  refine sr_iload (pc := 111) (i := 4) (by decide +kernel) rfl ?_
  refine sr_iadd (pc := 113) (by decide +kernel) ?_
  refine sr_sipush (pc := 114) (n := 4095) (v := 4095) (by decide +kernel) (by decide) ?_
  refine sr_iand (pc := 117) (by decide +kernel) ?_
  refine sr_pI (pc := 118) fg_8_109 ft_8_4 (by decide +kernel) (sr_in8 _ (by omega)) (fun _ => rfl) (fun t2 => ?_)
  refine sr_aloadn (pc := 121) (n := 0) (by decide +kernel) rfl ?_
  refine sr_iloadn (pc := 122) (n := 2) (by decide +kernel) rfl ?_
  refine sr_pI (pc := 123) fg_8_100 ft_8_5 (by decide +kernel) (sr_in8 _ (by omega)) (fun _ => rfl) (fun t3 => ?_)
  exact sr_ret (pc := 126) (by decide +kernel) rfl
def f8_startHere_133 (i0 : Nat)  : sr_t → sr_Rs := fun  t => (some (.inl none, t))
theorem g8_startHere_133 (l : Launch) (i0 : Nat) (hv_i0 : i0 < 3)   : ∀ (t : sr_t), sr_g l sr_m8_startHere 133 [some (sr_r 8 i0), none, none, none, none] [] t (f8_startHere_133 i0   t) 0 0 := by
  intro t
  unfold f8_startHere_133
  exact sr_ret (pc := 133) (by decide +kernel) rfl
def f8_startHere_51 (i0 : Nat)  : Int32 → sr_t → sr_Rs := fun xs0 t => f8_startHere_54 i0 (f8_startHere_103 i0) (f8_startHere_133 i0) sr_fu xs0 0 t
theorem g8_startHere_51 (l : Launch) (i0 : Nat) (hv_i0 : i0 < 3)   : ∀ (xs0 : Int32), ∀ (t : sr_t), sr_g l sr_m8_startHere 51 [some (sr_r 8 i0), none, none, none, none] [sr_i xs0] t (f8_startHere_51 i0  xs0 t) 0 0 := by
  intro xs0  t
  unfold f8_startHere_51
  refine sr_istoren (pc := 51) (n := 1) (by decide +kernel) (by decide) rfl rfl ?_
  refine sr_iconst (pc := 52) (n := 0) (v := 0) (by decide +kernel) rfl ?_
  refine sr_istoren (pc := 53) (n := 2) (by decide +kernel) (by decide) rfl rfl ?_
  exact sr_wk (sr_mono (mc := 0) (ms := 0) (by omega) (by omega) (g8_startHere_54 l i0 hv_i0 (f8_startHere_103 i0) (f8_startHere_133 i0) (g8_startHere_103 l i0 hv_i0) (g8_startHere_133 l i0 hv_i0) sr_fu xs0 0 t)) ⟨rfl, ⟨rfl, ⟨rfl, trivial⟩⟩⟩
def f8_startHere_50 (i0 : Nat)  : sr_t → sr_Rs := fun  t => f8_startHere_51 i0 0 t
theorem g8_startHere_50 (l : Launch) (i0 : Nat) (hv_i0 : i0 < 3)   : ∀ (t : sr_t), sr_g l sr_m8_startHere 50 [some (sr_r 8 i0), none, none, none, none] [] t (f8_startHere_50 i0   t) 0 0 := by
  intro t
  unfold f8_startHere_50
  refine sr_iconst (pc := 50) (n := 0) (v := 0) (by decide +kernel) rfl ?_
  exact sr_wk (sr_mono (mc := 0) (ms := 0) (by omega) (by omega) (g8_startHere_51 l i0 hv_i0 0 t)) ⟨rfl, trivial⟩
def F8_startHere (i0 : Nat) (t : sr_t) : sr_Rs := (sr_ck (t.1 8 i0 3).toNatClampNeg 50 (fun n1 => (sr_lt (sr_u t 8 i0 4 (t.1 2 n1 1)) (fun t2 => (sr_ck (t2.1 8 i0 0).toNatClampNeg 2 (fun n3 => (sr_lt (sr_u t2 8 i0 5 (t2.1 3 n3 7)) (fun t4 => (if (t4.1 8 i0 2) = 0 then f8_startHere_50 i0 t4 else (sr_ck (t4.1 8 i0 3).toNatClampNeg 50 (fun n5 => (if (t4.1 2 n5 5) = ((-1)) then f8_startHere_50 i0 t4 else (sr_ck (t4.1 8 i0 0).toNatClampNeg 2 (fun n6 => f8_startHere_51 i0 (t4.1 3 n6 7) t4))))))))))))))
theorem C8_startHere (l : Launch) (i0 : Nat) (hv_i0 : i0 < 3) (t : sr_t) : sr_ct' l sr_m8_startHere [sr_r 8 i0] t (F8_startHere i0 t) 0 0 := by
  refine sr_T_of (L0 := [some (sr_r 8 i0), none, none, none, none]) rfl (by decide +kernel) (fun _ => rfl) (fun _ => Nat.le_of_ble_eq_true rfl) ?_
  unfold F8_startHere
  refine sr_aloadn (pc := 0) (n := 0) (by decide +kernel) rfl ?_
  refine sr_aloadn (pc := 1) (n := 0) (by decide +kernel) rfl ?_
  refine sr_gR (pc := 2) (cnt := 50) fg_8_36 (by decide +kernel) (sr_in8 _ (by omega)) (fun _ => rfl) (fun n1 hv_n1 => ?_)
  refine sr_gI (pc := 5) fg_8_106 (by decide +kernel) (sr_in2 _ (by omega)) (fun _ => rfl) ?_
  refine sr_pI (pc := 8) fg_8_109 ft_8_4 (by decide +kernel) (sr_in8 _ (by omega)) (fun _ => rfl) (fun t2 => ?_)
  refine sr_aloadn (pc := 11) (n := 0) (by decide +kernel) rfl ?_
  refine sr_aloadn (pc := 12) (n := 0) (by decide +kernel) rfl ?_
  refine sr_gR (pc := 13) (cnt := 2) fg_8_26 (by decide +kernel) (sr_in8 _ (by omega)) (fun _ => rfl) (fun n3 hv_n3 => ?_)
  refine sr_gI (pc := 16) fg_8_97 (by decide +kernel) (sr_in3 _ (by omega)) (fun _ => rfl) ?_
  refine sr_pI (pc := 19) fg_8_100 ft_8_5 (by decide +kernel) (sr_in8 _ (by omega)) (fun _ => rfl) (fun t4 => ?_)
  refine sr_aloadn (pc := 22) (n := 0) (by decide +kernel) rfl ?_
  refine sr_gI (pc := 23) fg_8_70 (by decide +kernel) (sr_in8 _ (by omega)) (fun _ => rfl) ?_
  refine sr_if_eq (pc := 26) (off := 24) (tg := 50) (by decide +kernel) (by decide) (fun _ => ?_) (fun _ => ?_)
  · exact sr_wk (sr_mono (mc := 0) (ms := 0) (by omega) (by omega) (g8_startHere_50 l i0 hv_i0 t4)) ⟨rfl, trivial⟩
  · refine sr_aloadn (pc := 29) (n := 0) (by decide +kernel) rfl ?_
    refine sr_gR (pc := 30) (cnt := 50) fg_8_36 (by decide +kernel) (sr_in8 _ (by omega)) (fun _ => rfl) (fun n5 hv_n5 => ?_)
    refine sr_gI (pc := 33) fg_8_112 (by decide +kernel) (sr_in2 _ (by omega)) (fun _ => rfl) ?_
    refine sr_iconst (pc := 36) (n := (-1)) (v := (-1)) (by decide +kernel) rfl ?_
    refine sr_icmp_eq (pc := 37) (off := 13) (tg := 50) (by decide +kernel) (by decide) (fun _ => ?_) (fun _ => ?_)
    · exact sr_wk (sr_mono (mc := 0) (ms := 0) (by omega) (by omega) (g8_startHere_50 l i0 hv_i0 t4)) ⟨rfl, trivial⟩
    · refine sr_aloadn (pc := 40) (n := 0) (by decide +kernel) rfl ?_
      refine sr_gR (pc := 41) (cnt := 2) fg_8_26 (by decide +kernel) (sr_in8 _ (by omega)) (fun _ => rfl) (fun n6 hv_n6 => ?_)
      refine sr_gI (pc := 44) fg_8_97 (by decide +kernel) (sr_in3 _ (by omega)) (fun _ => rfl) ?_
      refine sr_goto (pc := 47) (off := 4) (tg := 51) (by decide +kernel) (by decide) ?_
      exact sr_wk (sr_mono (mc := 0) (ms := 0) (by omega) (by omega) (g8_startHere_51 l i0 hv_i0 (t4.1 3 n6 7) t4)) ⟨rfl, trivial⟩
def F8_setOut (i0 : Nat) (i1 : Nat) (i2 : Nat) (a2 : Int32) (a3 : Int32) (t : sr_t) : sr_Rs := (sr_lt (sr_u t 8 i0 0 (nI i1)) (fun t1 => (sr_lt (sr_u t1 8 i0 3 (nI i2)) (fun t2 => (sr_lt (sr_u t2 8 i0 1 a2) (fun t3 => (if a3 = 0 ∨ a3 = 1 then (sr_lt (sr_u t3 8 i0 2 a3) (fun t4 => (sr_lt (sr_u t4 8 i0 6 ((-4))) (fun t5 => (sr_lt (sr_u t5 8 i0 8 0) (fun t6 => (sr_lt (sr_u t6 8 i0 9 0) (fun t7 => (sr_lt (sr_u t7 8 i0 10 0) (fun t8 => (sr_lt (sr_u t8 8 i0 11 0) (fun t9 => (sr_lt (sr_u t9 8 i0 12 0) (fun t10 => (sr_lt (sr_u t10 8 i0 13 0) (fun t11 => (sr_bV (F4_empty (104 + i0) t11) (fun t12 => (sr_bV (F8_startHere i0 t12) (fun t13 => (sr_ck (t13.1 8 i0 0).toNatClampNeg 2 (fun n14 => (sr_lt (sr_u t13 8 i0 14 ((t13.1 3 n14 7) - (t13.1 8 i0 5))) (fun t15 => (some (.inl none, t15)))))))))))))))))))))))))) else none)))))))
theorem C8_setOut (l : Launch) (i0 : Nat) (i1 : Nat) (i2 : Nat) (a2 : Int32) (a3 : Int32) (hv_i0 : i0 < 3) (hv_i1 : i1 < 2) (hv_i2 : i2 < 50) (t : sr_t) : sr_ct' l sr_m8_setOut [sr_r 8 i0, sr_r 3 i1, sr_r 2 i2, sr_i a2, sr_i a3] t (F8_setOut i0 i1 i2 a2 a3 t) 0 0 := by
  refine sr_T_of (L0 := [some (sr_r 8 i0), some (sr_r 3 i1), some (sr_r 2 i2), some (sr_i a2), some (sr_i a3)]) rfl (by decide +kernel) (fun _ => rfl) (fun _ => Nat.le_of_ble_eq_true rfl) ?_
  unfold F8_setOut
  refine sr_aloadn (pc := 0) (n := 0) (by decide +kernel) rfl ?_
  refine sr_aloadn (pc := 1) (n := 1) (by decide +kernel) rfl ?_
  refine sr_pR (pc := 2) fg_8_26 ft_8_0 (by decide +kernel) (sr_in8 _ (by omega)) (fun _ => rfl) (by omega) (fun t1 => ?_)
  refine sr_aloadn (pc := 5) (n := 0) (by decide +kernel) rfl ?_
  refine sr_aloadn (pc := 6) (n := 2) (by decide +kernel) rfl ?_
  refine sr_pR (pc := 7) fg_8_36 ft_8_3 (by decide +kernel) (sr_in8 _ (by omega)) (fun _ => rfl) (by omega) (fun t2 => ?_)
  refine sr_aloadn (pc := 10) (n := 0) (by decide +kernel) rfl ?_
  refine sr_iloadn (pc := 11) (n := 3) (by decide +kernel) rfl ?_
  refine sr_pI (pc := 12) fg_8_57 ft_8_1 (by decide +kernel) (sr_in8 _ (by omega)) (fun _ => rfl) (fun t3 => ?_)
  refine sr_aloadn (pc := 15) (n := 0) (by decide +kernel) rfl ?_
  refine sr_iload (pc := 16) (i := 4) (by decide +kernel) rfl ?_
  refine sr_pZ (pc := 18) fg_8_70 ft_8_2 (by decide +kernel) (sr_in8 _ (by omega)) (fun _ => rfl) (fun t4 => ?_)
  refine sr_aloadn (pc := 21) (n := 0) (by decide +kernel) rfl ?_
  refine sr_bipush (pc := 22) (n := (-4)) (v := (-4)) (by decide +kernel) (by decide) ?_
  refine sr_pI (pc := 24) fg_8_9 ft_8_6 (by decide +kernel) (sr_in8 _ (by omega)) (fun _ => rfl) (fun t5 => ?_)
  refine sr_aloadn (pc := 27) (n := 0) (by decide +kernel) rfl ?_
  refine sr_iconst (pc := 28) (n := 0) (v := 0) (by decide +kernel) rfl ?_
  refine sr_pI (pc := 29) fg_8_73 ft_8_8 (by decide +kernel) (sr_in8 _ (by omega)) (fun _ => rfl) (fun t6 => ?_)
  refine sr_aloadn (pc := 32) (n := 0) (by decide +kernel) rfl ?_
  refine sr_iconst (pc := 33) (n := 0) (v := 0) (by decide +kernel) rfl ?_
  refine sr_pI (pc := 34) fg_8_76 ft_8_9 (by decide +kernel) (sr_in8 _ (by omega)) (fun _ => rfl) (fun t7 => ?_)
  refine sr_aloadn (pc := 37) (n := 0) (by decide +kernel) rfl ?_
  refine sr_iconst (pc := 38) (n := 0) (v := 0) (by decide +kernel) rfl ?_
  refine sr_pI (pc := 39) fg_8_79 ft_8_10 (by decide +kernel) (sr_in8 _ (by omega)) (fun _ => rfl) (fun t8 => ?_)
  refine sr_aloadn (pc := 42) (n := 0) (by decide +kernel) rfl ?_
  refine sr_iconst (pc := 43) (n := 0) (v := 0) (by decide +kernel) rfl ?_
  refine sr_pI (pc := 44) fg_8_82 ft_8_11 (by decide +kernel) (sr_in8 _ (by omega)) (fun _ => rfl) (fun t9 => ?_)
  refine sr_aloadn (pc := 47) (n := 0) (by decide +kernel) rfl ?_
  refine sr_iconst (pc := 48) (n := 0) (v := 0) (by decide +kernel) rfl ?_
  refine sr_pI (pc := 49) fg_8_85 ft_8_12 (by decide +kernel) (sr_in8 _ (by omega)) (fun _ => rfl) (fun t10 => ?_)
  refine sr_aloadn (pc := 52) (n := 0) (by decide +kernel) rfl ?_
  refine sr_iconst (pc := 53) (n := 0) (v := 0) (by decide +kernel) rfl ?_
  refine sr_pI (pc := 54) fg_8_88 ft_8_13 (by decide +kernel) (sr_in8 _ (by omega)) (fun _ => rfl) (fun t11 => ?_)
  refine sr_aloadn (pc := 57) (n := 0) (by decide +kernel) rfl ?_
  refine sr_gC (pc := 58) (i2 := 104 + i0) fg_8_22 (by decide +kernel) (sr_in8 _ (by omega)) (fun _ => rfl) ?_
  refine sr_cV (pc := 61) (As := []) (mc1 := 0) (ms1 := 0) (mc2 := 0) (ms2 := 0) fm_8_91 fl_8_91 (by decide +kernel) (sr_in4 _ (by omega)) (rm_8_setOut_4_empty) rfl rfl rfl (C4_empty l (104 + i0) (by omega) t11) ?_
  refine sr_kV (fun t12 => ?_)
  refine sr_aloadn (pc := 64) (n := 0) (by decide +kernel) rfl ?_
  refine sr_cV (pc := 65) (As := []) (mc1 := 0) (ms1 := 0) (mc2 := 0) (ms2 := 0) fm_8_94 fl_8_94 (by decide +kernel) (sr_in8 _ (by omega)) (rm_8_setOut_8_startHere) rfl rfl rfl (C8_startHere l i0 (by omega) t12) ?_
  refine sr_kV (fun t13 => ?_)
  refine sr_aloadn (pc := 68) (n := 0) (by decide +kernel) rfl ?_
  refine sr_aloadn (pc := 69) (n := 0) (by decide +kernel) rfl ?_
  refine sr_gR (pc := 70) (cnt := 2) fg_8_26 (by decide +kernel) (sr_in8 _ (by omega)) (fun _ => rfl) (fun n14 hv_n14 => ?_)
  refine sr_gI (pc := 73) fg_8_97 (by decide +kernel) (sr_in3 _ (by omega)) (fun _ => rfl) ?_
  refine sr_aloadn (pc := 76) (n := 0) (by decide +kernel) rfl ?_
  refine sr_gI (pc := 77) fg_8_100 (by decide +kernel) (sr_in8 _ (by omega)) (fun _ => rfl) ?_
  refine sr_isub (pc := 80) (by decide +kernel) ?_
  refine sr_pI (pc := 81) fg_8_103 ft_8_14 (by decide +kernel) (sr_in8 _ (by omega)) (fun _ => rfl) (fun t15 => ?_)
  exact sr_ret (pc := 84) (by decide +kernel) rfl
def f8_endHere_77 (i0 : Nat)  : Int32 → sr_t → sr_Rs := fun xs0 t => (some (.inl (some (sr_i xs0)), t))
theorem g8_endHere_77 (l : Launch) (i0 : Nat) (hv_i0 : i0 < 3)   : ∀ (xs0 : Int32), ∀ (t : sr_t), sr_g l sr_m8_endHere 77 [some (sr_r 8 i0), none] [sr_i xs0] t (f8_endHere_77 i0  xs0 t) 0 0 := by
  intro xs0  t
  unfold f8_endHere_77
  exact sr_iret (pc := 77) (by decide +kernel) rfl
def F8_endHere (i0 : Nat) (t : sr_t) : sr_Rs := (sr_ck (t.1 8 i0 3).toNatClampNeg 50 (fun n1 => (if (t.1 2 n1 5) = ((-1)) then (some (.inl (some (sr_i ((-2)))), t)) else (sr_ck (t.1 8 i0 3).toNatClampNeg 50 (fun n2 => (sr_bI (sr_nt (F10_onward (t.1 2 n2 1) (t.1 8 i0 1) t)) (fun v3 t3 => (if v3 = 0 then (sr_ck (t3.1 8 i0 3).toNatClampNeg 50 (fun n6 => (some (.inl (some (sr_i (t3.1 2 n6 0))), t3)))) else (sr_ck (t3.1 8 i0 3).toNatClampNeg 50 (fun n4 => (if (t3.1 2 n4 6) < v3 then (if 200 ≤ (t3.1 8 i0 8) then f8_endHere_77 i0 ((-3)) t3 else f8_endHere_77 i0 ((-4)) t3) else (sr_ck (t3.1 8 i0 3).toNatClampNeg 50 (fun n5 => (some (.inl (some (sr_i (t3.1 2 n5 5))), t3)))))))))))))))
theorem C8_endHere (l : Launch) (i0 : Nat) (hv_i0 : i0 < 3) (t : sr_t) : sr_ct' l sr_m8_endHere [sr_r 8 i0] t (F8_endHere i0 t) 0 0 := by
  refine sr_T_of (L0 := [some (sr_r 8 i0), none]) rfl (by decide +kernel) (fun _ => rfl) (fun _ => Nat.le_of_ble_eq_true rfl) ?_
  unfold F8_endHere
  refine sr_aloadn (pc := 0) (n := 0) (by decide +kernel) rfl ?_
  refine sr_gR (pc := 1) (cnt := 50) fg_8_36 (by decide +kernel) (sr_in8 _ (by omega)) (fun _ => rfl) (fun n1 hv_n1 => ?_)
  refine sr_gI (pc := 4) fg_8_112 (by decide +kernel) (sr_in2 _ (by omega)) (fun _ => rfl) ?_
  refine sr_iconst (pc := 7) (n := (-1)) (v := (-1)) (by decide +kernel) rfl ?_
  refine sr_icmp_ne (pc := 8) (off := 6) (tg := 14) (by decide +kernel) (by decide) (fun _ => ?_) (fun _ => ?_)
  · refine sr_aloadn (pc := 14) (n := 0) (by decide +kernel) rfl ?_
    refine sr_gR (pc := 15) (cnt := 50) fg_8_36 (by decide +kernel) (sr_in8 _ (by omega)) (fun _ => rfl) (fun n2 hv_n2 => ?_)
    refine sr_gI (pc := 18) fg_8_106 (by decide +kernel) (sr_in2 _ (by omega)) (fun _ => rfl) ?_
    refine sr_aloadn (pc := 21) (n := 0) (by decide +kernel) rfl ?_
    refine sr_gI (pc := 22) fg_8_57 (by decide +kernel) (sr_in8 _ (by omega)) (fun _ => rfl) ?_
    refine sr_cSN (pc := 25) (As := [sr_i (t.1 2 n2 1), sr_i (t.1 8 i0 1)]) (mc1 := 0) (ms1 := 0) (mc2 := 0) (ms2 := 0) fm_8_125 fl_8_125 (by decide +kernel) (rm_8_endHere_10_onward) rfl rfl rfl (C10_onward l (t.1 2 n2 1) (t.1 8 i0 1) t) ?_
    refine sr_kI (fun v3 t3 => ?_)
    refine sr_istoren (pc := 28) (n := 1) (by decide +kernel) (by decide) rfl rfl ?_
    refine sr_iloadn (pc := 29) (n := 1) (by decide +kernel) rfl ?_
    refine sr_if_ne (pc := 30) (off := 11) (tg := 41) (by decide +kernel) (by decide) (fun _ => ?_) (fun _ => ?_)
    · refine sr_iloadn (pc := 41) (n := 1) (by decide +kernel) rfl ?_
      refine sr_aloadn (pc := 42) (n := 0) (by decide +kernel) rfl ?_
      refine sr_gR (pc := 43) (cnt := 50) fg_8_36 (by decide +kernel) (sr_in8 _ (by omega)) (fun _ => rfl) (fun n4 hv_n4 => ?_)
      refine sr_gI (pc := 46) fg_8_122 (by decide +kernel) (sr_in2 _ (by omega)) (fun _ => rfl) ?_
      refine sr_icmp_gt (pc := 49) (off := 11) (tg := 60) (by decide +kernel) (by decide) (fun _ => ?_) (fun _ => ?_)
      · refine sr_aloadn (pc := 60) (n := 0) (by decide +kernel) rfl ?_
        refine sr_gI (pc := 61) fg_8_73 (by decide +kernel) (sr_in8 _ (by omega)) (fun _ => rfl) ?_
        refine sr_sipush (pc := 64) (n := 200) (v := 200) (by decide +kernel) (by decide) ?_
        refine sr_icmp_ge (pc := 67) (off := 8) (tg := 75) (by decide +kernel) (by decide) (fun _ => ?_) (fun _ => ?_)
        · refine sr_bipush (pc := 75) (n := (-3)) (v := (-3)) (by decide +kernel) (by decide) ?_
          exact sr_wk (sr_mono (mc := 0) (ms := 0) (by omega) (by omega) (g8_endHere_77 l i0 hv_i0 ((-3)) t3)) ⟨rfl, trivial⟩
        · refine sr_bipush (pc := 70) (n := (-4)) (v := (-4)) (by decide +kernel) (by decide) ?_
          refine sr_goto (pc := 72) (off := 5) (tg := 77) (by decide +kernel) (by decide) ?_
          exact sr_wk (sr_mono (mc := 0) (ms := 0) (by omega) (by omega) (g8_endHere_77 l i0 hv_i0 ((-4)) t3)) ⟨rfl, trivial⟩
      · refine sr_aloadn (pc := 52) (n := 0) (by decide +kernel) rfl ?_
        refine sr_gR (pc := 53) (cnt := 50) fg_8_36 (by decide +kernel) (sr_in8 _ (by omega)) (fun _ => rfl) (fun n5 hv_n5 => ?_)
        refine sr_gI (pc := 56) fg_8_112 (by decide +kernel) (sr_in2 _ (by omega)) (fun _ => rfl) ?_
        exact sr_iret (pc := 59) (by decide +kernel) rfl
    · refine sr_aloadn (pc := 33) (n := 0) (by decide +kernel) rfl ?_
      refine sr_gR (pc := 34) (cnt := 50) fg_8_36 (by decide +kernel) (sr_in8 _ (by omega)) (fun _ => rfl) (fun n6 hv_n6 => ?_)
      refine sr_gI (pc := 37) fg_8_128 (by decide +kernel) (sr_in2 _ (by omega)) (fun _ => rfl) ?_
      exact sr_iret (pc := 40) (by decide +kernel) rfl
  · refine sr_bipush (pc := 11) (n := (-2)) (v := (-2)) (by decide +kernel) (by decide) ?_
    exact sr_iret (pc := 13) (by decide +kernel) rfl
def f2_isInArc_20 (i0 : Nat) (a0 : Int32)  : Int32 → sr_t → sr_Rs := fun xs0 t => (if xs0 = 0 ∨ xs0 = 1 then some (.inl (some (sr_i xs0)), t) else none)
theorem g2_isInArc_20 (l : Launch) (i0 : Nat) (a0 : Int32) (hv_i0 : i0 < 50)   : ∀ (xs0 : Int32), ∀ (t : sr_t), sr_g l sr_m2_isInArc 20 [some (sr_r 2 i0), some (sr_i a0)] [sr_i xs0] t (f2_isInArc_20 i0 a0  xs0 t) 0 0 := by
  intro xs0  t
  unfold f2_isInArc_20
  exact sr_zr (pc := 20) (by decide +kernel) rfl
def F2_isInArc (i0 : Nat) (a0 : Int32) (t : sr_t) : sr_Rs := (sr_bI (sr_nt (F10_onward (t.1 2 i0 1) a0 t)) (fun v1 t1 => (if (t1.1 2 i0 6) ≤ v1 then f2_isInArc_20 i0 a0 0 t1 else f2_isInArc_20 i0 a0 1 t1)))
theorem C2_isInArc (l : Launch) (i0 : Nat) (a0 : Int32) (hv_i0 : i0 < 50) (t : sr_t) : sr_ct' l sr_m2_isInArc [sr_r 2 i0, sr_i a0] t (F2_isInArc i0 a0 t) 0 0 := by
  refine sr_T_of (L0 := [some (sr_r 2 i0), some (sr_i a0)]) rfl (by decide +kernel) (fun _ => rfl) (fun _ => Nat.le_of_ble_eq_true rfl) ?_
  unfold F2_isInArc
  refine sr_aloadn (pc := 0) (n := 0) (by decide +kernel) rfl ?_
  refine sr_gI (pc := 1) fg_2_25 (by decide +kernel) (sr_in2 _ (by omega)) (fun _ => rfl) ?_
  refine sr_iloadn (pc := 4) (n := 1) (by decide +kernel) rfl ?_
  refine sr_cSN (pc := 5) (As := [sr_i (t.1 2 i0 1), sr_i a0]) (mc1 := 0) (ms1 := 0) (mc2 := 0) (ms2 := 0) fm_2_56 fl_2_56 (by decide +kernel) (rm_2_isInArc_10_onward) rfl rfl rfl (C10_onward l (t.1 2 i0 1) a0 t) ?_
  refine sr_kI (fun v1 t1 => ?_)
  refine sr_aloadn (pc := 8) (n := 0) (by decide +kernel) rfl ?_
  refine sr_gI (pc := 9) fg_2_60 (by decide +kernel) (sr_in2 _ (by omega)) (fun _ => rfl) ?_
  refine sr_icmp_ge (pc := 12) (off := 7) (tg := 19) (by decide +kernel) (by decide) (fun _ => ?_) (fun _ => ?_)
  · refine sr_iconst (pc := 19) (n := 0) (v := 0) (by decide +kernel) rfl ?_
    exact sr_wk (sr_mono (mc := 0) (ms := 0) (by omega) (by omega) (g2_isInArc_20 l i0 a0 hv_i0 0 t1)) ⟨rfl, ⟨rfl, trivial⟩⟩
  · refine sr_iconst (pc := 15) (n := 1) (v := 1) (by decide +kernel) rfl ?_
    refine sr_goto (pc := 16) (off := 4) (tg := 20) (by decide +kernel) (by decide) ?_
    exact sr_wk (sr_mono (mc := 0) (ms := 0) (by omega) (by omega) (g2_isInArc_20 l i0 a0 hv_i0 1 t1)) ⟨rfl, ⟨rfl, trivial⟩⟩
def f8_remember_78 (i0 : Nat) (a0 : Int32)  : sr_t → sr_Rs := fun  t => (some (.inl none, t))
theorem g8_remember_78 (l : Launch) (i0 : Nat) (a0 : Int32) (hv_i0 : i0 < 3)   : ∀ (t : sr_t), sr_g l sr_m8_remember 78 [some (sr_r 8 i0), some (sr_i a0), none] [] t (f8_remember_78 i0 a0   t) 0 0 := by
  intro t
  unfold f8_remember_78
  exact sr_ret (pc := 78) (by decide +kernel) rfl
def F8_remember (i0 : Nat) (a0 : Int32) (t : sr_t) : sr_Rs := (if (4 * (t.1 8 i0 8)) < 0 then f8_remember_78 i0 a0 t else (if 800 ≤ ((4 * (t.1 8 i0 8)) + 3) then f8_remember_78 i0 a0 t else (sr_ck (t.1 8 i0 3).toNatClampNeg 50 (fun n1 => (if 4 * (t.1 8 i0 8) < 0 ∨ 800 ≤ (4 * (t.1 8 i0 8)).toNatClampNeg then none else sr_lt (sr_u t 14 i0 (4 * (t.1 8 i0 8)).toNatClampNeg (t.1 2 n1 0)) (fun t2 => (if (4 * (t.1 8 i0 8)) + 1 < 0 ∨ 800 ≤ ((4 * (t.1 8 i0 8)) + 1).toNatClampNeg then none else sr_lt (sr_u t2 14 i0 ((4 * (t.1 8 i0 8)) + 1).toNatClampNeg (t2.1 8 i0 4)) (fun t3 => (if (4 * (t.1 8 i0 8)) + 2 < 0 ∨ 800 ≤ ((4 * (t.1 8 i0 8)) + 2).toNatClampNeg then none else sr_lt (sr_u t3 14 i0 ((4 * (t.1 8 i0 8)) + 2).toNatClampNeg (t3.1 8 i0 5)) (fun t4 => (if (4 * (t.1 8 i0 8)) + 3 < 0 ∨ 800 ≤ ((4 * (t.1 8 i0 8)) + 3).toNatClampNeg then none else sr_lt (sr_u t4 14 i0 ((4 * (t.1 8 i0 8)) + 3).toNatClampNeg a0) (fun t5 => (sr_lt (sr_u t5 8 i0 8 ((t5.1 8 i0 8) + 1)) (fun t6 => f8_remember_78 i0 a0 t6))))))))))))))
theorem C8_remember (l : Launch) (i0 : Nat) (a0 : Int32) (hv_i0 : i0 < 3) (t : sr_t) : sr_ct' l sr_m8_remember [sr_r 8 i0, sr_i a0] t (F8_remember i0 a0 t) 0 0 := by
  refine sr_T_of (L0 := [some (sr_r 8 i0), some (sr_i a0), none]) rfl (by decide +kernel) (fun _ => rfl) (fun _ => Nat.le_of_ble_eq_true rfl) ?_
  unfold F8_remember
  refine sr_iconst (pc := 0) (n := 4) (v := 4) (by decide +kernel) rfl ?_
  refine sr_aloadn (pc := 1) (n := 0) (by decide +kernel) rfl ?_
  refine sr_gI (pc := 2) fg_8_73 (by decide +kernel) (sr_in8 _ (by omega)) (fun _ => rfl) ?_
  refine sr_imul (pc := 5) (by decide +kernel) ?_
  refine sr_istoren (pc := 6) (n := 2) (by decide +kernel) (by decide) rfl rfl ?_
  refine sr_iloadn (pc := 7) (n := 2) (by decide +kernel) rfl ?_
  refine sr_if_lt (pc := 8) (off := 70) (tg := 78) (by decide +kernel) (by decide) (fun _ => ?_) (fun _ => ?_)
  · exact sr_wk (sr_mono (mc := 0) (ms := 0) (by omega) (by omega) (g8_remember_78 l i0 a0 hv_i0 t)) ⟨rfl, ⟨rfl, trivial⟩⟩
  · refine sr_iloadn (pc := 11) (n := 2) (by decide +kernel) rfl ?_
    refine sr_iconst (pc := 12) (n := 3) (v := 3) (by decide +kernel) rfl ?_
    refine sr_iadd (pc := 13) (by decide +kernel) ?_
    refine sr_aloadn (pc := 14) (n := 0) (by decide +kernel) rfl ?_
    refine sr_gC (pc := 15) (i2 := i0) fg_8_15 (by decide +kernel) (sr_in8 _ (by omega)) (fun _ => rfl) ?_
    refine sr_al' (pc := 18) (ty := 0) (n := 800) (v := 800) rfl (by decide) (by decide +kernel) (sr_in14 _ (by omega)) (by decide) ?_
    refine sr_icmp_ge (pc := 19) (off := 59) (tg := 78) (by decide +kernel) (by decide) (fun _ => ?_) (fun _ => ?_)
    · exact sr_wk (sr_mono (mc := 0) (ms := 0) (by omega) (by omega) (g8_remember_78 l i0 a0 hv_i0 t)) ⟨rfl, ⟨rfl, trivial⟩⟩
    · refine sr_aloadn (pc := 22) (n := 0) (by decide +kernel) rfl ?_
      refine sr_gC (pc := 23) (i2 := i0) fg_8_15 (by decide +kernel) (sr_in8 _ (by omega)) (fun _ => rfl) ?_
      refine sr_iloadn (pc := 26) (n := 2) (by decide +kernel) rfl ?_
      refine sr_aloadn (pc := 27) (n := 0) (by decide +kernel) rfl ?_
      refine sr_gR (pc := 28) (cnt := 50) fg_8_36 (by decide +kernel) (sr_in8 _ (by omega)) (fun _ => rfl) (fun n1 hv_n1 => ?_)
      refine sr_gI (pc := 31) fg_8_128 (by decide +kernel) (sr_in2 _ (by omega)) (fun _ => rfl) ?_
      refine sr_sI (pc := 34) (n := 800) rfl (by decide +kernel) (sr_in14 _ (by omega)) (fun _ _ => rfl) (fun t2 => ?_)
      refine sr_aloadn (pc := 35) (n := 0) (by decide +kernel) rfl ?_
      refine sr_gC (pc := 36) (i2 := i0) fg_8_15 (by decide +kernel) (sr_in8 _ (by omega)) (fun _ => rfl) ?_
      refine sr_iloadn (pc := 39) (n := 2) (by decide +kernel) rfl ?_
      refine sr_iconst (pc := 40) (n := 1) (v := 1) (by decide +kernel) rfl ?_
      refine sr_iadd (pc := 41) (by decide +kernel) ?_
      refine sr_aloadn (pc := 42) (n := 0) (by decide +kernel) rfl ?_
      refine sr_gI (pc := 43) fg_8_109 (by decide +kernel) (sr_in8 _ (by omega)) (fun _ => rfl) ?_
      refine sr_sI (pc := 46) (n := 800) rfl (by decide +kernel) (sr_in14 _ (by omega)) (fun _ _ => rfl) (fun t3 => ?_)
      refine sr_aloadn (pc := 47) (n := 0) (by decide +kernel) rfl ?_
      refine sr_gC (pc := 48) (i2 := i0) fg_8_15 (by decide +kernel) (sr_in8 _ (by omega)) (fun _ => rfl) ?_
      refine sr_iloadn (pc := 51) (n := 2) (by decide +kernel) rfl ?_
      refine sr_iconst (pc := 52) (n := 2) (v := 2) (by decide +kernel) rfl ?_
      refine sr_iadd (pc := 53) (by decide +kernel) ?_
      refine sr_aloadn (pc := 54) (n := 0) (by decide +kernel) rfl ?_
      refine sr_gI (pc := 55) fg_8_100 (by decide +kernel) (sr_in8 _ (by omega)) (fun _ => rfl) ?_
      refine sr_sI (pc := 58) (n := 800) rfl (by decide +kernel) (sr_in14 _ (by omega)) (fun _ _ => rfl) (fun t4 => ?_)
      refine sr_aloadn (pc := 59) (n := 0) (by decide +kernel) rfl ?_
      refine sr_gC (pc := 60) (i2 := i0) fg_8_15 (by decide +kernel) (sr_in8 _ (by omega)) (fun _ => rfl) ?_
      refine sr_iloadn (pc := 63) (n := 2) (by decide +kernel) rfl ?_
      refine sr_iconst (pc := 64) (n := 3) (v := 3) (by decide +kernel) rfl ?_
      refine sr_iadd (pc := 65) (by decide +kernel) ?_
      refine sr_iloadn (pc := 66) (n := 1) (by decide +kernel) rfl ?_
      refine sr_sI (pc := 67) (n := 800) rfl (by decide +kernel) (sr_in14 _ (by omega)) (fun _ _ => rfl) (fun t5 => ?_)
      refine sr_aloadn (pc := 68) (n := 0) (by decide +kernel) rfl ?_
      refine sr_dup (pc := 69) (by decide +kernel) rfl ?_
      refine sr_gI (pc := 70) fg_8_73 (by decide +kernel) (sr_in8 _ (by omega)) (fun _ => rfl) ?_
      refine sr_iconst (pc := 73) (n := 1) (v := 1) (by decide +kernel) rfl ?_
      refine sr_iadd (pc := 74) (by decide +kernel) ?_
      refine sr_pI (pc := 75) fg_8_73 ft_8_8 (by decide +kernel) (sr_in8 _ (by omega)) (fun _ => rfl) (fun t6 => ?_)
      exact sr_wk (sr_mono (mc := 0) (ms := 0) (by omega) (by omega) (g8_remember_78 l i0 a0 hv_i0 t6)) ⟨rfl, ⟨rfl, trivial⟩⟩
def f8_pass_49 (i0 : Nat) (a0 : Int32) (i2 : Nat)  : sr_t → sr_Rs := fun  t => (sr_lt (sr_u t 8 i0 3 (nI i2)) (fun t1 => (some (.inl none, t1))))
theorem g8_pass_49 (l : Launch) (i0 : Nat) (a0 : Int32) (i2 : Nat) (hv_i0 : i0 < 3) (hv_i2 : i2 < 50)   : ∀ (t : sr_t), sr_g l sr_m8_pass 49 [some (sr_r 8 i0), some (sr_i a0), some (sr_r 2 i2)] [] t (f8_pass_49 i0 a0 i2   t) 0 0 := by
  intro t
  unfold f8_pass_49
  refine sr_aloadn (pc := 49) (n := 0) (by decide +kernel) rfl ?_
  refine sr_aloadn (pc := 50) (n := 2) (by decide +kernel) rfl ?_
  refine sr_pR (pc := 51) fg_8_36 ft_8_3 (by decide +kernel) (sr_in8 _ (by omega)) (fun _ => rfl) (by omega) (fun t1 => ?_)
  exact sr_ret (pc := 54) (by decide +kernel) rfl
def F8_pass (i0 : Nat) (a0 : Int32) (i2 : Nat) (t : sr_t) : sr_Rs := (sr_bV (F8_remember i0 a0 t) (fun t1 => (sr_ck (t1.1 8 i0 3).toNatClampNeg 50 (fun n2 => (if i2 = n2 then f8_pass_49 i0 a0 i2 t1 else (sr_lt (sr_u t1 8 i0 9 ((t1.1 8 i0 9) + 1)) (fun t3 => (sr_ck (t3.1 8 i0 3).toNatClampNeg 50 (fun n4 => (sr_lt (sr_u t3 8 i0 13 ((t3.1 8 i0 13) + (1 + (if 0 ≤ ((t3.1 2 n4 3) - (t3.1 2 i2 3)) then ((t3.1 2 n4 3) - (t3.1 2 i2 3)) else 0 - ((t3.1 2 n4 3) - (t3.1 2 i2 3)))))) (fun t5 => f8_pass_49 i0 a0 i2 t5)))))))))))
theorem C8_pass (l : Launch) (i0 : Nat) (a0 : Int32) (i2 : Nat) (hv_i0 : i0 < 3) (hv_i2 : i2 < 50) (t : sr_t) : sr_ct' l sr_m8_pass [sr_r 8 i0, sr_i a0, sr_r 2 i2] t (F8_pass i0 a0 i2 t) 0 0 := by
  refine sr_T_of (L0 := [some (sr_r 8 i0), some (sr_i a0), some (sr_r 2 i2)]) rfl (by decide +kernel) (fun _ => rfl) (fun _ => Nat.le_of_ble_eq_true rfl) ?_
  unfold F8_pass
  refine sr_aloadn (pc := 0) (n := 0) (by decide +kernel) rfl ?_
  refine sr_iloadn (pc := 1) (n := 1) (by decide +kernel) rfl ?_
  refine sr_cV (pc := 2) (As := [sr_i a0]) (mc1 := 0) (ms1 := 0) (mc2 := 0) (ms2 := 0) fm_8_164 fl_8_164 (by decide +kernel) (sr_in8 _ (by omega)) (rm_8_pass_8_remember) rfl rfl rfl (C8_remember l i0 a0 (by omega) t) ?_
  refine sr_kV (fun t1 => ?_)
  refine sr_aloadn (pc := 5) (n := 2) (by decide +kernel) rfl ?_
  refine sr_aloadn (pc := 6) (n := 0) (by decide +kernel) rfl ?_
  refine sr_gR (pc := 7) (cnt := 50) fg_8_36 (by decide +kernel) (sr_in8 _ (by omega)) (fun _ => rfl) (fun n2 hv_n2 => ?_)
  refine sr_acmp_eq (pc := 10) (off := 39) (tg := 49) (by decide +kernel) (by decide) (sr_in2 _ (by omega)) (sr_in2 _ (by omega)) (fun _ => ?_) (fun _ => ?_)
  · exact sr_wk (sr_mono (mc := 0) (ms := 0) (by omega) (by omega) (g8_pass_49 l i0 a0 i2 hv_i0 hv_i2 t1)) ⟨rfl, ⟨rfl, ⟨rfl, trivial⟩⟩⟩
  · refine sr_aloadn (pc := 13) (n := 0) (by decide +kernel) rfl ?_
    refine sr_dup (pc := 14) (by decide +kernel) rfl ?_
    refine sr_gI (pc := 15) fg_8_76 (by decide +kernel) (sr_in8 _ (by omega)) (fun _ => rfl) ?_
    refine sr_iconst (pc := 18) (n := 1) (v := 1) (by decide +kernel) rfl ?_
    refine sr_iadd (pc := 19) (by decide +kernel) ?_
    refine sr_pI (pc := 20) fg_8_76 ft_8_9 (by decide +kernel) (sr_in8 _ (by omega)) (fun _ => rfl) (fun t3 => ?_)
    refine sr_aloadn (pc := 23) (n := 0) (by decide +kernel) rfl ?_
    refine sr_dup (pc := 24) (by decide +kernel) rfl ?_
    refine sr_gI (pc := 25) fg_8_88 (by decide +kernel) (sr_in8 _ (by omega)) (fun _ => rfl) ?_
    refine sr_iconst (pc := 28) (n := 1) (v := 1) (by decide +kernel) rfl ?_
    refine sr_aloadn (pc := 29) (n := 0) (by decide +kernel) rfl ?_
    refine sr_gR (pc := 30) (cnt := 50) fg_8_36 (by decide +kernel) (sr_in8 _ (by omega)) (fun _ => rfl) (fun n4 hv_n4 => ?_)
    refine sr_gI (pc := 33) fg_8_168 (by decide +kernel) (sr_in2 _ (by omega)) (fun _ => rfl) ?_
    refine sr_aloadn (pc := 36) (n := 2) (by decide +kernel) rfl ?_
    refine sr_gI (pc := 37) fg_8_168 (by decide +kernel) (sr_in2 _ (by omega)) (fun _ => rfl) ?_
    refine sr_isub (pc := 40) (by decide +kernel) ?_
    refine sr_mmabs (pc := 41) (idx := 171) (sr_tb (n := 641) (by decide +kernel) rfl) (by decide +kernel) (by decide) (by decide) rfl mw_abs1 mw_0 mw_abs2 ?_
    refine sr_iadd (pc := 44) (by decide +kernel) ?_
    refine sr_iadd (pc := 45) (by decide +kernel) ?_
    refine sr_pI (pc := 46) fg_8_88 ft_8_13 (by decide +kernel) (sr_in8 _ (by omega)) (fun _ => rfl) (fun t5 => ?_)
    exact sr_wk (sr_mono (mc := 0) (ms := 0) (by omega) (by omega) (g8_pass_49 l i0 a0 i2 hv_i0 hv_i2 t5)) ⟨rfl, ⟨rfl, ⟨rfl, trivial⟩⟩⟩
def F3_letterOf (i0 : Nat) (a0 : Int32) (a1 : Int32) (t : sr_t) : sr_Rs := (some (.inl (some (sr_i ((a0 >>> (((t.1 3 i0 6) * (((t.1 3 i0 7) - 1) - a1)) &&& 31)) &&& ((t.1 3 i0 5) - 1)))), t))
theorem C3_letterOf (l : Launch) (i0 : Nat) (a0 : Int32) (a1 : Int32) (hv_i0 : i0 < 2) (t : sr_t) : sr_ct' l sr_m3_letterOf [sr_r 3 i0, sr_i a0, sr_i a1] t (F3_letterOf i0 a0 a1 t) 0 0 := by
  refine sr_T_of (L0 := [some (sr_r 3 i0), some (sr_i a0), some (sr_i a1)]) rfl (by decide +kernel) (fun _ => rfl) (fun _ => Nat.le_of_ble_eq_true rfl) ?_
  unfold F3_letterOf
  refine sr_iloadn (pc := 0) (n := 1) (by decide +kernel) rfl ?_
  refine sr_aloadn (pc := 1) (n := 0) (by decide +kernel) rfl ?_
  refine sr_gI (pc := 2) fg_3_45 (by decide +kernel) (sr_in3 _ (by omega)) (fun _ => rfl) ?_
  refine sr_aloadn (pc := 5) (n := 0) (by decide +kernel) rfl ?_
  refine sr_gI (pc := 6) fg_3_48 (by decide +kernel) (sr_in3 _ (by omega)) (fun _ => rfl) ?_
  refine sr_iconst (pc := 9) (n := 1) (v := 1) (by decide +kernel) rfl ?_
  refine sr_isub (pc := 10) (by decide +kernel) ?_
  refine sr_iloadn (pc := 11) (n := 2) (by decide +kernel) rfl ?_
  refine sr_isub (pc := 12) (by decide +kernel) ?_
  refine sr_imul (pc := 13) (by decide +kernel) ?_
  refine sr_ishr (pc := 14) (by decide +kernel) ?_
  refine sr_aloadn (pc := 15) (n := 0) (by decide +kernel) rfl ?_
  refine sr_gI (pc := 16) fg_3_38 (by decide +kernel) (sr_in3 _ (by omega)) (fun _ => rfl) ?_
  refine sr_iconst (pc := 19) (n := 1) (v := 1) (by decide +kernel) rfl ?_
  refine sr_isub (pc := 20) (by decide +kernel) ?_
  refine sr_iand (pc := 21) (by decide +kernel) ?_
  exact sr_iret (pc := 22) (by decide +kernel) rfl
def F3_shiftIn (i0 : Nat) (a0 : Int32) (a1 : Int32) (t : sr_t) : sr_Rs := (some (.inl (some (sr_i (((a0 * (t.1 3 i0 5)) + a1) &&& 4095))), t))
theorem C3_shiftIn (l : Launch) (i0 : Nat) (a0 : Int32) (a1 : Int32) (hv_i0 : i0 < 2) (t : sr_t) : sr_ct' l sr_m3_shiftIn [sr_r 3 i0, sr_i a0, sr_i a1] t (F3_shiftIn i0 a0 a1 t) 0 0 := by
  refine sr_T_of (L0 := [some (sr_r 3 i0), some (sr_i a0), some (sr_i a1)]) rfl (by decide +kernel) (fun _ => rfl) (fun _ => Nat.le_of_ble_eq_true rfl) ?_
  unfold F3_shiftIn
  refine sr_iloadn (pc := 0) (n := 1) (by decide +kernel) rfl ?_
  refine sr_aloadn (pc := 1) (n := 0) (by decide +kernel) rfl ?_
  refine sr_gI (pc := 2) fg_3_38 (by decide +kernel) (sr_in3 _ (by omega)) (fun _ => rfl) ?_
  refine sr_imul (pc := 5) (by decide +kernel) ?_
  refine sr_iloadn (pc := 6) (n := 2) (by decide +kernel) rfl ?_
  refine sr_iadd (pc := 7) (by decide +kernel) ?_
  refine sr_sipush (pc := 8) (n := 4095) (v := 4095) (by decide +kernel) (by decide) ?_
  refine sr_iand (pc := 11) (by decide +kernel) ?_
  exact sr_iret (pc := 12) (by decide +kernel) rfl
def F8_shiftedOnce (i0 : Nat) (t : sr_t) : sr_Rs := (sr_ck (t.1 8 i0 0).toNatClampNeg 2 (fun n1 => (sr_ck (t.1 8 i0 0).toNatClampNeg 2 (fun n2 => (sr_ck (t.1 8 i0 0).toNatClampNeg 2 (fun n3 => (sr_bI (F3_letterOf n2 (t.1 8 i0 1) ((t.1 3 n3 7) - (t.1 8 i0 5)) t) (fun v4 t4 => (sr_bI (F3_shiftIn n1 (t.1 8 i0 4) v4 t4) (fun v5 t5 => (some (.inl (some (sr_i v5)), t5))))))))))))
theorem C8_shiftedOnce (l : Launch) (i0 : Nat) (hv_i0 : i0 < 3) (t : sr_t) : sr_ct' l sr_m8_shiftedOnce [sr_r 8 i0] t (F8_shiftedOnce i0 t) 0 0 := by
  refine sr_T_of (L0 := [some (sr_r 8 i0)]) rfl (by decide +kernel) (fun _ => rfl) (fun _ => Nat.le_of_ble_eq_true rfl) ?_
  unfold F8_shiftedOnce
  refine sr_aloadn (pc := 0) (n := 0) (by decide +kernel) rfl ?_
  refine sr_gR (pc := 1) (cnt := 2) fg_8_26 (by decide +kernel) (sr_in8 _ (by omega)) (fun _ => rfl) (fun n1 hv_n1 => ?_)
  refine sr_aloadn (pc := 4) (n := 0) (by decide +kernel) rfl ?_
  refine sr_gI (pc := 5) fg_8_109 (by decide +kernel) (sr_in8 _ (by omega)) (fun _ => rfl) ?_
  refine sr_aloadn (pc := 8) (n := 0) (by decide +kernel) rfl ?_
  refine sr_gR (pc := 9) (cnt := 2) fg_8_26 (by decide +kernel) (sr_in8 _ (by omega)) (fun _ => rfl) (fun n2 hv_n2 => ?_)
  refine sr_aloadn (pc := 12) (n := 0) (by decide +kernel) rfl ?_
  refine sr_gI (pc := 13) fg_8_57 (by decide +kernel) (sr_in8 _ (by omega)) (fun _ => rfl) ?_
  refine sr_aloadn (pc := 16) (n := 0) (by decide +kernel) rfl ?_
  refine sr_gR (pc := 17) (cnt := 2) fg_8_26 (by decide +kernel) (sr_in8 _ (by omega)) (fun _ => rfl) (fun n3 hv_n3 => ?_)
  refine sr_gI (pc := 20) fg_8_97 (by decide +kernel) (sr_in3 _ (by omega)) (fun _ => rfl) ?_
  refine sr_aloadn (pc := 23) (n := 0) (by decide +kernel) rfl ?_
  refine sr_gI (pc := 24) fg_8_100 (by decide +kernel) (sr_in8 _ (by omega)) (fun _ => rfl) ?_
  refine sr_isub (pc := 27) (by decide +kernel) ?_
  refine sr_cV (pc := 28) (As := [sr_i (t.1 8 i0 1), sr_i ((t.1 3 n3 7) - (t.1 8 i0 5))]) (mc1 := 0) (ms1 := 0) (mc2 := 0) (ms2 := 0) fm_8_158 fl_8_158 (by decide +kernel) (sr_in3 _ (by omega)) (rm_8_shiftedOnce_3_letterOf) rfl rfl rfl (C3_letterOf l n2 (t.1 8 i0 1) ((t.1 3 n3 7) - (t.1 8 i0 5)) (by omega) t) ?_
  refine sr_kI (fun v4 t4 => ?_)
  refine sr_cV (pc := 31) (As := [sr_i (t.1 8 i0 4), sr_i v4]) (mc1 := 0) (ms1 := 0) (mc2 := 0) (ms2 := 0) fm_8_161 fl_8_161 (by decide +kernel) (sr_in3 _ (by omega)) (rm_8_shiftedOnce_3_shiftIn) rfl rfl rfl (C3_shiftIn l n1 (t.1 8 i0 4) v4 (by omega) t4) ?_
  refine sr_kI (fun v5 t5 => ?_)
  exact sr_iret (pc := 34) (by decide +kernel) rfl
def f3_pointerFor_81 (i0 : Nat) (i1 : Nat) (a1 : Int32) (k38 : Nat → Int32 → Int32 → Int32 → sr_t → sr_Rs) (k78 : Nat → sr_t → sr_Rs) (k87 : sr_t → sr_Rs) : Nat → Int32 → Int32 → Int32 → sr_t → sr_Rs := fun j3 x4 x5 x6 t => k38 j3 x4 x5 (x6 + (-1)) t
theorem g3_pointerFor_81 (l : Launch) (i0 : Nat) (i1 : Nat) (a1 : Int32) (hv_i0 : i0 < 2) (hv_i1 : i1 < 50) (k38 : Nat → Int32 → Int32 → Int32 → sr_t → sr_Rs) (k78 : Nat → sr_t → sr_Rs) (k87 : sr_t → sr_Rs) (hk38 : ∀ (j3 : Nat) (x4 : Int32) (x5 : Int32) (x6 : Int32), j3 < 107 → ∀ (t : sr_t), sr_g l sr_m3_pointerFor 38 [some (sr_r 3 i0), some (sr_r 2 i1), some (sr_i a1), some (sr_r 4 j3), some (sr_i x4), some (sr_i x5), some (sr_i x6), none] [] t (k38 j3 x4 x5 x6 t) 0 0) (hk78 : ∀ (j7 : Nat), j7 < 50 → ∀ (t : sr_t), sr_g l sr_m3_pointerFor 78 [some (sr_r 3 i0), some (sr_r 2 i1), some (sr_i a1), none, none, none, none, some (sr_r 2 j7)] [] t (k78 j7 t) 0 0) (hk87 : ∀ (t : sr_t), sr_g l sr_m3_pointerFor 87 [some (sr_r 3 i0), some (sr_r 2 i1), some (sr_i a1), none, none, none, none, none] [] t (k87 t) 0 0) : ∀ (j3 : Nat) (x4 : Int32) (x5 : Int32) (x6 : Int32), j3 < 107 → ∀ (t : sr_t), sr_g l sr_m3_pointerFor 81 [some (sr_r 3 i0), some (sr_r 2 i1), some (sr_i a1), some (sr_r 4 j3), some (sr_i x4), some (sr_i x5), some (sr_i x6), none] [] t (f3_pointerFor_81 i0 i1 a1 k38 k78 k87 j3 x4 x5 x6 t) 0 0 := by
  intro j3 x4 x5 x6 hv_j3 t
  unfold f3_pointerFor_81
  refine sr_iinc (pc := 81) (i := 6) (n := (-1)) (w := x6 + (-1)) (by decide +kernel) rfl rfl (by decide) rfl rfl ?_
  refine sr_goto (pc := 84) (off := (-46)) (tg := 38) (by decide +kernel) (by decide) ?_
  exact sr_wk (sr_mono (mc := 0) (ms := 0) (by omega) (by omega) (hk38 j3 x4 x5 (x6 + (-1)) (by omega) t)) ⟨rfl, ⟨rfl, ⟨rfl, ⟨rfl, ⟨rfl, ⟨rfl, ⟨rfl, trivial⟩⟩⟩⟩⟩⟩⟩
def f3_pointerFor_38 (i0 : Nat) (i1 : Nat) (a1 : Int32) (k78 : Nat → sr_t → sr_Rs) (k87 : sr_t → sr_Rs) : Nat → Nat → Int32 → Int32 → Int32 → sr_t → sr_Rs
  | 0 => fun _ _ _ _ _ => none
  | n + 1 => fun j3 x4 x5 x6 t => (if x6 < 0 then k87 t else (sr_bI (F4_at j3 x6 t) (fun v1 t1 => (sr_bR 2 50 (F3_of i0 v1 t1) (fun n2 t2 => (if (t2.1 2 n2 2) = 0 then f3_pointerFor_81 i0 i1 a1 (f3_pointerFor_38 i0 i1 a1 k78 k87 n) k78 k87 j3 x4 x5 x6 t2 else (sr_bI (sr_nt (F10_onward x4 (t2.1 2 n2 1) t2)) (fun v3 t3 => (if x5 < v3 then f3_pointerFor_81 i0 i1 a1 (f3_pointerFor_38 i0 i1 a1 k78 k87 n) k78 k87 j3 x4 x5 x6 t3 else k78 n2 t3)))))))))
theorem g3_pointerFor_38 (l : Launch) (i0 : Nat) (i1 : Nat) (a1 : Int32) (hv_i0 : i0 < 2) (hv_i1 : i1 < 50) (k78 : Nat → sr_t → sr_Rs) (k87 : sr_t → sr_Rs) (hk78 : ∀ (j7 : Nat), j7 < 50 → ∀ (t : sr_t), sr_g l sr_m3_pointerFor 78 [some (sr_r 3 i0), some (sr_r 2 i1), some (sr_i a1), none, none, none, none, some (sr_r 2 j7)] [] t (k78 j7 t) 0 0) (hk87 : ∀ (t : sr_t), sr_g l sr_m3_pointerFor 87 [some (sr_r 3 i0), some (sr_r 2 i1), some (sr_i a1), none, none, none, none, none] [] t (k87 t) 0 0) : ∀ (n : Nat) (j3 : Nat) (x4 : Int32) (x5 : Int32) (x6 : Int32), j3 < 107 → ∀ (t : sr_t), sr_g l sr_m3_pointerFor 38 [some (sr_r 3 i0), some (sr_r 2 i1), some (sr_i a1), some (sr_r 4 j3), some (sr_i x4), some (sr_i x5), some (sr_i x6), none] [] t (f3_pointerFor_38 i0 i1 a1 k78 k87 n j3 x4 x5 x6 t) 0 0 := by
  intro n
  induction n with
  | zero => intros; exact sr_Gn
  | succ n ih =>
    intro j3 x4 x5 x6 hv_j3 t
    unfold f3_pointerFor_38
    refine sr_iload (pc := 38) (i := 6) (by decide +kernel) rfl ?_
    refine sr_if_lt (pc := 40) (off := 47) (tg := 87) (by decide +kernel) (by decide) (fun _ => ?_) (fun _ => ?_)
    · exact sr_wk (sr_mono (mc := 0) (ms := 0) (by omega) (by omega) (hk87 t)) ⟨rfl, ⟨rfl, ⟨rfl, trivial⟩⟩⟩
    · refine sr_aloadn (pc := 43) (n := 0) (by decide +kernel) rfl ?_
      refine sr_aloadn (pc := 44) (n := 3) (by decide +kernel) rfl ?_
      refine sr_iload (pc := 45) (i := 6) (by decide +kernel) rfl ?_
      refine sr_cV (pc := 47) (As := [sr_i x6]) (mc1 := 0) (ms1 := 0) (mc2 := 0) (ms2 := 0) fm_3_131 fl_3_131 (by decide +kernel) (sr_in4 _ (by omega)) (rm_3_pointerFor_4_at) rfl rfl rfl (C4_at l j3 x6 (by omega) t) ?_
      refine sr_kI (fun v1 t1 => ?_)
      refine sr_cV (pc := 50) (As := [sr_i v1]) (mc1 := 0) (ms1 := 0) (mc2 := 0) (ms2 := 0) fm_3_54 fl_3_54 (by decide +kernel) (sr_in3 _ (by omega)) (rm_3_pointerFor_3_of) rfl rfl rfl (C3_of l i0 v1 (by omega) t1) ?_
      refine sr_kR (fun n2 t2 hv_n2 => ?_)
      refine sr_astore (pc := 53) (i := 7) (by decide +kernel) (by decide) rfl rfl ?_
      refine sr_aload (pc := 55) (i := 7) (by decide +kernel) rfl ?_
      refine sr_gI (pc := 57) fg_3_68 (by decide +kernel) (sr_in2 _ (by omega)) (fun _ => rfl) ?_
      refine sr_if_eq (pc := 60) (off := 21) (tg := 81) (by decide +kernel) (by decide) (fun _ => ?_) (fun _ => ?_)
      · exact sr_wk (sr_mono (mc := 0) (ms := 0) (by omega) (by omega) (g3_pointerFor_81 l i0 i1 a1 hv_i0 hv_i1 (f3_pointerFor_38 i0 i1 a1 k78 k87 n) k78 k87 ih hk78 hk87 j3 x4 x5 x6 (by omega) t2)) ⟨rfl, ⟨rfl, ⟨rfl, ⟨rfl, ⟨rfl, ⟨rfl, ⟨rfl, trivial⟩⟩⟩⟩⟩⟩⟩
      · refine sr_iload (pc := 63) (i := 4) (by decide +kernel) rfl ?_
        refine sr_aload (pc := 65) (i := 7) (by decide +kernel) rfl ?_
        refine sr_gI (pc := 67) fg_3_58 (by decide +kernel) (sr_in2 _ (by omega)) (fun _ => rfl) ?_
        refine sr_cSN (pc := 70) (As := [sr_i x4, sr_i (t2.1 2 n2 1)]) (mc1 := 0) (ms1 := 0) (mc2 := 0) (ms2 := 0) fm_3_134 fl_3_134 (by decide +kernel) (rm_3_pointerFor_10_onward) rfl rfl rfl (C10_onward l x4 (t2.1 2 n2 1) t2) ?_
        refine sr_kI (fun v3 t3 => ?_)
        refine sr_iload (pc := 73) (i := 5) (by decide +kernel) rfl ?_
        refine sr_icmp_gt (pc := 75) (off := 6) (tg := 81) (by decide +kernel) (by decide) (fun _ => ?_) (fun _ => ?_)
        · exact sr_wk (sr_mono (mc := 0) (ms := 0) (by omega) (by omega) (g3_pointerFor_81 l i0 i1 a1 hv_i0 hv_i1 (f3_pointerFor_38 i0 i1 a1 k78 k87 n) k78 k87 ih hk78 hk87 j3 x4 x5 x6 (by omega) t3)) ⟨rfl, ⟨rfl, ⟨rfl, ⟨rfl, ⟨rfl, ⟨rfl, ⟨rfl, trivial⟩⟩⟩⟩⟩⟩⟩
        · exact sr_wk (sr_mono (mc := 0) (ms := 0) (by omega) (by omega) (hk78 n2 (by omega) t3)) ⟨rfl, ⟨rfl, ⟨rfl, ⟨rfl, trivial⟩⟩⟩⟩
def f3_pointerFor_78 (i0 : Nat) (i1 : Nat) (a1 : Int32)  : Nat → sr_t → sr_Rs := fun j7 t => (some (.inl (some (sr_r 2 j7)), t))
theorem g3_pointerFor_78 (l : Launch) (i0 : Nat) (i1 : Nat) (a1 : Int32) (hv_i0 : i0 < 2) (hv_i1 : i1 < 50)   : ∀ (j7 : Nat), j7 < 50 → ∀ (t : sr_t), sr_g l sr_m3_pointerFor 78 [some (sr_r 3 i0), some (sr_r 2 i1), some (sr_i a1), none, none, none, none, some (sr_r 2 j7)] [] t (f3_pointerFor_78 i0 i1 a1  j7 t) 0 0 := by
  intro j7 hv_j7 t
  unfold f3_pointerFor_78
  refine sr_aload (pc := 78) (i := 7) (by decide +kernel) rfl ?_
  exact sr_aret (pc := 80) (by decide +kernel) rfl
def f3_pointerFor_87 (i0 : Nat) (i1 : Nat) (a1 : Int32)  : sr_t → sr_Rs := fun  t => (some (.inl (some (sr_r 2 (25 * i0 + 24))), t))
theorem g3_pointerFor_87 (l : Launch) (i0 : Nat) (i1 : Nat) (a1 : Int32) (hv_i0 : i0 < 2) (hv_i1 : i1 < 50)   : ∀ (t : sr_t), sr_g l sr_m3_pointerFor 87 [some (sr_r 3 i0), some (sr_r 2 i1), some (sr_i a1), none, none, none, none, none] [] t (f3_pointerFor_87 i0 i1 a1   t) 0 0 := by
  intro t
  unfold f3_pointerFor_87
  refine sr_aloadn (pc := 87) (n := 0) (by decide +kernel) rfl ?_
  refine sr_gC (pc := 88) (i2 := 25 * i0 + 24) fg_3_20 (by decide +kernel) (sr_in3 _ (by omega)) (fun _ => rfl) ?_
  exact sr_aret (pc := 91) (by decide +kernel) rfl
def F3_pointerFor (i0 : Nat) (i1 : Nat) (a1 : Int32) (t : sr_t) : sr_Rs := (sr_bI (F4_at (2 * i1 + 1) 0 t) (fun v1 t1 => (sr_bR 2 50 (F3_of i0 v1 t1) (fun n2 t2 => (sr_bI (sr_nt (F10_onward (t2.1 2 n2 1) a1 t2)) (fun v3 t3 => f3_pointerFor_38 i0 i1 a1 (f3_pointerFor_78 i0 i1 a1) (f3_pointerFor_87 i0 i1 a1) sr_fu (2 * i1 + 1) (t2.1 2 n2 1) v3 ((t3.1 4 (2 * i1 + 1) 1) - 1) t3))))))
theorem C3_pointerFor (l : Launch) (i0 : Nat) (i1 : Nat) (a1 : Int32) (hv_i0 : i0 < 2) (hv_i1 : i1 < 50) (t : sr_t) : sr_ct' l sr_m3_pointerFor [sr_r 3 i0, sr_r 2 i1, sr_i a1] t (F3_pointerFor i0 i1 a1 t) 0 0 := by
  refine sr_T_of (L0 := [some (sr_r 3 i0), some (sr_r 2 i1), some (sr_i a1), none, none, none, none, none]) rfl (by decide +kernel) (fun _ => rfl) (fun _ => Nat.le_of_ble_eq_true rfl) ?_
  unfold F3_pointerFor
  refine sr_aloadn (pc := 0) (n := 1) (by decide +kernel) rfl ?_
  refine sr_gC (pc := 1) (i2 := i1) fg_3_78 (by decide +kernel) (sr_in2 _ (by omega)) (fun _ => rfl) ?_
  refine sr_gC (pc := 4) (i2 := 2 * i1 + 1) fg_3_101 (by decide +kernel) (sr_in7 _ (by omega)) (fun _ => rfl) ?_
  refine sr_astoren (pc := 7) (n := 3) (by decide +kernel) (by decide) rfl rfl ?_
  refine sr_aloadn (pc := 8) (n := 0) (by decide +kernel) rfl ?_
  refine sr_aloadn (pc := 9) (n := 3) (by decide +kernel) rfl ?_
  refine sr_iconst (pc := 10) (n := 0) (v := 0) (by decide +kernel) rfl ?_
  refine sr_cV (pc := 11) (As := [sr_i 0]) (mc1 := 0) (ms1 := 0) (mc2 := 0) (ms2 := 0) fm_3_131 fl_3_131 (by decide +kernel) (sr_in4 _ (by omega)) (rm_3_pointerFor_4_at) rfl rfl rfl (C4_at l (2 * i1 + 1) 0 (by omega) t) ?_
  refine sr_kI (fun v1 t1 => ?_)
  refine sr_cV (pc := 14) (As := [sr_i v1]) (mc1 := 0) (ms1 := 0) (mc2 := 0) (ms2 := 0) fm_3_54 fl_3_54 (by decide +kernel) (sr_in3 _ (by omega)) (rm_3_pointerFor_3_of) rfl rfl rfl (C3_of l i0 v1 (by omega) t1) ?_
  refine sr_kR (fun n2 t2 hv_n2 => ?_)
  refine sr_gI (pc := 17) fg_3_58 (by decide +kernel) (sr_in2 _ (by omega)) (fun _ => rfl) ?_
  refine sr_istore (pc := 20) (i := 4) (by decide +kernel) (by decide) rfl rfl ?_
  refine sr_iload (pc := 22) (i := 4) (by decide +kernel) rfl ?_
  refine sr_iloadn (pc := 24) (n := 2) (by decide +kernel) rfl ?_
  refine sr_cSN (pc := 25) (As := [sr_i (t2.1 2 n2 1), sr_i a1]) (mc1 := 0) (ms1 := 0) (mc2 := 0) (ms2 := 0) fm_3_134 fl_3_134 (by decide +kernel) (rm_3_pointerFor_10_onward) rfl rfl rfl (C10_onward l (t2.1 2 n2 1) a1 t2) ?_
  refine sr_kI (fun v3 t3 => ?_)
  refine sr_istore (pc := 28) (i := 5) (by decide +kernel) (by decide) rfl rfl ?_
  refine sr_aloadn (pc := 30) (n := 3) (by decide +kernel) rfl ?_
  refine sr_gI (pc := 31) fg_3_130 (by decide +kernel) (sr_in4 _ (by omega)) (fun _ => rfl) ?_
  refine sr_iconst (pc := 34) (n := 1) (v := 1) (by decide +kernel) rfl ?_
  refine sr_isub (pc := 35) (by decide +kernel) ?_
  refine sr_istore (pc := 36) (i := 6) (by decide +kernel) (by decide) rfl rfl ?_
  exact sr_wk (sr_mono (mc := 0) (ms := 0) (by omega) (by omega) (g3_pointerFor_38 l i0 i1 a1 hv_i0 hv_i1 (f3_pointerFor_78 i0 i1 a1) (f3_pointerFor_87 i0 i1 a1) (g3_pointerFor_78 l i0 i1 a1 hv_i0 hv_i1) (g3_pointerFor_87 l i0 i1 a1 hv_i0 hv_i1) sr_fu (2 * i1 + 1) (t2.1 2 n2 1) v3 ((t3.1 4 (2 * i1 + 1) 1) - 1) (by omega) t3)) ⟨rfl, ⟨rfl, ⟨rfl, ⟨rfl, ⟨rfl, ⟨rfl, ⟨rfl, trivial⟩⟩⟩⟩⟩⟩⟩
def f8_takeStep_51 (i0 : Nat)  : sr_t → sr_Rs := fun  t => (sr_lt (sr_u t 8 i0 11 ((t.1 8 i0 11) + 1)) (fun t1 => (sr_ck (t1.1 8 i0 0).toNatClampNeg 2 (fun n2 => (sr_ck (t1.1 8 i0 3).toNatClampNeg 50 (fun n3 => (sr_bR 2 50 (F3_of n2 (t1.1 2 n3 5) t1) (fun n4 t4 => (sr_bV (F8_pass i0 1 n4 t4) (fun t5 => (some (.inl none, t5))))))))))))
theorem g8_takeStep_51 (l : Launch) (i0 : Nat) (hv_i0 : i0 < 3)   : ∀ (t : sr_t), sr_g l sr_m8_takeStep 51 [some (sr_r 8 i0), none, none, none] [] t (f8_takeStep_51 i0   t) 0 0 := by
  intro t
  unfold f8_takeStep_51
  refine sr_aloadn (pc := 51) (n := 0) (by decide +kernel) rfl ?_
  refine sr_dup (pc := 52) (by decide +kernel) rfl ?_
  refine sr_gI (pc := 53) fg_8_82 (by decide +kernel) (sr_in8 _ (by omega)) (fun _ => rfl) ?_
  refine sr_iconst (pc := 56) (n := 1) (v := 1) (by decide +kernel) rfl ?_
  refine sr_iadd (pc := 57) (by decide +kernel) ?_
  refine sr_pI (pc := 58) fg_8_82 ft_8_11 (by decide +kernel) (sr_in8 _ (by omega)) (fun _ => rfl) (fun t1 => ?_)
  refine sr_aloadn (pc := 61) (n := 0) (by decide +kernel) rfl ?_
  refine sr_iconst (pc := 62) (n := 1) (v := 1) (by decide +kernel) rfl ?_
  refine sr_aloadn (pc := 63) (n := 0) (by decide +kernel) rfl ?_
  refine sr_gR (pc := 64) (cnt := 2) fg_8_26 (by decide +kernel) (sr_in8 _ (by omega)) (fun _ => rfl) (fun n2 hv_n2 => ?_)
  refine sr_aloadn (pc := 67) (n := 0) (by decide +kernel) rfl ?_
  refine sr_gR (pc := 68) (cnt := 50) fg_8_36 (by decide +kernel) (sr_in8 _ (by omega)) (fun _ => rfl) (fun n3 hv_n3 => ?_)
  refine sr_gI (pc := 71) fg_8_112 (by decide +kernel) (sr_in2 _ (by omega)) (fun _ => rfl) ?_
  refine sr_cV (pc := 74) (As := [sr_i (t1.1 2 n3 5)]) (mc1 := 0) (ms1 := 0) (mc2 := 0) (ms2 := 0) fm_8_53 fl_8_53 (by decide +kernel) (sr_in3 _ (by omega)) (rm_8_takeStep_3_of) rfl rfl rfl (C3_of l n2 (t1.1 2 n3 5) (by omega) t1) ?_
  refine sr_kR (fun n4 t4 hv_n4 => ?_)
  refine sr_cV (pc := 77) (As := [sr_i 1, sr_r 2 n4]) (mc1 := 0) (ms1 := 0) (mc2 := 0) (ms2 := 0) fm_8_144 fl_8_144 (by decide +kernel) (sr_in8 _ (by omega)) (rm_8_takeStep_8_pass) rfl rfl rfl (C8_pass l i0 1 n4 (by omega) (by omega) t4) ?_
  refine sr_kV (fun t5 => ?_)
  exact sr_ret (pc := 80) (by decide +kernel) rfl
def f8_takeStep_198 (i0 : Nat)  : sr_t → sr_Rs := fun  t => (some (.inl none, t))
theorem g8_takeStep_198 (l : Launch) (i0 : Nat) (hv_i0 : i0 < 3)   : ∀ (t : sr_t), sr_g l sr_m8_takeStep 198 [some (sr_r 8 i0), none, none, none] [] t (f8_takeStep_198 i0   t) 0 0 := by
  intro t
  unfold f8_takeStep_198
  exact sr_ret (pc := 198) (by decide +kernel) rfl
def f8_takeStep_123 (i0 : Nat)  : Int32 → Nat → sr_t → sr_Rs := fun x2 js0 t => (if (t.1 2 js0 2) = 0 then (sr_lt (sr_u t 8 i0 12 ((t.1 8 i0 12) + 1)) (fun t1 => (sr_ck (t1.1 8 i0 0).toNatClampNeg 2 (fun n2 => (sr_ck (t1.1 8 i0 3).toNatClampNeg 50 (fun n3 => (sr_bR 2 50 (F3_of n2 (t1.1 2 n3 5) t1) (fun n4 t4 => (sr_bV (F8_pass i0 2 n4 t4) (fun t5 => (sr_bV (F8_startHere i0 t5) (fun t6 => f8_takeStep_198 i0 t6)))))))))))) else (sr_lt (sr_u t 8 i0 10 ((t.1 8 i0 10) + 1)) (fun t7 => (sr_bV (F8_pass i0 0 js0 t7) (fun t8 => (sr_lt (sr_u t8 8 i0 4 x2) (fun t9 => (sr_lt (sr_u t9 8 i0 5 ((t9.1 8 i0 5) - 1)) (fun t10 => f8_takeStep_198 i0 t10)))))))))
theorem g8_takeStep_123 (l : Launch) (i0 : Nat) (hv_i0 : i0 < 3)   : ∀ (x2 : Int32) (js0 : Nat), js0 < 50 → ∀ (t : sr_t), sr_g l sr_m8_takeStep 123 [some (sr_r 8 i0), none, some (sr_i x2), none] [sr_r 2 js0] t (f8_takeStep_123 i0  x2 js0 t) 0 0 := by
  intro x2 js0 hv_js0 t
  unfold f8_takeStep_123
  refine sr_astoren (pc := 123) (n := 3) (by decide +kernel) (by decide) rfl rfl ?_
  refine sr_aloadn (pc := 124) (n := 3) (by decide +kernel) rfl ?_
  refine sr_gI (pc := 125) fg_8_155 (by decide +kernel) (sr_in2 _ (by omega)) (fun _ => rfl) ?_
  refine sr_if_eq (pc := 128) (off := 37) (tg := 165) (by decide +kernel) (by decide) (fun _ => ?_) (fun _ => ?_)
  · refine sr_aloadn (pc := 165) (n := 0) (by decide +kernel) rfl ?_
    refine sr_dup (pc := 166) (by decide +kernel) rfl ?_
    refine sr_gI (pc := 167) fg_8_85 (by decide +kernel) (sr_in8 _ (by omega)) (fun _ => rfl) ?_
    refine sr_iconst (pc := 170) (n := 1) (v := 1) (by decide +kernel) rfl ?_
    refine sr_iadd (pc := 171) (by decide +kernel) ?_
    refine sr_pI (pc := 172) fg_8_85 ft_8_12 (by decide +kernel) (sr_in8 _ (by omega)) (fun _ => rfl) (fun t1 => ?_)
    refine sr_aloadn (pc := 175) (n := 0) (by decide +kernel) rfl ?_
    refine sr_iconst (pc := 176) (n := 2) (v := 2) (by decide +kernel) rfl ?_
    refine sr_aloadn (pc := 177) (n := 0) (by decide +kernel) rfl ?_
    refine sr_gR (pc := 178) (cnt := 2) fg_8_26 (by decide +kernel) (sr_in8 _ (by omega)) (fun _ => rfl) (fun n2 hv_n2 => ?_)
    refine sr_aloadn (pc := 181) (n := 0) (by decide +kernel) rfl ?_
    refine sr_gR (pc := 182) (cnt := 50) fg_8_36 (by decide +kernel) (sr_in8 _ (by omega)) (fun _ => rfl) (fun n3 hv_n3 => ?_)
    refine sr_gI (pc := 185) fg_8_112 (by decide +kernel) (sr_in2 _ (by omega)) (fun _ => rfl) ?_
    refine sr_cV (pc := 188) (As := [sr_i (t1.1 2 n3 5)]) (mc1 := 0) (ms1 := 0) (mc2 := 0) (ms2 := 0) fm_8_53 fl_8_53 (by decide +kernel) (sr_in3 _ (by omega)) (rm_8_takeStep_3_of) rfl rfl rfl (C3_of l n2 (t1.1 2 n3 5) (by omega) t1) ?_
    refine sr_kR (fun n4 t4 hv_n4 => ?_)
    refine sr_cV (pc := 191) (As := [sr_i 2, sr_r 2 n4]) (mc1 := 0) (ms1 := 0) (mc2 := 0) (ms2 := 0) fm_8_144 fl_8_144 (by decide +kernel) (sr_in8 _ (by omega)) (rm_8_takeStep_8_pass) rfl rfl rfl (C8_pass l i0 2 n4 (by omega) (by omega) t4) ?_
    refine sr_kV (fun t5 => ?_)
    refine sr_aloadn (pc := 194) (n := 0) (by decide +kernel) rfl ?_
    refine sr_cV (pc := 195) (As := []) (mc1 := 0) (ms1 := 0) (mc2 := 0) (ms2 := 0) fm_8_94 fl_8_94 (by decide +kernel) (sr_in8 _ (by omega)) (rm_8_takeStep_8_startHere) rfl rfl rfl (C8_startHere l i0 (by omega) t5) ?_
    refine sr_kV (fun t6 => ?_)
    exact sr_wk (sr_mono (mc := 0) (ms := 0) (by omega) (by omega) (g8_takeStep_198 l i0 hv_i0 t6)) ⟨rfl, trivial⟩
  · refine sr_aloadn (pc := 131) (n := 0) (by decide +kernel) rfl ?_
    refine sr_dup (pc := 132) (by decide +kernel) rfl ?_
    refine sr_gI (pc := 133) fg_8_79 (by decide +kernel) (sr_in8 _ (by omega)) (fun _ => rfl) ?_
    refine sr_iconst (pc := 136) (n := 1) (v := 1) (by decide +kernel) rfl ?_
    refine sr_iadd (pc := 137) (by decide +kernel) ?_
    refine sr_pI (pc := 138) fg_8_79 ft_8_10 (by decide +kernel) (sr_in8 _ (by omega)) (fun _ => rfl) (fun t7 => ?_)
    refine sr_aloadn (pc := 141) (n := 0) (by decide +kernel) rfl ?_
    refine sr_iconst (pc := 142) (n := 0) (v := 0) (by decide +kernel) rfl ?_
    refine sr_aloadn (pc := 143) (n := 3) (by decide +kernel) rfl ?_
    refine sr_cV (pc := 144) (As := [sr_i 0, sr_r 2 js0]) (mc1 := 0) (ms1 := 0) (mc2 := 0) (ms2 := 0) fm_8_144 fl_8_144 (by decide +kernel) (sr_in8 _ (by omega)) (rm_8_takeStep_8_pass) rfl rfl rfl (C8_pass l i0 0 js0 (by omega) (by omega) t7) ?_
    refine sr_kV (fun t8 => ?_)
    refine sr_aloadn (pc := 147) (n := 0) (by decide +kernel) rfl ?_
    refine sr_iloadn (pc := 148) (n := 2) (by decide +kernel) rfl ?_
    refine sr_pI (pc := 149) fg_8_109 ft_8_4 (by decide +kernel) (sr_in8 _ (by omega)) (fun _ => rfl) (fun t9 => ?_)
    refine sr_aloadn (pc := 152) (n := 0) (by decide +kernel) rfl ?_
    refine sr_dup (pc := 153) (by decide +kernel) rfl ?_
    refine sr_gI (pc := 154) fg_8_100 (by decide +kernel) (sr_in8 _ (by omega)) (fun _ => rfl) ?_
    refine sr_iconst (pc := 157) (n := 1) (v := 1) (by decide +kernel) rfl ?_
    refine sr_isub (pc := 158) (by decide +kernel) ?_
    refine sr_pI (pc := 159) fg_8_100 ft_8_5 (by decide +kernel) (sr_in8 _ (by omega)) (fun _ => rfl) (fun t10 => ?_)
    refine sr_goto (pc := 162) (off := 36) (tg := 198) (by decide +kernel) (by decide) ?_
    exact sr_wk (sr_mono (mc := 0) (ms := 0) (by omega) (by omega) (g8_takeStep_198 l i0 hv_i0 t10)) ⟨rfl, trivial⟩
def f8_takeStep_96 (i0 : Nat)  : Int32 → Int32 → sr_t → sr_Rs := fun x1 xs0 t => (if x1 = 0 then (sr_ck (t.1 8 i0 0).toNatClampNeg 2 (fun n1 => (sr_ck (t.1 8 i0 3).toNatClampNeg 50 (fun n2 => (sr_bR 2 50 (F3_pointerFor n1 n2 xs0 t) (fun n3 t3 => f8_takeStep_123 i0 xs0 n3 t3)))))) else (sr_ck (t.1 8 i0 0).toNatClampNeg 2 (fun n4 => f8_takeStep_123 i0 xs0 (25 * n4 + 24) t)))
theorem g8_takeStep_96 (l : Launch) (i0 : Nat) (hv_i0 : i0 < 3)   : ∀ (x1 : Int32) (xs0 : Int32), ∀ (t : sr_t), sr_g l sr_m8_takeStep 96 [some (sr_r 8 i0), some (sr_i x1), none, none] [sr_i xs0] t (f8_takeStep_96 i0  x1 xs0 t) 0 0 := by
  intro x1 xs0  t
  unfold f8_takeStep_96
  refine sr_istoren (pc := 96) (n := 2) (by decide +kernel) (by decide) rfl rfl ?_
  refine sr_iloadn (pc := 97) (n := 1) (by decide +kernel) rfl ?_
  refine sr_if_eq (pc := 98) (off := 13) (tg := 111) (by decide +kernel) (by decide) (fun _ => ?_) (fun _ => ?_)
  · refine sr_aloadn (pc := 111) (n := 0) (by decide +kernel) rfl ?_
    refine sr_gR (pc := 112) (cnt := 2) fg_8_26 (by decide +kernel) (sr_in8 _ (by omega)) (fun _ => rfl) (fun n1 hv_n1 => ?_)
    refine sr_aloadn (pc := 115) (n := 0) (by decide +kernel) rfl ?_
    refine sr_gR (pc := 116) (cnt := 50) fg_8_36 (by decide +kernel) (sr_in8 _ (by omega)) (fun _ => rfl) (fun n2 hv_n2 => ?_)
    refine sr_iloadn (pc := 119) (n := 2) (by decide +kernel) rfl ?_
    refine sr_cV (pc := 120) (As := [sr_r 2 n2, sr_i xs0]) (mc1 := 0) (ms1 := 0) (mc2 := 0) (ms2 := 0) fm_8_151 fl_8_151 (by decide +kernel) (sr_in3 _ (by omega)) (rm_8_takeStep_3_pointerFor) rfl rfl rfl (C3_pointerFor l n1 n2 xs0 (by omega) (by omega) t) ?_
    refine sr_kR (fun n3 t3 hv_n3 => ?_)
    exact sr_wk (sr_mono (mc := 0) (ms := 0) (by omega) (by omega) (g8_takeStep_123 l i0 hv_i0 xs0 n3 (by omega) t3)) ⟨rfl, ⟨rfl, trivial⟩⟩
  · refine sr_aloadn (pc := 101) (n := 0) (by decide +kernel) rfl ?_
    refine sr_gR (pc := 102) (cnt := 2) fg_8_26 (by decide +kernel) (sr_in8 _ (by omega)) (fun _ => rfl) (fun n4 hv_n4 => ?_)
    refine sr_gC (pc := 105) (i2 := 25 * n4 + 24) fg_8_30 (by decide +kernel) (sr_in3 _ (by omega)) (fun _ => rfl) ?_
    refine sr_goto (pc := 108) (off := 15) (tg := 123) (by decide +kernel) (by decide) ?_
    exact sr_wk (sr_mono (mc := 0) (ms := 0) (by omega) (by omega) (g8_takeStep_123 l i0 hv_i0 xs0 (25 * n4 + 24) (by omega) t)) ⟨rfl, ⟨rfl, trivial⟩⟩
def f8_takeStep_81 (i0 : Nat)  : Int32 → sr_t → sr_Rs := fun x1 t => (if x1 = 0 then (sr_bI (F8_shiftedOnce i0 t) (fun v1 t1 => f8_takeStep_96 i0 x1 v1 t1)) else f8_takeStep_96 i0 x1 (t.1 8 i0 4) t)
theorem g8_takeStep_81 (l : Launch) (i0 : Nat) (hv_i0 : i0 < 3)   : ∀ (x1 : Int32), ∀ (t : sr_t), sr_g l sr_m8_takeStep 81 [some (sr_r 8 i0), some (sr_i x1), none, none] [] t (f8_takeStep_81 i0  x1 t) 0 0 := by
  intro x1  t
  unfold f8_takeStep_81
  refine sr_iloadn (pc := 81) (n := 1) (by decide +kernel) rfl ?_
  refine sr_if_eq (pc := 82) (off := 10) (tg := 92) (by decide +kernel) (by decide) (fun _ => ?_) (fun _ => ?_)
  · refine sr_aloadn (pc := 92) (n := 0) (by decide +kernel) rfl ?_
    refine sr_cV (pc := 93) (As := []) (mc1 := 0) (ms1 := 0) (mc2 := 0) (ms2 := 0) fm_8_148 fl_8_148 (by decide +kernel) (sr_in8 _ (by omega)) (rm_8_takeStep_8_shiftedOnce) rfl rfl rfl (C8_shiftedOnce l i0 (by omega) t) ?_
    refine sr_kI (fun v1 t1 => ?_)
    exact sr_wk (sr_mono (mc := 0) (ms := 0) (by omega) (by omega) (g8_takeStep_96 l i0 hv_i0 x1 v1 t1)) ⟨rfl, ⟨rfl, trivial⟩⟩
  · refine sr_aloadn (pc := 85) (n := 0) (by decide +kernel) rfl ?_
    refine sr_gI (pc := 86) fg_8_109 (by decide +kernel) (sr_in8 _ (by omega)) (fun _ => rfl) ?_
    refine sr_goto (pc := 89) (off := 7) (tg := 96) (by decide +kernel) (by decide) ?_
    exact sr_wk (sr_mono (mc := 0) (ms := 0) (by omega) (by omega) (g8_takeStep_96 l i0 hv_i0 x1 (t.1 8 i0 4) t)) ⟨rfl, ⟨rfl, trivial⟩⟩
def f8_takeStep_25 (i0 : Nat)  : Int32 → sr_t → sr_Rs := fun xs0 t => (if xs0 = 0 then (if (t.1 8 i0 5) = 0 then f8_takeStep_51 i0 t else (sr_ck (t.1 8 i0 3).toNatClampNeg 50 (fun n1 => (sr_bI (F2_isInArc n1 (t.1 8 i0 4) t) (fun v2 t2 => (if v2 = 0 then f8_takeStep_51 i0 t2 else f8_takeStep_81 i0 xs0 t2)))))) else f8_takeStep_81 i0 xs0 t)
theorem g8_takeStep_25 (l : Launch) (i0 : Nat) (hv_i0 : i0 < 3)   : ∀ (xs0 : Int32), ∀ (t : sr_t), sr_g l sr_m8_takeStep 25 [some (sr_r 8 i0), none, none, none] [sr_i xs0] t (f8_takeStep_25 i0  xs0 t) 0 0 := by
  intro xs0  t
  unfold f8_takeStep_25
  refine sr_istoren (pc := 25) (n := 1) (by decide +kernel) (by decide) rfl rfl ?_
  refine sr_iloadn (pc := 26) (n := 1) (by decide +kernel) rfl ?_
  refine sr_if_ne (pc := 27) (off := 54) (tg := 81) (by decide +kernel) (by decide) (fun _ => ?_) (fun _ => ?_)
  · exact sr_wk (sr_mono (mc := 0) (ms := 0) (by omega) (by omega) (g8_takeStep_81 l i0 hv_i0 xs0 t)) ⟨rfl, ⟨rfl, trivial⟩⟩
  · refine sr_aloadn (pc := 30) (n := 0) (by decide +kernel) rfl ?_
    refine sr_gI (pc := 31) fg_8_100 (by decide +kernel) (sr_in8 _ (by omega)) (fun _ => rfl) ?_
    refine sr_if_eq (pc := 34) (off := 17) (tg := 51) (by decide +kernel) (by decide) (fun _ => ?_) (fun _ => ?_)
    · exact sr_wk (sr_mono (mc := 0) (ms := 0) (by omega) (by omega) (g8_takeStep_51 l i0 hv_i0 t)) ⟨rfl, trivial⟩
    · refine sr_aloadn (pc := 37) (n := 0) (by decide +kernel) rfl ?_
      refine sr_gR (pc := 38) (cnt := 50) fg_8_36 (by decide +kernel) (sr_in8 _ (by omega)) (fun _ => rfl) (fun n1 hv_n1 => ?_)
      refine sr_aloadn (pc := 41) (n := 0) (by decide +kernel) rfl ?_
      refine sr_gI (pc := 42) fg_8_109 (by decide +kernel) (sr_in8 _ (by omega)) (fun _ => rfl) ?_
      refine sr_cV (pc := 45) (As := [sr_i (t.1 8 i0 4)]) (mc1 := 0) (ms1 := 0) (mc2 := 0) (ms2 := 0) fm_8_141 fl_8_141 (by decide +kernel) (sr_in2 _ (by omega)) (rm_8_takeStep_2_isInArc) rfl rfl rfl (C2_isInArc l n1 (t.1 8 i0 4) (by omega) t) ?_
      refine sr_kI (fun v2 t2 => ?_)
      refine sr_if_ne (pc := 48) (off := 33) (tg := 81) (by decide +kernel) (by decide) (fun _ => ?_) (fun _ => ?_)
      · exact sr_wk (sr_mono (mc := 0) (ms := 0) (by omega) (by omega) (g8_takeStep_81 l i0 hv_i0 xs0 t2)) ⟨rfl, ⟨rfl, trivial⟩⟩
      · exact sr_wk (sr_mono (mc := 0) (ms := 0) (by omega) (by omega) (g8_takeStep_51 l i0 hv_i0 t2)) ⟨rfl, trivial⟩
def F8_takeStep (i0 : Nat) (t : sr_t) : sr_Rs := (sr_ck (t.1 8 i0 3).toNatClampNeg 50 (fun n1 => (sr_ck (t.1 8 i0 0).toNatClampNeg 2 (fun n2 => (if (t.1 7 n1 0) = (t.1 3 n2 5) then f8_takeStep_25 i0 0 t else f8_takeStep_25 i0 1 t)))))
theorem C8_takeStep (l : Launch) (i0 : Nat) (hv_i0 : i0 < 3) (t : sr_t) : sr_ct' l sr_m8_takeStep [sr_r 8 i0] t (F8_takeStep i0 t) 0 0 := by
  refine sr_T_of (L0 := [some (sr_r 8 i0), none, none, none]) rfl (by decide +kernel) (fun _ => rfl) (fun _ => Nat.le_of_ble_eq_true rfl) ?_
  unfold F8_takeStep
  refine sr_aloadn (pc := 0) (n := 0) (by decide +kernel) rfl ?_
  refine sr_gR (pc := 1) (cnt := 50) fg_8_36 (by decide +kernel) (sr_in8 _ (by omega)) (fun _ => rfl) (fun n1 hv_n1 => ?_)
  refine sr_gC (pc := 4) (i2 := n1) fg_8_131 (by decide +kernel) (sr_in2 _ (by omega)) (fun _ => rfl) ?_
  refine sr_gI (pc := 7) fg_8_135 (by decide +kernel) (sr_in7 _ (by omega)) (fun _ => rfl) ?_
  refine sr_aloadn (pc := 10) (n := 0) (by decide +kernel) rfl ?_
  refine sr_gR (pc := 11) (cnt := 2) fg_8_26 (by decide +kernel) (sr_in8 _ (by omega)) (fun _ => rfl) (fun n2 hv_n2 => ?_)
  refine sr_gI (pc := 14) fg_8_140 (by decide +kernel) (sr_in3 _ (by omega)) (fun _ => rfl) ?_
  refine sr_icmp_eq (pc := 17) (off := 7) (tg := 24) (by decide +kernel) (by decide) (fun _ => ?_) (fun _ => ?_)
  · refine sr_iconst (pc := 24) (n := 0) (v := 0) (by decide +kernel) rfl ?_
    exact sr_wk (sr_mono (mc := 0) (ms := 0) (by omega) (by omega) (g8_takeStep_25 l i0 hv_i0 0 t)) ⟨rfl, trivial⟩
  · refine sr_iconst (pc := 20) (n := 1) (v := 1) (by decide +kernel) rfl ?_
    refine sr_goto (pc := 21) (off := 4) (tg := 25) (by decide +kernel) (by decide) ?_
    exact sr_wk (sr_mono (mc := 0) (ms := 0) (by omega) (by omega) (g8_takeStep_25 l i0 hv_i0 1 t)) ⟨rfl, trivial⟩
