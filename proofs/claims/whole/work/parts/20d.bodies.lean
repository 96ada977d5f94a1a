def f8_rememberWhy_32 (i0 : Nat) (k54 : sr_t → sr_Rs) : Nat → Nat → Int32 → sr_t → sr_Rs
  | 0 => fun _ _ _ => none
  | n + 1 => fun j1 x2 t => (if x2 < 0 then k54 t else (sr_bI (F4_at j1 x2 t) (fun v1 t1 => (sr_bV (F4_add (104 + i0) v1 t1) (fun t2 => (f8_rememberWhy_32 i0 k54 n) j1 (x2 + (-1)) t2)))))
theorem g8_rememberWhy_32 (l : Launch) (i0 : Nat) (hv_i0 : i0 < 3) (k54 : sr_t → sr_Rs) (hk54 : ∀ (t : sr_t), sr_g l sr_m8_rememberWhy 54 [some (sr_r 8 i0), none, none] [] t (k54 t) 0 0) : ∀ (n : Nat) (j1 : Nat) (x2 : Int32), j1 < 107 → ∀ (t : sr_t), sr_g l sr_m8_rememberWhy 32 [some (sr_r 8 i0), some (sr_r 4 j1), some (sr_i x2)] [] t (f8_rememberWhy_32 i0 k54 n j1 x2 t) 0 0 := by
  intro n
  induction n with
  | zero => intros; exact sr_Gn
  | succ n ih =>
    intro j1 x2 hv_j1 t
    unfold f8_rememberWhy_32
    refine sr_iloadn (pc := 32) (n := 2) (by decide +kernel) rfl ?_
    refine sr_if_lt (pc := 33) (off := 21) (tg := 54) (by decide +kernel) (by decide) (fun _ => ?_) (fun _ => ?_)
    · exact sr_wk (sr_mono (mc := 0) (ms := 0) (by omega) (by omega) (hk54 t)) ⟨rfl, trivial⟩
    · refine sr_aloadn (pc := 36) (n := 0) (by decide +kernel) rfl ?_
      refine sr_gC (pc := 37) (i2 := 104 + i0) fg_8_22 (by decide +kernel) (sr_in8 _ (by omega)) (fun _ => rfl) ?_
      refine sr_aloadn (pc := 40) (n := 1) (by decide +kernel) rfl ?_
      refine sr_iloadn (pc := 41) (n := 2) (by decide +kernel) rfl ?_
      refine sr_cV (pc := 42) (As := [sr_i x2]) (mc1 := 0) (ms1 := 0) (mc2 := 0) (ms2 := 0) fm_8_189 fl_8_189 (by decide +kernel) (sr_in4 _ (by omega)) (rm_8_rememberWhy_4_at) rfl rfl rfl (C4_at l j1 x2 (by omega) t) ?_
      refine sr_kI (fun v1 t1 => ?_)
      refine sr_cV (pc := 45) (As := [sr_i v1]) (mc1 := 0) (ms1 := 0) (mc2 := 0) (ms2 := 0) fm_8_180 fl_8_180 (by decide +kernel) (sr_in4 _ (by omega)) (rm_8_rememberWhy_4_add) rfl rfl rfl (C4_add l (104 + i0) v1 (by omega) t1) ?_
      refine sr_kV (fun t2 => ?_)
      refine sr_iinc (pc := 48) (i := 2) (n := (-1)) (w := x2 + (-1)) (by decide +kernel) rfl rfl (by decide) rfl rfl ?_
      refine sr_goto (pc := 51) (off := (-19)) (tg := 32) (by decide +kernel) (by decide) ?_
      exact sr_wk (sr_mono (mc := 0) (ms := 0) (by omega) (by omega) (ih j1 (x2 + (-1)) (by omega) t2)) ⟨rfl, ⟨rfl, ⟨rfl, trivial⟩⟩⟩
def f8_rememberWhy_54 (i0 : Nat)  : sr_t → sr_Rs := fun  t => (some (.inl none, t))
theorem g8_rememberWhy_54 (l : Launch) (i0 : Nat) (hv_i0 : i0 < 3)   : ∀ (t : sr_t), sr_g l sr_m8_rememberWhy 54 [some (sr_r 8 i0), none, none] [] t (f8_rememberWhy_54 i0   t) 0 0 := by
  intro t
  unfold f8_rememberWhy_54
  exact sr_ret (pc := 54) (by decide +kernel) rfl
def F8_rememberWhy (i0 : Nat) (t : sr_t) : sr_Rs := (sr_ck (t.1 8 i0 3).toNatClampNeg 50 (fun n1 => (sr_bV (F4_add (104 + i0) (t.1 2 n1 0) t) (fun t2 => (sr_ck (t2.1 8 i0 3).toNatClampNeg 50 (fun n3 => f8_rememberWhy_32 i0 (f8_rememberWhy_54 i0) sr_fu (2 * n3) ((t2.1 4 (2 * n3) 1) - 1) t2))))))
theorem C8_rememberWhy (l : Launch) (i0 : Nat) (hv_i0 : i0 < 3) (t : sr_t) : sr_ct' l sr_m8_rememberWhy [sr_r 8 i0] t (F8_rememberWhy i0 t) 0 0 := by
  refine sr_T_of (L0 := [some (sr_r 8 i0), none, none]) rfl (by decide +kernel) (fun _ => rfl) (fun _ => Nat.le_of_ble_eq_true rfl) ?_
  unfold F8_rememberWhy
  refine sr_aloadn (pc := 0) (n := 0) (by decide +kernel) rfl ?_
  refine sr_gC (pc := 1) (i2 := 104 + i0) fg_8_22 (by decide +kernel) (sr_in8 _ (by omega)) (fun _ => rfl) ?_
  refine sr_aloadn (pc := 4) (n := 0) (by decide +kernel) rfl ?_
  refine sr_gR (pc := 5) (cnt := 50) fg_8_36 (by decide +kernel) (sr_in8 _ (by omega)) (fun _ => rfl) (fun n1 hv_n1 => ?_)
  refine sr_gI (pc := 8) fg_8_128 (by decide +kernel) (sr_in2 _ (by omega)) (fun _ => rfl) ?_
  refine sr_cV (pc := 11) (As := [sr_i (t.1 2 n1 0)]) (mc1 := 0) (ms1 := 0) (mc2 := 0) (ms2 := 0) fm_8_180 fl_8_180 (by decide +kernel) (sr_in4 _ (by omega)) (rm_8_rememberWhy_4_add) rfl rfl rfl (C4_add l (104 + i0) (t.1 2 n1 0) (by omega) t) ?_
  refine sr_kV (fun t2 => ?_)
  refine sr_aloadn (pc := 14) (n := 0) (by decide +kernel) rfl ?_
  refine sr_gR (pc := 15) (cnt := 50) fg_8_36 (by decide +kernel) (sr_in8 _ (by omega)) (fun _ => rfl) (fun n3 hv_n3 => ?_)
  refine sr_gC (pc := 18) (i2 := n3) fg_8_131 (by decide +kernel) (sr_in2 _ (by omega)) (fun _ => rfl) ?_
  refine sr_gC (pc := 21) (i2 := 2 * n3) fg_8_183 (by decide +kernel) (sr_in7 _ (by omega)) (fun _ => rfl) ?_
  refine sr_astoren (pc := 24) (n := 1) (by decide +kernel) (by decide) rfl rfl ?_
  refine sr_aloadn (pc := 25) (n := 1) (by decide +kernel) rfl ?_
  refine sr_gI (pc := 26) fg_8_186 (by decide +kernel) (sr_in4 _ (by omega)) (fun _ => rfl) ?_
  refine sr_iconst (pc := 29) (n := 1) (v := 1) (by decide +kernel) rfl ?_
  refine sr_isub (pc := 30) (by decide +kernel) ?_
  refine sr_istoren (pc := 31) (n := 2) (by decide +kernel) (by decide) rfl rfl ?_
  exact sr_wk (sr_mono (mc := 0) (ms := 0) (by omega) (by omega) (g8_rememberWhy_32 l i0 hv_i0 (f8_rememberWhy_54 i0) (g8_rememberWhy_54 l i0 hv_i0) sr_fu (2 * n3) ((t2.1 4 (2 * n3) 1) - 1) (by omega) t2)) ⟨rfl, ⟨rfl, ⟨rfl, trivial⟩⟩⟩
def f2_owns_20 (i0 : Nat) (a0 : Int32)  : Int32 → sr_t → sr_Rs := fun xs0 t => (if xs0 = 0 ∨ xs0 = 1 then some (.inl (some (sr_i xs0)), t) else none)
theorem g2_owns_20 (l : Launch) (i0 : Nat) (a0 : Int32) (hv_i0 : i0 < 50)   : ∀ (xs0 : Int32), ∀ (t : sr_t), sr_g l sr_m2_owns 20 [some (sr_r 2 i0), some (sr_i a0)] [sr_i xs0] t (f2_owns_20 i0 a0  xs0 t) 0 0 := by
  intro xs0  t
  unfold f2_owns_20
  exact sr_zr (pc := 20) (by decide +kernel) rfl
def F2_owns (i0 : Nat) (a0 : Int32) (t : sr_t) : sr_Rs := (sr_bI (sr_nt (F10_onward a0 (t.1 2 i0 1) t)) (fun v1 t1 => (if (t1.1 2 i0 7) ≤ v1 then f2_owns_20 i0 a0 0 t1 else f2_owns_20 i0 a0 1 t1)))
theorem C2_owns (l : Launch) (i0 : Nat) (a0 : Int32) (hv_i0 : i0 < 50) (t : sr_t) : sr_ct' l sr_m2_owns [sr_r 2 i0, sr_i a0] t (F2_owns i0 a0 t) 0 0 := by
  refine sr_T_of (L0 := [some (sr_r 2 i0), some (sr_i a0)]) rfl (by decide +kernel) (fun _ => rfl) (fun _ => Nat.le_of_ble_eq_true rfl) ?_
  unfold F2_owns
  refine sr_iloadn (pc := 0) (n := 1) (by decide +kernel) rfl ?_
  refine sr_aloadn (pc := 1) (n := 0) (by decide +kernel) rfl ?_
  refine sr_gI (pc := 2) fg_2_25 (by decide +kernel) (sr_in2 _ (by omega)) (fun _ => rfl) ?_
  refine sr_cSN (pc := 5) (As := [sr_i a0, sr_i (t.1 2 i0 1)]) (mc1 := 0) (ms1 := 0) (mc2 := 0) (ms2 := 0) fm_2_56 fl_2_56 (by decide +kernel) (rm_2_owns_10_onward) rfl rfl rfl (C10_onward l a0 (t.1 2 i0 1) t) ?_
  refine sr_kI (fun v1 t1 => ?_)
  refine sr_aloadn (pc := 8) (n := 0) (by decide +kernel) rfl ?_
  refine sr_gI (pc := 9) fg_2_63 (by decide +kernel) (sr_in2 _ (by omega)) (fun _ => rfl) ?_
  refine sr_icmp_ge (pc := 12) (off := 7) (tg := 19) (by decide +kernel) (by decide) (fun _ => ?_) (fun _ => ?_)
  · refine sr_iconst (pc := 19) (n := 0) (v := 0) (by decide +kernel) rfl ?_
    exact sr_wk (sr_mono (mc := 0) (ms := 0) (by omega) (by omega) (g2_owns_20 l i0 a0 hv_i0 0 t1)) ⟨rfl, ⟨rfl, trivial⟩⟩
  · refine sr_iconst (pc := 15) (n := 1) (v := 1) (by decide +kernel) rfl ?_
    refine sr_goto (pc := 16) (off := 4) (tg := 20) (by decide +kernel) (by decide) ?_
    exact sr_wk (sr_mono (mc := 0) (ms := 0) (by omega) (by omega) (g2_owns_20 l i0 a0 hv_i0 1 t1)) ⟨rfl, ⟨rfl, trivial⟩⟩
def f8_travel_50 (i0 : Nat) (i1 : Nat) (i2 : Nat) (a2 : Int32) (a3 : Int32) (k12 : Int32 → sr_t → sr_Rs) (k56 : sr_t → sr_Rs) : Int32 → sr_t → sr_Rs := fun x5 t => k12 (x5 + 1) t
theorem g8_travel_50 (l : Launch) (i0 : Nat) (i1 : Nat) (i2 : Nat) (a2 : Int32) (a3 : Int32) (hv_i0 : i0 < 3) (hv_i1 : i1 < 2) (hv_i2 : i2 < 50) (k12 : Int32 → sr_t → sr_Rs) (k56 : sr_t → sr_Rs) (hk12 : ∀ (x5 : Int32), ∀ (t : sr_t), sr_g l sr_m8_travel 12 [some (sr_r 8 i0), some (sr_r 3 i1), some (sr_r 2 i2), some (sr_i a2), some (sr_i a3), some (sr_i x5)] [] t (k12 x5 t) 0 0) (hk56 : ∀ (t : sr_t), sr_g l sr_m8_travel 56 [some (sr_r 8 i0), some (sr_r 3 i1), some (sr_r 2 i2), some (sr_i a2), some (sr_i a3), none] [] t (k56 t) 0 0) : ∀ (x5 : Int32), ∀ (t : sr_t), sr_g l sr_m8_travel 50 [some (sr_r 8 i0), some (sr_r 3 i1), some (sr_r 2 i2), some (sr_i a2), some (sr_i a3), some (sr_i x5)] [] t (f8_travel_50 i0 i1 i2 a2 a3 k12 k56 x5 t) 0 0 := by
  intro x5  t
  unfold f8_travel_50
  refine sr_iinc (pc := 50) (i := 5) (n := 1) (w := x5 + 1) (by decide +kernel) rfl rfl (by decide) rfl rfl ?_
  refine sr_goto (pc := 53) (off := (-41)) (tg := 12) (by decide +kernel) (by decide) ?_
  exact sr_wk (sr_mono (mc := 0) (ms := 0) (by omega) (by omega) (hk12 (x5 + 1) t)) ⟨rfl, ⟨rfl, ⟨rfl, ⟨rfl, ⟨rfl, ⟨rfl, trivial⟩⟩⟩⟩⟩⟩
def f8_travel_12 (i0 : Nat) (i1 : Nat) (i2 : Nat) (a2 : Int32) (a3 : Int32) (k56 : sr_t → sr_Rs) : Nat → Int32 → sr_t → sr_Rs
  | 0 => fun _ _ => none
  | n + 1 => fun x5 t => (if 200 < x5 then k56 t else (if (t.1 8 i0 6) = ((-4)) then (sr_bI (F8_endHere i0 t) (fun v1 t1 => (sr_lt (sr_u t1 8 i0 6 v1) (fun t2 => (if (t2.1 8 i0 6) = ((-4)) then (sr_bV (F8_takeStep i0 t2) (fun t3 => f8_travel_50 i0 i1 i2 a2 a3 (f8_travel_12 i0 i1 i2 a2 a3 k56 n) k56 x5 t3)) else f8_travel_50 i0 i1 i2 a2 a3 (f8_travel_12 i0 i1 i2 a2 a3 k56 n) k56 x5 t2))))) else k56 t))
theorem g8_travel_12 (l : Launch) (i0 : Nat) (i1 : Nat) (i2 : Nat) (a2 : Int32) (a3 : Int32) (hv_i0 : i0 < 3) (hv_i1 : i1 < 2) (hv_i2 : i2 < 50) (k56 : sr_t → sr_Rs) (hk56 : ∀ (t : sr_t), sr_g l sr_m8_travel 56 [some (sr_r 8 i0), some (sr_r 3 i1), some (sr_r 2 i2), some (sr_i a2), some (sr_i a3), none] [] t (k56 t) 0 0) : ∀ (n : Nat) (x5 : Int32), ∀ (t : sr_t), sr_g l sr_m8_travel 12 [some (sr_r 8 i0), some (sr_r 3 i1), some (sr_r 2 i2), some (sr_i a2), some (sr_i a3), some (sr_i x5)] [] t (f8_travel_12 i0 i1 i2 a2 a3 k56 n x5 t) 0 0 := by
  intro n
  induction n with
  | zero => intros; exact sr_Gn
  | succ n ih =>
    intro x5  t
    unfold f8_travel_12
    refine sr_iload (pc := 12) (i := 5) (by decide +kernel) rfl ?_
    refine sr_sipush (pc := 14) (n := 200) (v := 200) (by decide +kernel) (by decide) ?_
    refine sr_icmp_gt (pc := 17) (off := 39) (tg := 56) (by decide +kernel) (by decide) (fun _ => ?_) (fun _ => ?_)
    · exact sr_wk (sr_mono (mc := 0) (ms := 0) (by omega) (by omega) (hk56 t)) ⟨rfl, ⟨rfl, ⟨rfl, ⟨rfl, ⟨rfl, trivial⟩⟩⟩⟩⟩
    · refine sr_aloadn (pc := 20) (n := 0) (by decide +kernel) rfl ?_
      refine sr_gI (pc := 21) fg_8_9 (by decide +kernel) (sr_in8 _ (by omega)) (fun _ => rfl) ?_
      refine sr_bipush (pc := 24) (n := (-4)) (v := (-4)) (by decide +kernel) (by decide) ?_
      refine sr_icmp_ne (pc := 26) (off := 30) (tg := 56) (by decide +kernel) (by decide) (fun _ => ?_) (fun _ => ?_)
      · exact sr_wk (sr_mono (mc := 0) (ms := 0) (by omega) (by omega) (hk56 t)) ⟨rfl, ⟨rfl, ⟨rfl, ⟨rfl, ⟨rfl, trivial⟩⟩⟩⟩⟩
      · refine sr_aloadn (pc := 29) (n := 0) (by decide +kernel) rfl ?_
        refine sr_aloadn (pc := 30) (n := 0) (by decide +kernel) rfl ?_
        refine sr_cV (pc := 31) (As := []) (mc1 := 0) (ms1 := 0) (mc2 := 0) (ms2 := 0) fm_8_43 fl_8_43 (by decide +kernel) (sr_in8 _ (by omega)) (rm_8_travel_8_endHere) rfl rfl rfl (C8_endHere l i0 (by omega) t) ?_
        refine sr_kI (fun v1 t1 => ?_)
        refine sr_pI (pc := 34) fg_8_9 ft_8_6 (by decide +kernel) (sr_in8 _ (by omega)) (fun _ => rfl) (fun t2 => ?_)
        refine sr_aloadn (pc := 37) (n := 0) (by decide +kernel) rfl ?_
        refine sr_gI (pc := 38) fg_8_9 (by decide +kernel) (sr_in8 _ (by omega)) (fun _ => rfl) ?_
        refine sr_bipush (pc := 41) (n := (-4)) (v := (-4)) (by decide +kernel) (by decide) ?_
        refine sr_icmp_ne (pc := 43) (off := 7) (tg := 50) (by decide +kernel) (by decide) (fun _ => ?_) (fun _ => ?_)
        · exact sr_wk (sr_mono (mc := 0) (ms := 0) (by omega) (by omega) (g8_travel_50 l i0 i1 i2 a2 a3 hv_i0 hv_i1 hv_i2 (f8_travel_12 i0 i1 i2 a2 a3 k56 n) k56 ih hk56 x5 t2)) ⟨rfl, ⟨rfl, ⟨rfl, ⟨rfl, ⟨rfl, ⟨rfl, trivial⟩⟩⟩⟩⟩⟩
        · refine sr_aloadn (pc := 46) (n := 0) (by decide +kernel) rfl ?_
          refine sr_cV (pc := 47) (As := []) (mc1 := 0) (ms1 := 0) (mc2 := 0) (ms2 := 0) fm_8_47 fl_8_47 (by decide +kernel) (sr_in8 _ (by omega)) (rm_8_travel_8_takeStep) rfl rfl rfl (C8_takeStep l i0 (by omega) t2) ?_
          refine sr_kV (fun t3 => ?_)
          exact sr_wk (sr_mono (mc := 0) (ms := 0) (by omega) (by omega) (g8_travel_50 l i0 i1 i2 a2 a3 hv_i0 hv_i1 hv_i2 (f8_travel_12 i0 i1 i2 a2 a3 k56 n) k56 ih hk56 x5 t3)) ⟨rfl, ⟨rfl, ⟨rfl, ⟨rfl, ⟨rfl, ⟨rfl, trivial⟩⟩⟩⟩⟩⟩
def f8_travel_69 (i0 : Nat) (i1 : Nat) (i2 : Nat) (a2 : Int32) (a3 : Int32)  : sr_t → sr_Rs := fun  t => (sr_ck (t.1 8 i0 0).toNatClampNeg 2 (fun n1 => (sr_bR 2 50 (F3_of n1 (t.1 8 i0 6) t) (fun n2 t2 => (sr_bI (F2_owns n2 (t2.1 8 i0 1) t2) (fun v3 t3 => (if v3 = 0 ∨ v3 = 1 then (sr_lt (sr_u t3 8 i0 7 v3) (fun t4 => (some (.inl (some (sr_i (t4.1 8 i0 6))), t4)))) else none)))))))
theorem g8_travel_69 (l : Launch) (i0 : Nat) (i1 : Nat) (i2 : Nat) (a2 : Int32) (a3 : Int32) (hv_i0 : i0 < 3) (hv_i1 : i1 < 2) (hv_i2 : i2 < 50)   : ∀ (t : sr_t), sr_g l sr_m8_travel 69 [some (sr_r 8 i0), some (sr_r 3 i1), some (sr_r 2 i2), some (sr_i a2), some (sr_i a3), none] [] t (f8_travel_69 i0 i1 i2 a2 a3   t) 0 0 := by
  intro t
  unfold f8_travel_69
  refine sr_aloadn (pc := 69) (n := 0) (by decide +kernel) rfl ?_
  refine sr_aloadn (pc := 70) (n := 0) (by decide +kernel) rfl ?_
  refine sr_gR (pc := 71) (cnt := 2) fg_8_26 (by decide +kernel) (sr_in8 _ (by omega)) (fun _ => rfl) (fun n1 hv_n1 => ?_)
  refine sr_aloadn (pc := 74) (n := 0) (by decide +kernel) rfl ?_
  refine sr_gI (pc := 75) fg_8_9 (by decide +kernel) (sr_in8 _ (by omega)) (fun _ => rfl) ?_
  refine sr_cV (pc := 78) (As := [sr_i (t.1 8 i0 6)]) (mc1 := 0) (ms1 := 0) (mc2 := 0) (ms2 := 0) fm_8_53 fl_8_53 (by decide +kernel) (sr_in3 _ (by omega)) (rm_8_travel_3_of) rfl rfl rfl (C3_of l n1 (t.1 8 i0 6) (by omega) t) ?_
  refine sr_kR (fun n2 t2 hv_n2 => ?_)
  refine sr_aloadn (pc := 81) (n := 0) (by decide +kernel) rfl ?_
  refine sr_gI (pc := 82) fg_8_57 (by decide +kernel) (sr_in8 _ (by omega)) (fun _ => rfl) ?_
  refine sr_cV (pc := 85) (As := [sr_i (t2.1 8 i0 1)]) (mc1 := 0) (ms1 := 0) (mc2 := 0) (ms2 := 0) fm_8_60 fl_8_60 (by decide +kernel) (sr_in2 _ (by omega)) (rm_8_travel_2_owns) rfl rfl rfl (C2_owns l n2 (t2.1 8 i0 1) (by omega) t2) ?_
  refine sr_kI (fun v3 t3 => ?_)
  refine sr_pZ (pc := 88) fg_8_66 ft_8_7 (by decide +kernel) (sr_in8 _ (by omega)) (fun _ => rfl) (fun t4 => ?_)
  refine sr_aloadn (pc := 91) (n := 0) (by decide +kernel) rfl ?_
  refine sr_gI (pc := 92) fg_8_9 (by decide +kernel) (sr_in8 _ (by omega)) (fun _ => rfl) ?_
  exact sr_iret (pc := 95) (by decide +kernel) rfl
def f8_travel_56 (i0 : Nat) (i1 : Nat) (i2 : Nat) (a2 : Int32) (a3 : Int32)  : sr_t → sr_Rs := fun  t => (if (t.1 8 i0 6) = ((-2)) then (sr_bV (F8_rememberWhy i0 t) (fun t1 => f8_travel_69 i0 i1 i2 a2 a3 t1)) else f8_travel_69 i0 i1 i2 a2 a3 t)
theorem g8_travel_56 (l : Launch) (i0 : Nat) (i1 : Nat) (i2 : Nat) (a2 : Int32) (a3 : Int32) (hv_i0 : i0 < 3) (hv_i1 : i1 < 2) (hv_i2 : i2 < 50)   : ∀ (t : sr_t), sr_g l sr_m8_travel 56 [some (sr_r 8 i0), some (sr_r 3 i1), some (sr_r 2 i2), some (sr_i a2), some (sr_i a3), none] [] t (f8_travel_56 i0 i1 i2 a2 a3   t) 0 0 := by
  intro t
  unfold f8_travel_56
  refine sr_aloadn (pc := 56) (n := 0) (by decide +kernel) rfl ?_
  refine sr_gI (pc := 57) fg_8_9 (by decide +kernel) (sr_in8 _ (by omega)) (fun _ => rfl) ?_
  refine sr_bipush (pc := 60) (n := (-2)) (v := (-2)) (by decide +kernel) (by decide) ?_
  refine sr_icmp_ne (pc := 62) (off := 7) (tg := 69) (by decide +kernel) (by decide) (fun _ => ?_) (fun _ => ?_)
  · exact sr_wk (sr_mono (mc := 0) (ms := 0) (by omega) (by omega) (g8_travel_69 l i0 i1 i2 a2 a3 hv_i0 hv_i1 hv_i2 t)) ⟨rfl, ⟨rfl, ⟨rfl, ⟨rfl, ⟨rfl, trivial⟩⟩⟩⟩⟩
  · refine sr_aloadn (pc := 65) (n := 0) (by decide +kernel) rfl ?_
    refine sr_cV (pc := 66) (As := []) (mc1 := 0) (ms1 := 0) (mc2 := 0) (ms2 := 0) fm_8_50 fl_8_50 (by decide +kernel) (sr_in8 _ (by omega)) (rm_8_travel_8_rememberWhy) rfl rfl rfl (C8_rememberWhy l i0 (by omega) t) ?_
    refine sr_kV (fun t1 => ?_)
    exact sr_wk (sr_mono (mc := 0) (ms := 0) (by omega) (by omega) (g8_travel_69 l i0 i1 i2 a2 a3 hv_i0 hv_i1 hv_i2 t1)) ⟨rfl, ⟨rfl, ⟨rfl, ⟨rfl, ⟨rfl, trivial⟩⟩⟩⟩⟩
def F8_travel (i0 : Nat) (i1 : Nat) (i2 : Nat) (a2 : Int32) (a3 : Int32) (t : sr_t) : sr_Rs := (sr_bV (F8_setOut i0 i1 i2 a2 a3 t) (fun t1 => f8_travel_12 i0 i1 i2 a2 a3 (f8_travel_56 i0 i1 i2 a2 a3) sr_fu 0 t1))
theorem C8_travel (l : Launch) (i0 : Nat) (i1 : Nat) (i2 : Nat) (a2 : Int32) (a3 : Int32) (hv_i0 : i0 < 3) (hv_i1 : i1 < 2) (hv_i2 : i2 < 50) (t : sr_t) : sr_ct' l sr_m8_travel [sr_r 8 i0, sr_r 3 i1, sr_r 2 i2, sr_i a2, sr_i a3] t (F8_travel i0 i1 i2 a2 a3 t) 0 0 := by
  refine sr_T_of (L0 := [some (sr_r 8 i0), some (sr_r 3 i1), some (sr_r 2 i2), some (sr_i a2), some (sr_i a3), none]) rfl (by decide +kernel) (fun _ => rfl) (fun _ => Nat.le_of_ble_eq_true rfl) ?_
  unfold F8_travel
  refine sr_aloadn (pc := 0) (n := 0) (by decide +kernel) rfl ?_
  refine sr_aloadn (pc := 1) (n := 1) (by decide +kernel) rfl ?_
  refine sr_aloadn (pc := 2) (n := 2) (by decide +kernel) rfl ?_
  refine sr_iloadn (pc := 3) (n := 3) (by decide +kernel) rfl ?_
  refine sr_iload (pc := 4) (i := 4) (by decide +kernel) rfl ?_
  refine sr_cV (pc := 6) (As := [sr_r 3 i1, sr_r 2 i2, sr_i a2, sr_i a3]) (mc1 := 0) (ms1 := 0) (mc2 := 0) (ms2 := 0) fm_8_39 fl_8_39 (by decide +kernel) (sr_in8 _ (by omega)) (rm_8_travel_8_setOut) rfl rfl rfl (C8_setOut l i0 i1 i2 a2 a3 (by omega) (by omega) (by omega) t) ?_
  refine sr_kV (fun t1 => ?_)
  refine sr_iconst (pc := 9) (n := 0) (v := 0) (by decide +kernel) rfl ?_
  refine sr_istore (pc := 10) (i := 5) (by decide +kernel) (by decide) rfl rfl ?_
  exact sr_wk (sr_mono (mc := 0) (ms := 0) (by omega) (by omega) (g8_travel_12 l i0 i1 i2 a2 a3 hv_i0 hv_i1 hv_i2 (f8_travel_56 i0 i1 i2 a2 a3) (g8_travel_56 l i0 i1 i2 a2 a3 hv_i0 hv_i1 hv_i2) sr_fu 0 t1)) ⟨rfl, ⟨rfl, ⟨rfl, ⟨rfl, ⟨rfl, ⟨rfl, trivial⟩⟩⟩⟩⟩⟩
def f5_addTrip_84   : Int32 → Int32 → sr_t → sr_Rs := fun xs0 xs1 t => (sr_lt (sr_u t 5 0 7 (xs1 + xs0)) (fun t1 => (sr_lt (sr_u t1 5 0 8 (if (t1.1 5 0 8) < (t1.1 8 2 9) then (t1.1 8 2 9) else (t1.1 5 0 8))) (fun t2 => (sr_lt (sr_u t2 5 0 9 ((t2.1 5 0 9) + (t2.1 8 2 13))) (fun t3 => (sr_lt (sr_u t3 5 0 10 (if (t3.1 5 0 10) < (t3.1 8 2 13) then (t3.1 8 2 13) else (t3.1 5 0 10))) (fun t4 => (some (.inl none, t4))))))))))
theorem g5_addTrip_84 (l : Launch)     : ∀ (xs0 : Int32) (xs1 : Int32), ∀ (t : sr_t), sr_g l sr_m5_addTrip 84 [some (sr_r 5 0)] [sr_i xs0, sr_i xs1, sr_r 5 0] t (f5_addTrip_84   xs0 xs1 t) 0 0 := by
  intro xs0 xs1  t
  unfold f5_addTrip_84
  refine sr_iadd (pc := 84) (by decide +kernel) ?_
  refine sr_pI (pc := 85) fg_5_68 ft_5_7 (by decide +kernel) (sr_in5 _ (by omega)) (fun _ => rfl) (fun t1 => ?_)
  refine sr_aloadn (pc := 88) (n := 0) (by decide +kernel) rfl ?_
  refine sr_aloadn (pc := 89) (n := 0) (by decide +kernel) rfl ?_
  refine sr_gI (pc := 90) fg_5_71 (by decide +kernel) (sr_in5 _ (by omega)) (fun _ => rfl) ?_
  refine sr_aloadn (pc := 93) (n := 0) (by decide +kernel) rfl ?_
  refine sr_gC (pc := 94) (i2 := 2) fg_5_23 (by decide +kernel) (sr_in5 _ (by omega)) (fun _ => rfl) ?_
  refine sr_gI (pc := 97) fg_5_86 (by decide +kernel) (sr_in8 _ (by omega)) (fun _ => rfl) ?_
  refine sr_mmmax (pc := 100) (idx := 93) (sr_tb (n := 674) (by decide +kernel) rfl) (by decide +kernel) (by decide) (by decide) rfl mw_max1 mw_0 mw_max2 ?_
  refine sr_pI (pc := 103) fg_5_71 ft_5_8 (by decide +kernel) (sr_in5 _ (by omega)) (fun _ => rfl) (fun t2 => ?_)
  refine sr_aloadn (pc := 106) (n := 0) (by decide +kernel) rfl ?_
  refine sr_dup (pc := 107) (by decide +kernel) rfl ?_
  refine sr_gI (pc := 108) fg_5_74 (by decide +kernel) (sr_in5 _ (by omega)) (fun _ => rfl) ?_
  refine sr_aloadn (pc := 111) (n := 0) (by decide +kernel) rfl ?_
  refine sr_gC (pc := 112) (i2 := 2) fg_5_23 (by decide +kernel) (sr_in5 _ (by omega)) (fun _ => rfl) ?_
  refine sr_gI (pc := 115) fg_5_99 (by decide +kernel) (sr_in8 _ (by omega)) (fun _ => rfl) ?_
  refine sr_iadd (pc := 118) (by decide +kernel) ?_
  refine sr_pI (pc := 119) fg_5_74 ft_5_9 (by decide +kernel) (sr_in5 _ (by omega)) (fun _ => rfl) (fun t3 => ?_)
  refine sr_aloadn (pc := 122) (n := 0) (by decide +kernel) rfl ?_
  refine sr_aloadn (pc := 123) (n := 0) (by decide +kernel) rfl ?_
  refine sr_gI (pc := 124) fg_5_77 (by decide +kernel) (sr_in5 _ (by omega)) (fun _ => rfl) ?_
  refine sr_aloadn (pc := 127) (n := 0) (by decide +kernel) rfl ?_
  refine sr_gC (pc := 128) (i2 := 2) fg_5_23 (by decide +kernel) (sr_in5 _ (by omega)) (fun _ => rfl) ?_
  refine sr_gI (pc := 131) fg_5_99 (by decide +kernel) (sr_in8 _ (by omega)) (fun _ => rfl) ?_
  refine sr_mmmax (pc := 134) (idx := 93) (sr_tb (n := 674) (by decide +kernel) rfl) (by decide +kernel) (by decide) (by decide) rfl mw_max1 mw_0 mw_max2 ?_
  refine sr_pI (pc := 137) fg_5_77 ft_5_10 (by decide +kernel) (sr_in5 _ (by omega)) (fun _ => rfl) (fun t4 => ?_)
  exact sr_ret (pc := 140) (by decide +kernel) rfl
def F5_addTrip  (t : sr_t) : sr_Rs := (sr_lt (sr_u t 5 0 3 ((t.1 5 0 3) + (t.1 8 2 9))) (fun t1 => (sr_lt (sr_u t1 5 0 4 ((t1.1 5 0 4) + (t1.1 8 2 10))) (fun t2 => (sr_lt (sr_u t2 5 0 5 ((t2.1 5 0 5) + (t2.1 8 2 11))) (fun t3 => (sr_lt (sr_u t3 5 0 6 ((t3.1 5 0 6) + (t3.1 8 2 12))) (fun t4 => (if (t4.1 8 2 7) = 0 then f5_addTrip_84 1 (t4.1 5 0 7) t4 else f5_addTrip_84 0 (t4.1 5 0 7) t4)))))))))
theorem C5_addTrip (l : Launch)   (t : sr_t) : sr_ct' l sr_m5_addTrip [sr_r 5 0] t (F5_addTrip  t) 0 0 := by
  refine sr_T_of (L0 := [some (sr_r 5 0)]) rfl (by decide +kernel) (fun _ => rfl) (fun _ => Nat.le_of_ble_eq_true rfl) ?_
  unfold F5_addTrip
  refine sr_aloadn (pc := 0) (n := 0) (by decide +kernel) rfl ?_
  refine sr_dup (pc := 1) (by decide +kernel) rfl ?_
  refine sr_gI (pc := 2) fg_5_56 (by decide +kernel) (sr_in5 _ (by omega)) (fun _ => rfl) ?_
  refine sr_aloadn (pc := 5) (n := 0) (by decide +kernel) rfl ?_
  refine sr_gC (pc := 6) (i2 := 2) fg_5_23 (by decide +kernel) (sr_in5 _ (by omega)) (fun _ => rfl) ?_
  refine sr_gI (pc := 9) fg_5_86 (by decide +kernel) (sr_in8 _ (by omega)) (fun _ => rfl) ?_
  refine sr_iadd (pc := 12) (by decide +kernel) ?_
  refine sr_pI (pc := 13) fg_5_56 ft_5_3 (by decide +kernel) (sr_in5 _ (by omega)) (fun _ => rfl) (fun t1 => ?_)
  refine sr_aloadn (pc := 16) (n := 0) (by decide +kernel) rfl ?_
  refine sr_dup (pc := 17) (by decide +kernel) rfl ?_
  refine sr_gI (pc := 18) fg_5_59 (by decide +kernel) (sr_in5 _ (by omega)) (fun _ => rfl) ?_
  refine sr_aloadn (pc := 21) (n := 0) (by decide +kernel) rfl ?_
  refine sr_gC (pc := 22) (i2 := 2) fg_5_23 (by decide +kernel) (sr_in5 _ (by omega)) (fun _ => rfl) ?_
  refine sr_gI (pc := 25) fg_5_87 (by decide +kernel) (sr_in8 _ (by omega)) (fun _ => rfl) ?_
  refine sr_iadd (pc := 28) (by decide +kernel) ?_
  refine sr_pI (pc := 29) fg_5_59 ft_5_4 (by decide +kernel) (sr_in5 _ (by omega)) (fun _ => rfl) (fun t2 => ?_)
  refine sr_aloadn (pc := 32) (n := 0) (by decide +kernel) rfl ?_
  refine sr_dup (pc := 33) (by decide +kernel) rfl ?_
  refine sr_gI (pc := 34) fg_5_62 (by decide +kernel) (sr_in5 _ (by omega)) (fun _ => rfl) ?_
  refine sr_aloadn (pc := 37) (n := 0) (by decide +kernel) rfl ?_
  refine sr_gC (pc := 38) (i2 := 2) fg_5_23 (by decide +kernel) (sr_in5 _ (by omega)) (fun _ => rfl) ?_
  refine sr_gI (pc := 41) fg_5_88 (by decide +kernel) (sr_in8 _ (by omega)) (fun _ => rfl) ?_
  refine sr_iadd (pc := 44) (by decide +kernel) ?_
  refine sr_pI (pc := 45) fg_5_62 ft_5_5 (by decide +kernel) (sr_in5 _ (by omega)) (fun _ => rfl) (fun t3 => ?_)
  refine sr_aloadn (pc := 48) (n := 0) (by decide +kernel) rfl ?_
  refine sr_dup (pc := 49) (by decide +kernel) rfl ?_
  refine sr_gI (pc := 50) fg_5_65 (by decide +kernel) (sr_in5 _ (by omega)) (fun _ => rfl) ?_
  refine sr_aloadn (pc := 53) (n := 0) (by decide +kernel) rfl ?_
  refine sr_gC (pc := 54) (i2 := 2) fg_5_23 (by decide +kernel) (sr_in5 _ (by omega)) (fun _ => rfl) ?_
  refine sr_gI (pc := 57) fg_5_89 (by decide +kernel) (sr_in8 _ (by omega)) (fun _ => rfl) ?_
  refine sr_iadd (pc := 60) (by decide +kernel) ?_
  refine sr_pI (pc := 61) fg_5_65 ft_5_6 (by decide +kernel) (sr_in5 _ (by omega)) (fun _ => rfl) (fun t4 => ?_)
  refine sr_aloadn (pc := 64) (n := 0) (by decide +kernel) rfl ?_
  refine sr_dup (pc := 65) (by decide +kernel) rfl ?_
  refine sr_gI (pc := 66) fg_5_68 (by decide +kernel) (sr_in5 _ (by omega)) (fun _ => rfl) ?_
  refine sr_aloadn (pc := 69) (n := 0) (by decide +kernel) rfl ?_
  refine sr_gC (pc := 70) (i2 := 2) fg_5_23 (by decide +kernel) (sr_in5 _ (by omega)) (fun _ => rfl) ?_
  refine sr_gI (pc := 73) fg_5_90 (by decide +kernel) (sr_in8 _ (by omega)) (fun _ => rfl) ?_
  refine sr_if_eq (pc := 76) (off := 7) (tg := 83) (by decide +kernel) (by decide) (fun _ => ?_) (fun _ => ?_)
  · refine sr_iconst (pc := 83) (n := 1) (v := 1) (by decide +kernel) rfl ?_
    exact sr_wk (sr_mono (mc := 0) (ms := 0) (by omega) (by omega) (g5_addTrip_84 l 1 (t4.1 5 0 7) t4)) ⟨rfl, trivial⟩
  · refine sr_iconst (pc := 79) (n := 0) (v := 0) (by decide +kernel) rfl ?_
    refine sr_goto (pc := 80) (off := 4) (tg := 84) (by decide +kernel) (by decide) ?_
    exact sr_wk (sr_mono (mc := 0) (ms := 0) (by omega) (by omega) (g5_addTrip_84 l 0 (t4.1 5 0 7) t4)) ⟨rfl, trivial⟩
def f8_partOfStep_21 (i0 : Nat) (a0 : Int32) (a1 : Int32)  : sr_t → sr_Rs := fun  t => (some (.inl (some (sr_i ((-1)))), t))
theorem g8_partOfStep_21 (l : Launch) (i0 : Nat) (a0 : Int32) (a1 : Int32) (hv_i0 : i0 < 3)   : ∀ (t : sr_t), sr_g l sr_m8_partOfStep 21 [some (sr_r 8 i0), some (sr_i a0), some (sr_i a1), none] [] t (f8_partOfStep_21 i0 a0 a1   t) 0 0 := by
  intro t
  unfold f8_partOfStep_21
  refine sr_iconst (pc := 21) (n := (-1)) (v := (-1)) (by decide +kernel) rfl ?_
  exact sr_iret (pc := 22) (by decide +kernel) rfl
def f8_partOfStep_48 (i0 : Nat) (a0 : Int32) (a1 : Int32)  : Int32 → sr_t → sr_Rs := fun xs0 t => (some (.inl (some (sr_i xs0)), t))
theorem g8_partOfStep_48 (l : Launch) (i0 : Nat) (a0 : Int32) (a1 : Int32) (hv_i0 : i0 < 3)   : ∀ (xs0 : Int32), ∀ (t : sr_t), sr_g l sr_m8_partOfStep 48 [some (sr_r 8 i0), some (sr_i a0), some (sr_i a1), none] [sr_i xs0] t (f8_partOfStep_48 i0 a0 a1  xs0 t) 0 0 := by
  intro xs0  t
  unfold f8_partOfStep_48
  exact sr_iret (pc := 48) (by decide +kernel) rfl
def F8_partOfStep (i0 : Nat) (a0 : Int32) (a1 : Int32) (t : sr_t) : sr_Rs := (if a0 < 0 then f8_partOfStep_21 i0 a0 a1 t else (if (t.1 8 i0 8) ≤ a0 then f8_partOfStep_21 i0 a0 a1 t else (if a1 < 0 then f8_partOfStep_21 i0 a0 a1 t else (if a1 < 4 then (if 800 ≤ ((4 * a0) + a1) then f8_partOfStep_48 i0 a0 a1 ((-1)) t else (if (4 * a0) + a1 < 0 ∨ 800 ≤ ((4 * a0) + a1).toNatClampNeg then none else f8_partOfStep_48 i0 a0 a1 (t.1 14 i0 ((4 * a0) + a1).toNatClampNeg) t)) else f8_partOfStep_21 i0 a0 a1 t))))
theorem C8_partOfStep (l : Launch) (i0 : Nat) (a0 : Int32) (a1 : Int32) (hv_i0 : i0 < 3) (t : sr_t) : sr_ct' l sr_m8_partOfStep [sr_r 8 i0, sr_i a0, sr_i a1] t (F8_partOfStep i0 a0 a1 t) 0 0 := by
  refine sr_T_of (L0 := [some (sr_r 8 i0), some (sr_i a0), some (sr_i a1), none]) rfl (by decide +kernel) (fun _ => rfl) (fun _ => Nat.le_of_ble_eq_true rfl) ?_
  unfold F8_partOfStep
  refine sr_iloadn (pc := 0) (n := 1) (by decide +kernel) rfl ?_
  refine sr_if_lt (pc := 1) (off := 20) (tg := 21) (by decide +kernel) (by decide) (fun _ => ?_) (fun _ => ?_)
  · exact sr_wk (sr_mono (mc := 0) (ms := 0) (by omega) (by omega) (g8_partOfStep_21 l i0 a0 a1 hv_i0 t)) ⟨rfl, ⟨rfl, ⟨rfl, trivial⟩⟩⟩
  · refine sr_iloadn (pc := 4) (n := 1) (by decide +kernel) rfl ?_
    refine sr_aloadn (pc := 5) (n := 0) (by decide +kernel) rfl ?_
    refine sr_gI (pc := 6) fg_8_73 (by decide +kernel) (sr_in8 _ (by omega)) (fun _ => rfl) ?_
    refine sr_icmp_ge (pc := 9) (off := 12) (tg := 21) (by decide +kernel) (by decide) (fun _ => ?_) (fun _ => ?_)
    · exact sr_wk (sr_mono (mc := 0) (ms := 0) (by omega) (by omega) (g8_partOfStep_21 l i0 a0 a1 hv_i0 t)) ⟨rfl, ⟨rfl, ⟨rfl, trivial⟩⟩⟩
    · refine sr_iloadn (pc := 12) (n := 2) (by decide +kernel) rfl ?_
      refine sr_if_lt (pc := 13) (off := 8) (tg := 21) (by decide +kernel) (by decide) (fun _ => ?_) (fun _ => ?_)
      · exact sr_wk (sr_mono (mc := 0) (ms := 0) (by omega) (by omega) (g8_partOfStep_21 l i0 a0 a1 hv_i0 t)) ⟨rfl, ⟨rfl, ⟨rfl, trivial⟩⟩⟩
      · refine sr_iloadn (pc := 16) (n := 2) (by decide +kernel) rfl ?_
        refine sr_iconst (pc := 17) (n := 4) (v := 4) (by decide +kernel) rfl ?_
        refine sr_icmp_lt (pc := 18) (off := 5) (tg := 23) (by decide +kernel) (by decide) (fun _ => ?_) (fun _ => ?_)
        · refine sr_iconst (pc := 23) (n := 4) (v := 4) (by decide +kernel) rfl ?_
          refine sr_iloadn (pc := 24) (n := 1) (by decide +kernel) rfl ?_
          refine sr_imul (pc := 25) (by decide +kernel) ?_
          refine sr_iloadn (pc := 26) (n := 2) (by decide +kernel) rfl ?_
          refine sr_iadd (pc := 27) (by decide +kernel) ?_
          refine sr_istoren (pc := 28) (n := 3) (by decide +kernel) (by decide) rfl rfl ?_
          refine sr_iloadn (pc := 29) (n := 3) (by decide +kernel) rfl ?_
          refine sr_aloadn (pc := 30) (n := 0) (by decide +kernel) rfl ?_
          refine sr_gC (pc := 31) (i2 := i0) fg_8_15 (by decide +kernel) (sr_in8 _ (by omega)) (fun _ => rfl) ?_
          refine sr_al' (pc := 34) (ty := 0) (n := 800) (v := 800) rfl (by decide) (by decide +kernel) (sr_in14 _ (by omega)) (by decide) ?_
          refine sr_icmp_ge (pc := 35) (off := 12) (tg := 47) (by decide +kernel) (by decide) (fun _ => ?_) (fun _ => ?_)
          · refine sr_iconst (pc := 47) (n := (-1)) (v := (-1)) (by decide +kernel) rfl ?_
            exact sr_wk (sr_mono (mc := 0) (ms := 0) (by omega) (by omega) (g8_partOfStep_48 l i0 a0 a1 hv_i0 ((-1)) t)) ⟨rfl, ⟨rfl, ⟨rfl, trivial⟩⟩⟩
          · refine sr_aloadn (pc := 38) (n := 0) (by decide +kernel) rfl ?_
            refine sr_gC (pc := 39) (i2 := i0) fg_8_15 (by decide +kernel) (sr_in8 _ (by omega)) (fun _ => rfl) ?_
            refine sr_iloadn (pc := 42) (n := 3) (by decide +kernel) rfl ?_
            refine sr_aI (pc := 43) (n := 800) rfl (by decide +kernel) (sr_in14 _ (by omega)) (fun _ _ => rfl) ?_
            refine sr_goto (pc := 44) (off := 4) (tg := 48) (by decide +kernel) (by decide) ?_
            exact sr_wk (sr_mono (mc := 0) (ms := 0) (by omega) (by omega) (g8_partOfStep_48 l i0 a0 a1 hv_i0 (t.1 14 i0 ((4 * a0) + a1).toNatClampNeg) t)) ⟨rfl, ⟨rfl, ⟨rfl, trivial⟩⟩⟩
        · exact sr_wk (sr_mono (mc := 0) (ms := 0) (by omega) (by omega) (g8_partOfStep_21 l i0 a0 a1 hv_i0 t)) ⟨rfl, ⟨rfl, ⟨rfl, trivial⟩⟩⟩
def f8_nodeBehindStep_28 (i0 : Nat) (a0 : Int32)  : Int32 → sr_t → sr_Rs := fun xs0 t => (some (.inl (some (sr_i xs0)), t))
theorem g8_nodeBehindStep_28 (l : Launch) (i0 : Nat) (a0 : Int32) (hv_i0 : i0 < 3)   : ∀ (xs0 : Int32), ∀ (t : sr_t), sr_g l sr_m8_nodeBehindStep 28 [some (sr_r 8 i0), some (sr_i a0)] [sr_i xs0] t (f8_nodeBehindStep_28 i0 a0  xs0 t) 0 0 := by
  intro xs0  t
  unfold f8_nodeBehindStep_28
  exact sr_iret (pc := 28) (by decide +kernel) rfl
def F8_nodeBehindStep (i0 : Nat) (a0 : Int32) (t : sr_t) : sr_Rs := (if (t.1 8 i0 8) ≤ (a0 + 1) then (sr_ck (t.1 8 i0 3).toNatClampNeg 50 (fun n1 => f8_nodeBehindStep_28 i0 a0 (t.1 2 n1 0) t)) else (sr_bI (F8_partOfStep i0 (a0 + 1) 0 t) (fun v2 t2 => f8_nodeBehindStep_28 i0 a0 v2 t2)))
theorem C8_nodeBehindStep (l : Launch) (i0 : Nat) (a0 : Int32) (hv_i0 : i0 < 3) (t : sr_t) : sr_ct' l sr_m8_nodeBehindStep [sr_r 8 i0, sr_i a0] t (F8_nodeBehindStep i0 a0 t) 0 0 := by
  refine sr_T_of (L0 := [some (sr_r 8 i0), some (sr_i a0)]) rfl (by decide +kernel) (fun _ => rfl) (fun _ => Nat.le_of_ble_eq_true rfl) ?_
  unfold F8_nodeBehindStep
  refine sr_iloadn (pc := 0) (n := 1) (by decide +kernel) rfl ?_
  refine sr_iconst (pc := 1) (n := 1) (v := 1) (by decide +kernel) rfl ?_
  refine sr_iadd (pc := 2) (by decide +kernel) ?_
  refine sr_aloadn (pc := 3) (n := 0) (by decide +kernel) rfl ?_
  refine sr_gI (pc := 4) fg_8_73 (by decide +kernel) (sr_in8 _ (by omega)) (fun _ => rfl) ?_
  refine sr_icmp_ge (pc := 7) (off := 14) (tg := 21) (by decide +kernel) (by decide) (fun _ => ?_) (fun _ => ?_)
  · refine sr_aloadn (pc := 21) (n := 0) (by decide +kernel) rfl ?_
    refine sr_gR (pc := 22) (cnt := 50) fg_8_36 (by decide +kernel) (sr_in8 _ (by omega)) (fun _ => rfl) (fun n1 hv_n1 => ?_)
    refine sr_gI (pc := 25) fg_8_128 (by decide +kernel) (sr_in2 _ (by omega)) (fun _ => rfl) ?_
    exact sr_wk (sr_mono (mc := 0) (ms := 0) (by omega) (by omega) (g8_nodeBehindStep_28 l i0 a0 hv_i0 (t.1 2 n1 0) t)) ⟨rfl, ⟨rfl, trivial⟩⟩
  · refine sr_aloadn (pc := 10) (n := 0) (by decide +kernel) rfl ?_
    refine sr_iloadn (pc := 11) (n := 1) (by decide +kernel) rfl ?_
    refine sr_iconst (pc := 12) (n := 1) (v := 1) (by decide +kernel) rfl ?_
    refine sr_iadd (pc := 13) (by decide +kernel) ?_
    refine sr_iconst (pc := 14) (n := 0) (v := 0) (by decide +kernel) rfl ?_
    refine sr_cV (pc := 15) (As := [sr_i (a0 + 1), sr_i 0]) (mc1 := 0) (ms1 := 0) (mc2 := 0) (ms2 := 0) fm_8_177 fl_8_177 (by decide +kernel) (sr_in8 _ (by omega)) (rm_8_nodeBehindStep_8_partOfStep) rfl rfl rfl (C8_partOfStep l i0 (a0 + 1) 0 (by omega) t) ?_
    refine sr_kI (fun v2 t2 => ?_)
    refine sr_goto (pc := 18) (off := 10) (tg := 28) (by decide +kernel) (by decide) ?_
    exact sr_wk (sr_mono (mc := 0) (ms := 0) (by omega) (by omega) (g8_nodeBehindStep_28 l i0 a0 hv_i0 v2 t2)) ⟨rfl, ⟨rfl, trivial⟩⟩
def F5_crossingOf (a0 : Int32) (a1 : Int32) (t : sr_t) : sr_Rs := (some (.inl (some (sr_i ((a0 * 24) + a1))), t))
theorem C5_crossingOf (l : Launch) (a0 : Int32) (a1 : Int32)  (t : sr_t) : sr_ct' l sr_m5_crossingOf [sr_i a0, sr_i a1] t (F5_crossingOf a0 a1 t) 0 0 := by
  refine sr_T_of (L0 := [some (sr_i a0), some (sr_i a1)]) rfl (by decide +kernel) (fun _ => rfl) (fun _ => Nat.le_of_ble_eq_true rfl) ?_
  unfold F5_crossingOf
  refine sr_iloadn (pc := 0) (n := 0) (by decide +kernel) rfl ?_
  refine sr_bipush (pc := 1) (n := 24) (v := 24) (by decide +kernel) (by decide) ?_
  refine sr_imul (pc := 3) (by decide +kernel) ?_
  refine sr_iloadn (pc := 4) (n := 1) (by decide +kernel) rfl ?_
  refine sr_iadd (pc := 5) (by decide +kernel) ?_
  exact sr_iret (pc := 6) (by decide +kernel) rfl
def f5_addHop_60 (a0 : Int32) (a1 : Int32) (a2 : Int32)  : sr_t → sr_Rs := fun  t => (some (.inl none, t))
theorem g5_addHop_60 (l : Launch) (a0 : Int32) (a1 : Int32) (a2 : Int32)    : ∀ (t : sr_t), sr_g l sr_m5_addHop 60 [some (sr_r 5 0), some (sr_i a0), some (sr_i a1), some (sr_i a2), none] [] t (f5_addHop_60 a0 a1 a2   t) 0 0 := by
  intro t
  unfold f5_addHop_60
  exact sr_ret (pc := 60) (by decide +kernel) rfl
def f5_addHop_33 (a0 : Int32) (a1 : Int32) (a2 : Int32)  : sr_t → sr_Rs := fun  t => (if a2 = 0 then f5_addHop_60 a0 a1 a2 t else (if a1 < 0 then f5_addHop_60 a0 a1 a2 t else (if 24 ≤ a1 then f5_addHop_60 a0 a1 a2 t else (if a1 < 0 ∨ 24 ≤ a1.toNatClampNeg then none else (if a1 < 0 ∨ 24 ≤ a1.toNatClampNeg then none else sr_lt (sr_u t 15 0 a1.toNatClampNeg ((t.1 15 0 a1.toNatClampNeg) + 1)) (fun t1 => f5_addHop_60 a0 a1 a2 t1))))))
theorem g5_addHop_33 (l : Launch) (a0 : Int32) (a1 : Int32) (a2 : Int32)    : ∀ (t : sr_t), sr_g l sr_m5_addHop 33 [some (sr_r 5 0), some (sr_i a0), some (sr_i a1), some (sr_i a2), none] [] t (f5_addHop_33 a0 a1 a2   t) 0 0 := by
  intro t
  unfold f5_addHop_33
  refine sr_iloadn (pc := 33) (n := 3) (by decide +kernel) rfl ?_
  refine sr_if_eq (pc := 34) (off := 26) (tg := 60) (by decide +kernel) (by decide) (fun _ => ?_) (fun _ => ?_)
  · exact sr_wk (sr_mono (mc := 0) (ms := 0) (by omega) (by omega) (g5_addHop_60 l a0 a1 a2 t)) ⟨rfl, ⟨rfl, ⟨rfl, ⟨rfl, trivial⟩⟩⟩⟩
  · refine sr_iloadn (pc := 37) (n := 2) (by decide +kernel) rfl ?_
    refine sr_if_lt (pc := 38) (off := 22) (tg := 60) (by decide +kernel) (by decide) (fun _ => ?_) (fun _ => ?_)
    · exact sr_wk (sr_mono (mc := 0) (ms := 0) (by omega) (by omega) (g5_addHop_60 l a0 a1 a2 t)) ⟨rfl, ⟨rfl, ⟨rfl, ⟨rfl, trivial⟩⟩⟩⟩
    · refine sr_iloadn (pc := 41) (n := 2) (by decide +kernel) rfl ?_
      refine sr_aloadn (pc := 42) (n := 0) (by decide +kernel) rfl ?_
      refine sr_gC (pc := 43) (i2 := 0) fg_5_9 (by decide +kernel) (sr_in5 _ (by omega)) (fun _ => rfl) ?_
      refine sr_al' (pc := 46) (ty := 0) (n := 24) (v := 24) rfl (by decide) (by decide +kernel) (sr_in15 _ (by omega)) (by decide) ?_
      refine sr_icmp_ge (pc := 47) (off := 13) (tg := 60) (by decide +kernel) (by decide) (fun _ => ?_) (fun _ => ?_)
      · exact sr_wk (sr_mono (mc := 0) (ms := 0) (by omega) (by omega) (g5_addHop_60 l a0 a1 a2 t)) ⟨rfl, ⟨rfl, ⟨rfl, ⟨rfl, trivial⟩⟩⟩⟩
      · refine sr_aloadn (pc := 50) (n := 0) (by decide +kernel) rfl ?_
        refine sr_gC (pc := 51) (i2 := 0) fg_5_9 (by decide +kernel) (sr_in5 _ (by omega)) (fun _ => rfl) ?_
        refine sr_iloadn (pc := 54) (n := 2) (by decide +kernel) rfl ?_
        refine sr_dup2 (pc := 55) (by decide +kernel) rfl rfl ?_
        refine sr_aI (pc := 56) (n := 24) rfl (by decide +kernel) (sr_in15 _ (by omega)) (fun _ _ => rfl) ?_
        refine sr_iconst (pc := 57) (n := 1) (v := 1) (by decide +kernel) rfl ?_
        refine sr_iadd (pc := 58) (by decide +kernel) ?_
        refine sr_sI (pc := 59) (n := 24) rfl (by decide +kernel) (sr_in15 _ (by omega)) (fun _ _ => rfl) (fun t1 => ?_)
        exact sr_wk (sr_mono (mc := 0) (ms := 0) (by omega) (by omega) (g5_addHop_60 l a0 a1 a2 t1)) ⟨rfl, ⟨rfl, ⟨rfl, ⟨rfl, trivial⟩⟩⟩⟩
def F5_addHop (a0 : Int32) (a1 : Int32) (a2 : Int32) (t : sr_t) : sr_Rs := (sr_bI (F5_crossingOf a0 a1 t) (fun v1 t1 => (if v1 < 0 then f5_addHop_33 a0 a1 a2 t1 else (if 576 ≤ v1 then f5_addHop_33 a0 a1 a2 t1 else (if v1 < 0 ∨ 576 ≤ v1.toNatClampNeg then none else (if v1 < 0 ∨ 576 ≤ v1.toNatClampNeg then none else sr_lt (sr_u t1 16 0 v1.toNatClampNeg ((t1.1 16 0 v1.toNatClampNeg) + 1)) (fun t2 => f5_addHop_33 a0 a1 a2 t2)))))))
theorem C5_addHop (l : Launch) (a0 : Int32) (a1 : Int32) (a2 : Int32)  (t : sr_t) : sr_ct' l sr_m5_addHop [sr_r 5 0, sr_i a0, sr_i a1, sr_i a2] t (F5_addHop a0 a1 a2 t) 0 0 := by
  refine sr_T_of (L0 := [some (sr_r 5 0), some (sr_i a0), some (sr_i a1), some (sr_i a2), none]) rfl (by decide +kernel) (fun _ => rfl) (fun _ => Nat.le_of_ble_eq_true rfl) ?_
  unfold F5_addHop
  refine sr_iloadn (pc := 0) (n := 1) (by decide +kernel) rfl ?_
  refine sr_iloadn (pc := 1) (n := 2) (by decide +kernel) rfl ?_
  refine sr_cS (pc := 2) (As := [sr_i a0, sr_i a1]) (mc1 := 0) (ms1 := 0) (mc2 := 0) (ms2 := 0) fm_5_121 fl_5_121 (by decide +kernel) (rm_5_addHop_5_crossingOf) rfl rfl rfl (C5_crossingOf l a0 a1 t) ?_
  refine sr_kI (fun v1 t1 => ?_)
  refine sr_istore (pc := 5) (i := 4) (by decide +kernel) (by decide) rfl rfl ?_
  refine sr_iload (pc := 7) (i := 4) (by decide +kernel) rfl ?_
  refine sr_if_lt (pc := 9) (off := 24) (tg := 33) (by decide +kernel) (by decide) (fun _ => ?_) (fun _ => ?_)
  · exact sr_wk (sr_mono (mc := 0) (ms := 0) (by omega) (by omega) (g5_addHop_33 l a0 a1 a2 t1)) ⟨rfl, ⟨rfl, ⟨rfl, ⟨rfl, trivial⟩⟩⟩⟩
  · refine sr_iload (pc := 12) (i := 4) (by decide +kernel) rfl ?_
    refine sr_aloadn (pc := 14) (n := 0) (by decide +kernel) rfl ?_
    refine sr_gC (pc := 15) (i2 := 0) fg_5_15 (by decide +kernel) (sr_in5 _ (by omega)) (fun _ => rfl) ?_
    refine sr_al' (pc := 18) (ty := 0) (n := 576) (v := 576) rfl (by decide) (by decide +kernel) (sr_in16 _ (by omega)) (by decide) ?_
    refine sr_icmp_ge (pc := 19) (off := 14) (tg := 33) (by decide +kernel) (by decide) (fun _ => ?_) (fun _ => ?_)
    · exact sr_wk (sr_mono (mc := 0) (ms := 0) (by omega) (by omega) (g5_addHop_33 l a0 a1 a2 t1)) ⟨rfl, ⟨rfl, ⟨rfl, ⟨rfl, trivial⟩⟩⟩⟩
    · refine sr_aloadn (pc := 22) (n := 0) (by decide +kernel) rfl ?_
      refine sr_gC (pc := 23) (i2 := 0) fg_5_15 (by decide +kernel) (sr_in5 _ (by omega)) (fun _ => rfl) ?_
      refine sr_iload (pc := 26) (i := 4) (by decide +kernel) rfl ?_
      refine sr_dup2 (pc := 28) (by decide +kernel) rfl rfl ?_
      refine sr_aI (pc := 29) (n := 576) rfl (by decide +kernel) (sr_in16 _ (by omega)) (fun _ _ => rfl) ?_
      refine sr_iconst (pc := 30) (n := 1) (v := 1) (by decide +kernel) rfl ?_
      refine sr_iadd (pc := 31) (by decide +kernel) ?_
      refine sr_sI (pc := 32) (n := 576) rfl (by decide +kernel) (sr_in16 _ (by omega)) (fun _ _ => rfl) (fun t2 => ?_)
      exact sr_wk (sr_mono (mc := 0) (ms := 0) (by omega) (by omega) (g5_addHop_33 l a0 a1 a2 t2)) ⟨rfl, ⟨rfl, ⟨rfl, ⟨rfl, trivial⟩⟩⟩⟩
def f5_traceTrip_70  (k4 : Int32 → Int32 → sr_t → sr_Rs) (k76 : sr_t → sr_Rs) : Int32 → Int32 → sr_t → sr_Rs := fun x1 x2 t => k4 x1 (x2 + 1) t
theorem g5_traceTrip_70 (l : Launch)   (k4 : Int32 → Int32 → sr_t → sr_Rs) (k76 : sr_t → sr_Rs) (hk4 : ∀ (x1 : Int32) (x2 : Int32), ∀ (t : sr_t), sr_g l sr_m5_traceTrip 4 [some (sr_r 5 0), some (sr_i x1), some (sr_i x2), none, none] [] t (k4 x1 x2 t) 0 0) (hk76 : ∀ (t : sr_t), sr_g l sr_m5_traceTrip 76 [some (sr_r 5 0), none, none, none, none] [] t (k76 t) 0 0) : ∀ (x1 : Int32) (x2 : Int32), ∀ (t : sr_t), sr_g l sr_m5_traceTrip 70 [some (sr_r 5 0), some (sr_i x1), some (sr_i x2), none, none] [] t (f5_traceTrip_70  k4 k76 x1 x2 t) 0 0 := by
  intro x1 x2  t
  unfold f5_traceTrip_70
  refine sr_iinc (pc := 70) (i := 2) (n := 1) (w := x2 + 1) (by decide +kernel) rfl rfl (by decide) rfl rfl ?_
  refine sr_goto (pc := 73) (off := (-69)) (tg := 4) (by decide +kernel) (by decide) ?_
  exact sr_wk (sr_mono (mc := 0) (ms := 0) (by omega) (by omega) (hk4 x1 (x2 + 1) t)) ⟨rfl, ⟨rfl, ⟨rfl, trivial⟩⟩⟩
def f5_traceTrip_59  (k4 : Int32 → Int32 → sr_t → sr_Rs) (k76 : sr_t → sr_Rs) : Int32 → Int32 → Int32 → Int32 → Int32 → Int32 → sr_t → sr_Rs := fun x1 x2 x4 xs0 xs1 xs2 t => (sr_bV (F5_addHop xs2 xs1 xs0 t) (fun t1 => (sr_bI (sr_nt (F10_bit x4 t1)) (fun v2 t2 => f5_traceTrip_70 k4 k76 (x1 ||| v2) x2 t2))))
theorem g5_traceTrip_59 (l : Launch)   (k4 : Int32 → Int32 → sr_t → sr_Rs) (k76 : sr_t → sr_Rs) (hk4 : ∀ (x1 : Int32) (x2 : Int32), ∀ (t : sr_t), sr_g l sr_m5_traceTrip 4 [some (sr_r 5 0), some (sr_i x1), some (sr_i x2), none, none] [] t (k4 x1 x2 t) 0 0) (hk76 : ∀ (t : sr_t), sr_g l sr_m5_traceTrip 76 [some (sr_r 5 0), none, none, none, none] [] t (k76 t) 0 0) : ∀ (x1 : Int32) (x2 : Int32) (x4 : Int32) (xs0 : Int32) (xs1 : Int32) (xs2 : Int32), ∀ (t : sr_t), sr_g l sr_m5_traceTrip 59 [some (sr_r 5 0), some (sr_i x1), some (sr_i x2), none, some (sr_i x4)] [sr_i xs0, sr_i xs1, sr_i xs2, sr_r 5 0] t (f5_traceTrip_59  k4 k76 x1 x2 x4 xs0 xs1 xs2 t) 0 0 := by
  intro x1 x2 x4 xs0 xs1 xs2  t
  unfold f5_traceTrip_59
  refine sr_cV (pc := 59) (As := [sr_i xs2, sr_i xs1, sr_i xs0]) (mc1 := 0) (ms1 := 0) (mc2 := 0) (ms2 := 0) fm_5_114 fl_5_114 (by decide +kernel) (sr_in5 _ (by omega)) (rm_5_traceTrip_5_addHop) rfl rfl rfl (C5_addHop l xs2 xs1 xs0 t) ?_
  refine sr_kV (fun t1 => ?_)
  refine sr_iloadn (pc := 62) (n := 1) (by decide +kernel) rfl ?_
  refine sr_iload (pc := 63) (i := 4) (by decide +kernel) rfl ?_
  refine sr_cSN (pc := 65) (As := [sr_i x4]) (mc1 := 0) (ms1 := 0) (mc2 := 0) (ms2 := 0) fm_5_118 fl_5_118 (by decide +kernel) (rm_5_traceTrip_10_bit) rfl rfl rfl (C10_bit l x4 t1) ?_
  refine sr_kI (fun v2 t2 => ?_)
  refine sr_ior (pc := 68) (by decide +kernel) ?_
  refine sr_istoren (pc := 69) (n := 1) (by decide +kernel) (by decide) rfl rfl ?_
  exact sr_wk (sr_mono (mc := 0) (ms := 0) (by omega) (by omega) (g5_traceTrip_70 l k4 k76 hk4 hk76 (x1 ||| v2) x2 t2)) ⟨rfl, ⟨rfl, ⟨rfl, trivial⟩⟩⟩
def f5_traceTrip_4  (k76 : sr_t → sr_Rs) : Nat → Int32 → Int32 → sr_t → sr_Rs
  | 0 => fun _ _ _ => none
  | n + 1 => fun x1 x2 t => (if (t.1 8 2 8) ≤ x2 then k76 t else (sr_bI (F8_partOfStep 2 x2 0 t) (fun v1 t1 => (sr_bI (F8_nodeBehindStep 2 x2 t1) (fun v2 t2 => (if v1 = v2 then f5_traceTrip_70 (f5_traceTrip_4 k76 n) k76 x1 x2 t2 else (sr_bI (sr_nt (F10_hasBit x1 v2 t2)) (fun v3 t3 => (if v3 = 0 then f5_traceTrip_59 (f5_traceTrip_4 k76 n) k76 x1 x2 v2 1 v2 v1 t3 else f5_traceTrip_59 (f5_traceTrip_4 k76 n) k76 x1 x2 v2 0 v2 v1 t3)))))))))
theorem g5_traceTrip_4 (l : Launch)   (k76 : sr_t → sr_Rs) (hk76 : ∀ (t : sr_t), sr_g l sr_m5_traceTrip 76 [some (sr_r 5 0), none, none, none, none] [] t (k76 t) 0 0) : ∀ (n : Nat) (x1 : Int32) (x2 : Int32), ∀ (t : sr_t), sr_g l sr_m5_traceTrip 4 [some (sr_r 5 0), some (sr_i x1), some (sr_i x2), none, none] [] t (f5_traceTrip_4  k76 n x1 x2 t) 0 0 := by
  intro n
  induction n with
  | zero => intros; exact sr_Gn
  | succ n ih =>
    intro x1 x2  t
    unfold f5_traceTrip_4
    refine sr_iloadn (pc := 4) (n := 2) (by decide +kernel) rfl ?_
    refine sr_aloadn (pc := 5) (n := 0) (by decide +kernel) rfl ?_
    refine sr_gC (pc := 6) (i2 := 2) fg_5_23 (by decide +kernel) (sr_in5 _ (by omega)) (fun _ => rfl) ?_
    refine sr_gI (pc := 9) fg_5_100 (by decide +kernel) (sr_in8 _ (by omega)) (fun _ => rfl) ?_
    refine sr_icmp_ge (pc := 12) (off := 64) (tg := 76) (by decide +kernel) (by decide) (fun _ => ?_) (fun _ => ?_)
    · exact sr_wk (sr_mono (mc := 0) (ms := 0) (by omega) (by omega) (hk76 t)) ⟨rfl, trivial⟩
    · refine sr_aloadn (pc := 15) (n := 0) (by decide +kernel) rfl ?_
      refine sr_gC (pc := 16) (i2 := 2) fg_5_23 (by decide +kernel) (sr_in5 _ (by omega)) (fun _ => rfl) ?_
      refine sr_iloadn (pc := 19) (n := 2) (by decide +kernel) rfl ?_
      refine sr_iconst (pc := 20) (n := 0) (v := 0) (by decide +kernel) rfl ?_
      refine sr_cV (pc := 21) (As := [sr_i x2, sr_i 0]) (mc1 := 0) (ms1 := 0) (mc2 := 0) (ms2 := 0) fm_5_103 fl_5_103 (by decide +kernel) (sr_in8 _ (by omega)) (rm_5_traceTrip_8_partOfStep) rfl rfl rfl (C8_partOfStep l 2 x2 0 (by omega) t) ?_
      refine sr_kI (fun v1 t1 => ?_)
      refine sr_istoren (pc := 24) (n := 3) (by decide +kernel) (by decide) rfl rfl ?_
      refine sr_aloadn (pc := 25) (n := 0) (by decide +kernel) rfl ?_
      refine sr_gC (pc := 26) (i2 := 2) fg_5_23 (by decide +kernel) (sr_in5 _ (by omega)) (fun _ => rfl) ?_
      refine sr_iloadn (pc := 29) (n := 2) (by decide +kernel) rfl ?_
      refine sr_cV (pc := 30) (As := [sr_i x2]) (mc1 := 0) (ms1 := 0) (mc2 := 0) (ms2 := 0) fm_5_106 fl_5_106 (by decide +kernel) (sr_in8 _ (by omega)) (rm_5_traceTrip_8_nodeBehindStep) rfl rfl rfl (C8_nodeBehindStep l 2 x2 (by omega) t1) ?_
      refine sr_kI (fun v2 t2 => ?_)
      refine sr_istore (pc := 33) (i := 4) (by decide +kernel) (by decide) rfl rfl ?_
      refine sr_iloadn (pc := 35) (n := 3) (by decide +kernel) rfl ?_
      refine sr_iload (pc := 36) (i := 4) (by decide +kernel) rfl ?_
      refine sr_icmp_eq (pc := 38) (off := 32) (tg := 70) (by decide +kernel) (by decide) (fun _ => ?_) (fun _ => ?_)
      · exact sr_wk (sr_mono (mc := 0) (ms := 0) (by omega) (by omega) (g5_traceTrip_70 l (f5_traceTrip_4 k76 n) k76 ih hk76 x1 x2 t2)) ⟨rfl, ⟨rfl, ⟨rfl, trivial⟩⟩⟩
      · refine sr_aloadn (pc := 41) (n := 0) (by decide +kernel) rfl ?_
        refine sr_iloadn (pc := 42) (n := 3) (by decide +kernel) rfl ?_
        refine sr_iload (pc := 43) (i := 4) (by decide +kernel) rfl ?_
        refine sr_iloadn (pc := 45) (n := 1) (by decide +kernel) rfl ?_
        refine sr_iload (pc := 46) (i := 4) (by decide +kernel) rfl ?_
        refine sr_cSN (pc := 48) (As := [sr_i x1, sr_i v2]) (mc1 := 0) (ms1 := 0) (mc2 := 0) (ms2 := 0) fm_5_110 fl_5_110 (by decide +kernel) (rm_5_traceTrip_10_hasBit) rfl rfl rfl (C10_hasBit l x1 v2 t2) ?_
        refine sr_kI (fun v3 t3 => ?_)
        refine sr_if_ne (pc := 51) (off := 7) (tg := 58) (by decide +kernel) (by decide) (fun _ => ?_) (fun _ => ?_)
        · refine sr_iconst (pc := 58) (n := 0) (v := 0) (by decide +kernel) rfl ?_
          exact sr_wk (sr_mono (mc := 0) (ms := 0) (by omega) (by omega) (g5_traceTrip_59 l (f5_traceTrip_4 k76 n) k76 ih hk76 x1 x2 v2 0 v2 v1 t3)) ⟨rfl, ⟨rfl, ⟨rfl, ⟨rfl, trivial⟩⟩⟩⟩
        · refine sr_iconst (pc := 54) (n := 1) (v := 1) (by decide +kernel) rfl ?_
          refine sr_goto (pc := 55) (off := 4) (tg := 59) (by decide +kernel) (by decide) ?_
          exact sr_wk (sr_mono (mc := 0) (ms := 0) (by omega) (by omega) (g5_traceTrip_59 l (f5_traceTrip_4 k76 n) k76 ih hk76 x1 x2 v2 1 v2 v1 t3)) ⟨rfl, ⟨rfl, ⟨rfl, ⟨rfl, trivial⟩⟩⟩⟩
def f5_traceTrip_76   : sr_t → sr_Rs := fun  t => (some (.inl none, t))
theorem g5_traceTrip_76 (l : Launch)     : ∀ (t : sr_t), sr_g l sr_m5_traceTrip 76 [some (sr_r 5 0), none, none, none, none] [] t (f5_traceTrip_76    t) 0 0 := by
  intro t
  unfold f5_traceTrip_76
  exact sr_ret (pc := 76) (by decide +kernel) rfl
def F5_traceTrip  (t : sr_t) : sr_Rs := f5_traceTrip_4 f5_traceTrip_76 sr_fu 0 0 t
theorem C5_traceTrip (l : Launch)   (t : sr_t) : sr_ct' l sr_m5_traceTrip [sr_r 5 0] t (F5_traceTrip  t) 0 0 := by
  refine sr_T_of (L0 := [some (sr_r 5 0), none, none, none, none]) rfl (by decide +kernel) (fun _ => rfl) (fun _ => Nat.le_of_ble_eq_true rfl) ?_
  unfold F5_traceTrip
  refine sr_iconst (pc := 0) (n := 0) (v := 0) (by decide +kernel) rfl ?_
  refine sr_istoren (pc := 1) (n := 1) (by decide +kernel) (by decide) rfl rfl ?_
  refine sr_iconst (pc := 2) (n := 0) (v := 0) (by decide +kernel) rfl ?_
  refine sr_istoren (pc := 3) (n := 2) (by decide +kernel) (by decide) rfl rfl ?_
  exact sr_wk (sr_mono (mc := 0) (ms := 0) (by omega) (by omega) (g5_traceTrip_4 l f5_traceTrip_76 (g5_traceTrip_76 l) sr_fu 0 0 t)) ⟨rfl, ⟨rfl, ⟨rfl, trivial⟩⟩⟩
def f5_run_69 (i1 : Nat) (a1 : Int32) (a2 : Int32) (k27 : Int32 → Nat → Int32 → sr_t → sr_Rs) (k75 : Int32 → sr_t → sr_Rs) : Int32 → Nat → Int32 → sr_t → sr_Rs := fun x4 j5 x6 t => k27 x4 j5 (x6 + 64) t
theorem g5_run_69 (l : Launch) (i1 : Nat) (a1 : Int32) (a2 : Int32) (hv_i1 : i1 < 2) (k27 : Int32 → Nat → Int32 → sr_t → sr_Rs) (k75 : Int32 → sr_t → sr_Rs) (hk27 : ∀ (x4 : Int32) (j5 : Nat) (x6 : Int32), j5 < 50 → ∀ (t : sr_t), sr_g l sr_m5_run 27 [some (sr_r 5 0), some (sr_r 3 i1), some (sr_i a1), some (sr_i a2), some (sr_i x4), some (sr_r 2 j5), some (sr_i x6)] [] t (k27 x4 j5 x6 t) 0 0) (hk75 : ∀ (x4 : Int32), ∀ (t : sr_t), sr_g l sr_m5_run 75 [some (sr_r 5 0), some (sr_r 3 i1), some (sr_i a1), some (sr_i a2), some (sr_i x4), none, none] [] t (k75 x4 t) 0 0) : ∀ (x4 : Int32) (j5 : Nat) (x6 : Int32), j5 < 50 → ∀ (t : sr_t), sr_g l sr_m5_run 69 [some (sr_r 5 0), some (sr_r 3 i1), some (sr_i a1), some (sr_i a2), some (sr_i x4), some (sr_r 2 j5), some (sr_i x6)] [] t (f5_run_69 i1 a1 a2 k27 k75 x4 j5 x6 t) 0 0 := by
  intro x4 j5 x6 hv_j5 t
  unfold f5_run_69
  refine sr_iinc (pc := 69) (i := 6) (n := 64) (w := x6 + 64) (by decide +kernel) rfl rfl (by decide) rfl rfl ?_
  refine sr_goto (pc := 72) (off := (-45)) (tg := 27) (by decide +kernel) (by decide) ?_
  exact sr_wk (sr_mono (mc := 0) (ms := 0) (by omega) (by omega) (hk27 x4 j5 (x6 + 64) (by omega) t)) ⟨rfl, ⟨rfl, ⟨rfl, ⟨rfl, ⟨rfl, ⟨rfl, ⟨rfl, trivial⟩⟩⟩⟩⟩⟩⟩
def f5_run_27 (i1 : Nat) (a1 : Int32) (a2 : Int32) (k75 : Int32 → sr_t → sr_Rs) : Nat → Int32 → Nat → Int32 → sr_t → sr_Rs
  | 0 => fun _ _ _ _ => none
  | n + 1 => fun x4 j5 x6 t => (if 4096 ≤ x6 then k75 x4 t else (if (t.1 2 j5 2) = 0 then k75 x4 t else (sr_bI (F8_travel 2 i1 j5 x6 a1 t) (fun v1 t1 => (sr_bV (F5_addTrip t1) (fun t2 => (if a2 = 0 then f5_run_69 i1 a1 a2 (f5_run_27 i1 a1 a2 k75 n) k75 x4 j5 x6 t2 else (sr_bV (F5_traceTrip t2) (fun t3 => f5_run_69 i1 a1 a2 (f5_run_27 i1 a1 a2 k75 n) k75 x4 j5 x6 t3)))))))))
theorem g5_run_27 (l : Launch) (i1 : Nat) (a1 : Int32) (a2 : Int32) (hv_i1 : i1 < 2) (k75 : Int32 → sr_t → sr_Rs) (hk75 : ∀ (x4 : Int32), ∀ (t : sr_t), sr_g l sr_m5_run 75 [some (sr_r 5 0), some (sr_r 3 i1), some (sr_i a1), some (sr_i a2), some (sr_i x4), none, none] [] t (k75 x4 t) 0 0) : ∀ (n : Nat) (x4 : Int32) (j5 : Nat) (x6 : Int32), j5 < 50 → ∀ (t : sr_t), sr_g l sr_m5_run 27 [some (sr_r 5 0), some (sr_r 3 i1), some (sr_i a1), some (sr_i a2), some (sr_i x4), some (sr_r 2 j5), some (sr_i x6)] [] t (f5_run_27 i1 a1 a2 k75 n x4 j5 x6 t) 0 0 := by
  intro n
  induction n with
  | zero => intros; exact sr_Gn
  | succ n ih =>
    intro x4 j5 x6 hv_j5 t
    unfold f5_run_27
    refine sr_iload (pc := 27) (i := 6) (by decide +kernel) rfl ?_
    refine sr_sipush (pc := 29) (n := 4096) (v := 4096) (by decide +kernel) (by decide) ?_
    refine sr_icmp_ge (pc := 32) (off := 43) (tg := 75) (by decide +kernel) (by decide) (fun _ => ?_) (fun _ => ?_)
    · exact sr_wk (sr_mono (mc := 0) (ms := 0) (by omega) (by omega) (hk75 x4 t)) ⟨rfl, ⟨rfl, ⟨rfl, ⟨rfl, ⟨rfl, trivial⟩⟩⟩⟩⟩
    · refine sr_aload (pc := 35) (i := 5) (by decide +kernel) rfl ?_
      refine sr_gI (pc := 37) fg_5_40 (by decide +kernel) (sr_in2 _ (by omega)) (fun _ => rfl) ?_
      refine sr_if_eq (pc := 40) (off := 35) (tg := 75) (by decide +kernel) (by decide) (fun _ => ?_) (fun _ => ?_)
      · exact sr_wk (sr_mono (mc := 0) (ms := 0) (by omega) (by omega) (hk75 x4 t)) ⟨rfl, ⟨rfl, ⟨rfl, ⟨rfl, ⟨rfl, trivial⟩⟩⟩⟩⟩
      · refine sr_aloadn (pc := 43) (n := 0) (by decide +kernel) rfl ?_
        refine sr_gC (pc := 44) (i2 := 2) fg_5_23 (by decide +kernel) (sr_in5 _ (by omega)) (fun _ => rfl) ?_
        refine sr_aloadn (pc := 47) (n := 1) (by decide +kernel) rfl ?_
        refine sr_aload (pc := 48) (i := 5) (by decide +kernel) rfl ?_
        refine sr_iload (pc := 50) (i := 6) (by decide +kernel) rfl ?_
        refine sr_iloadn (pc := 52) (n := 2) (by decide +kernel) rfl ?_
        refine sr_cV (pc := 53) (As := [sr_r 3 i1, sr_r 2 j5, sr_i x6, sr_i a1]) (mc1 := 0) (ms1 := 0) (mc2 := 0) (ms2 := 0) fm_5_46 fl_5_46 (by decide +kernel) (sr_in8 _ (by omega)) (rm_5_run_8_travel) rfl rfl rfl (C8_travel l 2 i1 j5 x6 a1 (by omega) (by omega) (by omega) t) ?_
        refine sr_kI (fun v1 t1 => ?_)
        refine sr_pop (pc := 56) (by decide +kernel) rfl ?_
        refine sr_aloadn (pc := 57) (n := 0) (by decide +kernel) rfl ?_
        refine sr_cV (pc := 58) (As := []) (mc1 := 0) (ms1 := 0) (mc2 := 0) (ms2 := 0) fm_5_50 fl_5_50 (by decide +kernel) (sr_in5 _ (by omega)) (rm_5_run_5_addTrip) rfl rfl rfl (C5_addTrip l t1) ?_
        refine sr_kV (fun t2 => ?_)
        refine sr_iloadn (pc := 61) (n := 3) (by decide +kernel) rfl ?_
        refine sr_if_eq (pc := 62) (off := 7) (tg := 69) (by decide +kernel) (by decide) (fun _ => ?_) (fun _ => ?_)
        · exact sr_wk (sr_mono (mc := 0) (ms := 0) (by omega) (by omega) (g5_run_69 l i1 a1 a2 hv_i1 (f5_run_27 i1 a1 a2 k75 n) k75 ih hk75 x4 j5 x6 (by omega) t2)) ⟨rfl, ⟨rfl, ⟨rfl, ⟨rfl, ⟨rfl, ⟨rfl, ⟨rfl, trivial⟩⟩⟩⟩⟩⟩⟩
        · refine sr_aloadn (pc := 65) (n := 0) (by decide +kernel) rfl ?_
          refine sr_cV (pc := 66) (As := []) (mc1 := 0) (ms1 := 0) (mc2 := 0) (ms2 := 0) fm_5_53 fl_5_53 (by decide +kernel) (sr_in5 _ (by omega)) (rm_5_run_5_traceTrip) rfl rfl rfl (C5_traceTrip l t2) ?_
          refine sr_kV (fun t3 => ?_)
          exact sr_wk (sr_mono (mc := 0) (ms := 0) (by omega) (by omega) (g5_run_69 l i1 a1 a2 hv_i1 (f5_run_27 i1 a1 a2 k75 n) k75 ih hk75 x4 j5 x6 (by omega) t3)) ⟨rfl, ⟨rfl, ⟨rfl, ⟨rfl, ⟨rfl, ⟨rfl, ⟨rfl, trivial⟩⟩⟩⟩⟩⟩⟩
def f5_run_75 (i1 : Nat) (a1 : Int32) (a2 : Int32) (k7 : Int32 → sr_t → sr_Rs) (k81 : sr_t → sr_Rs) : Int32 → sr_t → sr_Rs := fun x4 t => k7 (x4 + 1) t
theorem g5_run_75 (l : Launch) (i1 : Nat) (a1 : Int32) (a2 : Int32) (hv_i1 : i1 < 2) (k7 : Int32 → sr_t → sr_Rs) (k81 : sr_t → sr_Rs) (hk7 : ∀ (x4 : Int32), ∀ (t : sr_t), sr_g l sr_m5_run 7 [some (sr_r 5 0), some (sr_r 3 i1), some (sr_i a1), some (sr_i a2), some (sr_i x4), none, none] [] t (k7 x4 t) 0 0) (hk81 : ∀ (t : sr_t), sr_g l sr_m5_run 81 [some (sr_r 5 0), some (sr_r 3 i1), some (sr_i a1), some (sr_i a2), none, none, none] [] t (k81 t) 0 0) : ∀ (x4 : Int32), ∀ (t : sr_t), sr_g l sr_m5_run 75 [some (sr_r 5 0), some (sr_r 3 i1), some (sr_i a1), some (sr_i a2), some (sr_i x4), none, none] [] t (f5_run_75 i1 a1 a2 k7 k81 x4 t) 0 0 := by
  intro x4  t
  unfold f5_run_75
  refine sr_iinc (pc := 75) (i := 4) (n := 1) (w := x4 + 1) (by decide +kernel) rfl rfl (by decide) rfl rfl ?_
  refine sr_goto (pc := 78) (off := (-71)) (tg := 7) (by decide +kernel) (by decide) ?_
  exact sr_wk (sr_mono (mc := 0) (ms := 0) (by omega) (by omega) (hk7 (x4 + 1) t)) ⟨rfl, ⟨rfl, ⟨rfl, ⟨rfl, ⟨rfl, trivial⟩⟩⟩⟩⟩
def f5_run_7 (i1 : Nat) (a1 : Int32) (a2 : Int32) (k81 : sr_t → sr_Rs) : Nat → Int32 → sr_t → sr_Rs
  | 0 => fun _ _ => none
  | n + 1 => fun x4 t => (if (t.1 3 i1 3) ≤ x4 then k81 t else (sr_bR 2 50 (F3_of i1 x4 t) (fun n1 t1 => f5_run_27 i1 a1 a2 (f5_run_75 i1 a1 a2 (f5_run_7 i1 a1 a2 k81 n) k81) sr_fu x4 n1 0 t1)))
theorem g5_run_7 (l : Launch) (i1 : Nat) (a1 : Int32) (a2 : Int32) (hv_i1 : i1 < 2) (k81 : sr_t → sr_Rs) (hk81 : ∀ (t : sr_t), sr_g l sr_m5_run 81 [some (sr_r 5 0), some (sr_r 3 i1), some (sr_i a1), some (sr_i a2), none, none, none] [] t (k81 t) 0 0) : ∀ (n : Nat) (x4 : Int32), ∀ (t : sr_t), sr_g l sr_m5_run 7 [some (sr_r 5 0), some (sr_r 3 i1), some (sr_i a1), some (sr_i a2), some (sr_i x4), none, none] [] t (f5_run_7 i1 a1 a2 k81 n x4 t) 0 0 := by
  intro n
  induction n with
  | zero => intros; exact sr_Gn
  | succ n ih =>
    intro x4  t
    unfold f5_run_7
    refine sr_iload (pc := 7) (i := 4) (by decide +kernel) rfl ?_
    refine sr_aloadn (pc := 9) (n := 1) (by decide +kernel) rfl ?_
    refine sr_gI (pc := 10) fg_5_30 (by decide +kernel) (sr_in3 _ (by omega)) (fun _ => rfl) ?_
    refine sr_icmp_ge (pc := 13) (off := 68) (tg := 81) (by decide +kernel) (by decide) (fun _ => ?_) (fun _ => ?_)
    · exact sr_wk (sr_mono (mc := 0) (ms := 0) (by omega) (by omega) (hk81 t)) ⟨rfl, ⟨rfl, ⟨rfl, ⟨rfl, trivial⟩⟩⟩⟩
    · refine sr_aloadn (pc := 16) (n := 1) (by decide +kernel) rfl ?_
      refine sr_iload (pc := 17) (i := 4) (by decide +kernel) rfl ?_
      refine sr_cV (pc := 19) (As := [sr_i x4]) (mc1 := 0) (ms1 := 0) (mc2 := 0) (ms2 := 0) fm_5_36 fl_5_36 (by decide +kernel) (sr_in3 _ (by omega)) (rm_5_run_3_of) rfl rfl rfl (C3_of l i1 x4 (by omega) t) ?_
      refine sr_kR (fun n1 t1 hv_n1 => ?_)
      refine sr_astore (pc := 22) (i := 5) (by decide +kernel) (by decide) rfl rfl ?_
      refine sr_iconst (pc := 24) (n := 0) (v := 0) (by decide +kernel) rfl ?_
      refine sr_istore (pc := 25) (i := 6) (by decide +kernel) (by decide) rfl rfl ?_
      exact sr_wk (sr_mono (mc := 0) (ms := 0) (by omega) (by omega) (g5_run_27 l i1 a1 a2 hv_i1 (f5_run_75 i1 a1 a2 (f5_run_7 i1 a1 a2 k81 n) k81) (g5_run_75 l i1 a1 a2 hv_i1 (f5_run_7 i1 a1 a2 k81 n) k81 ih hk81) sr_fu x4 n1 0 (by omega) t1)) ⟨rfl, ⟨rfl, ⟨rfl, ⟨rfl, ⟨rfl, ⟨rfl, ⟨rfl, trivial⟩⟩⟩⟩⟩⟩⟩
def f5_run_81 (i1 : Nat) (a1 : Int32) (a2 : Int32)  : sr_t → sr_Rs := fun  t => (some (.inl none, t))
theorem g5_run_81 (l : Launch) (i1 : Nat) (a1 : Int32) (a2 : Int32) (hv_i1 : i1 < 2)   : ∀ (t : sr_t), sr_g l sr_m5_run 81 [some (sr_r 5 0), some (sr_r 3 i1), some (sr_i a1), some (sr_i a2), none, none, none] [] t (f5_run_81 i1 a1 a2   t) 0 0 := by
  intro t
  unfold f5_run_81
  exact sr_ret (pc := 81) (by decide +kernel) rfl
def F5_run (i1 : Nat) (a1 : Int32) (a2 : Int32) (t : sr_t) : sr_Rs := (sr_bV (F5_reset t) (fun t1 => f5_run_7 i1 a1 a2 (f5_run_81 i1 a1 a2) sr_fu 0 t1))
theorem C5_run (l : Launch) (i1 : Nat) (a1 : Int32) (a2 : Int32) (hv_i1 : i1 < 2) (t : sr_t) : sr_ct' l sr_m5_run [sr_r 5 0, sr_r 3 i1, sr_i a1, sr_i a2] t (F5_run i1 a1 a2 t) 0 0 := by
  refine sr_T_of (L0 := [some (sr_r 5 0), some (sr_r 3 i1), some (sr_i a1), some (sr_i a2), none, none, none]) rfl (by decide +kernel) (fun _ => rfl) (fun _ => Nat.le_of_ble_eq_true rfl) ?_
  unfold F5_run
  refine sr_aloadn (pc := 0) (n := 0) (by decide +kernel) rfl ?_
  refine sr_cV (pc := 1) (As := []) (mc1 := 0) (ms1 := 0) (mc2 := 0) (ms2 := 0) fm_5_27 fl_5_27 (by decide +kernel) (sr_in5 _ (by omega)) (rm_5_run_5_reset) rfl rfl rfl (C5_reset l t) ?_
  refine sr_kV (fun t1 => ?_)
  refine sr_iconst (pc := 4) (n := 0) (v := 0) (by decide +kernel) rfl ?_
  refine sr_istore (pc := 5) (i := 4) (by decide +kernel) (by decide) rfl rfl ?_
  exact sr_wk (sr_mono (mc := 0) (ms := 0) (by omega) (by omega) (g5_run_7 l i1 a1 a2 hv_i1 (f5_run_81 i1 a1 a2) (g5_run_81 l i1 a1 a2 hv_i1) sr_fu 0 t1)) ⟨rfl, ⟨rfl, ⟨rfl, ⟨rfl, ⟨rfl, trivial⟩⟩⟩⟩⟩
def F1_harmOf (i1 : Nat) (a1 : Int32) (t : sr_t) : sr_Rs := (sr_bV (F3_copyFrom 1 i1 t) (fun t1 => (sr_bR 2 50 (F3_of 1 a1 t1) (fun n2 t2 => (sr_bV (F3_takeDown 1 n2 t2) (fun t3 => (sr_bV (F5_run 1 1 0 t3) (fun t4 => (some (.inl (some (sr_i (t4.1 5 0 7))), t4))))))))))
theorem C1_harmOf (l : Launch) (i1 : Nat) (a1 : Int32) (hv_i1 : i1 < 2) (t : sr_t) : sr_ct' l sr_m1_harmOf [sr_r 1 0, sr_r 3 i1, sr_i a1] t (F1_harmOf i1 a1 t) 0 0 := by
  refine sr_T_of (L0 := [some (sr_r 1 0), some (sr_r 3 i1), some (sr_i a1)]) rfl (by decide +kernel) (fun _ => rfl) (fun _ => Nat.le_of_ble_eq_true rfl) ?_
  unfold F1_harmOf
  refine sr_aloadn (pc := 0) (n := 0) (by decide +kernel) rfl ?_
  refine sr_gC (pc := 1) (i2 := 1) fg_1_12 (by decide +kernel) (sr_in1 _ (by omega)) (fun _ => rfl) ?_
  refine sr_aloadn (pc := 4) (n := 1) (by decide +kernel) rfl ?_
  refine sr_cV (pc := 5) (As := [sr_r 3 i1]) (mc1 := 0) (ms1 := 0) (mc2 := 0) (ms2 := 0) fm_1_22 fl_1_22 (by decide +kernel) (sr_in3 _ (by omega)) (rm_1_harmOf_3_copyFrom) rfl rfl rfl (C3_copyFrom l 1 i1 (by omega) (by omega) t) ?_
  refine sr_kV (fun t1 => ?_)
  refine sr_aloadn (pc := 8) (n := 0) (by decide +kernel) rfl ?_
  refine sr_gC (pc := 9) (i2 := 1) fg_1_12 (by decide +kernel) (sr_in1 _ (by omega)) (fun _ => rfl) ?_
  refine sr_aloadn (pc := 12) (n := 0) (by decide +kernel) rfl ?_
  refine sr_gC (pc := 13) (i2 := 1) fg_1_12 (by decide +kernel) (sr_in1 _ (by omega)) (fun _ => rfl) ?_
  refine sr_iloadn (pc := 16) (n := 2) (by decide +kernel) rfl ?_
  refine sr_cV (pc := 17) (As := [sr_i a1]) (mc1 := 0) (ms1 := 0) (mc2 := 0) (ms2 := 0) fm_1_68 fl_1_68 (by decide +kernel) (sr_in3 _ (by omega)) (rm_1_harmOf_3_of) rfl rfl rfl (C3_of l 1 a1 (by omega) t1) ?_
  refine sr_kR (fun n2 t2 hv_n2 => ?_)
  refine sr_cV (pc := 20) (As := [sr_r 2 n2]) (mc1 := 0) (ms1 := 0) (mc2 := 0) (ms2 := 0) fm_1_72 fl_1_72 (by decide +kernel) (sr_in3 _ (by omega)) (rm_1_harmOf_3_takeDown) rfl rfl rfl (C3_takeDown l 1 n2 (by omega) (by omega) t2) ?_
  refine sr_kV (fun t3 => ?_)
  refine sr_aloadn (pc := 23) (n := 0) (by decide +kernel) rfl ?_
  refine sr_gC (pc := 24) (i2 := 0) fg_1_18 (by decide +kernel) (sr_in1 _ (by omega)) (fun _ => rfl) ?_
  refine sr_aloadn (pc := 27) (n := 0) (by decide +kernel) rfl ?_
  refine sr_gC (pc := 28) (i2 := 1) fg_1_12 (by decide +kernel) (sr_in1 _ (by omega)) (fun _ => rfl) ?_
  refine sr_iconst (pc := 31) (n := 1) (v := 1) (by decide +kernel) rfl ?_
  refine sr_iconst (pc := 32) (n := 0) (v := 0) (by decide +kernel) rfl ?_
  refine sr_cV (pc := 33) (As := [sr_r 3 1, sr_i 1, sr_i 0]) (mc1 := 0) (ms1 := 0) (mc2 := 0) (ms2 := 0) fm_1_46 fl_1_46 (by decide +kernel) (sr_in5 _ (by omega)) (rm_1_harmOf_5_run) rfl rfl rfl (C5_run l 1 1 0 (by omega) t3) ?_
  refine sr_kV (fun t4 => ?_)
  refine sr_aloadn (pc := 36) (n := 0) (by decide +kernel) rfl ?_
  refine sr_gC (pc := 37) (i2 := 0) fg_1_18 (by decide +kernel) (sr_in1 _ (by omega)) (fun _ => rfl) ?_
  refine sr_gI (pc := 40) fg_1_76 (by decide +kernel) (sr_in5 _ (by omega)) (fun _ => rfl) ?_
  exact sr_iret (pc := 43) (by decide +kernel) rfl
def f1_mostHarmful_53 (i1 : Nat) (k7 : Int32 → Int32 → Int32 → sr_t → sr_Rs) (k59 : Int32 → sr_t → sr_Rs) : Int32 → Int32 → Int32 → sr_t → sr_Rs := fun x2 x3 x4 t => k7 x2 x3 (x4 + 1) t
theorem g1_mostHarmful_53 (l : Launch) (i1 : Nat) (hv_i1 : i1 < 2) (k7 : Int32 → Int32 → Int32 → sr_t → sr_Rs) (k59 : Int32 → sr_t → sr_Rs) (hk7 : ∀ (x2 : Int32) (x3 : Int32) (x4 : Int32), ∀ (t : sr_t), sr_g l sr_m1_mostHarmful 7 [some (sr_r 1 0), some (sr_r 3 i1), some (sr_i x2), some (sr_i x3), some (sr_i x4), none] [] t (k7 x2 x3 x4 t) 0 0) (hk59 : ∀ (x2 : Int32), ∀ (t : sr_t), sr_g l sr_m1_mostHarmful 59 [some (sr_r 1 0), some (sr_r 3 i1), some (sr_i x2), none, none, none] [] t (k59 x2 t) 0 0) : ∀ (x2 : Int32) (x3 : Int32) (x4 : Int32), ∀ (t : sr_t), sr_g l sr_m1_mostHarmful 53 [some (sr_r 1 0), some (sr_r 3 i1), some (sr_i x2), some (sr_i x3), some (sr_i x4), none] [] t (f1_mostHarmful_53 i1 k7 k59 x2 x3 x4 t) 0 0 := by
  intro x2 x3 x4  t
  unfold f1_mostHarmful_53
  refine sr_iinc (pc := 53) (i := 4) (n := 1) (w := x4 + 1) (by decide +kernel) rfl rfl (by decide) rfl rfl ?_
  refine sr_goto (pc := 56) (off := (-49)) (tg := 7) (by decide +kernel) (by decide) ?_
  exact sr_wk (sr_mono (mc := 0) (ms := 0) (by omega) (by omega) (hk7 x2 x3 (x4 + 1) t)) ⟨rfl, ⟨rfl, ⟨rfl, ⟨rfl, ⟨rfl, trivial⟩⟩⟩⟩⟩
def f1_mostHarmful_39 (i1 : Nat) (k7 : Int32 → Int32 → Int32 → sr_t → sr_Rs) (k59 : Int32 → sr_t → sr_Rs) : Int32 → Int32 → Int32 → Int32 → sr_t → sr_Rs := fun x2 x3 x4 xs0 t => (if xs0 ≤ x3 then f1_mostHarmful_53 i1 k7 k59 x2 x3 x4 t else f1_mostHarmful_53 i1 k7 k59 x4 xs0 x4 t)
theorem g1_mostHarmful_39 (l : Launch) (i1 : Nat) (hv_i1 : i1 < 2) (k7 : Int32 → Int32 → Int32 → sr_t → sr_Rs) (k59 : Int32 → sr_t → sr_Rs) (hk7 : ∀ (x2 : Int32) (x3 : Int32) (x4 : Int32), ∀ (t : sr_t), sr_g l sr_m1_mostHarmful 7 [some (sr_r 1 0), some (sr_r 3 i1), some (sr_i x2), some (sr_i x3), some (sr_i x4), none] [] t (k7 x2 x3 x4 t) 0 0) (hk59 : ∀ (x2 : Int32), ∀ (t : sr_t), sr_g l sr_m1_mostHarmful 59 [some (sr_r 1 0), some (sr_r 3 i1), some (sr_i x2), none, none, none] [] t (k59 x2 t) 0 0) : ∀ (x2 : Int32) (x3 : Int32) (x4 : Int32) (xs0 : Int32), ∀ (t : sr_t), sr_g l sr_m1_mostHarmful 39 [some (sr_r 1 0), some (sr_r 3 i1), some (sr_i x2), some (sr_i x3), some (sr_i x4), none] [sr_i xs0] t (f1_mostHarmful_39 i1 k7 k59 x2 x3 x4 xs0 t) 0 0 := by
  intro x2 x3 x4 xs0  t
  unfold f1_mostHarmful_39
  refine sr_istore (pc := 39) (i := 5) (by decide +kernel) (by decide) rfl rfl ?_
  refine sr_iload (pc := 41) (i := 5) (by decide +kernel) rfl ?_
  refine sr_iloadn (pc := 43) (n := 3) (by decide +kernel) rfl ?_
  refine sr_icmp_le (pc := 44) (off := 9) (tg := 53) (by decide +kernel) (by decide) (fun _ => ?_) (fun _ => ?_)
  · exact sr_wk (sr_mono (mc := 0) (ms := 0) (by omega) (by omega) (g1_mostHarmful_53 l i1 hv_i1 k7 k59 hk7 hk59 x2 x3 x4 t)) ⟨rfl, ⟨rfl, ⟨rfl, ⟨rfl, ⟨rfl, trivial⟩⟩⟩⟩⟩
  · refine sr_iload (pc := 47) (i := 5) (by decide +kernel) rfl ?_
    refine sr_istoren (pc := 49) (n := 3) (by decide +kernel) (by decide) rfl rfl ?_
    refine sr_iload (pc := 50) (i := 4) (by decide +kernel) rfl ?_
    refine sr_istoren (pc := 52) (n := 2) (by decide +kernel) (by decide) rfl rfl ?_
    exact sr_wk (sr_mono (mc := 0) (ms := 0) (by omega) (by omega) (g1_mostHarmful_53 l i1 hv_i1 k7 k59 hk7 hk59 x4 xs0 x4 t)) ⟨rfl, ⟨rfl, ⟨rfl, ⟨rfl, ⟨rfl, trivial⟩⟩⟩⟩⟩
def f1_mostHarmful_7 (i1 : Nat) (k59 : Int32 → sr_t → sr_Rs) : Nat → Int32 → Int32 → Int32 → sr_t → sr_Rs
  | 0 => fun _ _ _ _ => none
  | n + 1 => fun x2 x3 x4 t => (if (t.1 3 i1 3) ≤ x4 then k59 x2 t else (sr_bR 2 50 (F3_of i1 x4 t) (fun n1 t1 => (if (t1.1 2 n1 2) = 0 then f1_mostHarmful_39 i1 (f1_mostHarmful_7 i1 k59 n) k59 x2 x3 x4 ((-1)) t1 else (sr_bI (F1_harmOf i1 x4 t1) (fun v2 t2 => f1_mostHarmful_39 i1 (f1_mostHarmful_7 i1 k59 n) k59 x2 x3 x4 v2 t2))))))
theorem g1_mostHarmful_7 (l : Launch) (i1 : Nat) (hv_i1 : i1 < 2) (k59 : Int32 → sr_t → sr_Rs) (hk59 : ∀ (x2 : Int32), ∀ (t : sr_t), sr_g l sr_m1_mostHarmful 59 [some (sr_r 1 0), some (sr_r 3 i1), some (sr_i x2), none, none, none] [] t (k59 x2 t) 0 0) : ∀ (n : Nat) (x2 : Int32) (x3 : Int32) (x4 : Int32), ∀ (t : sr_t), sr_g l sr_m1_mostHarmful 7 [some (sr_r 1 0), some (sr_r 3 i1), some (sr_i x2), some (sr_i x3), some (sr_i x4), none] [] t (f1_mostHarmful_7 i1 k59 n x2 x3 x4 t) 0 0 := by
  intro n
  induction n with
  | zero => intros; exact sr_Gn
  | succ n ih =>
    intro x2 x3 x4  t
    unfold f1_mostHarmful_7
    refine sr_iload (pc := 7) (i := 4) (by decide +kernel) rfl ?_
    refine sr_aloadn (pc := 9) (n := 1) (by decide +kernel) rfl ?_
    refine sr_gI (pc := 10) fg_1_79 (by decide +kernel) (sr_in3 _ (by omega)) (fun _ => rfl) ?_
    refine sr_icmp_ge (pc := 13) (off := 46) (tg := 59) (by decide +kernel) (by decide) (fun _ => ?_) (fun _ => ?_)
    · exact sr_wk (sr_mono (mc := 0) (ms := 0) (by omega) (by omega) (hk59 x2 t)) ⟨rfl, ⟨rfl, ⟨rfl, trivial⟩⟩⟩
    · refine sr_aloadn (pc := 16) (n := 1) (by decide +kernel) rfl ?_
      refine sr_iload (pc := 17) (i := 4) (by decide +kernel) rfl ?_
      refine sr_cV (pc := 19) (As := [sr_i x4]) (mc1 := 0) (ms1 := 0) (mc2 := 0) (ms2 := 0) fm_1_68 fl_1_68 (by decide +kernel) (sr_in3 _ (by omega)) (rm_1_mostHarmful_3_of) rfl rfl rfl (C3_of l i1 x4 (by omega) t) ?_
      refine sr_kR (fun n1 t1 hv_n1 => ?_)
      refine sr_gI (pc := 22) fg_1_82 (by decide +kernel) (sr_in2 _ (by omega)) (fun _ => rfl) ?_
      refine sr_if_eq (pc := 25) (off := 13) (tg := 38) (by decide +kernel) (by decide) (fun _ => ?_) (fun _ => ?_)
      · refine sr_iconst (pc := 38) (n := (-1)) (v := (-1)) (by decide +kernel) rfl ?_
        exact sr_wk (sr_mono (mc := 0) (ms := 0) (by omega) (by omega) (g1_mostHarmful_39 l i1 hv_i1 (f1_mostHarmful_7 i1 k59 n) k59 ih hk59 x2 x3 x4 ((-1)) t1)) ⟨rfl, ⟨rfl, ⟨rfl, ⟨rfl, ⟨rfl, trivial⟩⟩⟩⟩⟩
      · refine sr_aloadn (pc := 28) (n := 0) (by decide +kernel) rfl ?_
        refine sr_aloadn (pc := 29) (n := 1) (by decide +kernel) rfl ?_
        refine sr_iload (pc := 30) (i := 4) (by decide +kernel) rfl ?_
        refine sr_cV (pc := 32) (As := [sr_r 3 i1, sr_i x4]) (mc1 := 0) (ms1 := 0) (mc2 := 0) (ms2 := 0) fm_1_88 fl_1_88 (by decide +kernel) (sr_in1 _ (by omega)) (rm_1_mostHarmful_1_harmOf) rfl rfl rfl (C1_harmOf l i1 x4 (by omega) t1) ?_
        refine sr_kI (fun v2 t2 => ?_)
        refine sr_goto (pc := 35) (off := 4) (tg := 39) (by decide +kernel) (by decide) ?_
        exact sr_wk (sr_mono (mc := 0) (ms := 0) (by omega) (by omega) (g1_mostHarmful_39 l i1 hv_i1 (f1_mostHarmful_7 i1 k59 n) k59 ih hk59 x2 x3 x4 v2 t2)) ⟨rfl, ⟨rfl, ⟨rfl, ⟨rfl, ⟨rfl, trivial⟩⟩⟩⟩⟩
def f1_mostHarmful_59 (i1 : Nat)  : Int32 → sr_t → sr_Rs := fun x2 t => (some (.inl (some (sr_i x2)), t))
theorem g1_mostHarmful_59 (l : Launch) (i1 : Nat) (hv_i1 : i1 < 2)   : ∀ (x2 : Int32), ∀ (t : sr_t), sr_g l sr_m1_mostHarmful 59 [some (sr_r 1 0), some (sr_r 3 i1), some (sr_i x2), none, none, none] [] t (f1_mostHarmful_59 i1  x2 t) 0 0 := by
  intro x2  t
  unfold f1_mostHarmful_59
  refine sr_iloadn (pc := 59) (n := 2) (by decide +kernel) rfl ?_
  exact sr_iret (pc := 60) (by decide +kernel) rfl
def F1_mostHarmful (i1 : Nat) (t : sr_t) : sr_Rs := f1_mostHarmful_7 i1 (f1_mostHarmful_59 i1) sr_fu ((-1)) ((-1)) 0 t
theorem C1_mostHarmful (l : Launch) (i1 : Nat) (hv_i1 : i1 < 2) (t : sr_t) : sr_ct' l sr_m1_mostHarmful [sr_r 1 0, sr_r 3 i1] t (F1_mostHarmful i1 t) 0 0 := by
  refine sr_T_of (L0 := [some (sr_r 1 0), some (sr_r 3 i1), none, none, none, none]) rfl (by decide +kernel) (fun _ => rfl) (fun _ => Nat.le_of_ble_eq_true rfl) ?_
  unfold F1_mostHarmful
  refine sr_iconst (pc := 0) (n := (-1)) (v := (-1)) (by decide +kernel) rfl ?_
  refine sr_istoren (pc := 1) (n := 2) (by decide +kernel) (by decide) rfl rfl ?_
  refine sr_iconst (pc := 2) (n := (-1)) (v := (-1)) (by decide +kernel) rfl ?_
  refine sr_istoren (pc := 3) (n := 3) (by decide +kernel) (by decide) rfl rfl ?_
  refine sr_iconst (pc := 4) (n := 0) (v := 0) (by decide +kernel) rfl ?_
  refine sr_istore (pc := 5) (i := 4) (by decide +kernel) (by decide) rfl rfl ?_
  exact sr_wk (sr_mono (mc := 0) (ms := 0) (by omega) (by omega) (g1_mostHarmful_7 l i1 hv_i1 (f1_mostHarmful_59 i1) (g1_mostHarmful_59 l i1 hv_i1) sr_fu ((-1)) ((-1)) 0 t)) ⟨rfl, ⟨rfl, ⟨rfl, ⟨rfl, ⟨rfl, trivial⟩⟩⟩⟩⟩
def Fn_bitCount (a0 : Int32) (t : sr_t) : sr_Rs := (some (.inl (some (sr_i ((((((((a0 - (((a0.toUInt32 >>> ((1 : Int32).toUInt32 &&& Int32.toUInt32 31)).toInt32) &&& 1431655765)) &&& 858993459) + ((((a0 - (((a0.toUInt32 >>> ((1 : Int32).toUInt32 &&& Int32.toUInt32 31)).toInt32) &&& 1431655765)).toUInt32 >>> ((2 : Int32).toUInt32 &&& Int32.toUInt32 31)).toInt32) &&& 858993459)) + (((((a0 - (((a0.toUInt32 >>> ((1 : Int32).toUInt32 &&& Int32.toUInt32 31)).toInt32) &&& 1431655765)) &&& 858993459) + ((((a0 - (((a0.toUInt32 >>> ((1 : Int32).toUInt32 &&& Int32.toUInt32 31)).toInt32) &&& 1431655765)).toUInt32 >>> ((2 : Int32).toUInt32 &&& Int32.toUInt32 31)).toInt32) &&& 858993459)).toUInt32 >>> ((4 : Int32).toUInt32 &&& Int32.toUInt32 31)).toInt32)) &&& 252645135) + (((((((a0 - (((a0.toUInt32 >>> ((1 : Int32).toUInt32 &&& Int32.toUInt32 31)).toInt32) &&& 1431655765)) &&& 858993459) + ((((a0 - (((a0.toUInt32 >>> ((1 : Int32).toUInt32 &&& Int32.toUInt32 31)).toInt32) &&& 1431655765)).toUInt32 >>> ((2 : Int32).toUInt32 &&& Int32.toUInt32 31)).toInt32) &&& 858993459)) + (((((a0 - (((a0.toUInt32 >>> ((1 : Int32).toUInt32 &&& Int32.toUInt32 31)).toInt32) &&& 1431655765)) &&& 858993459) + ((((a0 - (((a0.toUInt32 >>> ((1 : Int32).toUInt32 &&& Int32.toUInt32 31)).toInt32) &&& 1431655765)).toUInt32 >>> ((2 : Int32).toUInt32 &&& Int32.toUInt32 31)).toInt32) &&& 858993459)).toUInt32 >>> ((4 : Int32).toUInt32 &&& Int32.toUInt32 31)).toInt32)) &&& 252645135).toUInt32 >>> ((8 : Int32).toUInt32 &&& Int32.toUInt32 31)).toInt32)) + ((((((((a0 - (((a0.toUInt32 >>> ((1 : Int32).toUInt32 &&& Int32.toUInt32 31)).toInt32) &&& 1431655765)) &&& 858993459) + ((((a0 - (((a0.toUInt32 >>> ((1 : Int32).toUInt32 &&& Int32.toUInt32 31)).toInt32) &&& 1431655765)).toUInt32 >>> ((2 : Int32).toUInt32 &&& Int32.toUInt32 31)).toInt32) &&& 858993459)) + (((((a0 - (((a0.toUInt32 >>> ((1 : Int32).toUInt32 &&& Int32.toUInt32 31)).toInt32) &&& 1431655765)) &&& 858993459) + ((((a0 - (((a0.toUInt32 >>> ((1 : Int32).toUInt32 &&& Int32.toUInt32 31)).toInt32) &&& 1431655765)).toUInt32 >>> ((2 : Int32).toUInt32 &&& Int32.toUInt32 31)).toInt32) &&& 858993459)).toUInt32 >>> ((4 : Int32).toUInt32 &&& Int32.toUInt32 31)).toInt32)) &&& 252645135) + (((((((a0 - (((a0.toUInt32 >>> ((1 : Int32).toUInt32 &&& Int32.toUInt32 31)).toInt32) &&& 1431655765)) &&& 858993459) + ((((a0 - (((a0.toUInt32 >>> ((1 : Int32).toUInt32 &&& Int32.toUInt32 31)).toInt32) &&& 1431655765)).toUInt32 >>> ((2 : Int32).toUInt32 &&& Int32.toUInt32 31)).toInt32) &&& 858993459)) + (((((a0 - (((a0.toUInt32 >>> ((1 : Int32).toUInt32 &&& Int32.toUInt32 31)).toInt32) &&& 1431655765)) &&& 858993459) + ((((a0 - (((a0.toUInt32 >>> ((1 : Int32).toUInt32 &&& Int32.toUInt32 31)).toInt32) &&& 1431655765)).toUInt32 >>> ((2 : Int32).toUInt32 &&& Int32.toUInt32 31)).toInt32) &&& 858993459)).toUInt32 >>> ((4 : Int32).toUInt32 &&& Int32.toUInt32 31)).toInt32)) &&& 252645135).toUInt32 >>> ((8 : Int32).toUInt32 &&& Int32.toUInt32 31)).toInt32)).toUInt32 >>> ((16 : Int32).toUInt32 &&& Int32.toUInt32 31)).toInt32)) &&& 63))), t))
theorem Cn_bitCount (l : Launch) (a0 : Int32)  (t : sr_t) : sr_ct' l sr_mn_bitCount [sr_i a0] t (Fn_bitCount a0 t) 0 0 := by
  refine sr_T_of (L0 := [some (sr_i a0)]) rfl (by decide +kernel) (fun _ => rfl) (fun _ => Nat.le_of_ble_eq_true rfl) ?_
  unfold Fn_bitCount
  refine sr_iloadn (pc := 0) (n := 0) (by decide +kernel) rfl ?_
  refine sr_iloadn (pc := 1) (n := 0) (by decide +kernel) rfl ?_
  refine sr_iconst (pc := 2) (n := 1) (v := 1) (by decide +kernel) rfl ?_
  refine sr_iushr (pc := 3) (by decide +kernel) ?_
  refine sr_ldcw (pc := 4) (n := 265) (v := 1431655765) (by decide +kernel) (sr_tb (n := 705) (by decide +kernel) rfl) ?_
  refine sr_iand (pc := 7) (by decide +kernel) ?_
  refine sr_isub (pc := 8) (by decide +kernel) ?_
  refine sr_istoren (pc := 9) (n := 0) (by decide +kernel) (by decide) rfl rfl ?_
  refine sr_iloadn (pc := 10) (n := 0) (by decide +kernel) rfl ?_
  refine sr_ldcw (pc := 11) (n := 266) (v := 858993459) (by decide +kernel) (sr_tb (n := 706) (by decide +kernel) rfl) ?_
  refine sr_iand (pc := 14) (by decide +kernel) ?_
  refine sr_iloadn (pc := 15) (n := 0) (by decide +kernel) rfl ?_
  refine sr_iconst (pc := 16) (n := 2) (v := 2) (by decide +kernel) rfl ?_
  refine sr_iushr (pc := 17) (by decide +kernel) ?_
  refine sr_ldcw (pc := 18) (n := 266) (v := 858993459) (by decide +kernel) (sr_tb (n := 706) (by decide +kernel) rfl) ?_
  refine sr_iand (pc := 21) (by decide +kernel) ?_
  refine sr_iadd (pc := 22) (by decide +kernel) ?_
  refine sr_istoren (pc := 23) (n := 0) (by decide +kernel) (by decide) rfl rfl ?_
  refine sr_iloadn (pc := 24) (n := 0) (by decide +kernel) rfl ?_
  refine sr_iloadn (pc := 25) (n := 0) (by decide +kernel) rfl ?_
  refine sr_iconst (pc := 26) (n := 4) (v := 4) (by decide +kernel) rfl ?_
  refine sr_iushr (pc := 27) (by decide +kernel) ?_
  refine sr_iadd (pc := 28) (by decide +kernel) ?_
  refine sr_ldcw (pc := 29) (n := 267) (v := 252645135) (by decide +kernel) (sr_tb (n := 707) (by decide +kernel) rfl) ?_
  refine sr_iand (pc := 32) (by decide +kernel) ?_
  refine sr_istoren (pc := 33) (n := 0) (by decide +kernel) (by decide) rfl rfl ?_
  refine sr_iloadn (pc := 34) (n := 0) (by decide +kernel) rfl ?_
  refine sr_iloadn (pc := 35) (n := 0) (by decide +kernel) rfl ?_
  refine sr_bipush (pc := 36) (n := 8) (v := 8) (by decide +kernel) (by decide) ?_
  refine sr_iushr (pc := 38) (by decide +kernel) ?_
  refine sr_iadd (pc := 39) (by decide +kernel) ?_
  refine sr_istoren (pc := 40) (n := 0) (by decide +kernel) (by decide) rfl rfl ?_
  refine sr_iloadn (pc := 41) (n := 0) (by decide +kernel) rfl ?_
  refine sr_iloadn (pc := 42) (n := 0) (by decide +kernel) rfl ?_
  refine sr_bipush (pc := 43) (n := 16) (v := 16) (by decide +kernel) (by decide) ?_
  refine sr_iushr (pc := 45) (by decide +kernel) ?_
  refine sr_iadd (pc := 46) (by decide +kernel) ?_
  refine sr_istoren (pc := 47) (n := 0) (by decide +kernel) (by decide) rfl rfl ?_
  refine sr_iloadn (pc := 48) (n := 0) (by decide +kernel) rfl ?_
  refine sr_bipush (pc := 49) (n := 63) (v := 63) (by decide +kernel) (by decide) ?_
  refine sr_iand (pc := 51) (by decide +kernel) ?_
  exact sr_iret (pc := 52) (by decide +kernel) rfl
def f3_mostLinks_39 (i0 : Nat) (k4 : Int32 → Int32 → sr_t → sr_Rs) (k45 : Int32 → sr_t → sr_Rs) : Int32 → Int32 → sr_t → sr_Rs := fun x1 x2 t => k4 x1 (x2 + 1) t
theorem g3_mostLinks_39 (l : Launch) (i0 : Nat) (hv_i0 : i0 < 2) (k4 : Int32 → Int32 → sr_t → sr_Rs) (k45 : Int32 → sr_t → sr_Rs) (hk4 : ∀ (x1 : Int32) (x2 : Int32), ∀ (t : sr_t), sr_g l sr_m3_mostLinks 4 [some (sr_r 3 i0), some (sr_i x1), some (sr_i x2)] [] t (k4 x1 x2 t) 0 0) (hk45 : ∀ (x1 : Int32), ∀ (t : sr_t), sr_g l sr_m3_mostLinks 45 [some (sr_r 3 i0), some (sr_i x1), none] [] t (k45 x1 t) 0 0) : ∀ (x1 : Int32) (x2 : Int32), ∀ (t : sr_t), sr_g l sr_m3_mostLinks 39 [some (sr_r 3 i0), some (sr_i x1), some (sr_i x2)] [] t (f3_mostLinks_39 i0 k4 k45 x1 x2 t) 0 0 := by
  intro x1 x2  t
  unfold f3_mostLinks_39
  refine sr_iinc (pc := 39) (i := 2) (n := 1) (w := x2 + 1) (by decide +kernel) rfl rfl (by decide) rfl rfl ?_
  refine sr_goto (pc := 42) (off := (-38)) (tg := 4) (by decide +kernel) (by decide) ?_
  exact sr_wk (sr_mono (mc := 0) (ms := 0) (by omega) (by omega) (hk4 x1 (x2 + 1) t)) ⟨rfl, ⟨rfl, ⟨rfl, trivial⟩⟩⟩
def f3_mostLinks_4 (i0 : Nat) (k45 : Int32 → sr_t → sr_Rs) : Nat → Int32 → Int32 → sr_t → sr_Rs
  | 0 => fun _ _ _ => none
  | n + 1 => fun x1 x2 t => (if (t.1 3 i0 3) ≤ x2 then k45 x1 t else (sr_bR 2 50 (F3_of i0 x2 t) (fun n1 t1 => (if (t1.1 2 n1 2) = 0 then f3_mostLinks_39 i0 (f3_mostLinks_4 i0 k45 n) k45 x1 x2 t1 else (sr_bR 2 50 (F3_of i0 x2 t1) (fun n2 t2 => (sr_bI (F2_linkBits n2 t2) (fun v3 t3 => (sr_bI (Fn_bitCount v3 t3) (fun v4 t4 => f3_mostLinks_39 i0 (f3_mostLinks_4 i0 k45 n) k45 (if x1 < v4 then v4 else x1) x2 t4))))))))))
theorem g3_mostLinks_4 (l : Launch) (i0 : Nat) (hv_i0 : i0 < 2) (k45 : Int32 → sr_t → sr_Rs) (hk45 : ∀ (x1 : Int32), ∀ (t : sr_t), sr_g l sr_m3_mostLinks 45 [some (sr_r 3 i0), some (sr_i x1), none] [] t (k45 x1 t) 0 0) : ∀ (n : Nat) (x1 : Int32) (x2 : Int32), ∀ (t : sr_t), sr_g l sr_m3_mostLinks 4 [some (sr_r 3 i0), some (sr_i x1), some (sr_i x2)] [] t (f3_mostLinks_4 i0 k45 n x1 x2 t) 0 0 := by
  intro n
  induction n with
  | zero => intros; exact sr_Gn
  | succ n ih =>
    intro x1 x2  t
    unfold f3_mostLinks_4
    refine sr_iloadn (pc := 4) (n := 2) (by decide +kernel) rfl ?_
    refine sr_aloadn (pc := 5) (n := 0) (by decide +kernel) rfl ?_
    refine sr_gI (pc := 6) fg_3_51 (by decide +kernel) (sr_in3 _ (by omega)) (fun _ => rfl) ?_
    refine sr_icmp_ge (pc := 9) (off := 36) (tg := 45) (by decide +kernel) (by decide) (fun _ => ?_) (fun _ => ?_)
    · exact sr_wk (sr_mono (mc := 0) (ms := 0) (by omega) (by omega) (hk45 x1 t)) ⟨rfl, ⟨rfl, trivial⟩⟩
    · refine sr_aloadn (pc := 12) (n := 0) (by decide +kernel) rfl ?_
      refine sr_iloadn (pc := 13) (n := 2) (by decide +kernel) rfl ?_
      refine sr_cV (pc := 14) (As := [sr_i x2]) (mc1 := 0) (ms1 := 0) (mc2 := 0) (ms2 := 0) fm_3_54 fl_3_54 (by decide +kernel) (sr_in3 _ (by omega)) (rm_3_mostLinks_3_of) rfl rfl rfl (C3_of l i0 x2 (by omega) t) ?_
      refine sr_kR (fun n1 t1 hv_n1 => ?_)
      refine sr_gI (pc := 17) fg_3_68 (by decide +kernel) (sr_in2 _ (by omega)) (fun _ => rfl) ?_
      refine sr_if_eq (pc := 20) (off := 19) (tg := 39) (by decide +kernel) (by decide) (fun _ => ?_) (fun _ => ?_)
      · exact sr_wk (sr_mono (mc := 0) (ms := 0) (by omega) (by omega) (g3_mostLinks_39 l i0 hv_i0 (f3_mostLinks_4 i0 k45 n) k45 ih hk45 x1 x2 t1)) ⟨rfl, ⟨rfl, ⟨rfl, trivial⟩⟩⟩
      · refine sr_iloadn (pc := 23) (n := 1) (by decide +kernel) rfl ?_
        refine sr_aloadn (pc := 24) (n := 0) (by decide +kernel) rfl ?_
        refine sr_iloadn (pc := 25) (n := 2) (by decide +kernel) rfl ?_
        refine sr_cV (pc := 26) (As := [sr_i x2]) (mc1 := 0) (ms1 := 0) (mc2 := 0) (ms2 := 0) fm_3_54 fl_3_54 (by decide +kernel) (sr_in3 _ (by omega)) (rm_3_mostLinks_3_of) rfl rfl rfl (C3_of l i0 x2 (by omega) t1) ?_
        refine sr_kR (fun n2 t2 hv_n2 => ?_)
        refine sr_cV (pc := 29) (As := []) (mc1 := 0) (ms1 := 0) (mc2 := 0) (ms2 := 0) fm_3_144 fl_3_144 (by decide +kernel) (sr_in2 _ (by omega)) (rm_3_mostLinks_2_linkBits) rfl rfl rfl (C2_linkBits l n2 (by omega) t2) ?_
        refine sr_kI (fun v3 t3 => ?_)
        refine sr_cS (pc := 32) (As := [sr_i v3]) (mc1 := 0) (ms1 := 0) (mc2 := 0) (ms2 := 0) fm_3_155 fl_3_155 (by decide +kernel) (rm_3_mostLinks_n_bitCount) rfl rfl rfl (Cn_bitCount l v3 t3) ?_
        refine sr_kI (fun v4 t4 => ?_)
        refine sr_mmmax (pc := 35) (idx := 160) (sr_tb (n := 708) (by decide +kernel) rfl) (by decide +kernel) (by decide) (by decide) rfl mw_max1 mw_0 mw_max2 ?_
        refine sr_istoren (pc := 38) (n := 1) (by decide +kernel) (by decide) rfl rfl ?_
        exact sr_wk (sr_mono (mc := 0) (ms := 0) (by omega) (by omega) (g3_mostLinks_39 l i0 hv_i0 (f3_mostLinks_4 i0 k45 n) k45 ih hk45 (if x1 < v4 then v4 else x1) x2 t4)) ⟨rfl, ⟨rfl, ⟨rfl, trivial⟩⟩⟩
def f3_mostLinks_45 (i0 : Nat)  : Int32 → sr_t → sr_Rs := fun x1 t => (some (.inl (some (sr_i x1)), t))
theorem g3_mostLinks_45 (l : Launch) (i0 : Nat) (hv_i0 : i0 < 2)   : ∀ (x1 : Int32), ∀ (t : sr_t), sr_g l sr_m3_mostLinks 45 [some (sr_r 3 i0), some (sr_i x1), none] [] t (f3_mostLinks_45 i0  x1 t) 0 0 := by
  intro x1  t
  unfold f3_mostLinks_45
  refine sr_iloadn (pc := 45) (n := 1) (by decide +kernel) rfl ?_
  exact sr_iret (pc := 46) (by decide +kernel) rfl
def F3_mostLinks (i0 : Nat) (t : sr_t) : sr_Rs := f3_mostLinks_4 i0 (f3_mostLinks_45 i0) sr_fu 0 0 t
theorem C3_mostLinks (l : Launch) (i0 : Nat) (hv_i0 : i0 < 2) (t : sr_t) : sr_ct' l sr_m3_mostLinks [sr_r 3 i0] t (F3_mostLinks i0 t) 0 0 := by
  refine sr_T_of (L0 := [some (sr_r 3 i0), none, none]) rfl (by decide +kernel) (fun _ => rfl) (fun _ => Nat.le_of_ble_eq_true rfl) ?_
  unfold F3_mostLinks
  refine sr_iconst (pc := 0) (n := 0) (v := 0) (by decide +kernel) rfl ?_
  refine sr_istoren (pc := 1) (n := 1) (by decide +kernel) (by decide) rfl rfl ?_
  refine sr_iconst (pc := 2) (n := 0) (v := 0) (by decide +kernel) rfl ?_
  refine sr_istoren (pc := 3) (n := 2) (by decide +kernel) (by decide) rfl rfl ?_
  exact sr_wk (sr_mono (mc := 0) (ms := 0) (by omega) (by omega) (g3_mostLinks_4 l i0 hv_i0 (f3_mostLinks_45 i0) (g3_mostLinks_45 l i0 hv_i0) sr_fu 0 0 t)) ⟨rfl, ⟨rfl, ⟨rfl, trivial⟩⟩⟩
def F3_layAgain (i0 : Nat) (i1 : Nat) (t : sr_t) : sr_Rs := (sr_bV (F3_layInto i0 i1 i1 t) (fun t1 => (sr_bV (F3_refresh i0 t1) (fun t2 => (some (.inl none, t2))))))
theorem C3_layAgain (l : Launch) (i0 : Nat) (i1 : Nat) (hv_i0 : i0 < 2) (hv_i1 : i1 < 50) (t : sr_t) : sr_ct' l sr_m3_layAgain [sr_r 3 i0, sr_r 2 i1] t (F3_layAgain i0 i1 t) 0 0 := by
  refine sr_T_of (L0 := [some (sr_r 3 i0), some (sr_r 2 i1)]) rfl (by decide +kernel) (fun _ => rfl) (fun _ => Nat.le_of_ble_eq_true rfl) ?_
  unfold F3_layAgain
  refine sr_aloadn (pc := 0) (n := 0) (by decide +kernel) rfl ?_
  refine sr_aloadn (pc := 1) (n := 1) (by decide +kernel) rfl ?_
  refine sr_gC (pc := 2) (i2 := i1) fg_3_78 (by decide +kernel) (sr_in2 _ (by omega)) (fun _ => rfl) ?_
  refine sr_aloadn (pc := 5) (n := 1) (by decide +kernel) rfl ?_
  refine sr_cV (pc := 6) (As := [sr_r 7 i1, sr_r 2 i1]) (mc1 := 0) (ms1 := 0) (mc2 := 0) (ms2 := 0) fm_3_81 fl_3_81 (by decide +kernel) (sr_in3 _ (by omega)) (rm_3_layAgain_3_layInto) rfl rfl rfl (C3_layInto l i0 i1 i1 (by omega) (by omega) (by omega) t) ?_
  refine sr_kV (fun t1 => ?_)
  refine sr_aloadn (pc := 9) (n := 0) (by decide +kernel) rfl ?_
  refine sr_cV (pc := 10) (As := []) (mc1 := 0) (ms1 := 0) (mc2 := 0) (ms2 := 0) fm_3_75 fl_3_75 (by decide +kernel) (sr_in3 _ (by omega)) (rm_3_layAgain_3_refresh) rfl rfl rfl (C3_refresh l i0 (by omega) t1) ?_
  refine sr_kV (fun t2 => ?_)
  exact sr_ret (pc := 13) (by decide +kernel) rfl
def F1_hopsIfMended (i1 : Nat) (a1 : Int32) (t : sr_t) : sr_Rs := (sr_bV (F3_copyFrom 1 i1 t) (fun t1 => (sr_bR 2 50 (F3_of 1 a1 t1) (fun n2 t2 => (sr_bV (F3_layAgain 1 n2 t2) (fun t3 => (sr_bV (F5_run 1 1 0 t3) (fun t4 => (some (.inl (some (sr_i (t4.1 5 0 3))), t4))))))))))
theorem C1_hopsIfMended (l : Launch) (i1 : Nat) (a1 : Int32) (hv_i1 : i1 < 2) (t : sr_t) : sr_ct' l sr_m1_hopsIfMended [sr_r 1 0, sr_r 3 i1, sr_i a1] t (F1_hopsIfMended i1 a1 t) 0 0 := by
  refine sr_T_of (L0 := [some (sr_r 1 0), some (sr_r 3 i1), some (sr_i a1)]) rfl (by decide +kernel) (fun _ => rfl) (fun _ => Nat.le_of_ble_eq_true rfl) ?_
  unfold F1_hopsIfMended
  refine sr_aloadn (pc := 0) (n := 0) (by decide +kernel) rfl ?_
  refine sr_gC (pc := 1) (i2 := 1) fg_1_12 (by decide +kernel) (sr_in1 _ (by omega)) (fun _ => rfl) ?_
  refine sr_aloadn (pc := 4) (n := 1) (by decide +kernel) rfl ?_
  refine sr_cV (pc := 5) (As := [sr_r 3 i1]) (mc1 := 0) (ms1 := 0) (mc2 := 0) (ms2 := 0) fm_1_22 fl_1_22 (by decide +kernel) (sr_in3 _ (by omega)) (rm_1_hopsIfMended_3_copyFrom) rfl rfl rfl (C3_copyFrom l 1 i1 (by omega) (by omega) t) ?_
  refine sr_kV (fun t1 => ?_)
  refine sr_aloadn (pc := 8) (n := 0) (by decide +kernel) rfl ?_
  refine sr_gC (pc := 9) (i2 := 1) fg_1_12 (by decide +kernel) (sr_in1 _ (by omega)) (fun _ => rfl) ?_
  refine sr_aloadn (pc := 12) (n := 0) (by decide +kernel) rfl ?_
  refine sr_gC (pc := 13) (i2 := 1) fg_1_12 (by decide +kernel) (sr_in1 _ (by omega)) (fun _ => rfl) ?_
  refine sr_iloadn (pc := 16) (n := 2) (by decide +kernel) rfl ?_
  refine sr_cV (pc := 17) (As := [sr_i a1]) (mc1 := 0) (ms1 := 0) (mc2 := 0) (ms2 := 0) fm_1_68 fl_1_68 (by decide +kernel) (sr_in3 _ (by omega)) (rm_1_hopsIfMended_3_of) rfl rfl rfl (C3_of l 1 a1 (by omega) t1) ?_
  refine sr_kR (fun n2 t2 hv_n2 => ?_)
  refine sr_cV (pc := 20) (As := [sr_r 2 n2]) (mc1 := 0) (ms1 := 0) (mc2 := 0) (ms2 := 0) fm_1_95 fl_1_95 (by decide +kernel) (sr_in3 _ (by omega)) (rm_1_hopsIfMended_3_layAgain) rfl rfl rfl (C3_layAgain l 1 n2 (by omega) (by omega) t2) ?_
  refine sr_kV (fun t3 => ?_)
  refine sr_aloadn (pc := 23) (n := 0) (by decide +kernel) rfl ?_
  refine sr_gC (pc := 24) (i2 := 0) fg_1_18 (by decide +kernel) (sr_in1 _ (by omega)) (fun _ => rfl) ?_
  refine sr_aloadn (pc := 27) (n := 0) (by decide +kernel) rfl ?_
  refine sr_gC (pc := 28) (i2 := 1) fg_1_12 (by decide +kernel) (sr_in1 _ (by omega)) (fun _ => rfl) ?_
  refine sr_iconst (pc := 31) (n := 1) (v := 1) (by decide +kernel) rfl ?_
  refine sr_iconst (pc := 32) (n := 0) (v := 0) (by decide +kernel) rfl ?_
  refine sr_cV (pc := 33) (As := [sr_r 3 1, sr_i 1, sr_i 0]) (mc1 := 0) (ms1 := 0) (mc2 := 0) (ms2 := 0) fm_1_46 fl_1_46 (by decide +kernel) (sr_in5 _ (by omega)) (rm_1_hopsIfMended_5_run) rfl rfl rfl (C5_run l 1 1 0 (by omega) t3) ?_
  refine sr_kV (fun t4 => ?_)
  refine sr_aloadn (pc := 36) (n := 0) (by decide +kernel) rfl ?_
  refine sr_gC (pc := 37) (i2 := 0) fg_1_18 (by decide +kernel) (sr_in1 _ (by omega)) (fun _ => rfl) ?_
  refine sr_gI (pc := 40) fg_1_30 (by decide +kernel) (sr_in5 _ (by omega)) (fun _ => rfl) ?_
  exact sr_iret (pc := 43) (by decide +kernel) rfl
def f1_firstToMend_64 (i1 : Nat) (k7 : Int32 → Int32 → Int32 → sr_t → sr_Rs) (k70 : Int32 → sr_t → sr_Rs) : Int32 → Int32 → Int32 → sr_t → sr_Rs := fun x2 x3 x4 t => k7 x2 x3 (x4 + 1) t
theorem g1_firstToMend_64 (l : Launch) (i1 : Nat) (hv_i1 : i1 < 2) (k7 : Int32 → Int32 → Int32 → sr_t → sr_Rs) (k70 : Int32 → sr_t → sr_Rs) (hk7 : ∀ (x2 : Int32) (x3 : Int32) (x4 : Int32), ∀ (t : sr_t), sr_g l sr_m1_firstToMend 7 [some (sr_r 1 0), some (sr_r 3 i1), some (sr_i x2), some (sr_i x3), some (sr_i x4), none] [] t (k7 x2 x3 x4 t) 0 0) (hk70 : ∀ (x2 : Int32), ∀ (t : sr_t), sr_g l sr_m1_firstToMend 70 [some (sr_r 1 0), some (sr_r 3 i1), some (sr_i x2), none, none, none] [] t (k70 x2 t) 0 0) : ∀ (x2 : Int32) (x3 : Int32) (x4 : Int32), ∀ (t : sr_t), sr_g l sr_m1_firstToMend 64 [some (sr_r 1 0), some (sr_r 3 i1), some (sr_i x2), some (sr_i x3), some (sr_i x4), none] [] t (f1_firstToMend_64 i1 k7 k70 x2 x3 x4 t) 0 0 := by
  intro x2 x3 x4  t
  unfold f1_firstToMend_64
  refine sr_iinc (pc := 64) (i := 4) (n := 1) (w := x4 + 1) (by decide +kernel) rfl rfl (by decide) rfl rfl ?_
  refine sr_goto (pc := 67) (off := (-60)) (tg := 7) (by decide +kernel) (by decide) ?_
  exact sr_wk (sr_mono (mc := 0) (ms := 0) (by omega) (by omega) (hk7 x2 x3 (x4 + 1) t)) ⟨rfl, ⟨rfl, ⟨rfl, ⟨rfl, ⟨rfl, trivial⟩⟩⟩⟩⟩
def f1_firstToMend_58 (i1 : Nat) (k7 : Int32 → Int32 → Int32 → sr_t → sr_Rs) (k70 : Int32 → sr_t → sr_Rs) : Int32 → Int32 → sr_t → sr_Rs := fun x4 x5 t => f1_firstToMend_64 i1 k7 k70 x4 x5 x4 t
theorem g1_firstToMend_58 (l : Launch) (i1 : Nat) (hv_i1 : i1 < 2) (k7 : Int32 → Int32 → Int32 → sr_t → sr_Rs) (k70 : Int32 → sr_t → sr_Rs) (hk7 : ∀ (x2 : Int32) (x3 : Int32) (x4 : Int32), ∀ (t : sr_t), sr_g l sr_m1_firstToMend 7 [some (sr_r 1 0), some (sr_r 3 i1), some (sr_i x2), some (sr_i x3), some (sr_i x4), none] [] t (k7 x2 x3 x4 t) 0 0) (hk70 : ∀ (x2 : Int32), ∀ (t : sr_t), sr_g l sr_m1_firstToMend 70 [some (sr_r 1 0), some (sr_r 3 i1), some (sr_i x2), none, none, none] [] t (k70 x2 t) 0 0) : ∀ (x4 : Int32) (x5 : Int32), ∀ (t : sr_t), sr_g l sr_m1_firstToMend 58 [some (sr_r 1 0), some (sr_r 3 i1), none, none, some (sr_i x4), some (sr_i x5)] [] t (f1_firstToMend_58 i1 k7 k70 x4 x5 t) 0 0 := by
  intro x4 x5  t
  unfold f1_firstToMend_58
  refine sr_iload (pc := 58) (i := 5) (by decide +kernel) rfl ?_
  refine sr_istoren (pc := 60) (n := 3) (by decide +kernel) (by decide) rfl rfl ?_
  refine sr_iload (pc := 61) (i := 4) (by decide +kernel) rfl ?_
  refine sr_istoren (pc := 63) (n := 2) (by decide +kernel) (by decide) rfl rfl ?_
  exact sr_wk (sr_mono (mc := 0) (ms := 0) (by omega) (by omega) (g1_firstToMend_64 l i1 hv_i1 k7 k70 hk7 hk70 x4 x5 x4 t)) ⟨rfl, ⟨rfl, ⟨rfl, ⟨rfl, ⟨rfl, trivial⟩⟩⟩⟩⟩
def f1_firstToMend_39 (i1 : Nat) (k7 : Int32 → Int32 → Int32 → sr_t → sr_Rs) (k70 : Int32 → sr_t → sr_Rs) : Int32 → Int32 → Int32 → Int32 → sr_t → sr_Rs := fun x2 x3 x4 xs0 t => (if xs0 = ((-1)) then f1_firstToMend_64 i1 k7 k70 x2 x3 x4 t else (if x2 = ((-1)) then f1_firstToMend_58 i1 k7 k70 x4 xs0 t else (if x3 ≤ xs0 then f1_firstToMend_64 i1 k7 k70 x2 x3 x4 t else f1_firstToMend_58 i1 k7 k70 x4 xs0 t)))
theorem g1_firstToMend_39 (l : Launch) (i1 : Nat) (hv_i1 : i1 < 2) (k7 : Int32 → Int32 → Int32 → sr_t → sr_Rs) (k70 : Int32 → sr_t → sr_Rs) (hk7 : ∀ (x2 : Int32) (x3 : Int32) (x4 : Int32), ∀ (t : sr_t), sr_g l sr_m1_firstToMend 7 [some (sr_r 1 0), some (sr_r 3 i1), some (sr_i x2), some (sr_i x3), some (sr_i x4), none] [] t (k7 x2 x3 x4 t) 0 0) (hk70 : ∀ (x2 : Int32), ∀ (t : sr_t), sr_g l sr_m1_firstToMend 70 [some (sr_r 1 0), some (sr_r 3 i1), some (sr_i x2), none, none, none] [] t (k70 x2 t) 0 0) : ∀ (x2 : Int32) (x3 : Int32) (x4 : Int32) (xs0 : Int32), ∀ (t : sr_t), sr_g l sr_m1_firstToMend 39 [some (sr_r 1 0), some (sr_r 3 i1), some (sr_i x2), some (sr_i x3), some (sr_i x4), none] [sr_i xs0] t (f1_firstToMend_39 i1 k7 k70 x2 x3 x4 xs0 t) 0 0 := by
  intro x2 x3 x4 xs0  t
  unfold f1_firstToMend_39
  refine sr_istore (pc := 39) (i := 5) (by decide +kernel) (by decide) rfl rfl ?_
  refine sr_iload (pc := 41) (i := 5) (by decide +kernel) rfl ?_
  refine sr_iconst (pc := 43) (n := (-1)) (v := (-1)) (by decide +kernel) rfl ?_
  refine sr_icmp_eq (pc := 44) (off := 20) (tg := 64) (by decide +kernel) (by decide) (fun _ => ?_) (fun _ => ?_)
  · exact sr_wk (sr_mono (mc := 0) (ms := 0) (by omega) (by omega) (g1_firstToMend_64 l i1 hv_i1 k7 k70 hk7 hk70 x2 x3 x4 t)) ⟨rfl, ⟨rfl, ⟨rfl, ⟨rfl, ⟨rfl, trivial⟩⟩⟩⟩⟩
  · refine sr_iloadn (pc := 47) (n := 2) (by decide +kernel) rfl ?_
    refine sr_iconst (pc := 48) (n := (-1)) (v := (-1)) (by decide +kernel) rfl ?_
    refine sr_icmp_eq (pc := 49) (off := 9) (tg := 58) (by decide +kernel) (by decide) (fun _ => ?_) (fun _ => ?_)
    · exact sr_wk (sr_mono (mc := 0) (ms := 0) (by omega) (by omega) (g1_firstToMend_58 l i1 hv_i1 k7 k70 hk7 hk70 x4 xs0 t)) ⟨rfl, ⟨rfl, ⟨rfl, ⟨rfl, trivial⟩⟩⟩⟩
    · refine sr_iload (pc := 52) (i := 5) (by decide +kernel) rfl ?_
      refine sr_iloadn (pc := 54) (n := 3) (by decide +kernel) rfl ?_
      refine sr_icmp_ge (pc := 55) (off := 9) (tg := 64) (by decide +kernel) (by decide) (fun _ => ?_) (fun _ => ?_)
      · exact sr_wk (sr_mono (mc := 0) (ms := 0) (by omega) (by omega) (g1_firstToMend_64 l i1 hv_i1 k7 k70 hk7 hk70 x2 x3 x4 t)) ⟨rfl, ⟨rfl, ⟨rfl, ⟨rfl, ⟨rfl, trivial⟩⟩⟩⟩⟩
      · exact sr_wk (sr_mono (mc := 0) (ms := 0) (by omega) (by omega) (g1_firstToMend_58 l i1 hv_i1 k7 k70 hk7 hk70 x4 xs0 t)) ⟨rfl, ⟨rfl, ⟨rfl, ⟨rfl, trivial⟩⟩⟩⟩
def f1_firstToMend_7 (i1 : Nat) (k70 : Int32 → sr_t → sr_Rs) : Nat → Int32 → Int32 → Int32 → sr_t → sr_Rs
  | 0 => fun _ _ _ _ => none
  | n + 1 => fun x2 x3 x4 t => (if (t.1 3 i1 3) ≤ x4 then k70 x2 t else (sr_bR 2 50 (F3_of i1 x4 t) (fun n1 t1 => (if (t1.1 2 n1 2) = 0 then f1_firstToMend_39 i1 (f1_firstToMend_7 i1 k70 n) k70 x2 x3 x4 ((-1)) t1 else (sr_bI (F1_hopsIfMended i1 x4 t1) (fun v2 t2 => f1_firstToMend_39 i1 (f1_firstToMend_7 i1 k70 n) k70 x2 x3 x4 v2 t2))))))
theorem g1_firstToMend_7 (l : Launch) (i1 : Nat) (hv_i1 : i1 < 2) (k70 : Int32 → sr_t → sr_Rs) (hk70 : ∀ (x2 : Int32), ∀ (t : sr_t), sr_g l sr_m1_firstToMend 70 [some (sr_r 1 0), some (sr_r 3 i1), some (sr_i x2), none, none, none] [] t (k70 x2 t) 0 0) : ∀ (n : Nat) (x2 : Int32) (x3 : Int32) (x4 : Int32), ∀ (t : sr_t), sr_g l sr_m1_firstToMend 7 [some (sr_r 1 0), some (sr_r 3 i1), some (sr_i x2), some (sr_i x3), some (sr_i x4), none] [] t (f1_firstToMend_7 i1 k70 n x2 x3 x4 t) 0 0 := by
  intro n
  induction n with
  | zero => intros; exact sr_Gn
  | succ n ih =>
    intro x2 x3 x4  t
    unfold f1_firstToMend_7
    refine sr_iload (pc := 7) (i := 4) (by decide +kernel) rfl ?_
    refine sr_aloadn (pc := 9) (n := 1) (by decide +kernel) rfl ?_
    refine sr_gI (pc := 10) fg_1_79 (by decide +kernel) (sr_in3 _ (by omega)) (fun _ => rfl) ?_
    refine sr_icmp_ge (pc := 13) (off := 57) (tg := 70) (by decide +kernel) (by decide) (fun _ => ?_) (fun _ => ?_)
    · exact sr_wk (sr_mono (mc := 0) (ms := 0) (by omega) (by omega) (hk70 x2 t)) ⟨rfl, ⟨rfl, ⟨rfl, trivial⟩⟩⟩
    · refine sr_aloadn (pc := 16) (n := 1) (by decide +kernel) rfl ?_
      refine sr_iload (pc := 17) (i := 4) (by decide +kernel) rfl ?_
      refine sr_cV (pc := 19) (As := [sr_i x4]) (mc1 := 0) (ms1 := 0) (mc2 := 0) (ms2 := 0) fm_1_68 fl_1_68 (by decide +kernel) (sr_in3 _ (by omega)) (rm_1_firstToMend_3_of) rfl rfl rfl (C3_of l i1 x4 (by omega) t) ?_
      refine sr_kR (fun n1 t1 hv_n1 => ?_)
      refine sr_gI (pc := 22) fg_1_82 (by decide +kernel) (sr_in2 _ (by omega)) (fun _ => rfl) ?_
      refine sr_if_eq (pc := 25) (off := 13) (tg := 38) (by decide +kernel) (by decide) (fun _ => ?_) (fun _ => ?_)
      · refine sr_iconst (pc := 38) (n := (-1)) (v := (-1)) (by decide +kernel) rfl ?_
        exact sr_wk (sr_mono (mc := 0) (ms := 0) (by omega) (by omega) (g1_firstToMend_39 l i1 hv_i1 (f1_firstToMend_7 i1 k70 n) k70 ih hk70 x2 x3 x4 ((-1)) t1)) ⟨rfl, ⟨rfl, ⟨rfl, ⟨rfl, ⟨rfl, trivial⟩⟩⟩⟩⟩
      · refine sr_aloadn (pc := 28) (n := 0) (by decide +kernel) rfl ?_
        refine sr_aloadn (pc := 29) (n := 1) (by decide +kernel) rfl ?_
        refine sr_iload (pc := 30) (i := 4) (by decide +kernel) rfl ?_
        refine sr_cV (pc := 32) (As := [sr_r 3 i1, sr_i x4]) (mc1 := 0) (ms1 := 0) (mc2 := 0) (ms2 := 0) fm_1_92 fl_1_92 (by decide +kernel) (sr_in1 _ (by omega)) (rm_1_firstToMend_1_hopsIfMended) rfl rfl rfl (C1_hopsIfMended l i1 x4 (by omega) t1) ?_
        refine sr_kI (fun v2 t2 => ?_)
        refine sr_goto (pc := 35) (off := 4) (tg := 39) (by decide +kernel) (by decide) ?_
        exact sr_wk (sr_mono (mc := 0) (ms := 0) (by omega) (by omega) (g1_firstToMend_39 l i1 hv_i1 (f1_firstToMend_7 i1 k70 n) k70 ih hk70 x2 x3 x4 v2 t2)) ⟨rfl, ⟨rfl, ⟨rfl, ⟨rfl, ⟨rfl, trivial⟩⟩⟩⟩⟩
def f1_firstToMend_70 (i1 : Nat)  : Int32 → sr_t → sr_Rs := fun x2 t => (some (.inl (some (sr_i x2)), t))
theorem g1_firstToMend_70 (l : Launch) (i1 : Nat) (hv_i1 : i1 < 2)   : ∀ (x2 : Int32), ∀ (t : sr_t), sr_g l sr_m1_firstToMend 70 [some (sr_r 1 0), some (sr_r 3 i1), some (sr_i x2), none, none, none] [] t (f1_firstToMend_70 i1  x2 t) 0 0 := by
  intro x2  t
  unfold f1_firstToMend_70
  refine sr_iloadn (pc := 70) (n := 2) (by decide +kernel) rfl ?_
  exact sr_iret (pc := 71) (by decide +kernel) rfl
def F1_firstToMend (i1 : Nat) (t : sr_t) : sr_Rs := f1_firstToMend_7 i1 (f1_firstToMend_70 i1) sr_fu ((-1)) 0 0 t
theorem C1_firstToMend (l : Launch) (i1 : Nat) (hv_i1 : i1 < 2) (t : sr_t) : sr_ct' l sr_m1_firstToMend [sr_r 1 0, sr_r 3 i1] t (F1_firstToMend i1 t) 0 0 := by
  refine sr_T_of (L0 := [some (sr_r 1 0), some (sr_r 3 i1), none, none, none, none]) rfl (by decide +kernel) (fun _ => rfl) (fun _ => Nat.le_of_ble_eq_true rfl) ?_
  unfold F1_firstToMend
  refine sr_iconst (pc := 0) (n := (-1)) (v := (-1)) (by decide +kernel) rfl ?_
  refine sr_istoren (pc := 1) (n := 2) (by decide +kernel) (by decide) rfl rfl ?_
  refine sr_iconst (pc := 2) (n := 0) (v := 0) (by decide +kernel) rfl ?_
  refine sr_istoren (pc := 3) (n := 3) (by decide +kernel) (by decide) rfl rfl ?_
  refine sr_iconst (pc := 4) (n := 0) (v := 0) (by decide +kernel) rfl ?_
  refine sr_istore (pc := 5) (i := 4) (by decide +kernel) (by decide) rfl rfl ?_
  exact sr_wk (sr_mono (mc := 0) (ms := 0) (by omega) (by omega) (g1_firstToMend_7 l i1 hv_i1 (f1_firstToMend_70 i1) (g1_firstToMend_70 l i1 hv_i1) sr_fu ((-1)) 0 0 t)) ⟨rfl, ⟨rfl, ⟨rfl, ⟨rfl, ⟨rfl, trivial⟩⟩⟩⟩⟩
def f6_entryAt_26 (a0 : Int32)  : Nat → sr_t → sr_Rs := fun js0 t => (some (.inl (some (sr_r 0 js0)), t))
theorem g6_entryAt_26 (l : Launch) (a0 : Int32)    : ∀ (js0 : Nat), js0 < 33 → ∀ (t : sr_t), sr_g l sr_m6_entryAt 26 [some (sr_r 6 0), some (sr_i a0)] [sr_r 0 js0] t (f6_entryAt_26 a0  js0 t) 0 0 := by
  intro js0 hv_js0 t
  unfold f6_entryAt_26
  exact sr_aret (pc := 26) (by decide +kernel) rfl
def f6_entryAt_22 (a0 : Int32)  : sr_t → sr_Rs := fun  t => f6_entryAt_26 a0 32 t
theorem g6_entryAt_22 (l : Launch) (a0 : Int32)    : ∀ (t : sr_t), sr_g l sr_m6_entryAt 22 [some (sr_r 6 0), some (sr_i a0)] [] t (f6_entryAt_22 a0   t) 0 0 := by
  intro t
  unfold f6_entryAt_22
  refine sr_aloadn (pc := 22) (n := 0) (by decide +kernel) rfl ?_
  refine sr_gC (pc := 23) (i2 := 32) fg_6_18 (by decide +kernel) (sr_in6 _ (by omega)) (fun _ => rfl) ?_
  exact sr_wk (sr_mono (mc := 0) (ms := 0) (by omega) (by omega) (g6_entryAt_26 l a0 32 (by omega) t)) ⟨rfl, ⟨rfl, trivial⟩⟩
def F6_entryAt (a0 : Int32) (t : sr_t) : sr_Rs := (if a0 < 0 then f6_entryAt_22 a0 t else (if 32 ≤ a0 then f6_entryAt_22 a0 t else (if a0 < 0 ∨ 32 ≤ a0.toNatClampNeg then none else f6_entryAt_26 a0 a0.toNatClampNeg t)))
theorem C6_entryAt (l : Launch) (a0 : Int32)  (t : sr_t) : sr_ct' l sr_m6_entryAt [sr_r 6 0, sr_i a0] t (F6_entryAt a0 t) 0 0 := by
  refine sr_T_of (L0 := [some (sr_r 6 0), some (sr_i a0)]) rfl (by decide +kernel) (fun _ => rfl) (fun _ => Nat.le_of_ble_eq_true rfl) ?_
  unfold F6_entryAt
  refine sr_iloadn (pc := 0) (n := 1) (by decide +kernel) rfl ?_
  refine sr_if_lt (pc := 1) (off := 21) (tg := 22) (by decide +kernel) (by decide) (fun _ => ?_) (fun _ => ?_)
  · exact sr_wk (sr_mono (mc := 0) (ms := 0) (by omega) (by omega) (g6_entryAt_22 l a0 t)) ⟨rfl, ⟨rfl, trivial⟩⟩
  · refine sr_iloadn (pc := 4) (n := 1) (by decide +kernel) rfl ?_
    refine sr_aloadn (pc := 5) (n := 0) (by decide +kernel) rfl ?_
    refine sr_gC (pc := 6) (i2 := 0) fg_6_11 (by decide +kernel) (sr_in6 _ (by omega)) (fun _ => rfl) ?_
    refine sr_al' (pc := 9) (ty := 3) (n := 32) (v := 32) rfl (by decide) (by decide +kernel) (sr_in22 _ (by omega)) (by decide) ?_
    refine sr_icmp_ge (pc := 10) (off := 12) (tg := 22) (by decide +kernel) (by decide) (fun _ => ?_) (fun _ => ?_)
    · exact sr_wk (sr_mono (mc := 0) (ms := 0) (by omega) (by omega) (g6_entryAt_22 l a0 t)) ⟨rfl, ⟨rfl, trivial⟩⟩
    · refine sr_aloadn (pc := 13) (n := 0) (by decide +kernel) rfl ?_
      refine sr_gC (pc := 14) (i2 := 0) fg_6_11 (by decide +kernel) (sr_in6 _ (by omega)) (fun _ => rfl) ?_
      refine sr_iloadn (pc := 17) (n := 1) (by decide +kernel) rfl ?_
      refine sr_aA (pc := 18) (n := 32) (f := (fun j => j)) rfl (by decide) (by decide +kernel) (sr_in22 _ (by omega)) (fun _ _ => rfl) (fun hv_x => ?_)
      refine sr_goto (pc := 19) (off := 7) (tg := 26) (by decide +kernel) (by decide) ?_
      exact sr_wk (sr_mono (mc := 0) (ms := 0) (by omega) (by omega) (g6_entryAt_26 l a0 a0.toNatClampNeg (by omega) t)) ⟨rfl, ⟨rfl, trivial⟩⟩
