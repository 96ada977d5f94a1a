def f0_versionAt_23 (i0 : Nat) (a0 : Int32)  : Int32 → sr_t → sr_Rs := fun xs0 t => (some (.inl (some (sr_i xs0)), t))
theorem g0_versionAt_23 (l : Launch) (i0 : Nat) (a0 : Int32) (hv_i0 : i0 < 33)   : ∀ (xs0 : Int32), ∀ (t : sr_t), sr_g l sr_m0_versionAt 23 [some (sr_r 0 i0), some (sr_i a0)] [sr_i xs0] t (f0_versionAt_23 i0 a0  xs0 t) 0 0 := by
  intro xs0  t
  unfold f0_versionAt_23
  exact sr_iret (pc := 23) (by decide +kernel) rfl
def f0_versionAt_22 (i0 : Nat) (a0 : Int32)  : sr_t → sr_Rs := fun  t => f0_versionAt_23 i0 a0 0 t
theorem g0_versionAt_22 (l : Launch) (i0 : Nat) (a0 : Int32) (hv_i0 : i0 < 33)   : ∀ (t : sr_t), sr_g l sr_m0_versionAt 22 [some (sr_r 0 i0), some (sr_i a0)] [] t (f0_versionAt_22 i0 a0   t) 0 0 := by
  intro t
  unfold f0_versionAt_22
  refine sr_iconst (pc := 22) (n := 0) (v := 0) (by decide +kernel) rfl ?_
  exact sr_wk (sr_mono (mc := 0) (ms := 0) (by omega) (by omega) (g0_versionAt_23 l i0 a0 hv_i0 0 t)) ⟨rfl, ⟨rfl, trivial⟩⟩
def F0_versionAt (i0 : Nat) (a0 : Int32) (t : sr_t) : sr_Rs := (if a0 < 0 then f0_versionAt_22 i0 a0 t else (if 24 ≤ a0 then f0_versionAt_22 i0 a0 t else (if a0 < 0 ∨ 24 ≤ a0.toNatClampNeg then none else f0_versionAt_23 i0 a0 (t.1 21 i0 a0.toNatClampNeg) t)))
theorem C0_versionAt (l : Launch) (i0 : Nat) (a0 : Int32) (hv_i0 : i0 < 33) (t : sr_t) : sr_ct' l sr_m0_versionAt [sr_r 0 i0, sr_i a0] t (F0_versionAt i0 a0 t) 0 0 := by
  refine sr_T_of (L0 := [some (sr_r 0 i0), some (sr_i a0)]) rfl (by decide +kernel) (fun _ => rfl) (fun _ => Nat.le_of_ble_eq_true rfl) ?_
  unfold F0_versionAt
  refine sr_iloadn (pc := 0) (n := 1) (by decide +kernel) rfl ?_
  refine sr_if_lt (pc := 1) (off := 21) (tg := 22) (by decide +kernel) (by decide) (fun _ => ?_) (fun _ => ?_)
  · exact sr_wk (sr_mono (mc := 0) (ms := 0) (by omega) (by omega) (g0_versionAt_22 l i0 a0 hv_i0 t)) ⟨rfl, ⟨rfl, trivial⟩⟩
  · refine sr_iloadn (pc := 4) (n := 1) (by decide +kernel) rfl ?_
    refine sr_aloadn (pc := 5) (n := 0) (by decide +kernel) rfl ?_
    refine sr_gC (pc := 6) (i2 := i0) fg_0_19 (by decide +kernel) (sr_in0 _ (by omega)) (fun _ => rfl) ?_
    refine sr_al' (pc := 9) (ty := 0) (n := 24) (v := 24) rfl (by decide) (by decide +kernel) (sr_in21 _ (by omega)) (by decide) ?_
    refine sr_icmp_ge (pc := 10) (off := 12) (tg := 22) (by decide +kernel) (by decide) (fun _ => ?_) (fun _ => ?_)
    · exact sr_wk (sr_mono (mc := 0) (ms := 0) (by omega) (by omega) (g0_versionAt_22 l i0 a0 hv_i0 t)) ⟨rfl, ⟨rfl, trivial⟩⟩
    · refine sr_aloadn (pc := 13) (n := 0) (by decide +kernel) rfl ?_
      refine sr_gC (pc := 14) (i2 := i0) fg_0_19 (by decide +kernel) (sr_in0 _ (by omega)) (fun _ => rfl) ?_
      refine sr_iloadn (pc := 17) (n := 1) (by decide +kernel) rfl ?_
      refine sr_aI (pc := 18) (n := 24) rfl (by decide +kernel) (sr_in21 _ (by omega)) (fun _ _ => rfl) ?_
      refine sr_goto (pc := 19) (off := 4) (tg := 23) (by decide +kernel) (by decide) ?_
      exact sr_wk (sr_mono (mc := 0) (ms := 0) (by omega) (by omega) (g0_versionAt_23 l i0 a0 hv_i0 (t.1 21 i0 a0.toNatClampNeg) t)) ⟨rfl, ⟨rfl, trivial⟩⟩
def f0_isHeldBy_13 (i0 : Nat) (a0 : Int32)  : Int32 → sr_t → sr_Rs := fun xs0 t => (if xs0 = 0 ∨ xs0 = 1 then some (.inl (some (sr_i xs0)), t) else none)
theorem g0_isHeldBy_13 (l : Launch) (i0 : Nat) (a0 : Int32) (hv_i0 : i0 < 33)   : ∀ (xs0 : Int32), ∀ (t : sr_t), sr_g l sr_m0_isHeldBy 13 [some (sr_r 0 i0), some (sr_i a0)] [sr_i xs0] t (f0_isHeldBy_13 i0 a0  xs0 t) 0 0 := by
  intro xs0  t
  unfold f0_isHeldBy_13
  exact sr_zr (pc := 13) (by decide +kernel) rfl
def F0_isHeldBy (i0 : Nat) (a0 : Int32) (t : sr_t) : sr_Rs := (sr_bI (F0_versionAt i0 a0 t) (fun v1 t1 => (if v1 ≤ 0 then f0_isHeldBy_13 i0 a0 0 t1 else f0_isHeldBy_13 i0 a0 1 t1)))
theorem C0_isHeldBy (l : Launch) (i0 : Nat) (a0 : Int32) (hv_i0 : i0 < 33) (t : sr_t) : sr_ct' l sr_m0_isHeldBy [sr_r 0 i0, sr_i a0] t (F0_isHeldBy i0 a0 t) 0 0 := by
  refine sr_T_of (L0 := [some (sr_r 0 i0), some (sr_i a0)]) rfl (by decide +kernel) (fun _ => rfl) (fun _ => Nat.le_of_ble_eq_true rfl) ?_
  unfold F0_isHeldBy
  refine sr_aloadn (pc := 0) (n := 0) (by decide +kernel) rfl ?_
  refine sr_iloadn (pc := 1) (n := 1) (by decide +kernel) rfl ?_
  refine sr_cV (pc := 2) (As := [sr_i a0]) (mc1 := 0) (ms1 := 0) (mc2 := 0) (ms2 := 0) fm_0_22 fl_0_22 (by decide +kernel) (sr_in0 _ (by omega)) (rm_0_isHeldBy_0_versionAt) rfl rfl rfl (C0_versionAt l i0 a0 (by omega) t) ?_
  refine sr_kI (fun v1 t1 => ?_)
  refine sr_if_le (pc := 5) (off := 7) (tg := 12) (by decide +kernel) (by decide) (fun _ => ?_) (fun _ => ?_)
  · refine sr_iconst (pc := 12) (n := 0) (v := 0) (by decide +kernel) rfl ?_
    exact sr_wk (sr_mono (mc := 0) (ms := 0) (by omega) (by omega) (g0_isHeldBy_13 l i0 a0 hv_i0 0 t1)) ⟨rfl, ⟨rfl, trivial⟩⟩
  · refine sr_iconst (pc := 8) (n := 1) (v := 1) (by decide +kernel) rfl ?_
    refine sr_goto (pc := 9) (off := 4) (tg := 13) (by decide +kernel) (by decide) ?_
    exact sr_wk (sr_mono (mc := 0) (ms := 0) (by omega) (by omega) (g0_isHeldBy_13 l i0 a0 hv_i0 1 t1)) ⟨rfl, ⟨rfl, trivial⟩⟩
def f0_bitsOfHolders_49 (i0 : Nat) (a0 : Int32) (k4 : Int32 → Int32 → sr_t → sr_Rs) (k55 : Int32 → sr_t → sr_Rs) : Int32 → Int32 → sr_t → sr_Rs := fun x2 x3 t => k4 x2 (x3 + 1) t
theorem g0_bitsOfHolders_49 (l : Launch) (i0 : Nat) (a0 : Int32) (hv_i0 : i0 < 33) (k4 : Int32 → Int32 → sr_t → sr_Rs) (k55 : Int32 → sr_t → sr_Rs) (hk4 : ∀ (x2 : Int32) (x3 : Int32), ∀ (t : sr_t), sr_g l sr_m0_bitsOfHolders 4 [some (sr_r 0 i0), some (sr_i a0), some (sr_i x2), some (sr_i x3)] [] t (k4 x2 x3 t) 0 0) (hk55 : ∀ (x2 : Int32), ∀ (t : sr_t), sr_g l sr_m0_bitsOfHolders 55 [some (sr_r 0 i0), some (sr_i a0), some (sr_i x2), none] [] t (k55 x2 t) 0 0) : ∀ (x2 : Int32) (x3 : Int32), ∀ (t : sr_t), sr_g l sr_m0_bitsOfHolders 49 [some (sr_r 0 i0), some (sr_i a0), some (sr_i x2), some (sr_i x3)] [] t (f0_bitsOfHolders_49 i0 a0 k4 k55 x2 x3 t) 0 0 := by
  intro x2 x3  t
  unfold f0_bitsOfHolders_49
  refine sr_iinc (pc := 49) (i := 3) (n := 1) (w := x3 + 1) (by decide +kernel) rfl rfl (by decide) rfl rfl ?_
  refine sr_goto (pc := 52) (off := (-48)) (tg := 4) (by decide +kernel) (by decide) ?_
  exact sr_wk (sr_mono (mc := 0) (ms := 0) (by omega) (by omega) (hk4 x2 (x3 + 1) t)) ⟨rfl, ⟨rfl, ⟨rfl, ⟨rfl, trivial⟩⟩⟩⟩
def f0_bitsOfHolders_38 (i0 : Nat) (a0 : Int32) (k4 : Int32 → Int32 → sr_t → sr_Rs) (k55 : Int32 → sr_t → sr_Rs) : Int32 → Int32 → Int32 → sr_t → sr_Rs := fun x2 x3 xs0 t => (if xs0 = a0 then (sr_bI (sr_nt (F10_bit x3 t)) (fun v1 t1 => f0_bitsOfHolders_49 i0 a0 k4 k55 (x2 ||| v1) x3 t1)) else f0_bitsOfHolders_49 i0 a0 k4 k55 x2 x3 t)
theorem g0_bitsOfHolders_38 (l : Launch) (i0 : Nat) (a0 : Int32) (hv_i0 : i0 < 33) (k4 : Int32 → Int32 → sr_t → sr_Rs) (k55 : Int32 → sr_t → sr_Rs) (hk4 : ∀ (x2 : Int32) (x3 : Int32), ∀ (t : sr_t), sr_g l sr_m0_bitsOfHolders 4 [some (sr_r 0 i0), some (sr_i a0), some (sr_i x2), some (sr_i x3)] [] t (k4 x2 x3 t) 0 0) (hk55 : ∀ (x2 : Int32), ∀ (t : sr_t), sr_g l sr_m0_bitsOfHolders 55 [some (sr_r 0 i0), some (sr_i a0), some (sr_i x2), none] [] t (k55 x2 t) 0 0) : ∀ (x2 : Int32) (x3 : Int32) (xs0 : Int32), ∀ (t : sr_t), sr_g l sr_m0_bitsOfHolders 38 [some (sr_r 0 i0), some (sr_i a0), some (sr_i x2), some (sr_i x3)] [sr_i xs0] t (f0_bitsOfHolders_38 i0 a0 k4 k55 x2 x3 xs0 t) 0 0 := by
  intro x2 x3 xs0  t
  unfold f0_bitsOfHolders_38
  refine sr_iloadn (pc := 38) (n := 1) (by decide +kernel) rfl ?_
  refine sr_icmp_ne (pc := 39) (off := 10) (tg := 49) (by decide +kernel) (by decide) (fun _ => ?_) (fun _ => ?_)
  · exact sr_wk (sr_mono (mc := 0) (ms := 0) (by omega) (by omega) (g0_bitsOfHolders_49 l i0 a0 hv_i0 k4 k55 hk4 hk55 x2 x3 t)) ⟨rfl, ⟨rfl, ⟨rfl, ⟨rfl, trivial⟩⟩⟩⟩
  · refine sr_iloadn (pc := 42) (n := 2) (by decide +kernel) rfl ?_
    refine sr_iloadn (pc := 43) (n := 3) (by decide +kernel) rfl ?_
    refine sr_cSN (pc := 44) (As := [sr_i x3]) (mc1 := 0) (ms1 := 0) (mc2 := 0) (ms2 := 0) fm_0_37 fl_0_37 (by decide +kernel) (rm_0_bitsOfHolders_10_bit) rfl rfl rfl (C10_bit l x3 t) ?_
    refine sr_kI (fun v1 t1 => ?_)
    refine sr_ior (pc := 47) (by decide +kernel) ?_
    refine sr_istoren (pc := 48) (n := 2) (by decide +kernel) (by decide) rfl rfl ?_
    exact sr_wk (sr_mono (mc := 0) (ms := 0) (by omega) (by omega) (g0_bitsOfHolders_49 l i0 a0 hv_i0 k4 k55 hk4 hk55 (x2 ||| v1) x3 t1)) ⟨rfl, ⟨rfl, ⟨rfl, ⟨rfl, trivial⟩⟩⟩⟩
def f0_bitsOfHolders_4 (i0 : Nat) (a0 : Int32) (k55 : Int32 → sr_t → sr_Rs) : Nat → Int32 → Int32 → sr_t → sr_Rs
  | 0 => fun _ _ _ => none
  | n + 1 => fun x2 x3 t => (if 24 ≤ x3 then k55 x2 t else (sr_bI (F0_isHeldBy i0 x3 t) (fun v1 t1 => (if v1 = 0 then f0_bitsOfHolders_49 i0 a0 (f0_bitsOfHolders_4 i0 a0 k55 n) k55 x2 x3 t1 else (sr_bI (F0_versionAt i0 x3 t1) (fun v2 t2 => (if v2 = (t2.1 0 i0 1) then f0_bitsOfHolders_38 i0 a0 (f0_bitsOfHolders_4 i0 a0 k55 n) k55 x2 x3 1 t2 else f0_bitsOfHolders_38 i0 a0 (f0_bitsOfHolders_4 i0 a0 k55 n) k55 x2 x3 0 t2)))))))
theorem g0_bitsOfHolders_4 (l : Launch) (i0 : Nat) (a0 : Int32) (hv_i0 : i0 < 33) (k55 : Int32 → sr_t → sr_Rs) (hk55 : ∀ (x2 : Int32), ∀ (t : sr_t), sr_g l sr_m0_bitsOfHolders 55 [some (sr_r 0 i0), some (sr_i a0), some (sr_i x2), none] [] t (k55 x2 t) 0 0) : ∀ (n : Nat) (x2 : Int32) (x3 : Int32), ∀ (t : sr_t), sr_g l sr_m0_bitsOfHolders 4 [some (sr_r 0 i0), some (sr_i a0), some (sr_i x2), some (sr_i x3)] [] t (f0_bitsOfHolders_4 i0 a0 k55 n x2 x3 t) 0 0 := by
  intro n
  induction n with
  | zero => intros; exact sr_Gn
  | succ n ih =>
    intro x2 x3  t
    unfold f0_bitsOfHolders_4
    refine sr_iloadn (pc := 4) (n := 3) (by decide +kernel) rfl ?_
    refine sr_aloadn (pc := 5) (n := 0) (by decide +kernel) rfl ?_
    refine sr_gC (pc := 6) (i2 := i0) fg_0_19 (by decide +kernel) (sr_in0 _ (by omega)) (fun _ => rfl) ?_
    refine sr_al' (pc := 9) (ty := 0) (n := 24) (v := 24) rfl (by decide) (by decide +kernel) (sr_in21 _ (by omega)) (by decide) ?_
    refine sr_icmp_ge (pc := 10) (off := 45) (tg := 55) (by decide +kernel) (by decide) (fun _ => ?_) (fun _ => ?_)
    · exact sr_wk (sr_mono (mc := 0) (ms := 0) (by omega) (by omega) (hk55 x2 t)) ⟨rfl, ⟨rfl, ⟨rfl, trivial⟩⟩⟩
    · refine sr_aloadn (pc := 13) (n := 0) (by decide +kernel) rfl ?_
      refine sr_iloadn (pc := 14) (n := 3) (by decide +kernel) rfl ?_
      refine sr_cV (pc := 15) (As := [sr_i x3]) (mc1 := 0) (ms1 := 0) (mc2 := 0) (ms2 := 0) fm_0_30 fl_0_30 (by decide +kernel) (sr_in0 _ (by omega)) (rm_0_bitsOfHolders_0_isHeldBy) rfl rfl rfl (C0_isHeldBy l i0 x3 (by omega) t) ?_
      refine sr_kI (fun v1 t1 => ?_)
      refine sr_if_eq (pc := 18) (off := 31) (tg := 49) (by decide +kernel) (by decide) (fun _ => ?_) (fun _ => ?_)
      · exact sr_wk (sr_mono (mc := 0) (ms := 0) (by omega) (by omega) (g0_bitsOfHolders_49 l i0 a0 hv_i0 (f0_bitsOfHolders_4 i0 a0 k55 n) k55 ih hk55 x2 x3 t1)) ⟨rfl, ⟨rfl, ⟨rfl, ⟨rfl, trivial⟩⟩⟩⟩
      · refine sr_aloadn (pc := 21) (n := 0) (by decide +kernel) rfl ?_
        refine sr_iloadn (pc := 22) (n := 3) (by decide +kernel) rfl ?_
        refine sr_cV (pc := 23) (As := [sr_i x3]) (mc1 := 0) (ms1 := 0) (mc2 := 0) (ms2 := 0) fm_0_22 fl_0_22 (by decide +kernel) (sr_in0 _ (by omega)) (rm_0_bitsOfHolders_0_versionAt) rfl rfl rfl (C0_versionAt l i0 x3 (by omega) t1) ?_
        refine sr_kI (fun v2 t2 => ?_)
        refine sr_aloadn (pc := 26) (n := 0) (by decide +kernel) rfl ?_
        refine sr_gI (pc := 27) fg_0_34 (by decide +kernel) (sr_in0 _ (by omega)) (fun _ => rfl) ?_
        refine sr_icmp_ne (pc := 30) (off := 7) (tg := 37) (by decide +kernel) (by decide) (fun _ => ?_) (fun _ => ?_)
        · refine sr_iconst (pc := 37) (n := 0) (v := 0) (by decide +kernel) rfl ?_
          exact sr_wk (sr_mono (mc := 0) (ms := 0) (by omega) (by omega) (g0_bitsOfHolders_38 l i0 a0 hv_i0 (f0_bitsOfHolders_4 i0 a0 k55 n) k55 ih hk55 x2 x3 0 t2)) ⟨rfl, ⟨rfl, ⟨rfl, ⟨rfl, trivial⟩⟩⟩⟩
        · refine sr_iconst (pc := 33) (n := 1) (v := 1) (by decide +kernel) rfl ?_
          refine sr_goto (pc := 34) (off := 4) (tg := 38) (by decide +kernel) (by decide) ?_
          exact sr_wk (sr_mono (mc := 0) (ms := 0) (by omega) (by omega) (g0_bitsOfHolders_38 l i0 a0 hv_i0 (f0_bitsOfHolders_4 i0 a0 k55 n) k55 ih hk55 x2 x3 1 t2)) ⟨rfl, ⟨rfl, ⟨rfl, ⟨rfl, trivial⟩⟩⟩⟩
def f0_bitsOfHolders_55 (i0 : Nat) (a0 : Int32)  : Int32 → sr_t → sr_Rs := fun x2 t => (some (.inl (some (sr_i x2)), t))
theorem g0_bitsOfHolders_55 (l : Launch) (i0 : Nat) (a0 : Int32) (hv_i0 : i0 < 33)   : ∀ (x2 : Int32), ∀ (t : sr_t), sr_g l sr_m0_bitsOfHolders 55 [some (sr_r 0 i0), some (sr_i a0), some (sr_i x2), none] [] t (f0_bitsOfHolders_55 i0 a0  x2 t) 0 0 := by
  intro x2  t
  unfold f0_bitsOfHolders_55
  refine sr_iloadn (pc := 55) (n := 2) (by decide +kernel) rfl ?_
  exact sr_iret (pc := 56) (by decide +kernel) rfl
def F0_bitsOfHolders (i0 : Nat) (a0 : Int32) (t : sr_t) : sr_Rs := f0_bitsOfHolders_4 i0 a0 (f0_bitsOfHolders_55 i0 a0) sr_fu 0 0 t
theorem C0_bitsOfHolders (l : Launch) (i0 : Nat) (a0 : Int32) (hv_i0 : i0 < 33) (t : sr_t) : sr_ct' l sr_m0_bitsOfHolders [sr_r 0 i0, sr_i a0] t (F0_bitsOfHolders i0 a0 t) 0 0 := by
  refine sr_T_of (L0 := [some (sr_r 0 i0), some (sr_i a0), none, none]) rfl (by decide +kernel) (fun _ => rfl) (fun _ => Nat.le_of_ble_eq_true rfl) ?_
  unfold F0_bitsOfHolders
  refine sr_iconst (pc := 0) (n := 0) (v := 0) (by decide +kernel) rfl ?_
  refine sr_istoren (pc := 1) (n := 2) (by decide +kernel) (by decide) rfl rfl ?_
  refine sr_iconst (pc := 2) (n := 0) (v := 0) (by decide +kernel) rfl ?_
  refine sr_istoren (pc := 3) (n := 3) (by decide +kernel) (by decide) rfl rfl ?_
  exact sr_wk (sr_mono (mc := 0) (ms := 0) (by omega) (by omega) (g0_bitsOfHolders_4 l i0 a0 hv_i0 (f0_bitsOfHolders_55 i0 a0) (g0_bitsOfHolders_55 l i0 a0 hv_i0) sr_fu 0 0 t)) ⟨rfl, ⟨rfl, ⟨rfl, ⟨rfl, trivial⟩⟩⟩⟩
def f6_countOfMissing_32 (i1 : Nat) (k4 : Int32 → Int32 → sr_t → sr_Rs) (k38 : Int32 → sr_t → sr_Rs) : Int32 → Int32 → sr_t → sr_Rs := fun x2 x3 t => k4 x2 (x3 + 1) t
theorem g6_countOfMissing_32 (l : Launch) (i1 : Nat) (hv_i1 : i1 < 2) (k4 : Int32 → Int32 → sr_t → sr_Rs) (k38 : Int32 → sr_t → sr_Rs) (hk4 : ∀ (x2 : Int32) (x3 : Int32), ∀ (t : sr_t), sr_g l sr_m6_countOfMissing 4 [some (sr_r 6 0), some (sr_r 3 i1), some (sr_i x2), some (sr_i x3)] [] t (k4 x2 x3 t) 0 0) (hk38 : ∀ (x2 : Int32), ∀ (t : sr_t), sr_g l sr_m6_countOfMissing 38 [some (sr_r 6 0), some (sr_r 3 i1), some (sr_i x2), none] [] t (k38 x2 t) 0 0) : ∀ (x2 : Int32) (x3 : Int32), ∀ (t : sr_t), sr_g l sr_m6_countOfMissing 32 [some (sr_r 6 0), some (sr_r 3 i1), some (sr_i x2), some (sr_i x3)] [] t (f6_countOfMissing_32 i1 k4 k38 x2 x3 t) 0 0 := by
  intro x2 x3  t
  unfold f6_countOfMissing_32
  refine sr_iinc (pc := 32) (i := 3) (n := 1) (w := x3 + 1) (by decide +kernel) rfl rfl (by decide) rfl rfl ?_
  refine sr_goto (pc := 35) (off := (-31)) (tg := 4) (by decide +kernel) (by decide) ?_
  exact sr_wk (sr_mono (mc := 0) (ms := 0) (by omega) (by omega) (hk4 x2 (x3 + 1) t)) ⟨rfl, ⟨rfl, ⟨rfl, ⟨rfl, trivial⟩⟩⟩⟩
def f6_countOfMissing_4 (i1 : Nat) (k38 : Int32 → sr_t → sr_Rs) : Nat → Int32 → Int32 → sr_t → sr_Rs
  | 0 => fun _ _ _ => none
  | n + 1 => fun x2 x3 t => (if (t.1 6 0 2) ≤ x3 then k38 x2 t else (sr_bR 0 33 (F6_entryAt x3 t) (fun n1 t1 => (sr_bI (F0_bitsOfHolders n1 1 t1) (fun v2 t2 => (sr_bI (F3_upBits i1 t2) (fun v3 t3 => (if (v2 &&& v3) = 0 then f6_countOfMissing_32 i1 (f6_countOfMissing_4 i1 k38 n) k38 (x2 + 1) x3 t3 else f6_countOfMissing_32 i1 (f6_countOfMissing_4 i1 k38 n) k38 x2 x3 t3))))))))
theorem g6_countOfMissing_4 (l : Launch) (i1 : Nat) (hv_i1 : i1 < 2) (k38 : Int32 → sr_t → sr_Rs) (hk38 : ∀ (x2 : Int32), ∀ (t : sr_t), sr_g l sr_m6_countOfMissing 38 [some (sr_r 6 0), some (sr_r 3 i1), some (sr_i x2), none] [] t (k38 x2 t) 0 0) : ∀ (n : Nat) (x2 : Int32) (x3 : Int32), ∀ (t : sr_t), sr_g l sr_m6_countOfMissing 4 [some (sr_r 6 0), some (sr_r 3 i1), some (sr_i x2), some (sr_i x3)] [] t (f6_countOfMissing_4 i1 k38 n x2 x3 t) 0 0 := by
  intro n
  induction n with
  | zero => intros; exact sr_Gn
  | succ n ih =>
    intro x2 x3  t
    unfold f6_countOfMissing_4
    refine sr_iloadn (pc := 4) (n := 3) (by decide +kernel) rfl ?_
    refine sr_aloadn (pc := 5) (n := 0) (by decide +kernel) rfl ?_
    refine sr_gI (pc := 6) fg_6_26 (by decide +kernel) (sr_in6 _ (by omega)) (fun _ => rfl) ?_
    refine sr_icmp_ge (pc := 9) (off := 29) (tg := 38) (by decide +kernel) (by decide) (fun _ => ?_) (fun _ => ?_)
    · exact sr_wk (sr_mono (mc := 0) (ms := 0) (by omega) (by omega) (hk38 x2 t)) ⟨rfl, ⟨rfl, ⟨rfl, trivial⟩⟩⟩
    · refine sr_aloadn (pc := 12) (n := 0) (by decide +kernel) rfl ?_
      refine sr_iloadn (pc := 13) (n := 3) (by decide +kernel) rfl ?_
      refine sr_cV (pc := 14) (As := [sr_i x3]) (mc1 := 0) (ms1 := 0) (mc2 := 0) (ms2 := 0) fm_6_29 fl_6_29 (by decide +kernel) (sr_in6 _ (by omega)) (rm_6_countOfMissing_6_entryAt) rfl rfl rfl (C6_entryAt l x3 t) ?_
      refine sr_kR (fun n1 t1 hv_n1 => ?_)
      refine sr_iconst (pc := 17) (n := 1) (v := 1) (by decide +kernel) rfl ?_
      refine sr_cV (pc := 18) (As := [sr_i 1]) (mc1 := 0) (ms1 := 0) (mc2 := 0) (ms2 := 0) fm_6_113 fl_6_113 (by decide +kernel) (sr_in0 _ (by omega)) (rm_6_countOfMissing_0_bitsOfHolders) rfl rfl rfl (C0_bitsOfHolders l n1 1 (by omega) t1) ?_
      refine sr_kI (fun v2 t2 => ?_)
      refine sr_aloadn (pc := 21) (n := 1) (by decide +kernel) rfl ?_
      refine sr_cV (pc := 22) (As := []) (mc1 := 0) (ms1 := 0) (mc2 := 0) (ms2 := 0) fm_6_117 fl_6_117 (by decide +kernel) (sr_in3 _ (by omega)) (rm_6_countOfMissing_3_upBits) rfl rfl rfl (C3_upBits l i1 (by omega) t2) ?_
      refine sr_kI (fun v3 t3 => ?_)
      refine sr_iand (pc := 25) (by decide +kernel) ?_
      refine sr_if_ne (pc := 26) (off := 6) (tg := 32) (by decide +kernel) (by decide) (fun _ => ?_) (fun _ => ?_)
      · exact sr_wk (sr_mono (mc := 0) (ms := 0) (by omega) (by omega) (g6_countOfMissing_32 l i1 hv_i1 (f6_countOfMissing_4 i1 k38 n) k38 ih hk38 x2 x3 t3)) ⟨rfl, ⟨rfl, ⟨rfl, ⟨rfl, trivial⟩⟩⟩⟩
      · refine sr_iinc (pc := 29) (i := 2) (n := 1) (w := x2 + 1) (by decide +kernel) rfl rfl (by decide) rfl rfl ?_
        exact sr_wk (sr_mono (mc := 0) (ms := 0) (by omega) (by omega) (g6_countOfMissing_32 l i1 hv_i1 (f6_countOfMissing_4 i1 k38 n) k38 ih hk38 (x2 + 1) x3 t3)) ⟨rfl, ⟨rfl, ⟨rfl, ⟨rfl, trivial⟩⟩⟩⟩
def f6_countOfMissing_38 (i1 : Nat)  : Int32 → sr_t → sr_Rs := fun x2 t => (some (.inl (some (sr_i x2)), t))
theorem g6_countOfMissing_38 (l : Launch) (i1 : Nat) (hv_i1 : i1 < 2)   : ∀ (x2 : Int32), ∀ (t : sr_t), sr_g l sr_m6_countOfMissing 38 [some (sr_r 6 0), some (sr_r 3 i1), some (sr_i x2), none] [] t (f6_countOfMissing_38 i1  x2 t) 0 0 := by
  intro x2  t
  unfold f6_countOfMissing_38
  refine sr_iloadn (pc := 38) (n := 2) (by decide +kernel) rfl ?_
  exact sr_iret (pc := 39) (by decide +kernel) rfl
def F6_countOfMissing (i1 : Nat) (t : sr_t) : sr_Rs := f6_countOfMissing_4 i1 (f6_countOfMissing_38 i1) sr_fu 0 0 t
theorem C6_countOfMissing (l : Launch) (i1 : Nat) (hv_i1 : i1 < 2) (t : sr_t) : sr_ct' l sr_m6_countOfMissing [sr_r 6 0, sr_r 3 i1] t (F6_countOfMissing i1 t) 0 0 := by
  refine sr_T_of (L0 := [some (sr_r 6 0), some (sr_r 3 i1), none, none]) rfl (by decide +kernel) (fun _ => rfl) (fun _ => Nat.le_of_ble_eq_true rfl) ?_
  unfold F6_countOfMissing
  refine sr_iconst (pc := 0) (n := 0) (v := 0) (by decide +kernel) rfl ?_
  refine sr_istoren (pc := 1) (n := 2) (by decide +kernel) (by decide) rfl rfl ?_
  refine sr_iconst (pc := 2) (n := 0) (v := 0) (by decide +kernel) rfl ?_
  refine sr_istoren (pc := 3) (n := 3) (by decide +kernel) (by decide) rfl rfl ?_
  exact sr_wk (sr_mono (mc := 0) (ms := 0) (by omega) (by omega) (g6_countOfMissing_4 l i1 hv_i1 (f6_countOfMissing_38 i1) (g6_countOfMissing_38 l i1 hv_i1) sr_fu 0 0 t)) ⟨rfl, ⟨rfl, ⟨rfl, ⟨rfl, trivial⟩⟩⟩⟩
def f3_gapOfLoads_44 (i0 : Nat) (k12 : Int32 → Int32 → Int32 → sr_t → sr_Rs) (k50 : Int32 → Int32 → sr_t → sr_Rs) : Int32 → Int32 → Int32 → sr_t → sr_Rs := fun x1 x2 x3 t => k12 x1 x2 (x3 + 1) t
theorem g3_gapOfLoads_44 (l : Launch) (i0 : Nat) (hv_i0 : i0 < 2) (k12 : Int32 → Int32 → Int32 → sr_t → sr_Rs) (k50 : Int32 → Int32 → sr_t → sr_Rs) (hk12 : ∀ (x1 : Int32) (x2 : Int32) (x3 : Int32), ∀ (t : sr_t), sr_g l sr_m3_gapOfLoads 12 [some (sr_r 3 i0), some (sr_i x1), some (sr_i x2), some (sr_i x3)] [] t (k12 x1 x2 x3 t) 0 0) (hk50 : ∀ (x1 : Int32) (x2 : Int32), ∀ (t : sr_t), sr_g l sr_m3_gapOfLoads 50 [some (sr_r 3 i0), some (sr_i x1), some (sr_i x2), none] [] t (k50 x1 x2 t) 0 0) : ∀ (x1 : Int32) (x2 : Int32) (x3 : Int32), ∀ (t : sr_t), sr_g l sr_m3_gapOfLoads 44 [some (sr_r 3 i0), some (sr_i x1), some (sr_i x2), some (sr_i x3)] [] t (f3_gapOfLoads_44 i0 k12 k50 x1 x2 x3 t) 0 0 := by
  intro x1 x2 x3  t
  unfold f3_gapOfLoads_44
  refine sr_iinc (pc := 44) (i := 3) (n := 1) (w := x3 + 1) (by decide +kernel) rfl rfl (by decide) rfl rfl ?_
  refine sr_goto (pc := 47) (off := (-35)) (tg := 12) (by decide +kernel) (by decide) ?_
  exact sr_wk (sr_mono (mc := 0) (ms := 0) (by omega) (by omega) (hk12 x1 x2 (x3 + 1) t)) ⟨rfl, ⟨rfl, ⟨rfl, ⟨rfl, trivial⟩⟩⟩⟩
def f3_gapOfLoads_12 (i0 : Nat) (k50 : Int32 → Int32 → sr_t → sr_Rs) : Nat → Int32 → Int32 → Int32 → sr_t → sr_Rs
  | 0 => fun _ _ _ _ => none
  | n + 1 => fun x1 x2 x3 t => (if (t.1 3 i0 3) ≤ x3 then k50 x1 x2 t else (sr_bR 2 50 (F3_of i0 x3 t) (fun n1 t1 => (if (t1.1 2 n1 2) = 0 then f3_gapOfLoads_44 i0 (f3_gapOfLoads_12 i0 k50 n) k50 x1 x2 x3 t1 else (sr_bR 2 50 (F3_of i0 x3 t1) (fun n2 t2 => f3_gapOfLoads_44 i0 (f3_gapOfLoads_12 i0 k50 n) k50 x1 (if (t2.1 2 n2 7) < x2 then (t2.1 2 n2 7) else x2) x3 t2))))))
theorem g3_gapOfLoads_12 (l : Launch) (i0 : Nat) (hv_i0 : i0 < 2) (k50 : Int32 → Int32 → sr_t → sr_Rs) (hk50 : ∀ (x1 : Int32) (x2 : Int32), ∀ (t : sr_t), sr_g l sr_m3_gapOfLoads 50 [some (sr_r 3 i0), some (sr_i x1), some (sr_i x2), none] [] t (k50 x1 x2 t) 0 0) : ∀ (n : Nat) (x1 : Int32) (x2 : Int32) (x3 : Int32), ∀ (t : sr_t), sr_g l sr_m3_gapOfLoads 12 [some (sr_r 3 i0), some (sr_i x1), some (sr_i x2), some (sr_i x3)] [] t (f3_gapOfLoads_12 i0 k50 n x1 x2 x3 t) 0 0 := by
  intro n
  induction n with
  | zero => intros; exact sr_Gn
  | succ n ih =>
    intro x1 x2 x3  t
    unfold f3_gapOfLoads_12
    refine sr_iloadn (pc := 12) (n := 3) (by decide +kernel) rfl ?_
    refine sr_aloadn (pc := 13) (n := 0) (by decide +kernel) rfl ?_
    refine sr_gI (pc := 14) fg_3_51 (by decide +kernel) (sr_in3 _ (by omega)) (fun _ => rfl) ?_
    refine sr_icmp_ge (pc := 17) (off := 33) (tg := 50) (by decide +kernel) (by decide) (fun _ => ?_) (fun _ => ?_)
    · exact sr_wk (sr_mono (mc := 0) (ms := 0) (by omega) (by omega) (hk50 x1 x2 t)) ⟨rfl, ⟨rfl, ⟨rfl, trivial⟩⟩⟩
    · refine sr_aloadn (pc := 20) (n := 0) (by decide +kernel) rfl ?_
      refine sr_iloadn (pc := 21) (n := 3) (by decide +kernel) rfl ?_
      refine sr_cV (pc := 22) (As := [sr_i x3]) (mc1 := 0) (ms1 := 0) (mc2 := 0) (ms2 := 0) fm_3_54 fl_3_54 (by decide +kernel) (sr_in3 _ (by omega)) (rm_3_gapOfLoads_3_of) rfl rfl rfl (C3_of l i0 x3 (by omega) t) ?_
      refine sr_kR (fun n1 t1 hv_n1 => ?_)
      refine sr_gI (pc := 25) fg_3_68 (by decide +kernel) (sr_in2 _ (by omega)) (fun _ => rfl) ?_
      refine sr_if_eq (pc := 28) (off := 16) (tg := 44) (by decide +kernel) (by decide) (fun _ => ?_) (fun _ => ?_)
      · exact sr_wk (sr_mono (mc := 0) (ms := 0) (by omega) (by omega) (g3_gapOfLoads_44 l i0 hv_i0 (f3_gapOfLoads_12 i0 k50 n) k50 ih hk50 x1 x2 x3 t1)) ⟨rfl, ⟨rfl, ⟨rfl, ⟨rfl, trivial⟩⟩⟩⟩
      · refine sr_iloadn (pc := 31) (n := 2) (by decide +kernel) rfl ?_
        refine sr_aloadn (pc := 32) (n := 0) (by decide +kernel) rfl ?_
        refine sr_iloadn (pc := 33) (n := 3) (by decide +kernel) rfl ?_
        refine sr_cV (pc := 34) (As := [sr_i x3]) (mc1 := 0) (ms1 := 0) (mc2 := 0) (ms2 := 0) fm_3_54 fl_3_54 (by decide +kernel) (sr_in3 _ (by omega)) (rm_3_gapOfLoads_3_of) rfl rfl rfl (C3_of l i0 x3 (by omega) t1) ?_
        refine sr_kR (fun n2 t2 hv_n2 => ?_)
        refine sr_gI (pc := 37) fg_3_119 (by decide +kernel) (sr_in2 _ (by omega)) (fun _ => rfl) ?_
        refine sr_mmmin (pc := 40) (idx := 169) (sr_tb (n := 748) (by decide +kernel) rfl) (by decide +kernel) (by decide) (by decide) rfl mw_min1 mw_0 mw_min2 ?_
        refine sr_istoren (pc := 43) (n := 2) (by decide +kernel) (by decide) rfl rfl ?_
        exact sr_wk (sr_mono (mc := 0) (ms := 0) (by omega) (by omega) (g3_gapOfLoads_44 l i0 hv_i0 (f3_gapOfLoads_12 i0 k50 n) k50 ih hk50 x1 (if (t2.1 2 n2 7) < x2 then (t2.1 2 n2 7) else x2) x3 t2)) ⟨rfl, ⟨rfl, ⟨rfl, ⟨rfl, trivial⟩⟩⟩⟩
def f3_gapOfLoads_50 (i0 : Nat)  : Int32 → Int32 → sr_t → sr_Rs := fun x1 x2 t => (some (.inl (some (sr_i (x1 - x2))), t))
theorem g3_gapOfLoads_50 (l : Launch) (i0 : Nat) (hv_i0 : i0 < 2)   : ∀ (x1 : Int32) (x2 : Int32), ∀ (t : sr_t), sr_g l sr_m3_gapOfLoads 50 [some (sr_r 3 i0), some (sr_i x1), some (sr_i x2), none] [] t (f3_gapOfLoads_50 i0  x1 x2 t) 0 0 := by
  intro x1 x2  t
  unfold f3_gapOfLoads_50
  refine sr_iloadn (pc := 50) (n := 1) (by decide +kernel) rfl ?_
  refine sr_iloadn (pc := 51) (n := 2) (by decide +kernel) rfl ?_
  refine sr_isub (pc := 52) (by decide +kernel) ?_
  exact sr_iret (pc := 53) (by decide +kernel) rfl
def F3_gapOfLoads (i0 : Nat) (t : sr_t) : sr_Rs := (sr_bR 2 50 (F3_mostLoaded i0 t) (fun n1 t1 => f3_gapOfLoads_12 i0 (f3_gapOfLoads_50 i0) sr_fu (t1.1 2 n1 7) (t1.1 2 n1 7) 0 t1))
theorem C3_gapOfLoads (l : Launch) (i0 : Nat) (hv_i0 : i0 < 2) (t : sr_t) : sr_ct' l sr_m3_gapOfLoads [sr_r 3 i0] t (F3_gapOfLoads i0 t) 0 0 := by
  refine sr_T_of (L0 := [some (sr_r 3 i0), none, none, none]) rfl (by decide +kernel) (fun _ => rfl) (fun _ => Nat.le_of_ble_eq_true rfl) ?_
  unfold F3_gapOfLoads
  refine sr_aloadn (pc := 0) (n := 0) (by decide +kernel) rfl ?_
  refine sr_cV (pc := 1) (As := []) (mc1 := 0) (ms1 := 0) (mc2 := 0) (ms2 := 0) fm_3_165 fl_3_165 (by decide +kernel) (sr_in3 _ (by omega)) (rm_3_gapOfLoads_3_mostLoaded) rfl rfl rfl (C3_mostLoaded l i0 (by omega) t) ?_
  refine sr_kR (fun n1 t1 hv_n1 => ?_)
  refine sr_gI (pc := 4) fg_3_119 (by decide +kernel) (sr_in2 _ (by omega)) (fun _ => rfl) ?_
  refine sr_istoren (pc := 7) (n := 1) (by decide +kernel) (by decide) rfl rfl ?_
  refine sr_iloadn (pc := 8) (n := 1) (by decide +kernel) rfl ?_
  refine sr_istoren (pc := 9) (n := 2) (by decide +kernel) (by decide) rfl rfl ?_
  refine sr_iconst (pc := 10) (n := 0) (v := 0) (by decide +kernel) rfl ?_
  refine sr_istoren (pc := 11) (n := 3) (by decide +kernel) (by decide) rfl rfl ?_
  exact sr_wk (sr_mono (mc := 0) (ms := 0) (by omega) (by omega) (g3_gapOfLoads_12 l i0 hv_i0 (f3_gapOfLoads_50 i0) (g3_gapOfLoads_50 l i0 hv_i0) sr_fu (t1.1 2 n1 7) (t1.1 2 n1 7) 0 t1)) ⟨rfl, ⟨rfl, ⟨rfl, ⟨rfl, trivial⟩⟩⟩⟩
def f3_isTaken_2 (i0 : Nat) (a0 : Int32) (k22 : sr_t → sr_Rs) (k30 : sr_t → sr_Rs) : Nat → Int32 → sr_t → sr_Rs
  | 0 => fun _ _ => none
  | n + 1 => fun x2 t => (if (t.1 3 i0 3) ≤ x2 then k30 t else (sr_bR 2 50 (F3_of i0 x2 t) (fun n1 t1 => (if (t1.1 2 n1 1) = a0 then k22 t1 else (f3_isTaken_2 i0 a0 k22 k30 n) (x2 + 1) t1))))
theorem g3_isTaken_2 (l : Launch) (i0 : Nat) (a0 : Int32) (hv_i0 : i0 < 2) (k22 : sr_t → sr_Rs) (k30 : sr_t → sr_Rs) (hk22 : ∀ (t : sr_t), sr_g l sr_m3_isTaken 22 [some (sr_r 3 i0), some (sr_i a0), none] [] t (k22 t) 0 0) (hk30 : ∀ (t : sr_t), sr_g l sr_m3_isTaken 30 [some (sr_r 3 i0), some (sr_i a0), none] [] t (k30 t) 0 0) : ∀ (n : Nat) (x2 : Int32), ∀ (t : sr_t), sr_g l sr_m3_isTaken 2 [some (sr_r 3 i0), some (sr_i a0), some (sr_i x2)] [] t (f3_isTaken_2 i0 a0 k22 k30 n x2 t) 0 0 := by
  intro n
  induction n with
  | zero => intros; exact sr_Gn
  | succ n ih =>
    intro x2  t
    unfold f3_isTaken_2
    refine sr_iloadn (pc := 2) (n := 2) (by decide +kernel) rfl ?_
    refine sr_aloadn (pc := 3) (n := 0) (by decide +kernel) rfl ?_
    refine sr_gI (pc := 4) fg_3_51 (by decide +kernel) (sr_in3 _ (by omega)) (fun _ => rfl) ?_
    refine sr_icmp_ge (pc := 7) (off := 23) (tg := 30) (by decide +kernel) (by decide) (fun _ => ?_) (fun _ => ?_)
    · exact sr_wk (sr_mono (mc := 0) (ms := 0) (by omega) (by omega) (hk30 t)) ⟨rfl, ⟨rfl, trivial⟩⟩
    · refine sr_aloadn (pc := 10) (n := 0) (by decide +kernel) rfl ?_
      refine sr_iloadn (pc := 11) (n := 2) (by decide +kernel) rfl ?_
      refine sr_cV (pc := 12) (As := [sr_i x2]) (mc1 := 0) (ms1 := 0) (mc2 := 0) (ms2 := 0) fm_3_54 fl_3_54 (by decide +kernel) (sr_in3 _ (by omega)) (rm_3_isTaken_3_of) rfl rfl rfl (C3_of l i0 x2 (by omega) t) ?_
      refine sr_kR (fun n1 t1 hv_n1 => ?_)
      refine sr_gI (pc := 15) fg_3_58 (by decide +kernel) (sr_in2 _ (by omega)) (fun _ => rfl) ?_
      refine sr_iloadn (pc := 18) (n := 1) (by decide +kernel) rfl ?_
      refine sr_icmp_ne (pc := 19) (off := 5) (tg := 24) (by decide +kernel) (by decide) (fun _ => ?_) (fun _ => ?_)
      · refine sr_iinc (pc := 24) (i := 2) (n := 1) (w := x2 + 1) (by decide +kernel) rfl rfl (by decide) rfl rfl ?_
        refine sr_goto (pc := 27) (off := (-25)) (tg := 2) (by decide +kernel) (by decide) ?_
        exact sr_wk (sr_mono (mc := 0) (ms := 0) (by omega) (by omega) (ih (x2 + 1) t1)) ⟨rfl, ⟨rfl, ⟨rfl, trivial⟩⟩⟩
      · exact sr_wk (sr_mono (mc := 0) (ms := 0) (by omega) (by omega) (hk22 t1)) ⟨rfl, ⟨rfl, trivial⟩⟩
def f3_isTaken_22 (i0 : Nat) (a0 : Int32)  : sr_t → sr_Rs := fun  t => (if (1 : Int32) = 0 ∨ (1 : Int32) = 1 then some (.inl (some (sr_i 1)), t) else none)
theorem g3_isTaken_22 (l : Launch) (i0 : Nat) (a0 : Int32) (hv_i0 : i0 < 2)   : ∀ (t : sr_t), sr_g l sr_m3_isTaken 22 [some (sr_r 3 i0), some (sr_i a0), none] [] t (f3_isTaken_22 i0 a0   t) 0 0 := by
  intro t
  unfold f3_isTaken_22
  refine sr_iconst (pc := 22) (n := 1) (v := 1) (by decide +kernel) rfl ?_
  exact sr_zr (pc := 23) (by decide +kernel) rfl
def f3_isTaken_30 (i0 : Nat) (a0 : Int32)  : sr_t → sr_Rs := fun  t => (if (0 : Int32) = 0 ∨ (0 : Int32) = 1 then some (.inl (some (sr_i 0)), t) else none)
theorem g3_isTaken_30 (l : Launch) (i0 : Nat) (a0 : Int32) (hv_i0 : i0 < 2)   : ∀ (t : sr_t), sr_g l sr_m3_isTaken 30 [some (sr_r 3 i0), some (sr_i a0), none] [] t (f3_isTaken_30 i0 a0   t) 0 0 := by
  intro t
  unfold f3_isTaken_30
  refine sr_iconst (pc := 30) (n := 0) (v := 0) (by decide +kernel) rfl ?_
  exact sr_zr (pc := 31) (by decide +kernel) rfl
def F3_isTaken (i0 : Nat) (a0 : Int32) (t : sr_t) : sr_Rs := f3_isTaken_2 i0 a0 (f3_isTaken_22 i0 a0) (f3_isTaken_30 i0 a0) sr_fu 0 t
theorem C3_isTaken (l : Launch) (i0 : Nat) (a0 : Int32) (hv_i0 : i0 < 2) (t : sr_t) : sr_ct' l sr_m3_isTaken [sr_r 3 i0, sr_i a0] t (F3_isTaken i0 a0 t) 0 0 := by
  refine sr_T_of (L0 := [some (sr_r 3 i0), some (sr_i a0), none]) rfl (by decide +kernel) (fun _ => rfl) (fun _ => Nat.le_of_ble_eq_true rfl) ?_
  unfold F3_isTaken
  refine sr_iconst (pc := 0) (n := 0) (v := 0) (by decide +kernel) rfl ?_
  refine sr_istoren (pc := 1) (n := 2) (by decide +kernel) (by decide) rfl rfl ?_
  exact sr_wk (sr_mono (mc := 0) (ms := 0) (by omega) (by omega) (g3_isTaken_2 l i0 a0 hv_i0 (f3_isTaken_22 i0 a0) (f3_isTaken_30 i0 a0) (g3_isTaken_22 l i0 a0 hv_i0) (g3_isTaken_30 l i0 a0 hv_i0) sr_fu 0 t)) ⟨rfl, ⟨rfl, ⟨rfl, trivial⟩⟩⟩
def f3_placeToSplit_47 (i0 : Nat)  : Int32 → sr_t → sr_Rs := fun xs0 t => (some (.inl (some (sr_i xs0)), t))
theorem g3_placeToSplit_47 (l : Launch) (i0 : Nat) (hv_i0 : i0 < 2)   : ∀ (xs0 : Int32), ∀ (t : sr_t), sr_g l sr_m3_placeToSplit 47 [some (sr_r 3 i0), none, none] [sr_i xs0] t (f3_placeToSplit_47 i0  xs0 t) 0 0 := by
  intro xs0  t
  unfold f3_placeToSplit_47
  exact sr_iret (pc := 47) (by decide +kernel) rfl
def f3_placeToSplit_42 (i0 : Nat)  : sr_t → sr_Rs := fun  t => f3_placeToSplit_47 i0 ((-1)) t
theorem g3_placeToSplit_42 (l : Launch) (i0 : Nat) (hv_i0 : i0 < 2)   : ∀ (t : sr_t), sr_g l sr_m3_placeToSplit 42 [some (sr_r 3 i0), none, none] [] t (f3_placeToSplit_42 i0   t) 0 0 := by
  intro t
  unfold f3_placeToSplit_42
  refine sr_iconst (pc := 42) (n := (-1)) (v := (-1)) (by decide +kernel) rfl ?_
  refine sr_goto (pc := 43) (off := 4) (tg := 47) (by decide +kernel) (by decide) ?_
  exact sr_wk (sr_mono (mc := 0) (ms := 0) (by omega) (by omega) (g3_placeToSplit_47 l i0 hv_i0 ((-1)) t)) ⟨rfl, trivial⟩
def F3_placeToSplit (i0 : Nat) (t : sr_t) : sr_Rs := (sr_bR 2 50 (F3_mostLoaded i0 t) (fun n1 t1 => (if 2 = 0 then none else (if n1 = (25 * i0 + 24) then f3_placeToSplit_42 i0 t1 else (sr_bI (F3_isTaken i0 ((((t1.1 2 n1 1) - (t1.1 2 n1 7)) + ((t1.1 2 n1 7) / 2)) &&& 4095) t1) (fun v2 t2 => (if v2 = 0 then f3_placeToSplit_47 i0 ((((t1.1 2 n1 1) - (t1.1 2 n1 7)) + ((t1.1 2 n1 7) / 2)) &&& 4095) t2 else f3_placeToSplit_42 i0 t2)))))))
theorem C3_placeToSplit (l : Launch) (i0 : Nat) (hv_i0 : i0 < 2) (t : sr_t) : sr_ct' l sr_m3_placeToSplit [sr_r 3 i0] t (F3_placeToSplit i0 t) 0 0 := by
  refine sr_T_of (L0 := [some (sr_r 3 i0), none, none]) rfl (by decide +kernel) (fun _ => rfl) (fun _ => Nat.le_of_ble_eq_true rfl) ?_
  unfold F3_placeToSplit
  refine sr_aloadn (pc := 0) (n := 0) (by decide +kernel) rfl ?_
  refine sr_cV (pc := 1) (As := []) (mc1 := 0) (ms1 := 0) (mc2 := 0) (ms2 := 0) fm_3_165 fl_3_165 (by decide +kernel) (sr_in3 _ (by omega)) (rm_3_placeToSplit_3_mostLoaded) rfl rfl rfl (C3_mostLoaded l i0 (by omega) t) ?_
  refine sr_kR (fun n1 t1 hv_n1 => ?_)
  refine sr_astoren (pc := 4) (n := 1) (by decide +kernel) (by decide) rfl rfl ?_
  refine sr_aloadn (pc := 5) (n := 1) (by decide +kernel) rfl ?_
  refine sr_gI (pc := 6) fg_3_58 (by decide +kernel) (sr_in2 _ (by omega)) (fun _ => rfl) ?_
  refine sr_aloadn (pc := 9) (n := 1) (by decide +kernel) rfl ?_
  refine sr_gI (pc := 10) fg_3_119 (by decide +kernel) (sr_in2 _ (by omega)) (fun _ => rfl) ?_
  refine sr_isub (pc := 13) (by decide +kernel) ?_
  refine sr_aloadn (pc := 14) (n := 1) (by decide +kernel) rfl ?_
  refine sr_gI (pc := 15) fg_3_119 (by decide +kernel) (sr_in2 _ (by omega)) (fun _ => rfl) ?_
  refine sr_iconst (pc := 18) (n := 2) (v := 2) (by decide +kernel) rfl ?_
  refine sr_idiv (pc := 19) (by decide +kernel) (fun _ => ?_)
  refine sr_iadd (pc := 20) (by decide +kernel) ?_
  refine sr_sipush (pc := 21) (n := 4095) (v := 4095) (by decide +kernel) (by decide) ?_
  refine sr_iand (pc := 24) (by decide +kernel) ?_
  refine sr_istoren (pc := 25) (n := 2) (by decide +kernel) (by decide) rfl rfl ?_
  refine sr_aloadn (pc := 26) (n := 1) (by decide +kernel) rfl ?_
  refine sr_aloadn (pc := 27) (n := 0) (by decide +kernel) rfl ?_
  refine sr_gC (pc := 28) (i2 := 25 * i0 + 24) fg_3_20 (by decide +kernel) (sr_in3 _ (by omega)) (fun _ => rfl) ?_
  refine sr_acmp_eq (pc := 31) (off := 11) (tg := 42) (by decide +kernel) (by decide) (sr_in2 _ (by omega)) (sr_in2 _ (by omega)) (fun _ => ?_) (fun _ => ?_)
  · exact sr_wk (sr_mono (mc := 0) (ms := 0) (by omega) (by omega) (g3_placeToSplit_42 l i0 hv_i0 t1)) ⟨rfl, trivial⟩
  · refine sr_aloadn (pc := 34) (n := 0) (by decide +kernel) rfl ?_
    refine sr_iloadn (pc := 35) (n := 2) (by decide +kernel) rfl ?_
    refine sr_cV (pc := 36) (As := [sr_i ((((t1.1 2 n1 1) - (t1.1 2 n1 7)) + ((t1.1 2 n1 7) / 2)) &&& 4095)]) (mc1 := 0) (ms1 := 0) (mc2 := 0) (ms2 := 0) fm_3_172 fl_3_172 (by decide +kernel) (sr_in3 _ (by omega)) (rm_3_placeToSplit_3_isTaken) rfl rfl rfl (C3_isTaken l i0 ((((t1.1 2 n1 1) - (t1.1 2 n1 7)) + ((t1.1 2 n1 7) / 2)) &&& 4095) (by omega) t1) ?_
    refine sr_kI (fun v2 t2 => ?_)
    refine sr_if_eq (pc := 39) (off := 7) (tg := 46) (by decide +kernel) (by decide) (fun _ => ?_) (fun _ => ?_)
    · refine sr_iloadn (pc := 46) (n := 2) (by decide +kernel) rfl ?_
      exact sr_wk (sr_mono (mc := 0) (ms := 0) (by omega) (by omega) (g3_placeToSplit_47 l i0 hv_i0 ((((t1.1 2 n1 1) - (t1.1 2 n1 7)) + ((t1.1 2 n1 7) / 2)) &&& 4095) t2)) ⟨rfl, trivial⟩
    · exact sr_wk (sr_mono (mc := 0) (ms := 0) (by omega) (by omega) (g3_placeToSplit_42 l i0 hv_i0 t2)) ⟨rfl, trivial⟩
def f5_visitsOf_23 (a0 : Int32)  : Int32 → sr_t → sr_Rs := fun xs0 t => (some (.inl (some (sr_i xs0)), t))
theorem g5_visitsOf_23 (l : Launch) (a0 : Int32)    : ∀ (xs0 : Int32), ∀ (t : sr_t), sr_g l sr_m5_visitsOf 23 [some (sr_r 5 0), some (sr_i a0)] [sr_i xs0] t (f5_visitsOf_23 a0  xs0 t) 0 0 := by
  intro xs0  t
  unfold f5_visitsOf_23
  exact sr_iret (pc := 23) (by decide +kernel) rfl
def f5_visitsOf_22 (a0 : Int32)  : sr_t → sr_Rs := fun  t => f5_visitsOf_23 a0 0 t
theorem g5_visitsOf_22 (l : Launch) (a0 : Int32)    : ∀ (t : sr_t), sr_g l sr_m5_visitsOf 22 [some (sr_r 5 0), some (sr_i a0)] [] t (f5_visitsOf_22 a0   t) 0 0 := by
  intro t
  unfold f5_visitsOf_22
  refine sr_iconst (pc := 22) (n := 0) (v := 0) (by decide +kernel) rfl ?_
  exact sr_wk (sr_mono (mc := 0) (ms := 0) (by omega) (by omega) (g5_visitsOf_23 l a0 0 t)) ⟨rfl, ⟨rfl, trivial⟩⟩
def F5_visitsOf (a0 : Int32) (t : sr_t) : sr_Rs := (if a0 < 0 then f5_visitsOf_22 a0 t else (if 24 ≤ a0 then f5_visitsOf_22 a0 t else (if a0 < 0 ∨ 24 ≤ a0.toNatClampNeg then none else f5_visitsOf_23 a0 (t.1 15 0 a0.toNatClampNeg) t)))
theorem C5_visitsOf (l : Launch) (a0 : Int32)  (t : sr_t) : sr_ct' l sr_m5_visitsOf [sr_r 5 0, sr_i a0] t (F5_visitsOf a0 t) 0 0 := by
  refine sr_T_of (L0 := [some (sr_r 5 0), some (sr_i a0)]) rfl (by decide +kernel) (fun _ => rfl) (fun _ => Nat.le_of_ble_eq_true rfl) ?_
  unfold F5_visitsOf
  refine sr_iloadn (pc := 0) (n := 1) (by decide +kernel) rfl ?_
  refine sr_if_lt (pc := 1) (off := 21) (tg := 22) (by decide +kernel) (by decide) (fun _ => ?_) (fun _ => ?_)
  · exact sr_wk (sr_mono (mc := 0) (ms := 0) (by omega) (by omega) (g5_visitsOf_22 l a0 t)) ⟨rfl, ⟨rfl, trivial⟩⟩
  · refine sr_iloadn (pc := 4) (n := 1) (by decide +kernel) rfl ?_
    refine sr_aloadn (pc := 5) (n := 0) (by decide +kernel) rfl ?_
    refine sr_gC (pc := 6) (i2 := 0) fg_5_9 (by decide +kernel) (sr_in5 _ (by omega)) (fun _ => rfl) ?_
    refine sr_al' (pc := 9) (ty := 0) (n := 24) (v := 24) rfl (by decide) (by decide +kernel) (sr_in15 _ (by omega)) (by decide) ?_
    refine sr_icmp_ge (pc := 10) (off := 12) (tg := 22) (by decide +kernel) (by decide) (fun _ => ?_) (fun _ => ?_)
    · exact sr_wk (sr_mono (mc := 0) (ms := 0) (by omega) (by omega) (g5_visitsOf_22 l a0 t)) ⟨rfl, ⟨rfl, trivial⟩⟩
    · refine sr_aloadn (pc := 13) (n := 0) (by decide +kernel) rfl ?_
      refine sr_gC (pc := 14) (i2 := 0) fg_5_9 (by decide +kernel) (sr_in5 _ (by omega)) (fun _ => rfl) ?_
      refine sr_iloadn (pc := 17) (n := 1) (by decide +kernel) rfl ?_
      refine sr_aI (pc := 18) (n := 24) rfl (by decide +kernel) (sr_in15 _ (by omega)) (fun _ _ => rfl) ?_
      refine sr_goto (pc := 19) (off := 4) (tg := 23) (by decide +kernel) (by decide) ?_
      exact sr_wk (sr_mono (mc := 0) (ms := 0) (by omega) (by omega) (g5_visitsOf_23 l a0 (t.1 15 0 a0.toNatClampNeg) t)) ⟨rfl, ⟨rfl, trivial⟩⟩
def f10_busiest_67  (k19 : Int32 → Int32 → Int32 → sr_t → sr_Rs) (k73 : Int32 → sr_t → sr_Rs) : Int32 → Int32 → Int32 → sr_t → sr_Rs := fun x1 x2 x3 t => k19 x1 x2 (x3 + 1) t
theorem g10_busiest_67 (l : Launch)   (k19 : Int32 → Int32 → Int32 → sr_t → sr_Rs) (k73 : Int32 → sr_t → sr_Rs) (hk19 : ∀ (x1 : Int32) (x2 : Int32) (x3 : Int32), ∀ (t : sr_t), sr_g l sr_m10_busiest 19 [some (sr_r 10 0), some (sr_i x1), some (sr_i x2), some (sr_i x3)] [] t (k19 x1 x2 x3 t) 0 0) (hk73 : ∀ (x1 : Int32), ∀ (t : sr_t), sr_g l sr_m10_busiest 73 [some (sr_r 10 0), some (sr_i x1), none, none] [] t (k73 x1 t) 0 0) : ∀ (x1 : Int32) (x2 : Int32) (x3 : Int32), ∀ (t : sr_t), sr_g l sr_m10_busiest 67 [some (sr_r 10 0), some (sr_i x1), some (sr_i x2), some (sr_i x3)] [] t (f10_busiest_67  k19 k73 x1 x2 x3 t) 0 0 := by
  intro x1 x2 x3  t
  unfold f10_busiest_67
  refine sr_iinc (pc := 67) (i := 3) (n := 1) (w := x3 + 1) (by decide +kernel) rfl rfl (by decide) rfl rfl ?_
  refine sr_goto (pc := 70) (off := (-51)) (tg := 19) (by decide +kernel) (by decide) ?_
  exact sr_wk (sr_mono (mc := 0) (ms := 0) (by omega) (by omega) (hk19 x1 x2 (x3 + 1) t)) ⟨rfl, ⟨rfl, ⟨rfl, ⟨rfl, trivial⟩⟩⟩⟩
def f10_busiest_19  (k73 : Int32 → sr_t → sr_Rs) : Nat → Int32 → Int32 → Int32 → sr_t → sr_Rs
  | 0 => fun _ _ _ _ => none
  | n + 1 => fun x1 x2 x3 t => (if (t.1 3 0 3) ≤ x3 then k73 x1 t else (sr_bR 2 50 (F3_of 0 x3 t) (fun n1 t1 => (if (t1.1 2 n1 2) = 0 then f10_busiest_67 (f10_busiest_19 k73 n) k73 x1 x2 x3 t1 else (sr_bI (F5_visitsOf x3 t1) (fun v2 t2 => (if v2 ≤ x2 then f10_busiest_67 (f10_busiest_19 k73 n) k73 x1 x2 x3 t2 else (sr_bI (F5_visitsOf x3 t2) (fun v3 t3 => f10_busiest_67 (f10_busiest_19 k73 n) k73 x3 v3 x3 t3)))))))))
theorem g10_busiest_19 (l : Launch)   (k73 : Int32 → sr_t → sr_Rs) (hk73 : ∀ (x1 : Int32), ∀ (t : sr_t), sr_g l sr_m10_busiest 73 [some (sr_r 10 0), some (sr_i x1), none, none] [] t (k73 x1 t) 0 0) : ∀ (n : Nat) (x1 : Int32) (x2 : Int32) (x3 : Int32), ∀ (t : sr_t), sr_g l sr_m10_busiest 19 [some (sr_r 10 0), some (sr_i x1), some (sr_i x2), some (sr_i x3)] [] t (f10_busiest_19  k73 n x1 x2 x3 t) 0 0 := by
  intro n
  induction n with
  | zero => intros; exact sr_Gn
  | succ n ih =>
    intro x1 x2 x3  t
    unfold f10_busiest_19
    refine sr_iloadn (pc := 19) (n := 3) (by decide +kernel) rfl ?_
    refine sr_aloadn (pc := 20) (n := 0) (by decide +kernel) rfl ?_
    refine sr_gC (pc := 21) (i2 := 0) fg_10_12 (by decide +kernel) (sr_in10 _ (by omega)) (fun _ => rfl) ?_
    refine sr_gI (pc := 24) fg_10_62 (by decide +kernel) (sr_in3 _ (by omega)) (fun _ => rfl) ?_
    refine sr_icmp_ge (pc := 27) (off := 46) (tg := 73) (by decide +kernel) (by decide) (fun _ => ?_) (fun _ => ?_)
    · exact sr_wk (sr_mono (mc := 0) (ms := 0) (by omega) (by omega) (hk73 x1 t)) ⟨rfl, ⟨rfl, trivial⟩⟩
    · refine sr_aloadn (pc := 30) (n := 0) (by decide +kernel) rfl ?_
      refine sr_gC (pc := 31) (i2 := 0) fg_10_12 (by decide +kernel) (sr_in10 _ (by omega)) (fun _ => rfl) ?_
      refine sr_iloadn (pc := 34) (n := 3) (by decide +kernel) rfl ?_
      refine sr_cV (pc := 35) (As := [sr_i x3]) (mc1 := 0) (ms1 := 0) (mc2 := 0) (ms2 := 0) fm_10_87 fl_10_87 (by decide +kernel) (sr_in3 _ (by omega)) (rm_10_busiest_3_of) rfl rfl rfl (C3_of l 0 x3 (by omega) t) ?_
      refine sr_kR (fun n1 t1 hv_n1 => ?_)
      refine sr_gI (pc := 38) fg_10_98 (by decide +kernel) (sr_in2 _ (by omega)) (fun _ => rfl) ?_
      refine sr_if_eq (pc := 41) (off := 26) (tg := 67) (by decide +kernel) (by decide) (fun _ => ?_) (fun _ => ?_)
      · exact sr_wk (sr_mono (mc := 0) (ms := 0) (by omega) (by omega) (g10_busiest_67 l (f10_busiest_19 k73 n) k73 ih hk73 x1 x2 x3 t1)) ⟨rfl, ⟨rfl, ⟨rfl, ⟨rfl, trivial⟩⟩⟩⟩
      · refine sr_aloadn (pc := 44) (n := 0) (by decide +kernel) rfl ?_
        refine sr_gC (pc := 45) (i2 := 0) fg_10_38 (by decide +kernel) (sr_in10 _ (by omega)) (fun _ => rfl) ?_
        refine sr_iloadn (pc := 48) (n := 3) (by decide +kernel) rfl ?_
        refine sr_cV (pc := 49) (As := [sr_i x3]) (mc1 := 0) (ms1 := 0) (mc2 := 0) (ms2 := 0) fm_10_303 fl_10_303 (by decide +kernel) (sr_in5 _ (by omega)) (rm_10_busiest_5_visitsOf) rfl rfl rfl (C5_visitsOf l x3 t1) ?_
        refine sr_kI (fun v2 t2 => ?_)
        refine sr_iloadn (pc := 52) (n := 2) (by decide +kernel) rfl ?_
        refine sr_icmp_le (pc := 53) (off := 14) (tg := 67) (by decide +kernel) (by decide) (fun _ => ?_) (fun _ => ?_)
        · exact sr_wk (sr_mono (mc := 0) (ms := 0) (by omega) (by omega) (g10_busiest_67 l (f10_busiest_19 k73 n) k73 ih hk73 x1 x2 x3 t2)) ⟨rfl, ⟨rfl, ⟨rfl, ⟨rfl, trivial⟩⟩⟩⟩
        · refine sr_aloadn (pc := 56) (n := 0) (by decide +kernel) rfl ?_
          refine sr_gC (pc := 57) (i2 := 0) fg_10_38 (by decide +kernel) (sr_in10 _ (by omega)) (fun _ => rfl) ?_
          refine sr_iloadn (pc := 60) (n := 3) (by decide +kernel) rfl ?_
          refine sr_cV (pc := 61) (As := [sr_i x3]) (mc1 := 0) (ms1 := 0) (mc2 := 0) (ms2 := 0) fm_10_303 fl_10_303 (by decide +kernel) (sr_in5 _ (by omega)) (rm_10_busiest_5_visitsOf) rfl rfl rfl (C5_visitsOf l x3 t2) ?_
          refine sr_kI (fun v3 t3 => ?_)
          refine sr_istoren (pc := 64) (n := 2) (by decide +kernel) (by decide) rfl rfl ?_
          refine sr_iloadn (pc := 65) (n := 3) (by decide +kernel) rfl ?_
          refine sr_istoren (pc := 66) (n := 1) (by decide +kernel) (by decide) rfl rfl ?_
          exact sr_wk (sr_mono (mc := 0) (ms := 0) (by omega) (by omega) (g10_busiest_67 l (f10_busiest_19 k73 n) k73 ih hk73 x3 v3 x3 t3)) ⟨rfl, ⟨rfl, ⟨rfl, ⟨rfl, trivial⟩⟩⟩⟩
def f10_busiest_73   : Int32 → sr_t → sr_Rs := fun x1 t => (some (.inl (some (sr_i x1)), t))
theorem g10_busiest_73 (l : Launch)     : ∀ (x1 : Int32), ∀ (t : sr_t), sr_g l sr_m10_busiest 73 [some (sr_r 10 0), some (sr_i x1), none, none] [] t (f10_busiest_73   x1 t) 0 0 := by
  intro x1  t
  unfold f10_busiest_73
  refine sr_iloadn (pc := 73) (n := 1) (by decide +kernel) rfl ?_
  exact sr_iret (pc := 74) (by decide +kernel) rfl
def F10_busiest  (t : sr_t) : sr_Rs := (sr_bV (F5_run 0 1 1 t) (fun t1 => f10_busiest_19 f10_busiest_73 sr_fu ((-1)) ((-1)) 0 t1))
theorem C10_busiest (l : Launch)   (t : sr_t) : sr_ct' l sr_m10_busiest [sr_r 10 0] t (F10_busiest  t) 0 0 := by
  refine sr_T_of (L0 := [some (sr_r 10 0), none, none, none]) rfl (by decide +kernel) (fun _ => rfl) (fun _ => Nat.le_of_ble_eq_true rfl) ?_
  unfold F10_busiest
  refine sr_aloadn (pc := 0) (n := 0) (by decide +kernel) rfl ?_
  refine sr_gC (pc := 1) (i2 := 0) fg_10_38 (by decide +kernel) (sr_in10 _ (by omega)) (fun _ => rfl) ?_
  refine sr_aloadn (pc := 4) (n := 0) (by decide +kernel) rfl ?_
  refine sr_gC (pc := 5) (i2 := 0) fg_10_12 (by decide +kernel) (sr_in10 _ (by omega)) (fun _ => rfl) ?_
  refine sr_iconst (pc := 8) (n := 1) (v := 1) (by decide +kernel) rfl ?_
  refine sr_iconst (pc := 9) (n := 1) (v := 1) (by decide +kernel) rfl ?_
  refine sr_cV (pc := 10) (As := [sr_r 3 0, sr_i 1, sr_i 1]) (mc1 := 0) (ms1 := 0) (mc2 := 0) (ms2 := 0) fm_10_285 fl_10_285 (by decide +kernel) (sr_in5 _ (by omega)) (rm_10_busiest_5_run) rfl rfl rfl (C5_run l 0 1 1 (by omega) t) ?_
  refine sr_kV (fun t1 => ?_)
  refine sr_iconst (pc := 13) (n := (-1)) (v := (-1)) (by decide +kernel) rfl ?_
  refine sr_istoren (pc := 14) (n := 1) (by decide +kernel) (by decide) rfl rfl ?_
  refine sr_iconst (pc := 15) (n := (-1)) (v := (-1)) (by decide +kernel) rfl ?_
  refine sr_istoren (pc := 16) (n := 2) (by decide +kernel) (by decide) rfl rfl ?_
  refine sr_iconst (pc := 17) (n := 0) (v := 0) (by decide +kernel) rfl ?_
  refine sr_istoren (pc := 18) (n := 3) (by decide +kernel) (by decide) rfl rfl ?_
  exact sr_wk (sr_mono (mc := 0) (ms := 0) (by omega) (by omega) (g10_busiest_19 l f10_busiest_73 (g10_busiest_73 l) sr_fu ((-1)) ((-1)) 0 t1)) ⟨rfl, ⟨rfl, ⟨rfl, ⟨rfl, trivial⟩⟩⟩⟩
def F10_count (a0 : Int32) (t : sr_t) : sr_Rs := (sr_sw 0 16 a0 ((some (.inl (some (sr_i ((-1)))), t))) (fun j => match j with | 0 => (some (.inl (some (sr_i (t.1 3 0 3))), t)) | 1 => (some (.inl (some (sr_i (t.1 3 0 4))), t)) | 2 => (some (.inl (some (sr_i (t.1 3 0 5))), t)) | 3 => (some (.inl (some (sr_i (t.1 3 0 8))), t)) | 4 => (some (.inl (some (sr_i (t.1 3 0 7))), t)) | 5 => (sr_bI (F9_widthOf 0 t) (fun v1 t1 => (some (.inl (some (sr_i v1)), t1)))) | 6 => (sr_bI (F3_staleOfAll 0 t) (fun v2 t2 => (some (.inl (some (sr_i v2)), t2)))) | 7 => (sr_bR 2 50 (F3_mostLoaded 0 t) (fun n3 t3 => (some (.inl (some (sr_i (t3.1 2 n3 0))), t3)))) | 8 => (sr_bI (F1_mostHarmful 0 t) (fun v4 t4 => (some (.inl (some (sr_i v4)), t4)))) | 9 => (sr_bI (F3_mostLinks 0 t) (fun v5 t5 => (some (.inl (some (sr_i v5)), t5)))) | 10 => (sr_bI (F1_firstToMend 0 t) (fun v6 t6 => (some (.inl (some (sr_i v6)), t6)))) | 11 => (some (.inl (some (sr_i (t.1 6 0 2))), t)) | 12 => (sr_bI (F6_countOfMissing 0 t) (fun v7 t7 => (some (.inl (some (sr_i v7)), t7)))) | 13 => (some (.inl (some (sr_i (t.1 6 0 3))), t)) | 14 => (sr_bI (F3_gapOfLoads 0 t) (fun v8 t8 => (some (.inl (some (sr_i v8)), t8)))) | 15 => (sr_bI (F3_placeToSplit 0 t) (fun v9 t9 => (some (.inl (some (sr_i v9)), t9)))) | 16 => (sr_bI (F10_busiest t) (fun v10 t10 => (some (.inl (some (sr_i v10)), t10)))) | _ => none))
theorem C10_count (l : Launch) (a0 : Int32)  (t : sr_t) : sr_ct' l sr_m10_count [sr_r 10 0, sr_i a0] t (F10_count a0 t) 0 0 := by
  refine sr_T_of (L0 := [some (sr_r 10 0), some (sr_i a0)]) rfl (by decide +kernel) (fun _ => rfl) (fun _ => Nat.le_of_ble_eq_true rfl) ?_
  unfold F10_count
  refine sr_iloadn (pc := 0) (n := 1) (by decide +kernel) rfl ?_
  refine sr_tsw2 (pc := 1) (u := a0) (dflt := 235) (lo := 0) (hi := 16) (offs := #[83, 91, 99, 107, 115, 123, 135, 143, 154, 166, 174, 186, 194, 206, 214, 222, 230]) (len := 83) (tg := 236) (by decide +kernel) (by decide) (by decide) (fun _ => ?_) (fun j off ho _ => ?_)
  · refine sr_iconst (pc := 236) (n := (-1)) (v := (-1)) (by decide +kernel) rfl ?_
    exact sr_iret (pc := 237) (by decide +kernel) rfl
  · rcases j with _ | _ | _ | _ | _ | _ | _ | _ | _ | _ | _ | _ | _ | _ | _ | _ | _ | j
    · cases ho
      refine ⟨84, by decide, ?_⟩
      refine sr_aloadn (pc := 84) (n := 0) (by decide +kernel) rfl ?_
      refine sr_gC (pc := 85) (i2 := 0) fg_10_12 (by decide +kernel) (sr_in10 _ (by omega)) (fun _ => rfl) ?_
      refine sr_gI (pc := 88) fg_10_62 (by decide +kernel) (sr_in3 _ (by omega)) (fun _ => rfl) ?_
      exact sr_iret (pc := 91) (by decide +kernel) rfl
    · cases ho
      refine ⟨92, by decide, ?_⟩
      refine sr_aloadn (pc := 92) (n := 0) (by decide +kernel) rfl ?_
      refine sr_gC (pc := 93) (i2 := 0) fg_10_12 (by decide +kernel) (sr_in10 _ (by omega)) (fun _ => rfl) ?_
      refine sr_gI (pc := 96) fg_10_95 (by decide +kernel) (sr_in3 _ (by omega)) (fun _ => rfl) ?_
      exact sr_iret (pc := 99) (by decide +kernel) rfl
    · cases ho
      refine ⟨100, by decide, ?_⟩
      refine sr_aloadn (pc := 100) (n := 0) (by decide +kernel) rfl ?_
      refine sr_gC (pc := 101) (i2 := 0) fg_10_12 (by decide +kernel) (sr_in10 _ (by omega)) (fun _ => rfl) ?_
      refine sr_gI (pc := 104) fg_10_126 (by decide +kernel) (sr_in3 _ (by omega)) (fun _ => rfl) ?_
      exact sr_iret (pc := 107) (by decide +kernel) rfl
    · cases ho
      refine ⟨108, by decide, ?_⟩
      refine sr_aloadn (pc := 108) (n := 0) (by decide +kernel) rfl ?_
      refine sr_gC (pc := 109) (i2 := 0) fg_10_12 (by decide +kernel) (sr_in10 _ (by omega)) (fun _ => rfl) ?_
      refine sr_gI (pc := 112) fg_10_135 (by decide +kernel) (sr_in3 _ (by omega)) (fun _ => rfl) ?_
      exact sr_iret (pc := 115) (by decide +kernel) rfl
    · cases ho
      refine ⟨116, by decide, ?_⟩
      refine sr_aloadn (pc := 116) (n := 0) (by decide +kernel) rfl ?_
      refine sr_gC (pc := 117) (i2 := 0) fg_10_12 (by decide +kernel) (sr_in10 _ (by omega)) (fun _ => rfl) ?_
      refine sr_gI (pc := 120) fg_10_243 (by decide +kernel) (sr_in3 _ (by omega)) (fun _ => rfl) ?_
      exact sr_iret (pc := 123) (by decide +kernel) rfl
    · cases ho
      refine ⟨124, by decide, ?_⟩
      refine sr_aloadn (pc := 124) (n := 0) (by decide +kernel) rfl ?_
      refine sr_gC (pc := 125) (i2 := 0) fg_10_54 (by decide +kernel) (sr_in10 _ (by omega)) (fun _ => rfl) ?_
      refine sr_aloadn (pc := 128) (n := 0) (by decide +kernel) rfl ?_
      refine sr_gC (pc := 129) (i2 := 0) fg_10_12 (by decide +kernel) (sr_in10 _ (by omega)) (fun _ => rfl) ?_
      refine sr_cV (pc := 132) (As := [sr_r 3 0]) (mc1 := 0) (ms1 := 0) (mc2 := 0) (ms2 := 0) fm_10_375 fl_10_375 (by decide +kernel) (sr_in9 _ (by omega)) (rm_10_count_9_widthOf) rfl rfl rfl (C9_widthOf l 0 (by omega) t) ?_
      refine sr_kI (fun v1 t1 => ?_)
      exact sr_iret (pc := 135) (by decide +kernel) rfl
    · cases ho
      refine ⟨136, by decide, ?_⟩
      refine sr_aloadn (pc := 136) (n := 0) (by decide +kernel) rfl ?_
      refine sr_gC (pc := 137) (i2 := 0) fg_10_12 (by decide +kernel) (sr_in10 _ (by omega)) (fun _ => rfl) ?_
      refine sr_cV (pc := 140) (As := []) (mc1 := 0) (ms1 := 0) (mc2 := 0) (ms2 := 0) fm_10_116 fl_10_116 (by decide +kernel) (sr_in3 _ (by omega)) (rm_10_count_3_staleOfAll) rfl rfl rfl (C3_staleOfAll l 0 (by omega) t) ?_
      refine sr_kI (fun v2 t2 => ?_)
      exact sr_iret (pc := 143) (by decide +kernel) rfl
    · cases ho
      refine ⟨144, by decide, ?_⟩
      refine sr_aloadn (pc := 144) (n := 0) (by decide +kernel) rfl ?_
      refine sr_gC (pc := 145) (i2 := 0) fg_10_12 (by decide +kernel) (sr_in10 _ (by omega)) (fun _ => rfl) ?_
      refine sr_cV (pc := 148) (As := []) (mc1 := 0) (ms1 := 0) (mc2 := 0) (ms2 := 0) fm_10_379 fl_10_379 (by decide +kernel) (sr_in3 _ (by omega)) (rm_10_count_3_mostLoaded) rfl rfl rfl (C3_mostLoaded l 0 (by omega) t) ?_
      refine sr_kR (fun n3 t3 hv_n3 => ?_)
      refine sr_gI (pc := 151) fg_10_179 (by decide +kernel) (sr_in2 _ (by omega)) (fun _ => rfl) ?_
      exact sr_iret (pc := 154) (by decide +kernel) rfl
    · cases ho
      refine ⟨155, by decide, ?_⟩
      refine sr_aloadn (pc := 155) (n := 0) (by decide +kernel) rfl ?_
      refine sr_gC (pc := 156) (i2 := 0) fg_10_47 (by decide +kernel) (sr_in10 _ (by omega)) (fun _ => rfl) ?_
      refine sr_aloadn (pc := 159) (n := 0) (by decide +kernel) rfl ?_
      refine sr_gC (pc := 160) (i2 := 0) fg_10_12 (by decide +kernel) (sr_in10 _ (by omega)) (fun _ => rfl) ?_
      refine sr_cV (pc := 163) (As := [sr_r 3 0]) (mc1 := 0) (ms1 := 0) (mc2 := 0) (ms2 := 0) fm_10_383 fl_10_383 (by decide +kernel) (sr_in1 _ (by omega)) (rm_10_count_1_mostHarmful) rfl rfl rfl (C1_mostHarmful l 0 (by omega) t) ?_
      refine sr_kI (fun v4 t4 => ?_)
      exact sr_iret (pc := 166) (by decide +kernel) rfl
    · cases ho
      refine ⟨167, by decide, ?_⟩
      refine sr_aloadn (pc := 167) (n := 0) (by decide +kernel) rfl ?_
      refine sr_gC (pc := 168) (i2 := 0) fg_10_12 (by decide +kernel) (sr_in10 _ (by omega)) (fun _ => rfl) ?_
      refine sr_cV (pc := 171) (As := []) (mc1 := 0) (ms1 := 0) (mc2 := 0) (ms2 := 0) fm_10_386 fl_10_386 (by decide +kernel) (sr_in3 _ (by omega)) (rm_10_count_3_mostLinks) rfl rfl rfl (C3_mostLinks l 0 (by omega) t) ?_
      refine sr_kI (fun v5 t5 => ?_)
      exact sr_iret (pc := 174) (by decide +kernel) rfl
    · cases ho
      refine ⟨175, by decide, ?_⟩
      refine sr_aloadn (pc := 175) (n := 0) (by decide +kernel) rfl ?_
      refine sr_gC (pc := 176) (i2 := 0) fg_10_47 (by decide +kernel) (sr_in10 _ (by omega)) (fun _ => rfl) ?_
      refine sr_aloadn (pc := 179) (n := 0) (by decide +kernel) rfl ?_
      refine sr_gC (pc := 180) (i2 := 0) fg_10_12 (by decide +kernel) (sr_in10 _ (by omega)) (fun _ => rfl) ?_
      refine sr_cV (pc := 183) (As := [sr_r 3 0]) (mc1 := 0) (ms1 := 0) (mc2 := 0) (ms2 := 0) fm_10_389 fl_10_389 (by decide +kernel) (sr_in1 _ (by omega)) (rm_10_count_1_firstToMend) rfl rfl rfl (C1_firstToMend l 0 (by omega) t) ?_
      refine sr_kI (fun v6 t6 => ?_)
      exact sr_iret (pc := 186) (by decide +kernel) rfl
    · cases ho
      refine ⟨187, by decide, ?_⟩
      refine sr_aloadn (pc := 187) (n := 0) (by decide +kernel) rfl ?_
      refine sr_gC (pc := 188) (i2 := 0) fg_10_19 (by decide +kernel) (sr_in10 _ (by omega)) (fun _ => rfl) ?_
      refine sr_gI (pc := 191) fg_10_392 (by decide +kernel) (sr_in6 _ (by omega)) (fun _ => rfl) ?_
      exact sr_iret (pc := 194) (by decide +kernel) rfl
    · cases ho
      refine ⟨195, by decide, ?_⟩
      refine sr_aloadn (pc := 195) (n := 0) (by decide +kernel) rfl ?_
      refine sr_gC (pc := 196) (i2 := 0) fg_10_19 (by decide +kernel) (sr_in10 _ (by omega)) (fun _ => rfl) ?_
      refine sr_aloadn (pc := 199) (n := 0) (by decide +kernel) rfl ?_
      refine sr_gC (pc := 200) (i2 := 0) fg_10_12 (by decide +kernel) (sr_in10 _ (by omega)) (fun _ => rfl) ?_
      refine sr_cV (pc := 203) (As := [sr_r 3 0]) (mc1 := 0) (ms1 := 0) (mc2 := 0) (ms2 := 0) fm_10_395 fl_10_395 (by decide +kernel) (sr_in6 _ (by omega)) (rm_10_count_6_countOfMissing) rfl rfl rfl (C6_countOfMissing l 0 (by omega) t) ?_
      refine sr_kI (fun v7 t7 => ?_)
      exact sr_iret (pc := 206) (by decide +kernel) rfl
    · cases ho
      refine ⟨207, by decide, ?_⟩
      refine sr_aloadn (pc := 207) (n := 0) (by decide +kernel) rfl ?_
      refine sr_gC (pc := 208) (i2 := 0) fg_10_19 (by decide +kernel) (sr_in10 _ (by omega)) (fun _ => rfl) ?_
      refine sr_gI (pc := 211) fg_10_398 (by decide +kernel) (sr_in6 _ (by omega)) (fun _ => rfl) ?_
      exact sr_iret (pc := 214) (by decide +kernel) rfl
    · cases ho
      refine ⟨215, by decide, ?_⟩
      refine sr_aloadn (pc := 215) (n := 0) (by decide +kernel) rfl ?_
      refine sr_gC (pc := 216) (i2 := 0) fg_10_12 (by decide +kernel) (sr_in10 _ (by omega)) (fun _ => rfl) ?_
      refine sr_cV (pc := 219) (As := []) (mc1 := 0) (ms1 := 0) (mc2 := 0) (ms2 := 0) fm_10_401 fl_10_401 (by decide +kernel) (sr_in3 _ (by omega)) (rm_10_count_3_gapOfLoads) rfl rfl rfl (C3_gapOfLoads l 0 (by omega) t) ?_
      refine sr_kI (fun v8 t8 => ?_)
      exact sr_iret (pc := 222) (by decide +kernel) rfl
    · cases ho
      refine ⟨223, by decide, ?_⟩
      refine sr_aloadn (pc := 223) (n := 0) (by decide +kernel) rfl ?_
      refine sr_gC (pc := 224) (i2 := 0) fg_10_12 (by decide +kernel) (sr_in10 _ (by omega)) (fun _ => rfl) ?_
      refine sr_cV (pc := 227) (As := []) (mc1 := 0) (ms1 := 0) (mc2 := 0) (ms2 := 0) fm_10_404 fl_10_404 (by decide +kernel) (sr_in3 _ (by omega)) (rm_10_count_3_placeToSplit) rfl rfl rfl (C3_placeToSplit l 0 (by omega) t) ?_
      refine sr_kI (fun v9 t9 => ?_)
      exact sr_iret (pc := 230) (by decide +kernel) rfl
    · cases ho
      refine ⟨231, by decide, ?_⟩
      refine sr_aloadn (pc := 231) (n := 0) (by decide +kernel) rfl ?_
      refine sr_cV (pc := 232) (As := []) (mc1 := 0) (ms1 := 0) (mc2 := 0) (ms2 := 0) fm_10_407 fl_10_407 (by decide +kernel) (sr_in10 _ (by omega)) (rm_10_count_10_busiest) rfl rfl rfl (C10_busiest l t) ?_
      refine sr_kI (fun v10 t10 => ?_)
      exact sr_iret (pc := 235) (by decide +kernel) rfl
    · simp at ho
def sr_m10_needPlace : sr_M := (⟨"ShiftRing", "needPlace", "(I)V"⟩, prog_1_method_51_code, 1, none, [], 6, 90)
def sr_m3_bringUp : sr_M := (⟨"ShiftRing$Ring", "bringUp", "(LShiftRing$Node;)V"⟩, prog_5_method_7_code, 2, none, [], 5, 109)
def sr_m3_addNode : sr_M := (⟨"ShiftRing$Ring", "addNode", "(I)I"⟩, prog_5_method_6_code, 3, (some .int), [], 6, 130)
def sr_m10_join : sr_M := (⟨"ShiftRing", "join", "(I)I"⟩, prog_1_method_2_code, 2, (some .int), [], 7, 152)
theorem fl_10_58 : Cond.methodLink "ShiftRing" 58 (sr_My sr_m10_needPlace) ∈ sr_TB := (sr_tb (n := 778) (by decide +kernel) rfl)
theorem fm_10_58 : sr_FS "ShiftRing" 58 sr_m10_needPlace 1 := ⟨⟨rfl, sr_tb (n := 780) (by decide +kernel) rfl, sr_tb (n := 1) (by decide +kernel) rfl, ⟨by decide, by decide, by decide +kernel⟩, Or.inl fl_10_58⟩, sr_tb (n := 779) (by decide +kernel) rfl⟩
theorem fl_10_66 : Cond.methodLink "ShiftRing" 66 (sr_My sr_m3_isTaken) ∈ sr_TB := (sr_tb (n := 850) (by decide +kernel) rfl)
theorem fm_10_66 : sr_FV "ShiftRing" 66 sr_m3_isTaken 3 1 := ⟨⟨rfl, sr_tb (n := 758) (by decide +kernel) rfl, sr_tb (n := 2) (by decide +kernel) rfl, ⟨by decide, by decide, by decide +kernel⟩, Or.inl fl_10_66⟩, ⟨TX3, 9, rfl, rfl⟩, sr_tb (n := 756) (by decide +kernel) rfl, sr_tb (n := 757) (by decide +kernel) rfl⟩
theorem fl_10_77 : Cond.methodLink "ShiftRing" 77 (sr_My sr_m3_addNode) ∈ sr_TB := (sr_tb (n := 867) (by decide +kernel) rfl)
theorem fm_10_77 : sr_FV "ShiftRing" 77 sr_m3_addNode 3 1 := ⟨⟨rfl, sr_tb (n := 870) (by decide +kernel) rfl, sr_tb (n := 2) (by decide +kernel) rfl, ⟨by decide, by decide, by decide +kernel⟩, Or.inl fl_10_77⟩, ⟨TX3, 9, rfl, rfl⟩, sr_tb (n := 868) (by decide +kernel) rfl, sr_tb (n := 869) (by decide +kernel) rfl⟩
theorem fl_3_61 : Cond.methodLink "ShiftRing$Ring" 61 (sr_My sr_m3_bringUp) ∈ sr_TB := (sr_tb (n := 871) (by decide +kernel) rfl)
theorem fm_3_61 : sr_FV "ShiftRing$Ring" 61 sr_m3_bringUp 3 1 := ⟨⟨rfl, sr_tb (n := 874) (by decide +kernel) rfl, sr_tb (n := 2) (by decide +kernel) rfl, ⟨by decide, by decide, by decide +kernel⟩, Or.inl fl_3_61⟩, ⟨TX3, 9, rfl, rfl⟩, sr_tb (n := 872) (by decide +kernel) rfl, sr_tb (n := 873) (by decide +kernel) rfl⟩
theorem fl_3_72 : Cond.methodLink "ShiftRing$Ring" 72 (sr_My sr_m3_layAgain) ∈ sr_TB := (sr_tb (n := 875) (by decide +kernel) rfl)
theorem fm_3_72 : sr_FV "ShiftRing$Ring" 72 sr_m3_layAgain 3 1 := ⟨⟨rfl, sr_tb (n := 720) (by decide +kernel) rfl, sr_tb (n := 2) (by decide +kernel) rfl, ⟨by decide, by decide, by decide +kernel⟩, Or.inl fl_3_72⟩, ⟨TX3, 9, rfl, rfl⟩, sr_tb (n := 718) (by decide +kernel) rfl, sr_tb (n := 719) (by decide +kernel) rfl⟩
theorem rm_10_join_10_needPlace : sr_RM sr_m10_join sr_m10_needPlace := ⟨Nat.le_of_ble_eq_true rfl, Nat.le_of_ble_eq_true rfl⟩
theorem rm_10_join_3_addNode : sr_RM sr_m10_join sr_m3_addNode := ⟨Nat.le_of_ble_eq_true rfl, Nat.le_of_ble_eq_true rfl⟩
theorem rm_10_join_3_isTaken : sr_RM sr_m10_join sr_m3_isTaken := ⟨Nat.le_of_ble_eq_true rfl, Nat.le_of_ble_eq_true rfl⟩
theorem rm_3_addNode_3_bringUp : sr_RM sr_m3_addNode sr_m3_bringUp := ⟨Nat.le_of_ble_eq_true rfl, Nat.le_of_ble_eq_true rfl⟩
theorem rm_3_addNode_3_of : sr_RM sr_m3_addNode sr_m3_of := ⟨Nat.le_of_ble_eq_true rfl, Nat.le_of_ble_eq_true rfl⟩
theorem rm_3_bringUp_3_layAgain : sr_RM sr_m3_bringUp sr_m3_layAgain := ⟨Nat.le_of_ble_eq_true rfl, Nat.le_of_ble_eq_true rfl⟩
theorem fx_70_74 : sr_FX "ShiftRing" 70 74 1 := ⟨by decide +kernel, by decide +kernel, sr_tb (n := 851) (by decide +kernel) rfl, sr_tb (n := 17) (by decide +kernel) rfl, by decide +kernel, by decide +kernel⟩
theorem fx_138_142 : sr_FX "ShiftRing" 138 142 0 := ⟨by decide +kernel, by decide +kernel, sr_tb (n := 781) (by decide +kernel) rfl, sr_tb (n := 16) (by decide +kernel) rfl, by decide +kernel, by decide +kernel⟩
def f10_needPlace_11 (a0 : Int32)  : sr_t → sr_Rs := fun  t => (some (.inr 0, t))
theorem g10_needPlace_11 (l : Launch) (a0 : Int32)    : ∀ (t : sr_t), sr_g l sr_m10_needPlace 11 [some (sr_i a0)] [] t (f10_needPlace_11 a0   t) 1 6 := by
  intro t
  unfold f10_needPlace_11
  exact sr_thr (pc := 11) (ik := 138) (is := 422) (ic := 142) (tx := "there is no such place") (z := 0) (mc := 0) (ms := 0) fx_138_142 (by decide +kernel) (by decide +kernel) (by decide +kernel) (Or.inr ⟨by decide +kernel, by decide +kernel, by decide +kernel⟩) rfl (by decide) (by decide) rfl rfl
def F10_needPlace (a0 : Int32) (t : sr_t) : sr_Rs := (if a0 < 0 then f10_needPlace_11 a0 t else (if a0 ≤ 4095 then (some (.inl none, t)) else f10_needPlace_11 a0 t))
theorem C10_needPlace (l : Launch) (a0 : Int32)  (t : sr_t) : sr_ct' l sr_m10_needPlace [sr_i a0] t (F10_needPlace a0 t) 1 6 := by
  refine sr_T_of (L0 := [some (sr_i a0)]) rfl (by decide +kernel) (fun _ => rfl) (fun _ => Nat.le_of_ble_eq_true rfl) ?_
  unfold F10_needPlace
  refine sr_iloadn (pc := 0) (n := 0) (by decide +kernel) rfl ?_
  refine sr_if_lt (pc := 1) (off := 10) (tg := 11) (by decide +kernel) (by decide) (fun _ => ?_) (fun _ => ?_)
  · exact sr_wk (sr_mono (mc := 1) (ms := 6) (by omega) (by omega) (g10_needPlace_11 l a0 t)) ⟨rfl, trivial⟩
  · refine sr_iloadn (pc := 4) (n := 0) (by decide +kernel) rfl ?_
    refine sr_sipush (pc := 5) (n := 4095) (v := 4095) (by decide +kernel) (by decide) ?_
    refine sr_icmp_le (pc := 8) (off := 14) (tg := 22) (by decide +kernel) (by decide) (fun _ => ?_) (fun _ => ?_)
    · exact sr_ret (pc := 22) (by decide +kernel) rfl
    · exact sr_wk (sr_mono (mc := 1) (ms := 6) (by omega) (by omega) (g10_needPlace_11 l a0 t)) ⟨rfl, trivial⟩
def F3_bringUp (i0 : Nat) (i1 : Nat) (t : sr_t) : sr_Rs := (if (1 : Int32) = 0 ∨ (1 : Int32) = 1 then (sr_lt (sr_u t 2 i1 2 1) (fun t1 => (sr_bV (F3_layAgain i0 i1 t1) (fun t2 => (some (.inl none, t2)))))) else none)
theorem C3_bringUp (l : Launch) (i0 : Nat) (i1 : Nat) (hv_i0 : i0 < 2) (hv_i1 : i1 < 50) (t : sr_t) : sr_ct' l sr_m3_bringUp [sr_r 3 i0, sr_r 2 i1] t (F3_bringUp i0 i1 t) 0 0 := by
  refine sr_T_of (L0 := [some (sr_r 3 i0), some (sr_r 2 i1)]) rfl (by decide +kernel) (fun _ => rfl) (fun _ => Nat.le_of_ble_eq_true rfl) ?_
  unfold F3_bringUp
  refine sr_aloadn (pc := 0) (n := 1) (by decide +kernel) rfl ?_
  refine sr_iconst (pc := 1) (n := 1) (v := 1) (by decide +kernel) rfl ?_
  refine sr_pZ (pc := 2) fg_3_68 ft_2_2 (by decide +kernel) (sr_in2 _ (by omega)) (fun _ => rfl) (fun t1 => ?_)
  refine sr_aloadn (pc := 5) (n := 0) (by decide +kernel) rfl ?_
  refine sr_aloadn (pc := 6) (n := 1) (by decide +kernel) rfl ?_
  refine sr_cV (pc := 7) (As := [sr_r 2 i1]) (mc1 := 0) (ms1 := 0) (mc2 := 0) (ms2 := 0) fm_3_72 fl_3_72 (by decide +kernel) (sr_in3 _ (by omega)) (rm_3_bringUp_3_layAgain) rfl rfl rfl (C3_layAgain l i0 i1 (by omega) (by omega) t1) ?_
  refine sr_kV (fun t2 => ?_)
  exact sr_ret (pc := 10) (by decide +kernel) rfl
def F3_addNode (i0 : Nat) (a0 : Int32) (t : sr_t) : sr_Rs := (sr_bR 2 50 (F3_of i0 (t.1 3 i0 3) t) (fun n1 t1 => (sr_lt (sr_u t1 3 i0 3 ((t1.1 3 i0 3) + 1)) (fun t2 => (sr_lt (sr_u t2 2 n1 1 a0) (fun t3 => (sr_bV (F3_bringUp i0 n1 t3) (fun t4 => (some (.inl (some (sr_i (t4.1 2 n1 0))), t4))))))))))
theorem C3_addNode (l : Launch) (i0 : Nat) (a0 : Int32) (hv_i0 : i0 < 2) (t : sr_t) : sr_ct' l sr_m3_addNode [sr_r 3 i0, sr_i a0] t (F3_addNode i0 a0 t) 0 0 := by
  refine sr_T_of (L0 := [some (sr_r 3 i0), some (sr_i a0), none]) rfl (by decide +kernel) (fun _ => rfl) (fun _ => Nat.le_of_ble_eq_true rfl) ?_
  unfold F3_addNode
  refine sr_aloadn (pc := 0) (n := 0) (by decide +kernel) rfl ?_
  refine sr_aloadn (pc := 1) (n := 0) (by decide +kernel) rfl ?_
  refine sr_gI (pc := 2) fg_3_51 (by decide +kernel) (sr_in3 _ (by omega)) (fun _ => rfl) ?_
  refine sr_cV (pc := 5) (As := [sr_i (t.1 3 i0 3)]) (mc1 := 0) (ms1 := 0) (mc2 := 0) (ms2 := 0) fm_3_54 fl_3_54 (by decide +kernel) (sr_in3 _ (by omega)) (rm_3_addNode_3_of) rfl rfl rfl (C3_of l i0 (t.1 3 i0 3) (by omega) t) ?_
  refine sr_kR (fun n1 t1 hv_n1 => ?_)
  refine sr_astoren (pc := 8) (n := 2) (by decide +kernel) (by decide) rfl rfl ?_
  refine sr_aloadn (pc := 9) (n := 0) (by decide +kernel) rfl ?_
  refine sr_dup (pc := 10) (by decide +kernel) rfl ?_
  refine sr_gI (pc := 11) fg_3_51 (by decide +kernel) (sr_in3 _ (by omega)) (fun _ => rfl) ?_
  refine sr_iconst (pc := 14) (n := 1) (v := 1) (by decide +kernel) rfl ?_
  refine sr_iadd (pc := 15) (by decide +kernel) ?_
  refine sr_pI (pc := 16) fg_3_51 ft_3_3 (by decide +kernel) (sr_in3 _ (by omega)) (fun _ => rfl) (fun t2 => ?_)
  refine sr_aloadn (pc := 19) (n := 2) (by decide +kernel) rfl ?_
  refine sr_iloadn (pc := 20) (n := 1) (by decide +kernel) rfl ?_
  refine sr_pI (pc := 21) fg_3_58 ft_2_1 (by decide +kernel) (sr_in2 _ (by omega)) (fun _ => rfl) (fun t3 => ?_)
  refine sr_aloadn (pc := 24) (n := 0) (by decide +kernel) rfl ?_
  refine sr_aloadn (pc := 25) (n := 2) (by decide +kernel) rfl ?_
  refine sr_cV (pc := 26) (As := [sr_r 2 n1]) (mc1 := 0) (ms1 := 0) (mc2 := 0) (ms2 := 0) fm_3_61 fl_3_61 (by decide +kernel) (sr_in3 _ (by omega)) (rm_3_addNode_3_bringUp) rfl rfl rfl (C3_bringUp l i0 n1 (by omega) (by omega) t3) ?_
  refine sr_kV (fun t4 => ?_)
  refine sr_aloadn (pc := 29) (n := 2) (by decide +kernel) rfl ?_
  refine sr_gI (pc := 30) fg_3_65 (by decide +kernel) (sr_in2 _ (by omega)) (fun _ => rfl) ?_
  exact sr_iret (pc := 33) (by decide +kernel) rfl
def f10_join_27 (a0 : Int32)  : sr_t → sr_Rs := fun  t => (some (.inr 1, t))
theorem g10_join_27 (l : Launch) (a0 : Int32)    : ∀ (t : sr_t), sr_g l sr_m10_join 27 [some (sr_r 10 0), some (sr_i a0)] [] t (f10_join_27 a0   t) 1 6 := by
  intro t
  unfold f10_join_27
  exact sr_thr (pc := 27) (ik := 70) (is := 72) (ic := 74) (tx := "there is no room for the node") (z := 1) (mc := 0) (ms := 0) fx_70_74 (by decide +kernel) (by decide +kernel) (by decide +kernel) (Or.inl ⟨by decide +kernel, by decide +kernel, by decide +kernel⟩) rfl (by decide) (by decide) rfl rfl
def F10_join (a0 : Int32) (t : sr_t) : sr_Rs := (sr_bV (F10_needPlace a0 t) (fun t1 => (if 24 ≤ (t1.1 3 0 3) then f10_join_27 a0 t1 else (sr_bI (F3_isTaken 0 a0 t1) (fun v2 t2 => (if v2 = 0 then (sr_bI (F3_addNode 0 a0 t2) (fun v3 t3 => (some (.inl (some (sr_i v3)), t3)))) else f10_join_27 a0 t2))))))
theorem C10_join (l : Launch) (a0 : Int32)  (t : sr_t) : sr_ct' l sr_m10_join [sr_r 10 0, sr_i a0] t (F10_join a0 t) 2 12 := by
  refine sr_T_of (L0 := [some (sr_r 10 0), some (sr_i a0)]) rfl (by decide +kernel) (fun _ => rfl) (fun _ => Nat.le_of_ble_eq_true rfl) ?_
  unfold F10_join
  refine sr_iloadn (pc := 0) (n := 1) (by decide +kernel) rfl ?_
  refine sr_cS (pc := 1) (As := [sr_i a0]) (mc1 := 1) (ms1 := 6) (mc2 := 1) (ms2 := 6) fm_10_58 fl_10_58 (by decide +kernel) (rm_10_join_10_needPlace) rfl rfl rfl (C10_needPlace l a0 t) ?_
  refine sr_kV (fun t1 => ?_)
  refine sr_aloadn (pc := 4) (n := 0) (by decide +kernel) rfl ?_
  refine sr_gC (pc := 5) (i2 := 0) fg_10_12 (by decide +kernel) (sr_in10 _ (by omega)) (fun _ => rfl) ?_
  refine sr_gI (pc := 8) fg_10_62 (by decide +kernel) (sr_in3 _ (by omega)) (fun _ => rfl) ?_
  refine sr_bipush (pc := 11) (n := 24) (v := 24) (by decide +kernel) (by decide) ?_
  refine sr_icmp_ge (pc := 13) (off := 14) (tg := 27) (by decide +kernel) (by decide) (fun _ => ?_) (fun _ => ?_)
  · exact sr_wk (sr_mono (mc := 1) (ms := 6) (by omega) (by omega) (g10_join_27 l a0 t1)) ⟨rfl, ⟨rfl, trivial⟩⟩
  · refine sr_aloadn (pc := 16) (n := 0) (by decide +kernel) rfl ?_
    refine sr_gC (pc := 17) (i2 := 0) fg_10_12 (by decide +kernel) (sr_in10 _ (by omega)) (fun _ => rfl) ?_
    refine sr_iloadn (pc := 20) (n := 1) (by decide +kernel) rfl ?_
    refine sr_cV (pc := 21) (As := [sr_i a0]) (mc1 := 0) (ms1 := 0) (mc2 := 1) (ms2 := 6) fm_10_66 fl_10_66 (by decide +kernel) (sr_in3 _ (by omega)) (rm_10_join_3_isTaken) rfl rfl rfl (C3_isTaken l 0 a0 (by omega) t1) ?_
    refine sr_kI (fun v2 t2 => ?_)
    refine sr_if_eq (pc := 24) (off := 13) (tg := 37) (by decide +kernel) (by decide) (fun _ => ?_) (fun _ => ?_)
    · refine sr_aloadn (pc := 37) (n := 0) (by decide +kernel) rfl ?_
      refine sr_gC (pc := 38) (i2 := 0) fg_10_12 (by decide +kernel) (sr_in10 _ (by omega)) (fun _ => rfl) ?_
      refine sr_iloadn (pc := 41) (n := 1) (by decide +kernel) rfl ?_
      refine sr_cV (pc := 42) (As := [sr_i a0]) (mc1 := 0) (ms1 := 0) (mc2 := 1) (ms2 := 6) fm_10_77 fl_10_77 (by decide +kernel) (sr_in3 _ (by omega)) (rm_10_join_3_addNode) rfl rfl rfl (C3_addNode l 0 a0 (by omega) t2) ?_
      refine sr_kI (fun v3 t3 => ?_)
      exact sr_iret (pc := 45) (by decide +kernel) rfl
    · exact sr_wk (sr_mono (mc := 1) (ms := 6) (by omega) (by omega) (g10_join_27 l a0 t2)) ⟨rfl, ⟨rfl, trivial⟩⟩
def sr_m3_has : sr_M := (⟨"ShiftRing$Ring", "has", "(I)Z"⟩, prog_5_method_3_code, 2, (some .boolean), [], 0, 0)
def sr_m10_needNode : sr_M := (⟨"ShiftRing", "needNode", "(I)V"⟩, prog_1_method_48_code, 2, none, [], 6, 90)
def sr_m10_needUp : sr_M := (⟨"ShiftRing", "needUp", "(I)V"⟩, prog_1_method_49_code, 2, none, [], 6, 90)
def sr_m10_down : sr_M := (⟨"ShiftRing", "down", "(I)I"⟩, prog_1_method_3_code, 2, (some .int), [], 7, 111)
theorem fl_10_81 : Cond.methodLink "ShiftRing" 81 (sr_My sr_m10_needNode) ∈ sr_TB := (sr_tb (n := 884) (by decide +kernel) rfl)
theorem fm_10_81 : sr_FV "ShiftRing" 81 sr_m10_needNode 10 1 := ⟨⟨rfl, sr_tb (n := 887) (by decide +kernel) rfl, sr_tb (n := 1) (by decide +kernel) rfl, ⟨by decide, by decide, by decide +kernel⟩, Or.inl fl_10_81⟩, ⟨TX10, 7, rfl, rfl⟩, sr_tb (n := 886) (by decide +kernel) rfl, sr_ts (n := 22) (by decide +kernel) rfl⟩
theorem fl_10_84 : Cond.methodLink "ShiftRing" 84 (sr_My sr_m10_needUp) ∈ sr_TB := (sr_tb (n := 908) (by decide +kernel) rfl)
theorem fm_10_84 : sr_FV "ShiftRing" 84 sr_m10_needUp 10 1 := ⟨⟨rfl, sr_tb (n := 911) (by decide +kernel) rfl, sr_tb (n := 1) (by decide +kernel) rfl, ⟨by decide, by decide, by decide +kernel⟩, Or.inl fl_10_84⟩, ⟨TX10, 7, rfl, rfl⟩, sr_tb (n := 910) (by decide +kernel) rfl, sr_ts (n := 23) (by decide +kernel) rfl⟩
theorem fl_10_91 : Cond.methodLink "ShiftRing" 91 (sr_My sr_m3_takeDown) ∈ sr_TB := (sr_tb (n := 913) (by decide +kernel) rfl)
theorem fm_10_91 : sr_FV "ShiftRing" 91 sr_m3_takeDown 3 1 := ⟨⟨rfl, sr_tb (n := 584) (by decide +kernel) rfl, sr_tb (n := 2) (by decide +kernel) rfl, ⟨by decide, by decide, by decide +kernel⟩, Or.inl fl_10_91⟩, ⟨TX3, 9, rfl, rfl⟩, sr_tb (n := 582) (by decide +kernel) rfl, sr_tb (n := 583) (by decide +kernel) rfl⟩
theorem fl_10_410 : Cond.methodLink "ShiftRing" 410 (sr_My sr_m3_has) ∈ sr_TB := (sr_tb (n := 888) (by decide +kernel) rfl)
theorem fm_10_410 : sr_FV "ShiftRing" 410 sr_m3_has 3 1 := ⟨⟨rfl, sr_tb (n := 891) (by decide +kernel) rfl, sr_tb (n := 2) (by decide +kernel) rfl, ⟨by decide, by decide, by decide +kernel⟩, Or.inl fl_10_410⟩, ⟨TX3, 9, rfl, rfl⟩, sr_tb (n := 889) (by decide +kernel) rfl, sr_tb (n := 890) (by decide +kernel) rfl⟩
theorem rm_10_down_10_needNode : sr_RM sr_m10_down sr_m10_needNode := ⟨Nat.le_of_ble_eq_true rfl, Nat.le_of_ble_eq_true rfl⟩
theorem rm_10_down_10_needUp : sr_RM sr_m10_down sr_m10_needUp := ⟨Nat.le_of_ble_eq_true rfl, Nat.le_of_ble_eq_true rfl⟩
theorem rm_10_down_3_of : sr_RM sr_m10_down sr_m3_of := ⟨Nat.le_of_ble_eq_true rfl, Nat.le_of_ble_eq_true rfl⟩
theorem rm_10_down_3_takeDown : sr_RM sr_m10_down sr_m3_takeDown := ⟨Nat.le_of_ble_eq_true rfl, Nat.le_of_ble_eq_true rfl⟩
theorem rm_10_needNode_3_has : sr_RM sr_m10_needNode sr_m3_has := ⟨Nat.le_of_ble_eq_true rfl, Nat.le_of_ble_eq_true rfl⟩
theorem rm_10_needUp_3_of : sr_RM sr_m10_needUp sr_m3_of := ⟨Nat.le_of_ble_eq_true rfl, Nat.le_of_ble_eq_true rfl⟩
theorem fx_413_417 : sr_FX "ShiftRing" 413 417 2 := ⟨by decide +kernel, by decide +kernel, sr_tb (n := 892) (by decide +kernel) rfl, sr_tb (n := 18) (by decide +kernel) rfl, by decide +kernel, by decide +kernel⟩
def f3_has_17 (i0 : Nat) (a0 : Int32)  : Int32 → sr_t → sr_Rs := fun xs0 t => (if xs0 = 0 ∨ xs0 = 1 then some (.inl (some (sr_i xs0)), t) else none)
theorem g3_has_17 (l : Launch) (i0 : Nat) (a0 : Int32) (hv_i0 : i0 < 2)   : ∀ (xs0 : Int32), ∀ (t : sr_t), sr_g l sr_m3_has 17 [some (sr_r 3 i0), some (sr_i a0)] [sr_i xs0] t (f3_has_17 i0 a0  xs0 t) 0 0 := by
  intro xs0  t
  unfold f3_has_17
  exact sr_zr (pc := 17) (by decide +kernel) rfl
def f3_has_16 (i0 : Nat) (a0 : Int32)  : sr_t → sr_Rs := fun  t => f3_has_17 i0 a0 0 t
theorem g3_has_16 (l : Launch) (i0 : Nat) (a0 : Int32) (hv_i0 : i0 < 2)   : ∀ (t : sr_t), sr_g l sr_m3_has 16 [some (sr_r 3 i0), some (sr_i a0)] [] t (f3_has_16 i0 a0   t) 0 0 := by
  intro t
  unfold f3_has_16
  refine sr_iconst (pc := 16) (n := 0) (v := 0) (by decide +kernel) rfl ?_
  exact sr_wk (sr_mono (mc := 0) (ms := 0) (by omega) (by omega) (g3_has_17 l i0 a0 hv_i0 0 t)) ⟨rfl, ⟨rfl, trivial⟩⟩
def F3_has (i0 : Nat) (a0 : Int32) (t : sr_t) : sr_Rs := (if a0 < 0 then f3_has_16 i0 a0 t else (if (t.1 3 i0 3) ≤ a0 then f3_has_16 i0 a0 t else f3_has_17 i0 a0 1 t))
theorem C3_has (l : Launch) (i0 : Nat) (a0 : Int32) (hv_i0 : i0 < 2) (t : sr_t) : sr_ct' l sr_m3_has [sr_r 3 i0, sr_i a0] t (F3_has i0 a0 t) 0 0 := by
  refine sr_T_of (L0 := [some (sr_r 3 i0), some (sr_i a0)]) rfl (by decide +kernel) (fun _ => rfl) (fun _ => Nat.le_of_ble_eq_true rfl) ?_
  unfold F3_has
  refine sr_iloadn (pc := 0) (n := 1) (by decide +kernel) rfl ?_
  refine sr_if_lt (pc := 1) (off := 15) (tg := 16) (by decide +kernel) (by decide) (fun _ => ?_) (fun _ => ?_)
  · exact sr_wk (sr_mono (mc := 0) (ms := 0) (by omega) (by omega) (g3_has_16 l i0 a0 hv_i0 t)) ⟨rfl, ⟨rfl, trivial⟩⟩
  · refine sr_iloadn (pc := 4) (n := 1) (by decide +kernel) rfl ?_
    refine sr_aloadn (pc := 5) (n := 0) (by decide +kernel) rfl ?_
    refine sr_gI (pc := 6) fg_3_51 (by decide +kernel) (sr_in3 _ (by omega)) (fun _ => rfl) ?_
    refine sr_icmp_ge (pc := 9) (off := 7) (tg := 16) (by decide +kernel) (by decide) (fun _ => ?_) (fun _ => ?_)
    · exact sr_wk (sr_mono (mc := 0) (ms := 0) (by omega) (by omega) (g3_has_16 l i0 a0 hv_i0 t)) ⟨rfl, ⟨rfl, trivial⟩⟩
    · refine sr_iconst (pc := 12) (n := 1) (v := 1) (by decide +kernel) rfl ?_
      refine sr_goto (pc := 13) (off := 4) (tg := 17) (by decide +kernel) (by decide) ?_
      exact sr_wk (sr_mono (mc := 0) (ms := 0) (by omega) (by omega) (g3_has_17 l i0 a0 hv_i0 1 t)) ⟨rfl, ⟨rfl, trivial⟩⟩
def F10_needNode (a0 : Int32) (t : sr_t) : sr_Rs := (sr_bI (F3_has 0 a0 t) (fun v1 t1 => (if v1 = 0 then (some (.inr 2, t1)) else (some (.inl none, t1)))))
theorem C10_needNode (l : Launch) (a0 : Int32)  (t : sr_t) : sr_ct' l sr_m10_needNode [sr_r 10 0, sr_i a0] t (F10_needNode a0 t) 1 6 := by
  refine sr_T_of (L0 := [some (sr_r 10 0), some (sr_i a0)]) rfl (by decide +kernel) (fun _ => rfl) (fun _ => Nat.le_of_ble_eq_true rfl) ?_
  unfold F10_needNode
  refine sr_aloadn (pc := 0) (n := 0) (by decide +kernel) rfl ?_
  refine sr_gC (pc := 1) (i2 := 0) fg_10_12 (by decide +kernel) (sr_in10 _ (by omega)) (fun _ => rfl) ?_
  refine sr_iloadn (pc := 4) (n := 1) (by decide +kernel) rfl ?_
  refine sr_cV (pc := 5) (As := [sr_i a0]) (mc1 := 0) (ms1 := 0) (mc2 := 1) (ms2 := 6) fm_10_410 fl_10_410 (by decide +kernel) (sr_in3 _ (by omega)) (rm_10_needNode_3_has) rfl rfl rfl (C3_has l 0 a0 (by omega) t) ?_
  refine sr_kI (fun v1 t1 => ?_)
  refine sr_if_ne (pc := 8) (off := 14) (tg := 22) (by decide +kernel) (by decide) (fun _ => ?_) (fun _ => ?_)
  · exact sr_ret (pc := 22) (by decide +kernel) rfl
  · exact sr_thr (pc := 11) (ik := 413) (is := 415) (ic := 417) (tx := "there is no such node") (z := 2) (mc := 0) (ms := 0) fx_413_417 (by decide +kernel) (by decide +kernel) (by decide +kernel) (Or.inr ⟨by decide +kernel, by decide +kernel, by decide +kernel⟩) rfl (by decide) (by decide) rfl rfl
def F10_needUp (a0 : Int32) (t : sr_t) : sr_Rs := (sr_bR 2 50 (F3_of 0 a0 t) (fun n1 t1 => (if (t1.1 2 n1 2) = 0 then (some (.inr 1, t1)) else (some (.inl none, t1)))))
theorem C10_needUp (l : Launch) (a0 : Int32)  (t : sr_t) : sr_ct' l sr_m10_needUp [sr_r 10 0, sr_i a0] t (F10_needUp a0 t) 1 6 := by
  refine sr_T_of (L0 := [some (sr_r 10 0), some (sr_i a0)]) rfl (by decide +kernel) (fun _ => rfl) (fun _ => Nat.le_of_ble_eq_true rfl) ?_
  unfold F10_needUp
  refine sr_aloadn (pc := 0) (n := 0) (by decide +kernel) rfl ?_
  refine sr_gC (pc := 1) (i2 := 0) fg_10_12 (by decide +kernel) (sr_in10 _ (by omega)) (fun _ => rfl) ?_
  refine sr_iloadn (pc := 4) (n := 1) (by decide +kernel) rfl ?_
  refine sr_cV (pc := 5) (As := [sr_i a0]) (mc1 := 0) (ms1 := 0) (mc2 := 1) (ms2 := 6) fm_10_87 fl_10_87 (by decide +kernel) (sr_in3 _ (by omega)) (rm_10_needUp_3_of) rfl rfl rfl (C3_of l 0 a0 (by omega) t) ?_
  refine sr_kR (fun n1 t1 hv_n1 => ?_)
  refine sr_gI (pc := 8) fg_10_98 (by decide +kernel) (sr_in2 _ (by omega)) (fun _ => rfl) ?_
  refine sr_if_ne (pc := 11) (off := 14) (tg := 25) (by decide +kernel) (by decide) (fun _ => ?_) (fun _ => ?_)
  · exact sr_ret (pc := 25) (by decide +kernel) rfl
  · exact sr_thr (pc := 14) (ik := 70) (is := 418) (ic := 74) (tx := "the node is down") (z := 1) (mc := 0) (ms := 0) fx_70_74 (by decide +kernel) (by decide +kernel) (by decide +kernel) (Or.inr ⟨by decide +kernel, by decide +kernel, by decide +kernel⟩) rfl (by decide) (by decide) rfl rfl
def F10_down (a0 : Int32) (t : sr_t) : sr_Rs := (sr_bV (F10_needNode a0 t) (fun t1 => (sr_bV (F10_needUp a0 t1) (fun t2 => (sr_bR 2 50 (F3_of 0 a0 t2) (fun n3 t3 => (sr_bV (F3_takeDown 0 n3 t3) (fun t4 => (some (.inl (some (sr_i (t4.1 3 0 4))), t4))))))))))
theorem C10_down (l : Launch) (a0 : Int32)  (t : sr_t) : sr_ct' l sr_m10_down [sr_r 10 0, sr_i a0] t (F10_down a0 t) 2 12 := by
  refine sr_T_of (L0 := [some (sr_r 10 0), some (sr_i a0)]) rfl (by decide +kernel) (fun _ => rfl) (fun _ => Nat.le_of_ble_eq_true rfl) ?_
  unfold F10_down
  refine sr_aloadn (pc := 0) (n := 0) (by decide +kernel) rfl ?_
  refine sr_iloadn (pc := 1) (n := 1) (by decide +kernel) rfl ?_
  refine sr_cV (pc := 2) (As := [sr_i a0]) (mc1 := 1) (ms1 := 6) (mc2 := 1) (ms2 := 6) fm_10_81 fl_10_81 (by decide +kernel) (sr_in10 _ (by omega)) (rm_10_down_10_needNode) rfl rfl rfl (C10_needNode l a0 t) ?_
  refine sr_kV (fun t1 => ?_)
  refine sr_aloadn (pc := 5) (n := 0) (by decide +kernel) rfl ?_
  refine sr_iloadn (pc := 6) (n := 1) (by decide +kernel) rfl ?_
  refine sr_cV (pc := 7) (As := [sr_i a0]) (mc1 := 1) (ms1 := 6) (mc2 := 0) (ms2 := 0) fm_10_84 fl_10_84 (by decide +kernel) (sr_in10 _ (by omega)) (rm_10_down_10_needUp) rfl rfl rfl (C10_needUp l a0 t1) ?_
  refine sr_kV (fun t2 => ?_)
  refine sr_aloadn (pc := 10) (n := 0) (by decide +kernel) rfl ?_
  refine sr_gC (pc := 11) (i2 := 0) fg_10_12 (by decide +kernel) (sr_in10 _ (by omega)) (fun _ => rfl) ?_
  refine sr_aloadn (pc := 14) (n := 0) (by decide +kernel) rfl ?_
  refine sr_gC (pc := 15) (i2 := 0) fg_10_12 (by decide +kernel) (sr_in10 _ (by omega)) (fun _ => rfl) ?_
  refine sr_iloadn (pc := 18) (n := 1) (by decide +kernel) rfl ?_
  refine sr_cV (pc := 19) (As := [sr_i a0]) (mc1 := 0) (ms1 := 0) (mc2 := 0) (ms2 := 0) fm_10_87 fl_10_87 (by decide +kernel) (sr_in3 _ (by omega)) (rm_10_down_3_of) rfl rfl rfl (C3_of l 0 a0 (by omega) t2) ?_
  refine sr_kR (fun n3 t3 hv_n3 => ?_)
  refine sr_cV (pc := 22) (As := [sr_r 2 n3]) (mc1 := 0) (ms1 := 0) (mc2 := 0) (ms2 := 0) fm_10_91 fl_10_91 (by decide +kernel) (sr_in3 _ (by omega)) (rm_10_down_3_takeDown) rfl rfl rfl (C3_takeDown l 0 n3 (by omega) (by omega) t3) ?_
  refine sr_kV (fun t4 => ?_)
  refine sr_aloadn (pc := 25) (n := 0) (by decide +kernel) rfl ?_
  refine sr_gC (pc := 26) (i2 := 0) fg_10_12 (by decide +kernel) (sr_in10 _ (by omega)) (fun _ => rfl) ?_
  refine sr_gI (pc := 29) fg_10_95 (by decide +kernel) (sr_in3 _ (by omega)) (fun _ => rfl) ?_
  exact sr_iret (pc := 32) (by decide +kernel) rfl
def sr_m10_up : sr_M := (⟨"ShiftRing", "up", "(I)I"⟩, prog_1_method_4_code, 2, (some .int), [], 7, 130)
theorem fl_10_106 : Cond.methodLink "ShiftRing" 106 (sr_My sr_m3_bringUp) ∈ sr_TB := (sr_tb (n := 922) (by decide +kernel) rfl)
theorem fm_10_106 : sr_FV "ShiftRing" 106 sr_m3_bringUp 3 1 := ⟨⟨rfl, sr_tb (n := 874) (by decide +kernel) rfl, sr_tb (n := 2) (by decide +kernel) rfl, ⟨by decide, by decide, by decide +kernel⟩, Or.inl fl_10_106⟩, ⟨TX3, 9, rfl, rfl⟩, sr_tb (n := 872) (by decide +kernel) rfl, sr_tb (n := 873) (by decide +kernel) rfl⟩
theorem rm_10_up_10_needNode : sr_RM sr_m10_up sr_m10_needNode := ⟨Nat.le_of_ble_eq_true rfl, Nat.le_of_ble_eq_true rfl⟩
theorem rm_10_up_3_bringUp : sr_RM sr_m10_up sr_m3_bringUp := ⟨Nat.le_of_ble_eq_true rfl, Nat.le_of_ble_eq_true rfl⟩
theorem rm_10_up_3_of : sr_RM sr_m10_up sr_m3_of := ⟨Nat.le_of_ble_eq_true rfl, Nat.le_of_ble_eq_true rfl⟩
def F10_up (a0 : Int32) (t : sr_t) : sr_Rs := (sr_bV (F10_needNode a0 t) (fun t1 => (sr_bR 2 50 (F3_of 0 a0 t1) (fun n2 t2 => (if (t2.1 2 n2 2) = 0 then (sr_bR 2 50 (F3_of 0 a0 t2) (fun n3 t3 => (sr_bV (F3_bringUp 0 n3 t3) (fun t4 => (some (.inl (some (sr_i (t4.1 3 0 4))), t4)))))) else (some (.inr 1, t2)))))))
theorem C10_up (l : Launch) (a0 : Int32)  (t : sr_t) : sr_ct' l sr_m10_up [sr_r 10 0, sr_i a0] t (F10_up a0 t) 2 12 := by
  refine sr_T_of (L0 := [some (sr_r 10 0), some (sr_i a0)]) rfl (by decide +kernel) (fun _ => rfl) (fun _ => Nat.le_of_ble_eq_true rfl) ?_
  unfold F10_up
  refine sr_aloadn (pc := 0) (n := 0) (by decide +kernel) rfl ?_
  refine sr_iloadn (pc := 1) (n := 1) (by decide +kernel) rfl ?_
  refine sr_cV (pc := 2) (As := [sr_i a0]) (mc1 := 1) (ms1 := 6) (mc2 := 1) (ms2 := 6) fm_10_81 fl_10_81 (by decide +kernel) (sr_in10 _ (by omega)) (rm_10_up_10_needNode) rfl rfl rfl (C10_needNode l a0 t) ?_
  refine sr_kV (fun t1 => ?_)
  refine sr_aloadn (pc := 5) (n := 0) (by decide +kernel) rfl ?_
  refine sr_gC (pc := 6) (i2 := 0) fg_10_12 (by decide +kernel) (sr_in10 _ (by omega)) (fun _ => rfl) ?_
  refine sr_iloadn (pc := 9) (n := 1) (by decide +kernel) rfl ?_
  refine sr_cV (pc := 10) (As := [sr_i a0]) (mc1 := 0) (ms1 := 0) (mc2 := 1) (ms2 := 6) fm_10_87 fl_10_87 (by decide +kernel) (sr_in3 _ (by omega)) (rm_10_up_3_of) rfl rfl rfl (C3_of l 0 a0 (by omega) t1) ?_
  refine sr_kR (fun n2 t2 hv_n2 => ?_)
  refine sr_gI (pc := 13) fg_10_98 (by decide +kernel) (sr_in2 _ (by omega)) (fun _ => rfl) ?_
  refine sr_if_eq (pc := 16) (off := 13) (tg := 29) (by decide +kernel) (by decide) (fun _ => ?_) (fun _ => ?_)
  · refine sr_aloadn (pc := 29) (n := 0) (by decide +kernel) rfl ?_
    refine sr_gC (pc := 30) (i2 := 0) fg_10_12 (by decide +kernel) (sr_in10 _ (by omega)) (fun _ => rfl) ?_
    refine sr_aloadn (pc := 33) (n := 0) (by decide +kernel) rfl ?_
    refine sr_gC (pc := 34) (i2 := 0) fg_10_12 (by decide +kernel) (sr_in10 _ (by omega)) (fun _ => rfl) ?_
    refine sr_iloadn (pc := 37) (n := 1) (by decide +kernel) rfl ?_
    refine sr_cV (pc := 38) (As := [sr_i a0]) (mc1 := 0) (ms1 := 0) (mc2 := 1) (ms2 := 6) fm_10_87 fl_10_87 (by decide +kernel) (sr_in3 _ (by omega)) (rm_10_up_3_of) rfl rfl rfl (C3_of l 0 a0 (by omega) t2) ?_
    refine sr_kR (fun n3 t3 hv_n3 => ?_)
    refine sr_cV (pc := 41) (As := [sr_r 2 n3]) (mc1 := 0) (ms1 := 0) (mc2 := 1) (ms2 := 6) fm_10_106 fl_10_106 (by decide +kernel) (sr_in3 _ (by omega)) (rm_10_up_3_bringUp) rfl rfl rfl (C3_bringUp l 0 n3 (by omega) (by omega) t3) ?_
    refine sr_kV (fun t4 => ?_)
    refine sr_aloadn (pc := 44) (n := 0) (by decide +kernel) rfl ?_
    refine sr_gC (pc := 45) (i2 := 0) fg_10_12 (by decide +kernel) (sr_in10 _ (by omega)) (fun _ => rfl) ?_
    refine sr_gI (pc := 48) fg_10_95 (by decide +kernel) (sr_in3 _ (by omega)) (fun _ => rfl) ?_
    exact sr_iret (pc := 51) (by decide +kernel) rfl
  · exact sr_thr (pc := 19) (ik := 70) (is := 104) (ic := 74) (tx := "the node is up") (z := 1) (mc := 0) (ms := 0) fx_70_74 (by decide +kernel) (by decide +kernel) (by decide +kernel) (Or.inl ⟨by decide +kernel, by decide +kernel, by decide +kernel⟩) rfl (by decide) (by decide) rfl rfl
def sr_m10_mend : sr_M := (⟨"ShiftRing", "mend", "(I)I"⟩, prog_1_method_5_code, 3, (some .int), [], 7, 111)
theorem fl_10_109 : Cond.methodLink "ShiftRing" 109 (sr_My sr_m3_staleOf) ∈ sr_TB := (sr_tb (n := 930) (by decide +kernel) rfl)
theorem fm_10_109 : sr_FV "ShiftRing" 109 sr_m3_staleOf 3 1 := ⟨⟨rfl, sr_tb (n := 442) (by decide +kernel) rfl, sr_tb (n := 2) (by decide +kernel) rfl, ⟨by decide, by decide, by decide +kernel⟩, Or.inl fl_10_109⟩, ⟨TX3, 9, rfl, rfl⟩, sr_tb (n := 440) (by decide +kernel) rfl, sr_tb (n := 441) (by decide +kernel) rfl⟩
theorem fl_10_113 : Cond.methodLink "ShiftRing" 113 (sr_My sr_m3_layAgain) ∈ sr_TB := (sr_tb (n := 931) (by decide +kernel) rfl)
theorem fm_10_113 : sr_FV "ShiftRing" 113 sr_m3_layAgain 3 1 := ⟨⟨rfl, sr_tb (n := 720) (by decide +kernel) rfl, sr_tb (n := 2) (by decide +kernel) rfl, ⟨by decide, by decide, by decide +kernel⟩, Or.inl fl_10_113⟩, ⟨TX3, 9, rfl, rfl⟩, sr_tb (n := 718) (by decide +kernel) rfl, sr_tb (n := 719) (by decide +kernel) rfl⟩
theorem rm_10_mend_10_needNode : sr_RM sr_m10_mend sr_m10_needNode := ⟨Nat.le_of_ble_eq_true rfl, Nat.le_of_ble_eq_true rfl⟩
theorem rm_10_mend_10_needUp : sr_RM sr_m10_mend sr_m10_needUp := ⟨Nat.le_of_ble_eq_true rfl, Nat.le_of_ble_eq_true rfl⟩
theorem rm_10_mend_3_layAgain : sr_RM sr_m10_mend sr_m3_layAgain := ⟨Nat.le_of_ble_eq_true rfl, Nat.le_of_ble_eq_true rfl⟩
theorem rm_10_mend_3_of : sr_RM sr_m10_mend sr_m3_of := ⟨Nat.le_of_ble_eq_true rfl, Nat.le_of_ble_eq_true rfl⟩
theorem rm_10_mend_3_staleOf : sr_RM sr_m10_mend sr_m3_staleOf := ⟨Nat.le_of_ble_eq_true rfl, Nat.le_of_ble_eq_true rfl⟩
def F10_mend (a0 : Int32) (t : sr_t) : sr_Rs := (sr_bV (F10_needNode a0 t) (fun t1 => (sr_bV (F10_needUp a0 t1) (fun t2 => (sr_bR 2 50 (F3_of 0 a0 t2) (fun n3 t3 => (sr_bI (F3_staleOf 0 n3 t3) (fun v4 t4 => (sr_bR 2 50 (F3_of 0 a0 t4) (fun n5 t5 => (sr_bV (F3_layAgain 0 n5 t5) (fun t6 => (some (.inl (some (sr_i v4)), t6))))))))))))))
theorem C10_mend (l : Launch) (a0 : Int32)  (t : sr_t) : sr_ct' l sr_m10_mend [sr_r 10 0, sr_i a0] t (F10_mend a0 t) 2 12 := by
  refine sr_T_of (L0 := [some (sr_r 10 0), some (sr_i a0), none]) rfl (by decide +kernel) (fun _ => rfl) (fun _ => Nat.le_of_ble_eq_true rfl) ?_
  unfold F10_mend
  refine sr_aloadn (pc := 0) (n := 0) (by decide +kernel) rfl ?_
  refine sr_iloadn (pc := 1) (n := 1) (by decide +kernel) rfl ?_
  refine sr_cV (pc := 2) (As := [sr_i a0]) (mc1 := 1) (ms1 := 6) (mc2 := 1) (ms2 := 6) fm_10_81 fl_10_81 (by decide +kernel) (sr_in10 _ (by omega)) (rm_10_mend_10_needNode) rfl rfl rfl (C10_needNode l a0 t) ?_
  refine sr_kV (fun t1 => ?_)
  refine sr_aloadn (pc := 5) (n := 0) (by decide +kernel) rfl ?_
  refine sr_iloadn (pc := 6) (n := 1) (by decide +kernel) rfl ?_
  refine sr_cV (pc := 7) (As := [sr_i a0]) (mc1 := 1) (ms1 := 6) (mc2 := 0) (ms2 := 0) fm_10_84 fl_10_84 (by decide +kernel) (sr_in10 _ (by omega)) (rm_10_mend_10_needUp) rfl rfl rfl (C10_needUp l a0 t1) ?_
  refine sr_kV (fun t2 => ?_)
  refine sr_aloadn (pc := 10) (n := 0) (by decide +kernel) rfl ?_
  refine sr_gC (pc := 11) (i2 := 0) fg_10_12 (by decide +kernel) (sr_in10 _ (by omega)) (fun _ => rfl) ?_
  refine sr_aloadn (pc := 14) (n := 0) (by decide +kernel) rfl ?_
  refine sr_gC (pc := 15) (i2 := 0) fg_10_12 (by decide +kernel) (sr_in10 _ (by omega)) (fun _ => rfl) ?_
  refine sr_iloadn (pc := 18) (n := 1) (by decide +kernel) rfl ?_
  refine sr_cV (pc := 19) (As := [sr_i a0]) (mc1 := 0) (ms1 := 0) (mc2 := 0) (ms2 := 0) fm_10_87 fl_10_87 (by decide +kernel) (sr_in3 _ (by omega)) (rm_10_mend_3_of) rfl rfl rfl (C3_of l 0 a0 (by omega) t2) ?_
  refine sr_kR (fun n3 t3 hv_n3 => ?_)
  refine sr_cV (pc := 22) (As := [sr_r 2 n3]) (mc1 := 0) (ms1 := 0) (mc2 := 0) (ms2 := 0) fm_10_109 fl_10_109 (by decide +kernel) (sr_in3 _ (by omega)) (rm_10_mend_3_staleOf) rfl rfl rfl (C3_staleOf l 0 n3 (by omega) (by omega) t3) ?_
  refine sr_kI (fun v4 t4 => ?_)
  refine sr_istoren (pc := 25) (n := 2) (by decide +kernel) (by decide) rfl rfl ?_
  refine sr_aloadn (pc := 26) (n := 0) (by decide +kernel) rfl ?_
  refine sr_gC (pc := 27) (i2 := 0) fg_10_12 (by decide +kernel) (sr_in10 _ (by omega)) (fun _ => rfl) ?_
  refine sr_aloadn (pc := 30) (n := 0) (by decide +kernel) rfl ?_
  refine sr_gC (pc := 31) (i2 := 0) fg_10_12 (by decide +kernel) (sr_in10 _ (by omega)) (fun _ => rfl) ?_
  refine sr_iloadn (pc := 34) (n := 1) (by decide +kernel) rfl ?_
  refine sr_cV (pc := 35) (As := [sr_i a0]) (mc1 := 0) (ms1 := 0) (mc2 := 0) (ms2 := 0) fm_10_87 fl_10_87 (by decide +kernel) (sr_in3 _ (by omega)) (rm_10_mend_3_of) rfl rfl rfl (C3_of l 0 a0 (by omega) t4) ?_
  refine sr_kR (fun n5 t5 hv_n5 => ?_)
  refine sr_cV (pc := 38) (As := [sr_r 2 n5]) (mc1 := 0) (ms1 := 0) (mc2 := 0) (ms2 := 0) fm_10_113 fl_10_113 (by decide +kernel) (sr_in3 _ (by omega)) (rm_10_mend_3_layAgain) rfl rfl rfl (C3_layAgain l 0 n5 (by omega) (by omega) t5) ?_
  refine sr_kV (fun t6 => ?_)
  refine sr_iloadn (pc := 41) (n := 2) (by decide +kernel) rfl ?_
  exact sr_iret (pc := 42) (by decide +kernel) rfl
def sr_m10_needBase : sr_M := (⟨"ShiftRing", "needBase", "(I)V"⟩, prog_1_method_52_code, 1, none, [], 6, 90)
def sr_m10_turn : sr_M := (⟨"ShiftRing", "turn", "(I)I"⟩, prog_1_method_7_code, 3, (some .int), [], 7, 110)
theorem fl_10_123 : Cond.methodLink "ShiftRing" 123 (sr_My sr_m10_needBase) ∈ sr_TB := (sr_tb (n := 939) (by decide +kernel) rfl)
theorem fm_10_123 : sr_FS "ShiftRing" 123 sr_m10_needBase 1 := ⟨⟨rfl, sr_tb (n := 941) (by decide +kernel) rfl, sr_tb (n := 1) (by decide +kernel) rfl, ⟨by decide, by decide, by decide +kernel⟩, Or.inl fl_10_123⟩, sr_tb (n := 940) (by decide +kernel) rfl⟩
theorem fl_10_129 : Cond.methodLink "ShiftRing" 129 (sr_My sr_m3_setBase) ∈ sr_TB := (sr_tb (n := 944) (by decide +kernel) rfl)
theorem fm_10_129 : sr_FV "ShiftRing" 129 sr_m3_setBase 3 1 := ⟨⟨rfl, sr_tb (n := 147) (by decide +kernel) rfl, sr_tb (n := 2) (by decide +kernel) rfl, ⟨by decide, by decide, by decide +kernel⟩, Or.inl fl_10_129⟩, ⟨TX3, 9, rfl, rfl⟩, sr_tb (n := 145) (by decide +kernel) rfl, sr_tb (n := 146) (by decide +kernel) rfl⟩
theorem fl_10_424 : Cond.methodLink "ShiftRing" 424 (sr_My sr_m10_bitsOf) ∈ sr_TB := (sr_tb (n := 942) (by decide +kernel) rfl)
theorem fm_10_424 : sr_FS "ShiftRing" 424 sr_m10_bitsOf 1 := ⟨⟨rfl, sr_tb (n := 150) (by decide +kernel) rfl, sr_tb (n := 1) (by decide +kernel) rfl, ⟨by decide, by decide, by decide +kernel⟩, Or.inl fl_10_424⟩, sr_tb (n := 149) (by decide +kernel) rfl⟩
theorem rm_10_needBase_10_bitsOf : sr_RM sr_m10_needBase sr_m10_bitsOf := ⟨Nat.le_of_ble_eq_true rfl, Nat.le_of_ble_eq_true rfl⟩
theorem rm_10_turn_10_needBase : sr_RM sr_m10_turn sr_m10_needBase := ⟨Nat.le_of_ble_eq_true rfl, Nat.le_of_ble_eq_true rfl⟩
theorem rm_10_turn_3_setBase : sr_RM sr_m10_turn sr_m3_setBase := ⟨Nat.le_of_ble_eq_true rfl, Nat.le_of_ble_eq_true rfl⟩
def F10_needBase (a0 : Int32) (t : sr_t) : sr_Rs := (sr_bI (F10_bitsOf a0 t) (fun v1 t1 => (if v1 = 0 then (some (.inr 0, t1)) else (some (.inl none, t1)))))
theorem C10_needBase (l : Launch) (a0 : Int32)  (t : sr_t) : sr_ct' l sr_m10_needBase [sr_i a0] t (F10_needBase a0 t) 1 6 := by
  refine sr_T_of (L0 := [some (sr_i a0)]) rfl (by decide +kernel) (fun _ => rfl) (fun _ => Nat.le_of_ble_eq_true rfl) ?_
  unfold F10_needBase
  refine sr_iloadn (pc := 0) (n := 0) (by decide +kernel) rfl ?_
  refine sr_cS (pc := 1) (As := [sr_i a0]) (mc1 := 0) (ms1 := 0) (mc2 := 1) (ms2 := 6) fm_10_424 fl_10_424 (by decide +kernel) (rm_10_needBase_10_bitsOf) rfl rfl rfl (C10_bitsOf l a0 t) ?_
  refine sr_kI (fun v1 t1 => ?_)
  refine sr_if_ne (pc := 4) (off := 14) (tg := 18) (by decide +kernel) (by decide) (fun _ => ?_) (fun _ => ?_)
  · exact sr_ret (pc := 18) (by decide +kernel) rfl
  · exact sr_thr (pc := 7) (ik := 138) (is := 427) (ic := 142) (tx := "there is no such base") (z := 0) (mc := 0) (ms := 0) fx_138_142 (by decide +kernel) (by decide +kernel) (by decide +kernel) (Or.inr ⟨by decide +kernel, by decide +kernel, by decide +kernel⟩) rfl (by decide) (by decide) rfl rfl
def F10_turn (a0 : Int32) (t : sr_t) : sr_Rs := (sr_bV (F10_needBase a0 t) (fun t1 => (sr_bV (F3_setBase 0 a0 t1) (fun t2 => (some (.inl (some (sr_i (t1.1 3 0 5))), t2))))))
theorem C10_turn (l : Launch) (a0 : Int32)  (t : sr_t) : sr_ct' l sr_m10_turn [sr_r 10 0, sr_i a0] t (F10_turn a0 t) 1 6 := by
  refine sr_T_of (L0 := [some (sr_r 10 0), some (sr_i a0), none]) rfl (by decide +kernel) (fun _ => rfl) (fun _ => Nat.le_of_ble_eq_true rfl) ?_
  unfold F10_turn
  refine sr_iloadn (pc := 0) (n := 1) (by decide +kernel) rfl ?_
  refine sr_cS (pc := 1) (As := [sr_i a0]) (mc1 := 1) (ms1 := 6) (mc2 := 0) (ms2 := 0) fm_10_123 fl_10_123 (by decide +kernel) (rm_10_turn_10_needBase) rfl rfl rfl (C10_needBase l a0 t) ?_
  refine sr_kV (fun t1 => ?_)
  refine sr_aloadn (pc := 4) (n := 0) (by decide +kernel) rfl ?_
  refine sr_gC (pc := 5) (i2 := 0) fg_10_12 (by decide +kernel) (sr_in10 _ (by omega)) (fun _ => rfl) ?_
  refine sr_gI (pc := 8) fg_10_126 (by decide +kernel) (sr_in3 _ (by omega)) (fun _ => rfl) ?_
  refine sr_istoren (pc := 11) (n := 2) (by decide +kernel) (by decide) rfl rfl ?_
  refine sr_aloadn (pc := 12) (n := 0) (by decide +kernel) rfl ?_
  refine sr_gC (pc := 13) (i2 := 0) fg_10_12 (by decide +kernel) (sr_in10 _ (by omega)) (fun _ => rfl) ?_
  refine sr_iloadn (pc := 16) (n := 1) (by decide +kernel) rfl ?_
  refine sr_cV (pc := 17) (As := [sr_i a0]) (mc1 := 0) (ms1 := 0) (mc2 := 0) (ms2 := 0) fm_10_129 fl_10_129 (by decide +kernel) (sr_in3 _ (by omega)) (rm_10_turn_3_setBase) rfl rfl rfl (C3_setBase l 0 a0 (by omega) t1) ?_
  refine sr_kV (fun t2 => ?_)
  refine sr_iloadn (pc := 20) (n := 2) (by decide +kernel) rfl ?_
  exact sr_iret (pc := 21) (by decide +kernel) rfl
def sr_m10_needDegree : sr_M := (⟨"ShiftRing", "needDegree", "(I)V"⟩, prog_1_method_53_code, 1, none, [], 6, 90)
def sr_m10_degree : sr_M := (⟨"ShiftRing", "degree", "(I)I"⟩, prog_1_method_8_code, 3, (some .int), [], 7, 110)
theorem fl_10_132 : Cond.methodLink "ShiftRing" 132 (sr_My sr_m10_needDegree) ∈ sr_TB := (sr_tb (n := 952) (by decide +kernel) rfl)
theorem fm_10_132 : sr_FS "ShiftRing" 132 sr_m10_needDegree 1 := ⟨⟨rfl, sr_tb (n := 954) (by decide +kernel) rfl, sr_tb (n := 1) (by decide +kernel) rfl, ⟨by decide, by decide, by decide +kernel⟩, Or.inl fl_10_132⟩, sr_tb (n := 953) (by decide +kernel) rfl⟩
theorem rm_10_degree_10_needDegree : sr_RM sr_m10_degree sr_m10_needDegree := ⟨Nat.le_of_ble_eq_true rfl, Nat.le_of_ble_eq_true rfl⟩
def f10_needDegree_11 (a0 : Int32)  : sr_t → sr_Rs := fun  t => (some (.inr 0, t))
theorem g10_needDegree_11 (l : Launch) (a0 : Int32)    : ∀ (t : sr_t), sr_g l sr_m10_needDegree 11 [some (sr_i a0)] [] t (f10_needDegree_11 a0   t) 1 6 := by
  intro t
  unfold f10_needDegree_11
  exact sr_thr (pc := 11) (ik := 138) (is := 429) (ic := 142) (tx := "there is no such degree") (z := 0) (mc := 0) (ms := 0) fx_138_142 (by decide +kernel) (by decide +kernel) (by decide +kernel) (Or.inr ⟨by decide +kernel, by decide +kernel, by decide +kernel⟩) rfl (by decide) (by decide) rfl rfl
def F10_needDegree (a0 : Int32) (t : sr_t) : sr_Rs := (if a0 < 1 then f10_needDegree_11 a0 t else (if a0 ≤ 8 then (some (.inl none, t)) else f10_needDegree_11 a0 t))
theorem C10_needDegree (l : Launch) (a0 : Int32)  (t : sr_t) : sr_ct' l sr_m10_needDegree [sr_i a0] t (F10_needDegree a0 t) 1 6 := by
  refine sr_T_of (L0 := [some (sr_i a0)]) rfl (by decide +kernel) (fun _ => rfl) (fun _ => Nat.le_of_ble_eq_true rfl) ?_
  unfold F10_needDegree
  refine sr_iloadn (pc := 0) (n := 0) (by decide +kernel) rfl ?_
  refine sr_iconst (pc := 1) (n := 1) (v := 1) (by decide +kernel) rfl ?_
  refine sr_icmp_lt (pc := 2) (off := 9) (tg := 11) (by decide +kernel) (by decide) (fun _ => ?_) (fun _ => ?_)
  · exact sr_wk (sr_mono (mc := 1) (ms := 6) (by omega) (by omega) (g10_needDegree_11 l a0 t)) ⟨rfl, trivial⟩
  · refine sr_iloadn (pc := 5) (n := 0) (by decide +kernel) rfl ?_
    refine sr_bipush (pc := 6) (n := 8) (v := 8) (by decide +kernel) (by decide) ?_
    refine sr_icmp_le (pc := 8) (off := 14) (tg := 22) (by decide +kernel) (by decide) (fun _ => ?_) (fun _ => ?_)
    · exact sr_ret (pc := 22) (by decide +kernel) rfl
    · exact sr_wk (sr_mono (mc := 1) (ms := 6) (by omega) (by omega) (g10_needDegree_11 l a0 t)) ⟨rfl, trivial⟩
def F10_degree (a0 : Int32) (t : sr_t) : sr_Rs := (sr_bV (F10_needDegree a0 t) (fun t1 => (sr_lt (sr_u t1 3 0 8 a0) (fun t2 => (some (.inl (some (sr_i (t1.1 3 0 8))), t2))))))
theorem C10_degree (l : Launch) (a0 : Int32)  (t : sr_t) : sr_ct' l sr_m10_degree [sr_r 10 0, sr_i a0] t (F10_degree a0 t) 1 6 := by
  refine sr_T_of (L0 := [some (sr_r 10 0), some (sr_i a0), none]) rfl (by decide +kernel) (fun _ => rfl) (fun _ => Nat.le_of_ble_eq_true rfl) ?_
  unfold F10_degree
  refine sr_iloadn (pc := 0) (n := 1) (by decide +kernel) rfl ?_
  refine sr_cS (pc := 1) (As := [sr_i a0]) (mc1 := 1) (ms1 := 6) (mc2 := 0) (ms2 := 0) fm_10_132 fl_10_132 (by decide +kernel) (rm_10_degree_10_needDegree) rfl rfl rfl (C10_needDegree l a0 t) ?_
  refine sr_kV (fun t1 => ?_)
  refine sr_aloadn (pc := 4) (n := 0) (by decide +kernel) rfl ?_
  refine sr_gC (pc := 5) (i2 := 0) fg_10_12 (by decide +kernel) (sr_in10 _ (by omega)) (fun _ => rfl) ?_
  refine sr_gI (pc := 8) fg_10_135 (by decide +kernel) (sr_in3 _ (by omega)) (fun _ => rfl) ?_
  refine sr_istoren (pc := 11) (n := 2) (by decide +kernel) (by decide) rfl rfl ?_
  refine sr_aloadn (pc := 12) (n := 0) (by decide +kernel) rfl ?_
  refine sr_gC (pc := 13) (i2 := 0) fg_10_12 (by decide +kernel) (sr_in10 _ (by omega)) (fun _ => rfl) ?_
  refine sr_iloadn (pc := 16) (n := 1) (by decide +kernel) rfl ?_
  refine sr_pI (pc := 17) fg_10_135 ft_3_8 (by decide +kernel) (sr_in3 _ (by omega)) (fun _ => rfl) (fun t2 => ?_)
  refine sr_iloadn (pc := 20) (n := 2) (by decide +kernel) rfl ?_
  exact sr_iret (pc := 21) (by decide +kernel) rfl
