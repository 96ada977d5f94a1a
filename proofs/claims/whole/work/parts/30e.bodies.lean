def sr_m11_enough : sr_M := (⟨"ShiftRingModel", "enough", "(I)I"⟩, prog_13_method_59_code, 3, (some .int), [], 9, 215)
theorem rm_11_enough_11_isIn : sr_RM sr_m11_enough sr_m11_isIn := ⟨Nat.le_of_ble_eq_true rfl, Nat.le_of_ble_eq_true rfl⟩
theorem rm_11_enough_11_samplesBy : sr_RM sr_m11_enough sr_m11_samplesBy := ⟨Nat.le_of_ble_eq_true rfl, Nat.le_of_ble_eq_true rfl⟩
def f11_enough_31 (a0 : Int32) (k54 : Int32 → sr_t → sr_Rs) (k62 : sr_t → sr_Rs) : Nat → Int32 → sr_t → sr_Rs
  | 0 => fun _ _ => none
  | n + 1 => fun x2 t => (if 8 < x2 then k62 t else (sr_bV (F11_samplesBy (t.1 11 0 7) x2 t) (fun t1 => (if a0 < (t1.1 11 0 46) then (f11_enough_31 a0 k54 k62 n) (x2 + 1) t1 else k54 x2 t1))))
theorem g11_enough_31 (l : Launch) (a0 : Int32)  (k54 : Int32 → sr_t → sr_Rs) (k62 : sr_t → sr_Rs) (hk54 : ∀ (x2 : Int32), ∀ (t : sr_t), sr_g l sr_m11_enough 54 [some (sr_r 11 0), some (sr_i a0), some (sr_i x2)] [] t (k54 x2 t) 0 0) (hk62 : ∀ (t : sr_t), sr_g l sr_m11_enough 62 [some (sr_r 11 0), some (sr_i a0), none] [] t (k62 t) 0 0) : ∀ (n : Nat) (x2 : Int32), ∀ (t : sr_t), sr_g l sr_m11_enough 31 [some (sr_r 11 0), some (sr_i a0), some (sr_i x2)] [] t (f11_enough_31 a0 k54 k62 n x2 t) 0 0 := by
  intro n
  induction n with
  | zero => intros; exact sr_Gn
  | succ n ih =>
    intro x2  t
    unfold f11_enough_31
    refine sr_iloadn (pc := 31) (n := 2) (by decide +kernel) rfl ?_
    refine sr_bipush (pc := 32) (n := 8) (v := 8) (by decide +kernel) (by decide) ?_
    refine sr_icmp_gt (pc := 34) (off := 28) (tg := 62) (by decide +kernel) (by decide) (fun _ => ?_) (fun _ => ?_)
    · exact sr_wk (sr_mono (mc := 0) (ms := 0) (by omega) (by omega) (hk62 t)) ⟨rfl, ⟨rfl, trivial⟩⟩
    · refine sr_aloadn (pc := 37) (n := 0) (by decide +kernel) rfl ?_
      refine sr_aloadn (pc := 38) (n := 0) (by decide +kernel) rfl ?_
      refine sr_gI (pc := 39) fg_11_25 (by decide +kernel) (sr_in11 _ (by omega)) (fun _ => rfl) ?_
      refine sr_iloadn (pc := 42) (n := 2) (by decide +kernel) rfl ?_
      refine sr_cV (pc := 43) (As := [sr_i (t.1 11 0 7), sr_i x2]) (mc1 := 0) (ms1 := 0) (mc2 := 0) (ms2 := 0) fm_11_278 fl_11_278 (by decide +kernel) (sr_in11 _ (by omega)) (rm_11_enough_11_samplesBy) rfl rfl rfl (C11_samplesBy l (t.1 11 0 7) x2 t) ?_
      refine sr_kV (fun t1 => ?_)
      refine sr_aloadn (pc := 46) (n := 0) (by decide +kernel) rfl ?_
      refine sr_gI (pc := 47) fg_11_258 (by decide +kernel) (sr_in11 _ (by omega)) (fun _ => rfl) ?_
      refine sr_iloadn (pc := 50) (n := 1) (by decide +kernel) rfl ?_
      refine sr_icmp_gt (pc := 51) (off := 5) (tg := 56) (by decide +kernel) (by decide) (fun _ => ?_) (fun _ => ?_)
      · refine sr_iinc (pc := 56) (i := 2) (n := 1) (w := x2 + 1) (by decide +kernel) rfl rfl (by decide) rfl rfl ?_
        refine sr_goto (pc := 59) (off := (-28)) (tg := 31) (by decide +kernel) (by decide) ?_
        exact sr_wk (sr_mono (mc := 0) (ms := 0) (by omega) (by omega) (ih (x2 + 1) t1)) ⟨rfl, ⟨rfl, ⟨rfl, trivial⟩⟩⟩
      · exact sr_wk (sr_mono (mc := 0) (ms := 0) (by omega) (by omega) (hk54 x2 t1)) ⟨rfl, ⟨rfl, ⟨rfl, trivial⟩⟩⟩
def f11_enough_54 (a0 : Int32)  : Int32 → sr_t → sr_Rs := fun x2 t => (some (.inl (some (sr_i x2)), t))
theorem g11_enough_54 (l : Launch) (a0 : Int32)    : ∀ (x2 : Int32), ∀ (t : sr_t), sr_g l sr_m11_enough 54 [some (sr_r 11 0), some (sr_i a0), some (sr_i x2)] [] t (f11_enough_54 a0  x2 t) 0 0 := by
  intro x2  t
  unfold f11_enough_54
  refine sr_iloadn (pc := 54) (n := 2) (by decide +kernel) rfl ?_
  exact sr_iret (pc := 55) (by decide +kernel) rfl
def f11_enough_62 (a0 : Int32)  : sr_t → sr_Rs := fun  t => (some (.inl (some (sr_i ((-1)))), t))
theorem g11_enough_62 (l : Launch) (a0 : Int32)    : ∀ (t : sr_t), sr_g l sr_m11_enough 62 [some (sr_r 11 0), some (sr_i a0), none] [] t (f11_enough_62 a0   t) 0 0 := by
  intro t
  unfold f11_enough_62
  refine sr_iconst (pc := 62) (n := (-1)) (v := (-1)) (by decide +kernel) rfl ?_
  exact sr_iret (pc := 63) (by decide +kernel) rfl
def f11_enough_17 (a0 : Int32)  : Int32 → sr_t → sr_Rs := fun xs0 t => (sr_lt (sr_u t 11 0 0 xs0) (fun t1 => (if (t1.1 11 0 0) ≤ 0 then f11_enough_31 a0 (f11_enough_54 a0) (f11_enough_62 a0) sr_fu 1 t1 else (some (.inl (some (sr_i 0)), t1)))))
theorem g11_enough_17 (l : Launch) (a0 : Int32)    : ∀ (xs0 : Int32), ∀ (t : sr_t), sr_g l sr_m11_enough 17 [some (sr_r 11 0), some (sr_i a0), none] [sr_i xs0, sr_r 11 0] t (f11_enough_17 a0  xs0 t) 0 0 := by
  intro xs0  t
  unfold f11_enough_17
  refine sr_pI (pc := 17) fg_11_93 ft_11_0 (by decide +kernel) (sr_in11 _ (by omega)) (fun _ => rfl) (fun t1 => ?_)
  refine sr_aloadn (pc := 20) (n := 0) (by decide +kernel) rfl ?_
  refine sr_gI (pc := 21) fg_11_93 (by decide +kernel) (sr_in11 _ (by omega)) (fun _ => rfl) ?_
  refine sr_if_le (pc := 24) (off := 5) (tg := 29) (by decide +kernel) (by decide) (fun _ => ?_) (fun _ => ?_)
  · refine sr_iconst (pc := 29) (n := 1) (v := 1) (by decide +kernel) rfl ?_
    refine sr_istoren (pc := 30) (n := 2) (by decide +kernel) (by decide) rfl rfl ?_
    exact sr_wk (sr_mono (mc := 0) (ms := 0) (by omega) (by omega) (g11_enough_31 l a0 (f11_enough_54 a0) (f11_enough_62 a0) (g11_enough_54 l a0) (g11_enough_62 l a0) sr_fu 1 t1)) ⟨rfl, ⟨rfl, ⟨rfl, trivial⟩⟩⟩
  · refine sr_iconst (pc := 27) (n := 0) (v := 0) (by decide +kernel) rfl ?_
    exact sr_iret (pc := 28) (by decide +kernel) rfl
def F11_enough (a0 : Int32) (t : sr_t) : sr_Rs := (sr_bI (F11_isIn a0 1 200 t) (fun v1 t1 => (if v1 = 0 then f11_enough_17 a0 1 t1 else f11_enough_17 a0 0 t1)))
theorem C11_enough (l : Launch) (a0 : Int32)  (t : sr_t) : sr_ct' l sr_m11_enough [sr_r 11 0, sr_i a0] t (F11_enough a0 t) 0 0 := by
  refine sr_T_of (L0 := [some (sr_r 11 0), some (sr_i a0), none]) rfl (by decide +kernel) (fun _ => rfl) (fun _ => Nat.le_of_ble_eq_true rfl) ?_
  unfold F11_enough
  refine sr_aloadn (pc := 0) (n := 0) (by decide +kernel) rfl ?_
  refine sr_iloadn (pc := 1) (n := 1) (by decide +kernel) rfl ?_
  refine sr_iconst (pc := 2) (n := 1) (v := 1) (by decide +kernel) rfl ?_
  refine sr_sipush (pc := 3) (n := 200) (v := 200) (by decide +kernel) (by decide) ?_
  refine sr_cS (pc := 6) (As := [sr_i a0, sr_i 1, sr_i 200]) (mc1 := 0) (ms1 := 0) (mc2 := 0) (ms2 := 0) fm_11_96 fl_11_96 (by decide +kernel) (rm_11_enough_11_isIn) rfl rfl rfl (C11_isIn l a0 1 200 t) ?_
  refine sr_kI (fun v1 t1 => ?_)
  refine sr_if_eq (pc := 9) (off := 7) (tg := 16) (by decide +kernel) (by decide) (fun _ => ?_) (fun _ => ?_)
  · refine sr_iconst (pc := 16) (n := 1) (v := 1) (by decide +kernel) rfl ?_
    exact sr_wk (sr_mono (mc := 0) (ms := 0) (by omega) (by omega) (g11_enough_17 l a0 1 t1)) ⟨rfl, ⟨rfl, trivial⟩⟩
  · refine sr_iconst (pc := 12) (n := 0) (v := 0) (by decide +kernel) rfl ?_
    refine sr_goto (pc := 13) (off := 4) (tg := 17) (by decide +kernel) (by decide) ?_
    exact sr_wk (sr_mono (mc := 0) (ms := 0) (by omega) (by omega) (g11_enough_17 l a0 0 t1)) ⟨rfl, ⟨rfl, trivial⟩⟩
def sr_m11_linksOf : sr_M := (⟨"ShiftRingModel", "linksOf", "(I)I"⟩, prog_13_method_63_code, 4, (some .int), [], 1, 22)
def sr_m11_linkedBy : sr_M := (⟨"ShiftRingModel", "linkedBy", "(I)I"⟩, prog_13_method_64_code, 4, (some .int), [], 2, 45)
def sr_m11_loadOf : sr_M := (⟨"ShiftRingModel", "loadOf", "(I)I"⟩, prog_13_method_62_code, 4, (some .int), [], 1, 21)
def sr_m11_harmOf : sr_M := (⟨"ShiftRingModel", "harmOf", "(I)I"⟩, prog_13_method_60_code, 2, (some .int), [], 8, 191)
def sr_m11_node : sr_M := (⟨"ShiftRingModel", "node", "(II)I"⟩, prog_13_method_65_code, 4, (some .int), [], 9, 212)
theorem fl_11_283 : Cond.methodLink "ShiftRingModel" 283 (sr_My sr_m11_linksOf) ∈ sr_TB := (sr_tb (n := 1776) (by decide +kernel) rfl)
theorem fm_11_283 : sr_FV "ShiftRingModel" 283 sr_m11_linksOf 11 1 := ⟨⟨rfl, sr_tb (n := 1779) (by decide +kernel) rfl, sr_tb (n := 12) (by decide +kernel) rfl, ⟨by decide, by decide, by decide +kernel⟩, Or.inl fl_11_283⟩, ⟨TX11, 53, rfl, rfl⟩, sr_tb (n := 1778) (by decide +kernel) rfl, sr_ts (n := 72) (by decide +kernel) rfl⟩
theorem fl_11_286 : Cond.methodLink "ShiftRingModel" 286 (sr_My sr_m11_linkedBy) ∈ sr_TB := (sr_tb (n := 1780) (by decide +kernel) rfl)
theorem fm_11_286 : sr_FV "ShiftRingModel" 286 sr_m11_linkedBy 11 1 := ⟨⟨rfl, sr_tb (n := 1783) (by decide +kernel) rfl, sr_tb (n := 12) (by decide +kernel) rfl, ⟨by decide, by decide, by decide +kernel⟩, Or.inl fl_11_286⟩, ⟨TX11, 53, rfl, rfl⟩, sr_tb (n := 1782) (by decide +kernel) rfl, sr_ts (n := 73) (by decide +kernel) rfl⟩
theorem fl_11_289 : Cond.methodLink "ShiftRingModel" 289 (sr_My sr_m11_loadOf) ∈ sr_TB := (sr_tb (n := 1784) (by decide +kernel) rfl)
theorem fm_11_289 : sr_FV "ShiftRingModel" 289 sr_m11_loadOf 11 1 := ⟨⟨rfl, sr_tb (n := 1787) (by decide +kernel) rfl, sr_tb (n := 12) (by decide +kernel) rfl, ⟨by decide, by decide, by decide +kernel⟩, Or.inl fl_11_289⟩, ⟨TX11, 53, rfl, rfl⟩, sr_tb (n := 1786) (by decide +kernel) rfl, sr_ts (n := 74) (by decide +kernel) rfl⟩
theorem fl_11_292 : Cond.methodLink "ShiftRingModel" 292 (sr_My sr_m11_harmOf) ∈ sr_TB := (sr_tb (n := 1788) (by decide +kernel) rfl)
theorem fm_11_292 : sr_FV "ShiftRingModel" 292 sr_m11_harmOf 11 1 := ⟨⟨rfl, sr_tb (n := 1791) (by decide +kernel) rfl, sr_tb (n := 12) (by decide +kernel) rfl, ⟨by decide, by decide, by decide +kernel⟩, Or.inl fl_11_292⟩, ⟨TX11, 53, rfl, rfl⟩, sr_tb (n := 1790) (by decide +kernel) rfl, sr_ts (n := 75) (by decide +kernel) rfl⟩
theorem rm_11_harmOf_11_samples : sr_RM sr_m11_harmOf sr_m11_samples := ⟨Nat.le_of_ble_eq_true rfl, Nat.le_of_ble_eq_true rfl⟩
theorem rm_11_linkedBy_11_linksOf : sr_RM sr_m11_linkedBy sr_m11_linksOf := ⟨Nat.le_of_ble_eq_true rfl, Nat.le_of_ble_eq_true rfl⟩
theorem rm_11_linksOf_11_tableOf : sr_RM sr_m11_linksOf sr_m11_tableOf := ⟨Nat.le_of_ble_eq_true rfl, Nat.le_of_ble_eq_true rfl⟩
theorem rm_11_loadOf_11_from : sr_RM sr_m11_loadOf sr_m11_from := ⟨Nat.le_of_ble_eq_true rfl, Nat.le_of_ble_eq_true rfl⟩
theorem rm_11_node_11_arcOf : sr_RM sr_m11_node sr_m11_arcOf := ⟨Nat.le_of_ble_eq_true rfl, Nat.le_of_ble_eq_true rfl⟩
theorem rm_11_node_11_harmOf : sr_RM sr_m11_node sr_m11_harmOf := ⟨Nat.le_of_ble_eq_true rfl, Nat.le_of_ble_eq_true rfl⟩
theorem rm_11_node_11_isIn : sr_RM sr_m11_node sr_m11_isIn := ⟨Nat.le_of_ble_eq_true rfl, Nat.le_of_ble_eq_true rfl⟩
theorem rm_11_node_11_isNode : sr_RM sr_m11_node sr_m11_isNode := ⟨Nat.le_of_ble_eq_true rfl, Nat.le_of_ble_eq_true rfl⟩
theorem rm_11_node_11_linkedBy : sr_RM sr_m11_node sr_m11_linkedBy := ⟨Nat.le_of_ble_eq_true rfl, Nat.le_of_ble_eq_true rfl⟩
theorem rm_11_node_11_linksOf : sr_RM sr_m11_node sr_m11_linksOf := ⟨Nat.le_of_ble_eq_true rfl, Nat.le_of_ble_eq_true rfl⟩
theorem rm_11_node_11_loadOf : sr_RM sr_m11_node sr_m11_loadOf := ⟨Nat.le_of_ble_eq_true rfl, Nat.le_of_ble_eq_true rfl⟩
theorem rm_11_node_11_nextOf : sr_RM sr_m11_node sr_m11_nextOf := ⟨Nat.le_of_ble_eq_true rfl, Nat.le_of_ble_eq_true rfl⟩
theorem rm_11_node_11_staleOf : sr_RM sr_m11_node sr_m11_staleOf := ⟨Nat.le_of_ble_eq_true rfl, Nat.le_of_ble_eq_true rfl⟩
theorem rm_11_node_11_tableOf : sr_RM sr_m11_node sr_m11_tableOf := ⟨Nat.le_of_ble_eq_true rfl, Nat.le_of_ble_eq_true rfl⟩
def f11_linksOf_4 (a0 : Int32) (k33 : Int32 → sr_t → sr_Rs) : Nat → Int32 → Int32 → sr_t → sr_Rs
  | 0 => fun _ _ _ => none
  | n + 1 => fun x2 x3 t => (sr_bI (F11_tableOf a0 1 t) (fun v1 t1 => (if v1 ≤ x3 then k33 x2 t1 else (sr_bI (F11_tableOf a0 (2 + x3) t1) (fun v2 t2 => (f11_linksOf_4 a0 k33 n) (x2 ||| (1 <<< (v2 &&& 31))) (x3 + 1) t2)))))
theorem g11_linksOf_4 (l : Launch) (a0 : Int32)  (k33 : Int32 → sr_t → sr_Rs) (hk33 : ∀ (x2 : Int32), ∀ (t : sr_t), sr_g l sr_m11_linksOf 33 [some (sr_r 11 0), some (sr_i a0), some (sr_i x2), none] [] t (k33 x2 t) 0 0) : ∀ (n : Nat) (x2 : Int32) (x3 : Int32), ∀ (t : sr_t), sr_g l sr_m11_linksOf 4 [some (sr_r 11 0), some (sr_i a0), some (sr_i x2), some (sr_i x3)] [] t (f11_linksOf_4 a0 k33 n x2 x3 t) 0 0 := by
  intro n
  induction n with
  | zero => intros; exact sr_Gn
  | succ n ih =>
    intro x2 x3  t
    unfold f11_linksOf_4
    refine sr_iloadn (pc := 4) (n := 3) (by decide +kernel) rfl ?_
    refine sr_aloadn (pc := 5) (n := 0) (by decide +kernel) rfl ?_
    refine sr_iloadn (pc := 6) (n := 1) (by decide +kernel) rfl ?_
    refine sr_iconst (pc := 7) (n := 1) (v := 1) (by decide +kernel) rfl ?_
    refine sr_cV (pc := 8) (As := [sr_i a0, sr_i 1]) (mc1 := 0) (ms1 := 0) (mc2 := 0) (ms2 := 0) fm_11_123 fl_11_123 (by decide +kernel) (sr_in11 _ (by omega)) (rm_11_linksOf_11_tableOf) rfl rfl rfl (C11_tableOf l a0 1 t) ?_
    refine sr_kI (fun v1 t1 => ?_)
    refine sr_icmp_ge (pc := 11) (off := 22) (tg := 33) (by decide +kernel) (by decide) (fun _ => ?_) (fun _ => ?_)
    · exact sr_wk (sr_mono (mc := 0) (ms := 0) (by omega) (by omega) (hk33 x2 t1)) ⟨rfl, ⟨rfl, ⟨rfl, trivial⟩⟩⟩
    · refine sr_iloadn (pc := 14) (n := 2) (by decide +kernel) rfl ?_
      refine sr_iconst (pc := 15) (n := 1) (v := 1) (by decide +kernel) rfl ?_
      refine sr_aloadn (pc := 16) (n := 0) (by decide +kernel) rfl ?_
      refine sr_iloadn (pc := 17) (n := 1) (by decide +kernel) rfl ?_
      refine sr_iconst (pc := 18) (n := 2) (v := 2) (by decide +kernel) rfl ?_
      refine sr_iloadn (pc := 19) (n := 3) (by decide +kernel) rfl ?_
      refine sr_iadd (pc := 20) (by decide +kernel) ?_
      refine sr_cV (pc := 21) (As := [sr_i a0, sr_i (2 + x3)]) (mc1 := 0) (ms1 := 0) (mc2 := 0) (ms2 := 0) fm_11_123 fl_11_123 (by decide +kernel) (sr_in11 _ (by omega)) (rm_11_linksOf_11_tableOf) rfl rfl rfl (C11_tableOf l a0 (2 + x3) t1) ?_
      refine sr_kI (fun v2 t2 => ?_)
      refine sr_ishl (pc := 24) (by decide +kernel) ?_
      refine sr_ior (pc := 25) (by decide +kernel) ?_
      refine sr_istoren (pc := 26) (n := 2) (by decide +kernel) (by decide) rfl rfl ?_
      refine sr_iinc (pc := 27) (i := 3) (n := 1) (w := x3 + 1) (by decide +kernel) rfl rfl (by decide) rfl rfl ?_
      refine sr_goto (pc := 30) (off := (-26)) (tg := 4) (by decide +kernel) (by decide) ?_
      exact sr_wk (sr_mono (mc := 0) (ms := 0) (by omega) (by omega) (ih (x2 ||| (1 <<< (v2 &&& 31))) (x3 + 1) t2)) ⟨rfl, ⟨rfl, ⟨rfl, ⟨rfl, trivial⟩⟩⟩⟩
def f11_linksOf_35 (a0 : Int32) (k65 : Int32 → sr_t → sr_Rs) : Nat → Int32 → Int32 → sr_t → sr_Rs
  | 0 => fun _ _ _ => none
  | n + 1 => fun x2 x3 t => (sr_bI (F11_tableOf a0 5 t) (fun v1 t1 => (if v1 ≤ x3 then k65 x2 t1 else (sr_bI (F11_tableOf a0 (6 + x3) t1) (fun v2 t2 => (f11_linksOf_35 a0 k65 n) (x2 ||| (1 <<< (v2 &&& 31))) (x3 + 1) t2)))))
theorem g11_linksOf_35 (l : Launch) (a0 : Int32)  (k65 : Int32 → sr_t → sr_Rs) (hk65 : ∀ (x2 : Int32), ∀ (t : sr_t), sr_g l sr_m11_linksOf 65 [some (sr_r 11 0), some (sr_i a0), some (sr_i x2), none] [] t (k65 x2 t) 0 0) : ∀ (n : Nat) (x2 : Int32) (x3 : Int32), ∀ (t : sr_t), sr_g l sr_m11_linksOf 35 [some (sr_r 11 0), some (sr_i a0), some (sr_i x2), some (sr_i x3)] [] t (f11_linksOf_35 a0 k65 n x2 x3 t) 0 0 := by
  intro n
  induction n with
  | zero => intros; exact sr_Gn
  | succ n ih =>
    intro x2 x3  t
    unfold f11_linksOf_35
    refine sr_iloadn (pc := 35) (n := 3) (by decide +kernel) rfl ?_
    refine sr_aloadn (pc := 36) (n := 0) (by decide +kernel) rfl ?_
    refine sr_iloadn (pc := 37) (n := 1) (by decide +kernel) rfl ?_
    refine sr_iconst (pc := 38) (n := 5) (v := 5) (by decide +kernel) rfl ?_
    refine sr_cV (pc := 39) (As := [sr_i a0, sr_i 5]) (mc1 := 0) (ms1 := 0) (mc2 := 0) (ms2 := 0) fm_11_123 fl_11_123 (by decide +kernel) (sr_in11 _ (by omega)) (rm_11_linksOf_11_tableOf) rfl rfl rfl (C11_tableOf l a0 5 t) ?_
    refine sr_kI (fun v1 t1 => ?_)
    refine sr_icmp_ge (pc := 42) (off := 23) (tg := 65) (by decide +kernel) (by decide) (fun _ => ?_) (fun _ => ?_)
    · exact sr_wk (sr_mono (mc := 0) (ms := 0) (by omega) (by omega) (hk65 x2 t1)) ⟨rfl, ⟨rfl, ⟨rfl, trivial⟩⟩⟩
    · refine sr_iloadn (pc := 45) (n := 2) (by decide +kernel) rfl ?_
      refine sr_iconst (pc := 46) (n := 1) (v := 1) (by decide +kernel) rfl ?_
      refine sr_aloadn (pc := 47) (n := 0) (by decide +kernel) rfl ?_
      refine sr_iloadn (pc := 48) (n := 1) (by decide +kernel) rfl ?_
      refine sr_bipush (pc := 49) (n := 6) (v := 6) (by decide +kernel) (by decide) ?_
      refine sr_iloadn (pc := 51) (n := 3) (by decide +kernel) rfl ?_
      refine sr_iadd (pc := 52) (by decide +kernel) ?_
      refine sr_cV (pc := 53) (As := [sr_i a0, sr_i (6 + x3)]) (mc1 := 0) (ms1 := 0) (mc2 := 0) (ms2 := 0) fm_11_123 fl_11_123 (by decide +kernel) (sr_in11 _ (by omega)) (rm_11_linksOf_11_tableOf) rfl rfl rfl (C11_tableOf l a0 (6 + x3) t1) ?_
      refine sr_kI (fun v2 t2 => ?_)
      refine sr_ishl (pc := 56) (by decide +kernel) ?_
      refine sr_ior (pc := 57) (by decide +kernel) ?_
      refine sr_istoren (pc := 58) (n := 2) (by decide +kernel) (by decide) rfl rfl ?_
      refine sr_iinc (pc := 59) (i := 3) (n := 1) (w := x3 + 1) (by decide +kernel) rfl rfl (by decide) rfl rfl ?_
      refine sr_goto (pc := 62) (off := (-27)) (tg := 35) (by decide +kernel) (by decide) ?_
      exact sr_wk (sr_mono (mc := 0) (ms := 0) (by omega) (by omega) (ih (x2 ||| (1 <<< (v2 &&& 31))) (x3 + 1) t2)) ⟨rfl, ⟨rfl, ⟨rfl, ⟨rfl, trivial⟩⟩⟩⟩
def f11_linksOf_65 (a0 : Int32)  : Int32 → sr_t → sr_Rs := fun x2 t => (some (.inl (some (sr_i (x2 &&& ((1 <<< (a0 &&& 31)) ^^^ ((-1)))))), t))
theorem g11_linksOf_65 (l : Launch) (a0 : Int32)    : ∀ (x2 : Int32), ∀ (t : sr_t), sr_g l sr_m11_linksOf 65 [some (sr_r 11 0), some (sr_i a0), some (sr_i x2), none] [] t (f11_linksOf_65 a0  x2 t) 0 0 := by
  intro x2  t
  unfold f11_linksOf_65
  refine sr_iloadn (pc := 65) (n := 2) (by decide +kernel) rfl ?_
  refine sr_iconst (pc := 66) (n := 1) (v := 1) (by decide +kernel) rfl ?_
  refine sr_iloadn (pc := 67) (n := 1) (by decide +kernel) rfl ?_
  refine sr_ishl (pc := 68) (by decide +kernel) ?_
  refine sr_iconst (pc := 69) (n := (-1)) (v := (-1)) (by decide +kernel) rfl ?_
  refine sr_ixor (pc := 70) (by decide +kernel) ?_
  refine sr_iand (pc := 71) (by decide +kernel) ?_
  exact sr_iret (pc := 72) (by decide +kernel) rfl
def f11_linksOf_33 (a0 : Int32)  : Int32 → sr_t → sr_Rs := fun x2 t => f11_linksOf_35 a0 (f11_linksOf_65 a0) sr_fu x2 0 t
theorem g11_linksOf_33 (l : Launch) (a0 : Int32)    : ∀ (x2 : Int32), ∀ (t : sr_t), sr_g l sr_m11_linksOf 33 [some (sr_r 11 0), some (sr_i a0), some (sr_i x2), none] [] t (f11_linksOf_33 a0  x2 t) 0 0 := by
  intro x2  t
  unfold f11_linksOf_33
  refine sr_iconst (pc := 33) (n := 0) (v := 0) (by decide +kernel) rfl ?_
  refine sr_istoren (pc := 34) (n := 3) (by decide +kernel) (by decide) rfl rfl ?_
  exact sr_wk (sr_mono (mc := 0) (ms := 0) (by omega) (by omega) (g11_linksOf_35 l a0 (f11_linksOf_65 a0) (g11_linksOf_65 l a0) sr_fu x2 0 t)) ⟨rfl, ⟨rfl, ⟨rfl, ⟨rfl, trivial⟩⟩⟩⟩
def F11_linksOf (a0 : Int32) (t : sr_t) : sr_Rs := f11_linksOf_4 a0 (f11_linksOf_33 a0) sr_fu 0 0 t
theorem C11_linksOf (l : Launch) (a0 : Int32)  (t : sr_t) : sr_ct' l sr_m11_linksOf [sr_r 11 0, sr_i a0] t (F11_linksOf a0 t) 0 0 := by
  refine sr_T_of (L0 := [some (sr_r 11 0), some (sr_i a0), none, none]) rfl (by decide +kernel) (fun _ => rfl) (fun _ => Nat.le_of_ble_eq_true rfl) ?_
  unfold F11_linksOf
  refine sr_iconst (pc := 0) (n := 0) (v := 0) (by decide +kernel) rfl ?_
  refine sr_istoren (pc := 1) (n := 2) (by decide +kernel) (by decide) rfl rfl ?_
  refine sr_iconst (pc := 2) (n := 0) (v := 0) (by decide +kernel) rfl ?_
  refine sr_istoren (pc := 3) (n := 3) (by decide +kernel) (by decide) rfl rfl ?_
  exact sr_wk (sr_mono (mc := 0) (ms := 0) (by omega) (by omega) (g11_linksOf_4 l a0 (f11_linksOf_33 a0) (g11_linksOf_33 l a0) sr_fu 0 0 t)) ⟨rfl, ⟨rfl, ⟨rfl, ⟨rfl, trivial⟩⟩⟩⟩
def f11_linkedBy_4 (a0 : Int32) (k32 : Int32 → sr_t → sr_Rs) : Nat → Int32 → Int32 → sr_t → sr_Rs
  | 0 => fun _ _ _ => none
  | n + 1 => fun x2 x3 t => (if (t.1 11 0 1) ≤ x3 then k32 x2 t else (sr_bI (F11_linksOf x3 t) (fun v1 t1 => (f11_linkedBy_4 a0 k32 n) (x2 ||| (((v1 >>> (a0 &&& 31)) &&& 1) <<< (x3 &&& 31))) (x3 + 1) t1)))
theorem g11_linkedBy_4 (l : Launch) (a0 : Int32)  (k32 : Int32 → sr_t → sr_Rs) (hk32 : ∀ (x2 : Int32), ∀ (t : sr_t), sr_g l sr_m11_linkedBy 32 [some (sr_r 11 0), some (sr_i a0), some (sr_i x2), none] [] t (k32 x2 t) 0 0) : ∀ (n : Nat) (x2 : Int32) (x3 : Int32), ∀ (t : sr_t), sr_g l sr_m11_linkedBy 4 [some (sr_r 11 0), some (sr_i a0), some (sr_i x2), some (sr_i x3)] [] t (f11_linkedBy_4 a0 k32 n x2 x3 t) 0 0 := by
  intro n
  induction n with
  | zero => intros; exact sr_Gn
  | succ n ih =>
    intro x2 x3  t
    unfold f11_linkedBy_4
    refine sr_iloadn (pc := 4) (n := 3) (by decide +kernel) rfl ?_
    refine sr_aloadn (pc := 5) (n := 0) (by decide +kernel) rfl ?_
    refine sr_gI (pc := 6) fg_11_100 (by decide +kernel) (sr_in11 _ (by omega)) (fun _ => rfl) ?_
    refine sr_icmp_ge (pc := 9) (off := 23) (tg := 32) (by decide +kernel) (by decide) (fun _ => ?_) (fun _ => ?_)
    · exact sr_wk (sr_mono (mc := 0) (ms := 0) (by omega) (by omega) (hk32 x2 t)) ⟨rfl, ⟨rfl, ⟨rfl, trivial⟩⟩⟩
    · refine sr_iloadn (pc := 12) (n := 2) (by decide +kernel) rfl ?_
      refine sr_aloadn (pc := 13) (n := 0) (by decide +kernel) rfl ?_
      refine sr_iloadn (pc := 14) (n := 3) (by decide +kernel) rfl ?_
      refine sr_cV (pc := 15) (As := [sr_i x3]) (mc1 := 0) (ms1 := 0) (mc2 := 0) (ms2 := 0) fm_11_283 fl_11_283 (by decide +kernel) (sr_in11 _ (by omega)) (rm_11_linkedBy_11_linksOf) rfl rfl rfl (C11_linksOf l x3 t) ?_
      refine sr_kI (fun v1 t1 => ?_)
      refine sr_iloadn (pc := 18) (n := 1) (by decide +kernel) rfl ?_
      refine sr_ishr (pc := 19) (by decide +kernel) ?_
      refine sr_iconst (pc := 20) (n := 1) (v := 1) (by decide +kernel) rfl ?_
      refine sr_iand (pc := 21) (by decide +kernel) ?_
      refine sr_iloadn (pc := 22) (n := 3) (by decide +kernel) rfl ?_
      refine sr_ishl (pc := 23) (by decide +kernel) ?_
      refine sr_ior (pc := 24) (by decide +kernel) ?_
      refine sr_istoren (pc := 25) (n := 2) (by decide +kernel) (by decide) rfl rfl ?_
      refine sr_iinc (pc := 26) (i := 3) (n := 1) (w := x3 + 1) (by decide +kernel) rfl rfl (by decide) rfl rfl ?_
      refine sr_goto (pc := 29) (off := (-25)) (tg := 4) (by decide +kernel) (by decide) ?_
      exact sr_wk (sr_mono (mc := 0) (ms := 0) (by omega) (by omega) (ih (x2 ||| (((v1 >>> (a0 &&& 31)) &&& 1) <<< (x3 &&& 31))) (x3 + 1) t1)) ⟨rfl, ⟨rfl, ⟨rfl, ⟨rfl, trivial⟩⟩⟩⟩
def f11_linkedBy_32 (a0 : Int32)  : Int32 → sr_t → sr_Rs := fun x2 t => (some (.inl (some (sr_i x2)), t))
theorem g11_linkedBy_32 (l : Launch) (a0 : Int32)    : ∀ (x2 : Int32), ∀ (t : sr_t), sr_g l sr_m11_linkedBy 32 [some (sr_r 11 0), some (sr_i a0), some (sr_i x2), none] [] t (f11_linkedBy_32 a0  x2 t) 0 0 := by
  intro x2  t
  unfold f11_linkedBy_32
  refine sr_iloadn (pc := 32) (n := 2) (by decide +kernel) rfl ?_
  exact sr_iret (pc := 33) (by decide +kernel) rfl
def F11_linkedBy (a0 : Int32) (t : sr_t) : sr_Rs := f11_linkedBy_4 a0 (f11_linkedBy_32 a0) sr_fu 0 0 t
theorem C11_linkedBy (l : Launch) (a0 : Int32)  (t : sr_t) : sr_ct' l sr_m11_linkedBy [sr_r 11 0, sr_i a0] t (F11_linkedBy a0 t) 0 0 := by
  refine sr_T_of (L0 := [some (sr_r 11 0), some (sr_i a0), none, none]) rfl (by decide +kernel) (fun _ => rfl) (fun _ => Nat.le_of_ble_eq_true rfl) ?_
  unfold F11_linkedBy
  refine sr_iconst (pc := 0) (n := 0) (v := 0) (by decide +kernel) rfl ?_
  refine sr_istoren (pc := 1) (n := 2) (by decide +kernel) (by decide) rfl rfl ?_
  refine sr_iconst (pc := 2) (n := 0) (v := 0) (by decide +kernel) rfl ?_
  refine sr_istoren (pc := 3) (n := 3) (by decide +kernel) (by decide) rfl rfl ?_
  exact sr_wk (sr_mono (mc := 0) (ms := 0) (by omega) (by omega) (g11_linkedBy_4 l a0 (f11_linkedBy_32 a0) (g11_linkedBy_32 l a0) sr_fu 0 0 t)) ⟨rfl, ⟨rfl, ⟨rfl, ⟨rfl, trivial⟩⟩⟩⟩
def f11_loadOf_67 (a0 : Int32) (k4 : Int32 → Int32 → sr_t → sr_Rs) (k73 : Int32 → sr_t → sr_Rs) : Int32 → Int32 → sr_t → sr_Rs := fun x2 x3 t => k4 x2 (x3 + 1) t
theorem g11_loadOf_67 (l : Launch) (a0 : Int32)  (k4 : Int32 → Int32 → sr_t → sr_Rs) (k73 : Int32 → sr_t → sr_Rs) (hk4 : ∀ (x2 : Int32) (x3 : Int32), ∀ (t : sr_t), sr_g l sr_m11_loadOf 4 [some (sr_r 11 0), some (sr_i a0), some (sr_i x2), some (sr_i x3)] [] t (k4 x2 x3 t) 0 0) (hk73 : ∀ (x2 : Int32), ∀ (t : sr_t), sr_g l sr_m11_loadOf 73 [some (sr_r 11 0), some (sr_i a0), some (sr_i x2), none] [] t (k73 x2 t) 0 0) : ∀ (x2 : Int32) (x3 : Int32), ∀ (t : sr_t), sr_g l sr_m11_loadOf 67 [some (sr_r 11 0), some (sr_i a0), some (sr_i x2), some (sr_i x3)] [] t (f11_loadOf_67 a0 k4 k73 x2 x3 t) 0 0 := by
  intro x2 x3  t
  unfold f11_loadOf_67
  refine sr_iinc (pc := 67) (i := 3) (n := 1) (w := x3 + 1) (by decide +kernel) rfl rfl (by decide) rfl rfl ?_
  refine sr_goto (pc := 70) (off := (-66)) (tg := 4) (by decide +kernel) (by decide) ?_
  exact sr_wk (sr_mono (mc := 0) (ms := 0) (by omega) (by omega) (hk4 x2 (x3 + 1) t)) ⟨rfl, ⟨rfl, ⟨rfl, ⟨rfl, trivial⟩⟩⟩⟩
def f11_loadOf_65 (a0 : Int32) (k4 : Int32 → Int32 → sr_t → sr_Rs) (k73 : Int32 → sr_t → sr_Rs) : Int32 → sr_t → sr_Rs := fun x3 t => f11_loadOf_67 a0 k4 k73 x3 x3 t
theorem g11_loadOf_65 (l : Launch) (a0 : Int32)  (k4 : Int32 → Int32 → sr_t → sr_Rs) (k73 : Int32 → sr_t → sr_Rs) (hk4 : ∀ (x2 : Int32) (x3 : Int32), ∀ (t : sr_t), sr_g l sr_m11_loadOf 4 [some (sr_r 11 0), some (sr_i a0), some (sr_i x2), some (sr_i x3)] [] t (k4 x2 x3 t) 0 0) (hk73 : ∀ (x2 : Int32), ∀ (t : sr_t), sr_g l sr_m11_loadOf 73 [some (sr_r 11 0), some (sr_i a0), some (sr_i x2), none] [] t (k73 x2 t) 0 0) : ∀ (x3 : Int32), ∀ (t : sr_t), sr_g l sr_m11_loadOf 65 [some (sr_r 11 0), some (sr_i a0), none, some (sr_i x3)] [] t (f11_loadOf_65 a0 k4 k73 x3 t) 0 0 := by
  intro x3  t
  unfold f11_loadOf_65
  refine sr_iloadn (pc := 65) (n := 3) (by decide +kernel) rfl ?_
  refine sr_istoren (pc := 66) (n := 2) (by decide +kernel) (by decide) rfl rfl ?_
  exact sr_wk (sr_mono (mc := 0) (ms := 0) (by omega) (by omega) (g11_loadOf_67 l a0 k4 k73 hk4 hk73 x3 x3 t)) ⟨rfl, ⟨rfl, ⟨rfl, ⟨rfl, trivial⟩⟩⟩⟩
def f11_loadOf_4 (a0 : Int32) (k73 : Int32 → sr_t → sr_Rs) : Nat → Int32 → Int32 → sr_t → sr_Rs
  | 0 => fun _ _ _ => none
  | n + 1 => fun x2 x3 t => (if (t.1 11 0 1) ≤ x3 then k73 x2 t else (if x3 = a0 then f11_loadOf_67 a0 (f11_loadOf_4 a0 k73 n) k73 x2 x3 t else (if x3 < 0 ∨ 24 ≤ x3.toNatClampNeg then none else (if (t.1 25 0 x3.toNatClampNeg) = 1 then (if x2 = ((-1)) then f11_loadOf_65 a0 (f11_loadOf_4 a0 k73 n) k73 x3 t else (if x3 < 0 ∨ 24 ≤ x3.toNatClampNeg then none else (if a0 < 0 ∨ 24 ≤ a0.toNatClampNeg then none else (sr_bI (F11_from (t.1 24 0 x3.toNatClampNeg) (t.1 24 0 a0.toNatClampNeg) t) (fun v1 t1 => (if x2 < 0 ∨ 24 ≤ x2.toNatClampNeg then none else (if a0 < 0 ∨ 24 ≤ a0.toNatClampNeg then none else (sr_bI (F11_from (t1.1 24 0 x2.toNatClampNeg) (t1.1 24 0 a0.toNatClampNeg) t1) (fun v2 t2 => (if v2 ≤ v1 then f11_loadOf_67 a0 (f11_loadOf_4 a0 k73 n) k73 x2 x3 t2 else f11_loadOf_65 a0 (f11_loadOf_4 a0 k73 n) k73 x3 t2)))))))))) else f11_loadOf_67 a0 (f11_loadOf_4 a0 k73 n) k73 x2 x3 t))))
theorem g11_loadOf_4 (l : Launch) (a0 : Int32)  (k73 : Int32 → sr_t → sr_Rs) (hk73 : ∀ (x2 : Int32), ∀ (t : sr_t), sr_g l sr_m11_loadOf 73 [some (sr_r 11 0), some (sr_i a0), some (sr_i x2), none] [] t (k73 x2 t) 0 0) : ∀ (n : Nat) (x2 : Int32) (x3 : Int32), ∀ (t : sr_t), sr_g l sr_m11_loadOf 4 [some (sr_r 11 0), some (sr_i a0), some (sr_i x2), some (sr_i x3)] [] t (f11_loadOf_4 a0 k73 n x2 x3 t) 0 0 := by
  intro n
  induction n with
  | zero => intros; exact sr_Gn
  | succ n ih =>
    intro x2 x3  t
    unfold f11_loadOf_4
    refine sr_iloadn (pc := 4) (n := 3) (by decide +kernel) rfl ?_
    refine sr_aloadn (pc := 5) (n := 0) (by decide +kernel) rfl ?_
    refine sr_gI (pc := 6) fg_11_100 (by decide +kernel) (sr_in11 _ (by omega)) (fun _ => rfl) ?_
    refine sr_icmp_ge (pc := 9) (off := 64) (tg := 73) (by decide +kernel) (by decide) (fun _ => ?_) (fun _ => ?_)
    · exact sr_wk (sr_mono (mc := 0) (ms := 0) (by omega) (by omega) (hk73 x2 t)) ⟨rfl, ⟨rfl, ⟨rfl, trivial⟩⟩⟩
    · refine sr_iloadn (pc := 12) (n := 3) (by decide +kernel) rfl ?_
      refine sr_iloadn (pc := 13) (n := 1) (by decide +kernel) rfl ?_
      refine sr_icmp_eq (pc := 14) (off := 53) (tg := 67) (by decide +kernel) (by decide) (fun _ => ?_) (fun _ => ?_)
      · exact sr_wk (sr_mono (mc := 0) (ms := 0) (by omega) (by omega) (g11_loadOf_67 l a0 (f11_loadOf_4 a0 k73 n) k73 ih hk73 x2 x3 t)) ⟨rfl, ⟨rfl, ⟨rfl, ⟨rfl, trivial⟩⟩⟩⟩
      · refine sr_aloadn (pc := 17) (n := 0) (by decide +kernel) rfl ?_
        refine sr_gC (pc := 18) (i2 := 0) fg_11_13 (by decide +kernel) (sr_in11 _ (by omega)) (fun _ => rfl) ?_
        refine sr_iloadn (pc := 21) (n := 3) (by decide +kernel) rfl ?_
        refine sr_aI (pc := 22) (n := 24) rfl (by decide +kernel) (sr_in25 _ (by omega)) (fun _ _ => rfl) ?_
        refine sr_iconst (pc := 23) (n := 1) (v := 1) (by decide +kernel) rfl ?_
        refine sr_icmp_ne (pc := 24) (off := 43) (tg := 67) (by decide +kernel) (by decide) (fun _ => ?_) (fun _ => ?_)
        · exact sr_wk (sr_mono (mc := 0) (ms := 0) (by omega) (by omega) (g11_loadOf_67 l a0 (f11_loadOf_4 a0 k73 n) k73 ih hk73 x2 x3 t)) ⟨rfl, ⟨rfl, ⟨rfl, ⟨rfl, trivial⟩⟩⟩⟩
        · refine sr_iloadn (pc := 27) (n := 2) (by decide +kernel) rfl ?_
          refine sr_iconst (pc := 28) (n := (-1)) (v := (-1)) (by decide +kernel) rfl ?_
          refine sr_icmp_eq (pc := 29) (off := 36) (tg := 65) (by decide +kernel) (by decide) (fun _ => ?_) (fun _ => ?_)
          · exact sr_wk (sr_mono (mc := 0) (ms := 0) (by omega) (by omega) (g11_loadOf_65 l a0 (f11_loadOf_4 a0 k73 n) k73 ih hk73 x3 t)) ⟨rfl, ⟨rfl, ⟨rfl, trivial⟩⟩⟩
          · refine sr_aloadn (pc := 32) (n := 0) (by decide +kernel) rfl ?_
            refine sr_gC (pc := 33) (i2 := 0) fg_11_7 (by decide +kernel) (sr_in11 _ (by omega)) (fun _ => rfl) ?_
            refine sr_iloadn (pc := 36) (n := 3) (by decide +kernel) rfl ?_
            refine sr_aI (pc := 37) (n := 24) rfl (by decide +kernel) (sr_in24 _ (by omega)) (fun _ _ => rfl) ?_
            refine sr_aloadn (pc := 38) (n := 0) (by decide +kernel) rfl ?_
            refine sr_gC (pc := 39) (i2 := 0) fg_11_7 (by decide +kernel) (sr_in11 _ (by omega)) (fun _ => rfl) ?_
            refine sr_iloadn (pc := 42) (n := 1) (by decide +kernel) rfl ?_
            refine sr_aI (pc := 43) (n := 24) rfl (by decide +kernel) (sr_in24 _ (by omega)) (fun _ _ => rfl) ?_
            refine sr_cS (pc := 44) (As := [sr_i (t.1 24 0 x3.toNatClampNeg), sr_i (t.1 24 0 a0.toNatClampNeg)]) (mc1 := 0) (ms1 := 0) (mc2 := 0) (ms2 := 0) fm_11_103 fl_11_103 (by decide +kernel) (rm_11_loadOf_11_from) rfl rfl rfl (C11_from l (t.1 24 0 x3.toNatClampNeg) (t.1 24 0 a0.toNatClampNeg) t) ?_
            refine sr_kI (fun v1 t1 => ?_)
            refine sr_aloadn (pc := 47) (n := 0) (by decide +kernel) rfl ?_
            refine sr_gC (pc := 48) (i2 := 0) fg_11_7 (by decide +kernel) (sr_in11 _ (by omega)) (fun _ => rfl) ?_
            refine sr_iloadn (pc := 51) (n := 2) (by decide +kernel) rfl ?_
            refine sr_aI (pc := 52) (n := 24) rfl (by decide +kernel) (sr_in24 _ (by omega)) (fun _ _ => rfl) ?_
            refine sr_aloadn (pc := 53) (n := 0) (by decide +kernel) rfl ?_
            refine sr_gC (pc := 54) (i2 := 0) fg_11_7 (by decide +kernel) (sr_in11 _ (by omega)) (fun _ => rfl) ?_
            refine sr_iloadn (pc := 57) (n := 1) (by decide +kernel) rfl ?_
            refine sr_aI (pc := 58) (n := 24) rfl (by decide +kernel) (sr_in24 _ (by omega)) (fun _ _ => rfl) ?_
            refine sr_cS (pc := 59) (As := [sr_i (t1.1 24 0 x2.toNatClampNeg), sr_i (t1.1 24 0 a0.toNatClampNeg)]) (mc1 := 0) (ms1 := 0) (mc2 := 0) (ms2 := 0) fm_11_103 fl_11_103 (by decide +kernel) (rm_11_loadOf_11_from) rfl rfl rfl (C11_from l (t1.1 24 0 x2.toNatClampNeg) (t1.1 24 0 a0.toNatClampNeg) t1) ?_
            refine sr_kI (fun v2 t2 => ?_)
            refine sr_icmp_ge (pc := 62) (off := 5) (tg := 67) (by decide +kernel) (by decide) (fun _ => ?_) (fun _ => ?_)
            · exact sr_wk (sr_mono (mc := 0) (ms := 0) (by omega) (by omega) (g11_loadOf_67 l a0 (f11_loadOf_4 a0 k73 n) k73 ih hk73 x2 x3 t2)) ⟨rfl, ⟨rfl, ⟨rfl, ⟨rfl, trivial⟩⟩⟩⟩
            · exact sr_wk (sr_mono (mc := 0) (ms := 0) (by omega) (by omega) (g11_loadOf_65 l a0 (f11_loadOf_4 a0 k73 n) k73 ih hk73 x3 t2)) ⟨rfl, ⟨rfl, ⟨rfl, trivial⟩⟩⟩
def f11_loadOf_99 (a0 : Int32)  : Int32 → sr_t → sr_Rs := fun xs0 t => (some (.inl (some (sr_i xs0)), t))
theorem g11_loadOf_99 (l : Launch) (a0 : Int32)    : ∀ (xs0 : Int32), ∀ (t : sr_t), sr_g l sr_m11_loadOf 99 [some (sr_r 11 0), some (sr_i a0), none, none] [sr_i xs0] t (f11_loadOf_99 a0  xs0 t) 0 0 := by
  intro xs0  t
  unfold f11_loadOf_99
  exact sr_iret (pc := 99) (by decide +kernel) rfl
def f11_loadOf_73 (a0 : Int32)  : Int32 → sr_t → sr_Rs := fun x2 t => (if x2 = ((-1)) then f11_loadOf_99 a0 4096 t else (if x2 < 0 ∨ 24 ≤ x2.toNatClampNeg then none else (if a0 < 0 ∨ 24 ≤ a0.toNatClampNeg then none else (sr_bI (F11_from (t.1 24 0 x2.toNatClampNeg) (t.1 24 0 a0.toNatClampNeg) t) (fun v1 t1 => f11_loadOf_99 a0 v1 t1)))))
theorem g11_loadOf_73 (l : Launch) (a0 : Int32)    : ∀ (x2 : Int32), ∀ (t : sr_t), sr_g l sr_m11_loadOf 73 [some (sr_r 11 0), some (sr_i a0), some (sr_i x2), none] [] t (f11_loadOf_73 a0  x2 t) 0 0 := by
  intro x2  t
  unfold f11_loadOf_73
  refine sr_iloadn (pc := 73) (n := 2) (by decide +kernel) rfl ?_
  refine sr_iconst (pc := 74) (n := (-1)) (v := (-1)) (by decide +kernel) rfl ?_
  refine sr_icmp_ne (pc := 75) (off := 9) (tg := 84) (by decide +kernel) (by decide) (fun _ => ?_) (fun _ => ?_)
  · refine sr_aloadn (pc := 84) (n := 0) (by decide +kernel) rfl ?_
    refine sr_gC (pc := 85) (i2 := 0) fg_11_7 (by decide +kernel) (sr_in11 _ (by omega)) (fun _ => rfl) ?_
    refine sr_iloadn (pc := 88) (n := 2) (by decide +kernel) rfl ?_
    refine sr_aI (pc := 89) (n := 24) rfl (by decide +kernel) (sr_in24 _ (by omega)) (fun _ _ => rfl) ?_
    refine sr_aloadn (pc := 90) (n := 0) (by decide +kernel) rfl ?_
    refine sr_gC (pc := 91) (i2 := 0) fg_11_7 (by decide +kernel) (sr_in11 _ (by omega)) (fun _ => rfl) ?_
    refine sr_iloadn (pc := 94) (n := 1) (by decide +kernel) rfl ?_
    refine sr_aI (pc := 95) (n := 24) rfl (by decide +kernel) (sr_in24 _ (by omega)) (fun _ _ => rfl) ?_
    refine sr_cS (pc := 96) (As := [sr_i (t.1 24 0 x2.toNatClampNeg), sr_i (t.1 24 0 a0.toNatClampNeg)]) (mc1 := 0) (ms1 := 0) (mc2 := 0) (ms2 := 0) fm_11_103 fl_11_103 (by decide +kernel) (rm_11_loadOf_11_from) rfl rfl rfl (C11_from l (t.1 24 0 x2.toNatClampNeg) (t.1 24 0 a0.toNatClampNeg) t) ?_
    refine sr_kI (fun v1 t1 => ?_)
    exact sr_wk (sr_mono (mc := 0) (ms := 0) (by omega) (by omega) (g11_loadOf_99 l a0 v1 t1)) ⟨rfl, ⟨rfl, trivial⟩⟩
  · refine sr_sipush (pc := 78) (n := 4096) (v := 4096) (by decide +kernel) (by decide) ?_
    refine sr_goto (pc := 81) (off := 18) (tg := 99) (by decide +kernel) (by decide) ?_
    exact sr_wk (sr_mono (mc := 0) (ms := 0) (by omega) (by omega) (g11_loadOf_99 l a0 4096 t)) ⟨rfl, ⟨rfl, trivial⟩⟩
def F11_loadOf (a0 : Int32) (t : sr_t) : sr_Rs := f11_loadOf_4 a0 (f11_loadOf_73 a0) sr_fu ((-1)) 0 t
theorem C11_loadOf (l : Launch) (a0 : Int32)  (t : sr_t) : sr_ct' l sr_m11_loadOf [sr_r 11 0, sr_i a0] t (F11_loadOf a0 t) 0 0 := by
  refine sr_T_of (L0 := [some (sr_r 11 0), some (sr_i a0), none, none]) rfl (by decide +kernel) (fun _ => rfl) (fun _ => Nat.le_of_ble_eq_true rfl) ?_
  unfold F11_loadOf
  refine sr_iconst (pc := 0) (n := (-1)) (v := (-1)) (by decide +kernel) rfl ?_
  refine sr_istoren (pc := 1) (n := 2) (by decide +kernel) (by decide) rfl rfl ?_
  refine sr_iconst (pc := 2) (n := 0) (v := 0) (by decide +kernel) rfl ?_
  refine sr_istoren (pc := 3) (n := 3) (by decide +kernel) (by decide) rfl rfl ?_
  exact sr_wk (sr_mono (mc := 0) (ms := 0) (by omega) (by omega) (g11_loadOf_4 l a0 (f11_loadOf_73 a0) (g11_loadOf_73 l a0) sr_fu ((-1)) 0 t)) ⟨rfl, ⟨rfl, ⟨rfl, ⟨rfl, trivial⟩⟩⟩⟩
def F11_harmOf (a0 : Int32) (t : sr_t) : sr_Rs := (if a0 < 0 ∨ 24 ≤ a0.toNatClampNeg then none else sr_lt (sr_u t 25 0 a0.toNatClampNeg 0) (fun t1 => (sr_bV (F11_samples 1 t1) (fun t2 => (if a0 < 0 ∨ 24 ≤ a0.toNatClampNeg then none else sr_lt (sr_u t2 25 0 a0.toNatClampNeg 1) (fun t3 => (some (.inl (some (sr_i (t3.1 11 0 44))), t3))))))))
theorem C11_harmOf (l : Launch) (a0 : Int32)  (t : sr_t) : sr_ct' l sr_m11_harmOf [sr_r 11 0, sr_i a0] t (F11_harmOf a0 t) 0 0 := by
  refine sr_T_of (L0 := [some (sr_r 11 0), some (sr_i a0)]) rfl (by decide +kernel) (fun _ => rfl) (fun _ => Nat.le_of_ble_eq_true rfl) ?_
  unfold F11_harmOf
  refine sr_aloadn (pc := 0) (n := 0) (by decide +kernel) rfl ?_
  refine sr_gC (pc := 1) (i2 := 0) fg_11_13 (by decide +kernel) (sr_in11 _ (by omega)) (fun _ => rfl) ?_
  refine sr_iloadn (pc := 4) (n := 1) (by decide +kernel) rfl ?_
  refine sr_iconst (pc := 5) (n := 0) (v := 0) (by decide +kernel) rfl ?_
  refine sr_sI (pc := 6) (n := 24) rfl (by decide +kernel) (sr_in25 _ (by omega)) (fun _ _ => rfl) (fun t1 => ?_)
  refine sr_aloadn (pc := 7) (n := 0) (by decide +kernel) rfl ?_
  refine sr_iconst (pc := 8) (n := 1) (v := 1) (by decide +kernel) rfl ?_
  refine sr_cV (pc := 9) (As := [sr_i 1]) (mc1 := 0) (ms1 := 0) (mc2 := 0) (ms2 := 0) fm_11_268 fl_11_268 (by decide +kernel) (sr_in11 _ (by omega)) (rm_11_harmOf_11_samples) rfl rfl rfl (C11_samples l 1 t1) ?_
  refine sr_kV (fun t2 => ?_)
  refine sr_aloadn (pc := 12) (n := 0) (by decide +kernel) rfl ?_
  refine sr_gC (pc := 13) (i2 := 0) fg_11_13 (by decide +kernel) (sr_in11 _ (by omega)) (fun _ => rfl) ?_
  refine sr_iloadn (pc := 16) (n := 1) (by decide +kernel) rfl ?_
  refine sr_iconst (pc := 17) (n := 1) (v := 1) (by decide +kernel) rfl ?_
  refine sr_sI (pc := 18) (n := 24) rfl (by decide +kernel) (sr_in25 _ (by omega)) (fun _ _ => rfl) (fun t3 => ?_)
  refine sr_aloadn (pc := 19) (n := 0) (by decide +kernel) rfl ?_
  refine sr_gI (pc := 20) fg_11_252 (by decide +kernel) (sr_in11 _ (by omega)) (fun _ => rfl) ?_
  exact sr_iret (pc := 23) (by decide +kernel) rfl
def f11_node_241 (a0 : Int32) (a1 : Int32)  : Int32 → sr_t → sr_Rs := fun xs0 t => (some (.inl (some (sr_i xs0)), t))
theorem g11_node_241 (l : Launch) (a0 : Int32) (a1 : Int32)    : ∀ (xs0 : Int32), ∀ (t : sr_t), sr_g l sr_m11_node 241 [some (sr_r 11 0), some (sr_i a0), some (sr_i a1), none] [sr_i xs0] t (f11_node_241 a0 a1  xs0 t) 0 0 := by
  intro xs0  t
  unfold f11_node_241
  exact sr_iret (pc := 241) (by decide +kernel) rfl
def f11_node_240 (a0 : Int32) (a1 : Int32)  : sr_t → sr_Rs := fun  t => f11_node_241 a0 a1 ((-1)) t
theorem g11_node_240 (l : Launch) (a0 : Int32) (a1 : Int32)    : ∀ (t : sr_t), sr_g l sr_m11_node 240 [some (sr_r 11 0), some (sr_i a0), some (sr_i a1), none] [] t (f11_node_240 a0 a1   t) 0 0 := by
  intro t
  unfold f11_node_240
  refine sr_iconst (pc := 240) (n := (-1)) (v := (-1)) (by decide +kernel) rfl ?_
  exact sr_wk (sr_mono (mc := 0) (ms := 0) (by omega) (by omega) (g11_node_241 l a0 a1 ((-1)) t)) ⟨rfl, ⟨rfl, ⟨rfl, trivial⟩⟩⟩
def f11_node_176 (a0 : Int32) (a1 : Int32)  : Int32 → sr_t → sr_Rs := fun xs0 t => (some (.inl (some (sr_i xs0)), t))
theorem g11_node_176 (l : Launch) (a0 : Int32) (a1 : Int32)    : ∀ (xs0 : Int32), ∀ (t : sr_t), sr_g l sr_m11_node 176 [some (sr_r 11 0), some (sr_i a0), some (sr_i a1), none] [sr_i xs0] t (f11_node_176 a0 a1  xs0 t) 0 0 := by
  intro xs0  t
  unfold f11_node_176
  exact sr_iret (pc := 176) (by decide +kernel) rfl
def f11_node_190 (a0 : Int32) (a1 : Int32)  : Int32 → sr_t → sr_Rs := fun xs0 t => (some (.inl (some (sr_i xs0)), t))
theorem g11_node_190 (l : Launch) (a0 : Int32) (a1 : Int32)    : ∀ (xs0 : Int32), ∀ (t : sr_t), sr_g l sr_m11_node 190 [some (sr_r 11 0), some (sr_i a0), some (sr_i a1), none] [sr_i xs0] t (f11_node_190 a0 a1  xs0 t) 0 0 := by
  intro xs0  t
  unfold f11_node_190
  exact sr_iret (pc := 190) (by decide +kernel) rfl
def f11_node_204 (a0 : Int32) (a1 : Int32)  : Int32 → sr_t → sr_Rs := fun xs0 t => (some (.inl (some (sr_i xs0)), t))
theorem g11_node_204 (l : Launch) (a0 : Int32) (a1 : Int32)    : ∀ (xs0 : Int32), ∀ (t : sr_t), sr_g l sr_m11_node 204 [some (sr_r 11 0), some (sr_i a0), some (sr_i a1), none] [sr_i xs0] t (f11_node_204 a0 a1  xs0 t) 0 0 := by
  intro xs0  t
  unfold f11_node_204
  exact sr_iret (pc := 204) (by decide +kernel) rfl
def f11_node_218 (a0 : Int32) (a1 : Int32)  : Int32 → sr_t → sr_Rs := fun xs0 t => (some (.inl (some (sr_i xs0)), t))
theorem g11_node_218 (l : Launch) (a0 : Int32) (a1 : Int32)    : ∀ (xs0 : Int32), ∀ (t : sr_t), sr_g l sr_m11_node 218 [some (sr_r 11 0), some (sr_i a0), some (sr_i a1), none] [sr_i xs0] t (f11_node_218 a0 a1  xs0 t) 0 0 := by
  intro xs0  t
  unfold f11_node_218
  exact sr_iret (pc := 218) (by decide +kernel) rfl
def f11_node_55 (a0 : Int32) (a1 : Int32)  : Int32 → sr_t → sr_Rs := fun xs0 t => (sr_sw 0 10 a1 ((if xs0 = 0 then f11_node_240 a0 a1 t else (sr_bI (F11_nextOf a0 t) (fun v1 t1 => (if v1 = ((-1)) then f11_node_240 a0 a1 t1 else (sr_bI (F11_arcOf a0 t1) (fun v2 t2 => f11_node_241 a0 a1 v2 t2))))))) (fun j => match j with | 0 => (if a0 < 0 ∨ 24 ≤ a0.toNatClampNeg then none else (some (.inl (some (sr_i (t.1 24 0 a0.toNatClampNeg))), t))) | 1 => (if a0 < 0 ∨ 24 ≤ a0.toNatClampNeg then none else (some (.inl (some (sr_i (t.1 25 0 a0.toNatClampNeg))), t))) | 2 => (sr_bI (F11_tableOf a0 0 t) (fun v3 t3 => (some (.inl (some (sr_i v3)), t3)))) | 3 => (sr_bI (F11_tableOf a0 1 t) (fun v4 t4 => (some (.inl (some (sr_i v4)), t4)))) | 4 => (sr_bI (F11_tableOf a0 5 t) (fun v5 t5 => (some (.inl (some (sr_i v5)), t5)))) | 5 => (sr_bI (F11_linksOf a0 t) (fun v6 t6 => (some (.inl (some (sr_i v6)), t6)))) | 6 => (sr_bI (F11_linkedBy a0 t) (fun v7 t7 => (some (.inl (some (sr_i v7)), t7)))) | 7 => (if xs0 = 0 then f11_node_176 a0 a1 ((-1)) t else (sr_bI (F11_staleOf a0 t) (fun v8 t8 => f11_node_176 a0 a1 v8 t8))) | 8 => (if xs0 = 0 then f11_node_190 a0 a1 ((-1)) t else (sr_bI (F11_nextOf a0 t) (fun v9 t9 => f11_node_190 a0 a1 v9 t9))) | 9 => (if xs0 = 0 then f11_node_204 a0 a1 ((-1)) t else (sr_bI (F11_loadOf a0 t) (fun v10 t10 => f11_node_204 a0 a1 v10 t10))) | 10 => (if xs0 = 0 then f11_node_218 a0 a1 ((-1)) t else (sr_bI (F11_harmOf a0 t) (fun v11 t11 => f11_node_218 a0 a1 v11 t11))) | _ => none))
theorem g11_node_55 (l : Launch) (a0 : Int32) (a1 : Int32)    : ∀ (xs0 : Int32), ∀ (t : sr_t), sr_g l sr_m11_node 55 [some (sr_r 11 0), some (sr_i a0), some (sr_i a1), none] [sr_i xs0] t (f11_node_55 a0 a1  xs0 t) 0 0 := by
  intro xs0  t
  unfold f11_node_55
  refine sr_istoren (pc := 55) (n := 3) (by decide +kernel) (by decide) rfl rfl ?_
  refine sr_iloadn (pc := 56) (n := 2) (by decide +kernel) rfl ?_
  refine sr_tsw2 (pc := 57) (u := a1) (dflt := 162) (lo := 0) (hi := 10) (offs := #[59, 66, 73, 80, 87, 94, 100, 106, 120, 134, 148]) (len := 59) (tg := 219) (by decide +kernel) (by decide) (by decide) (fun _ => ?_) (fun j off ho _ => ?_)
  · refine sr_iloadn (pc := 219) (n := 3) (by decide +kernel) rfl ?_
    refine sr_if_eq (pc := 220) (off := 20) (tg := 240) (by decide +kernel) (by decide) (fun _ => ?_) (fun _ => ?_)
    · exact sr_wk (sr_mono (mc := 0) (ms := 0) (by omega) (by omega) (g11_node_240 l a0 a1 t)) ⟨rfl, ⟨rfl, ⟨rfl, trivial⟩⟩⟩
    · refine sr_aloadn (pc := 223) (n := 0) (by decide +kernel) rfl ?_
      refine sr_iloadn (pc := 224) (n := 1) (by decide +kernel) rfl ?_
      refine sr_cV (pc := 225) (As := [sr_i a0]) (mc1 := 0) (ms1 := 0) (mc2 := 0) (ms2 := 0) fm_11_168 fl_11_168 (by decide +kernel) (sr_in11 _ (by omega)) (rm_11_node_11_nextOf) rfl rfl rfl (C11_nextOf l a0 t) ?_
      refine sr_kI (fun v1 t1 => ?_)
      refine sr_iconst (pc := 228) (n := (-1)) (v := (-1)) (by decide +kernel) rfl ?_
      refine sr_icmp_eq (pc := 229) (off := 11) (tg := 240) (by decide +kernel) (by decide) (fun _ => ?_) (fun _ => ?_)
      · exact sr_wk (sr_mono (mc := 0) (ms := 0) (by omega) (by omega) (g11_node_240 l a0 a1 t1)) ⟨rfl, ⟨rfl, ⟨rfl, trivial⟩⟩⟩
      · refine sr_aloadn (pc := 232) (n := 0) (by decide +kernel) rfl ?_
        refine sr_iloadn (pc := 233) (n := 1) (by decide +kernel) rfl ?_
        refine sr_cV (pc := 234) (As := [sr_i a0]) (mc1 := 0) (ms1 := 0) (mc2 := 0) (ms2 := 0) fm_11_171 fl_11_171 (by decide +kernel) (sr_in11 _ (by omega)) (rm_11_node_11_arcOf) rfl rfl rfl (C11_arcOf l a0 t1) ?_
        refine sr_kI (fun v2 t2 => ?_)
        refine sr_goto (pc := 237) (off := 4) (tg := 241) (by decide +kernel) (by decide) ?_
        exact sr_wk (sr_mono (mc := 0) (ms := 0) (by omega) (by omega) (g11_node_241 l a0 a1 v2 t2)) ⟨rfl, ⟨rfl, ⟨rfl, trivial⟩⟩⟩
  · rcases j with _ | _ | _ | _ | _ | _ | _ | _ | _ | _ | _ | j
    · cases ho
      refine ⟨116, by decide, ?_⟩
      refine sr_aloadn (pc := 116) (n := 0) (by decide +kernel) rfl ?_
      refine sr_gC (pc := 117) (i2 := 0) fg_11_7 (by decide +kernel) (sr_in11 _ (by omega)) (fun _ => rfl) ?_
      refine sr_iloadn (pc := 120) (n := 1) (by decide +kernel) rfl ?_
      refine sr_aI (pc := 121) (n := 24) rfl (by decide +kernel) (sr_in24 _ (by omega)) (fun _ _ => rfl) ?_
      exact sr_iret (pc := 122) (by decide +kernel) rfl
    · cases ho
      refine ⟨123, by decide, ?_⟩
      refine sr_aloadn (pc := 123) (n := 0) (by decide +kernel) rfl ?_
      refine sr_gC (pc := 124) (i2 := 0) fg_11_13 (by decide +kernel) (sr_in11 _ (by omega)) (fun _ => rfl) ?_
      refine sr_iloadn (pc := 127) (n := 1) (by decide +kernel) rfl ?_
      refine sr_aI (pc := 128) (n := 24) rfl (by decide +kernel) (sr_in25 _ (by omega)) (fun _ _ => rfl) ?_
      exact sr_iret (pc := 129) (by decide +kernel) rfl
    · cases ho
      refine ⟨130, by decide, ?_⟩
      refine sr_aloadn (pc := 130) (n := 0) (by decide +kernel) rfl ?_
      refine sr_iloadn (pc := 131) (n := 1) (by decide +kernel) rfl ?_
      refine sr_iconst (pc := 132) (n := 0) (v := 0) (by decide +kernel) rfl ?_
      refine sr_cV (pc := 133) (As := [sr_i a0, sr_i 0]) (mc1 := 0) (ms1 := 0) (mc2 := 0) (ms2 := 0) fm_11_123 fl_11_123 (by decide +kernel) (sr_in11 _ (by omega)) (rm_11_node_11_tableOf) rfl rfl rfl (C11_tableOf l a0 0 t) ?_
      refine sr_kI (fun v3 t3 => ?_)
      exact sr_iret (pc := 136) (by decide +kernel) rfl
    · cases ho
      refine ⟨137, by decide, ?_⟩
      refine sr_aloadn (pc := 137) (n := 0) (by decide +kernel) rfl ?_
      refine sr_iloadn (pc := 138) (n := 1) (by decide +kernel) rfl ?_
      refine sr_iconst (pc := 139) (n := 1) (v := 1) (by decide +kernel) rfl ?_
      refine sr_cV (pc := 140) (As := [sr_i a0, sr_i 1]) (mc1 := 0) (ms1 := 0) (mc2 := 0) (ms2 := 0) fm_11_123 fl_11_123 (by decide +kernel) (sr_in11 _ (by omega)) (rm_11_node_11_tableOf) rfl rfl rfl (C11_tableOf l a0 1 t) ?_
      refine sr_kI (fun v4 t4 => ?_)
      exact sr_iret (pc := 143) (by decide +kernel) rfl
    · cases ho
      refine ⟨144, by decide, ?_⟩
      refine sr_aloadn (pc := 144) (n := 0) (by decide +kernel) rfl ?_
      refine sr_iloadn (pc := 145) (n := 1) (by decide +kernel) rfl ?_
      refine sr_iconst (pc := 146) (n := 5) (v := 5) (by decide +kernel) rfl ?_
      refine sr_cV (pc := 147) (As := [sr_i a0, sr_i 5]) (mc1 := 0) (ms1 := 0) (mc2 := 0) (ms2 := 0) fm_11_123 fl_11_123 (by decide +kernel) (sr_in11 _ (by omega)) (rm_11_node_11_tableOf) rfl rfl rfl (C11_tableOf l a0 5 t) ?_
      refine sr_kI (fun v5 t5 => ?_)
      exact sr_iret (pc := 150) (by decide +kernel) rfl
    · cases ho
      refine ⟨151, by decide, ?_⟩
      refine sr_aloadn (pc := 151) (n := 0) (by decide +kernel) rfl ?_
      refine sr_iloadn (pc := 152) (n := 1) (by decide +kernel) rfl ?_
      refine sr_cV (pc := 153) (As := [sr_i a0]) (mc1 := 0) (ms1 := 0) (mc2 := 0) (ms2 := 0) fm_11_283 fl_11_283 (by decide +kernel) (sr_in11 _ (by omega)) (rm_11_node_11_linksOf) rfl rfl rfl (C11_linksOf l a0 t) ?_
      refine sr_kI (fun v6 t6 => ?_)
      exact sr_iret (pc := 156) (by decide +kernel) rfl
    · cases ho
      refine ⟨157, by decide, ?_⟩
      refine sr_aloadn (pc := 157) (n := 0) (by decide +kernel) rfl ?_
      refine sr_iloadn (pc := 158) (n := 1) (by decide +kernel) rfl ?_
      refine sr_cV (pc := 159) (As := [sr_i a0]) (mc1 := 0) (ms1 := 0) (mc2 := 0) (ms2 := 0) fm_11_286 fl_11_286 (by decide +kernel) (sr_in11 _ (by omega)) (rm_11_node_11_linkedBy) rfl rfl rfl (C11_linkedBy l a0 t) ?_
      refine sr_kI (fun v7 t7 => ?_)
      exact sr_iret (pc := 162) (by decide +kernel) rfl
    · cases ho
      refine ⟨163, by decide, ?_⟩
      refine sr_iloadn (pc := 163) (n := 3) (by decide +kernel) rfl ?_
      refine sr_if_eq (pc := 164) (off := 11) (tg := 175) (by decide +kernel) (by decide) (fun _ => ?_) (fun _ => ?_)
      · refine sr_iconst (pc := 175) (n := (-1)) (v := (-1)) (by decide +kernel) rfl ?_
        exact sr_wk (sr_mono (mc := 0) (ms := 0) (by omega) (by omega) (g11_node_176 l a0 a1 ((-1)) t)) ⟨rfl, ⟨rfl, ⟨rfl, trivial⟩⟩⟩
      · refine sr_aloadn (pc := 167) (n := 0) (by decide +kernel) rfl ?_
        refine sr_iloadn (pc := 168) (n := 1) (by decide +kernel) rfl ?_
        refine sr_cV (pc := 169) (As := [sr_i a0]) (mc1 := 0) (ms1 := 0) (mc2 := 0) (ms2 := 0) fm_11_130 fl_11_130 (by decide +kernel) (sr_in11 _ (by omega)) (rm_11_node_11_staleOf) rfl rfl rfl (C11_staleOf l a0 t) ?_
        refine sr_kI (fun v8 t8 => ?_)
        refine sr_goto (pc := 172) (off := 4) (tg := 176) (by decide +kernel) (by decide) ?_
        exact sr_wk (sr_mono (mc := 0) (ms := 0) (by omega) (by omega) (g11_node_176 l a0 a1 v8 t8)) ⟨rfl, ⟨rfl, ⟨rfl, trivial⟩⟩⟩
    · cases ho
      refine ⟨177, by decide, ?_⟩
      refine sr_iloadn (pc := 177) (n := 3) (by decide +kernel) rfl ?_
      refine sr_if_eq (pc := 178) (off := 11) (tg := 189) (by decide +kernel) (by decide) (fun _ => ?_) (fun _ => ?_)
      · refine sr_iconst (pc := 189) (n := (-1)) (v := (-1)) (by decide +kernel) rfl ?_
        exact sr_wk (sr_mono (mc := 0) (ms := 0) (by omega) (by omega) (g11_node_190 l a0 a1 ((-1)) t)) ⟨rfl, ⟨rfl, ⟨rfl, trivial⟩⟩⟩
      · refine sr_aloadn (pc := 181) (n := 0) (by decide +kernel) rfl ?_
        refine sr_iloadn (pc := 182) (n := 1) (by decide +kernel) rfl ?_
        refine sr_cV (pc := 183) (As := [sr_i a0]) (mc1 := 0) (ms1 := 0) (mc2 := 0) (ms2 := 0) fm_11_168 fl_11_168 (by decide +kernel) (sr_in11 _ (by omega)) (rm_11_node_11_nextOf) rfl rfl rfl (C11_nextOf l a0 t) ?_
        refine sr_kI (fun v9 t9 => ?_)
        refine sr_goto (pc := 186) (off := 4) (tg := 190) (by decide +kernel) (by decide) ?_
        exact sr_wk (sr_mono (mc := 0) (ms := 0) (by omega) (by omega) (g11_node_190 l a0 a1 v9 t9)) ⟨rfl, ⟨rfl, ⟨rfl, trivial⟩⟩⟩
    · cases ho
      refine ⟨191, by decide, ?_⟩
      refine sr_iloadn (pc := 191) (n := 3) (by decide +kernel) rfl ?_
      refine sr_if_eq (pc := 192) (off := 11) (tg := 203) (by decide +kernel) (by decide) (fun _ => ?_) (fun _ => ?_)
      · refine sr_iconst (pc := 203) (n := (-1)) (v := (-1)) (by decide +kernel) rfl ?_
        exact sr_wk (sr_mono (mc := 0) (ms := 0) (by omega) (by omega) (g11_node_204 l a0 a1 ((-1)) t)) ⟨rfl, ⟨rfl, ⟨rfl, trivial⟩⟩⟩
      · refine sr_aloadn (pc := 195) (n := 0) (by decide +kernel) rfl ?_
        refine sr_iloadn (pc := 196) (n := 1) (by decide +kernel) rfl ?_
        refine sr_cV (pc := 197) (As := [sr_i a0]) (mc1 := 0) (ms1 := 0) (mc2 := 0) (ms2 := 0) fm_11_289 fl_11_289 (by decide +kernel) (sr_in11 _ (by omega)) (rm_11_node_11_loadOf) rfl rfl rfl (C11_loadOf l a0 t) ?_
        refine sr_kI (fun v10 t10 => ?_)
        refine sr_goto (pc := 200) (off := 4) (tg := 204) (by decide +kernel) (by decide) ?_
        exact sr_wk (sr_mono (mc := 0) (ms := 0) (by omega) (by omega) (g11_node_204 l a0 a1 v10 t10)) ⟨rfl, ⟨rfl, ⟨rfl, trivial⟩⟩⟩
    · cases ho
      refine ⟨205, by decide, ?_⟩
      refine sr_iloadn (pc := 205) (n := 3) (by decide +kernel) rfl ?_
      refine sr_if_eq (pc := 206) (off := 11) (tg := 217) (by decide +kernel) (by decide) (fun _ => ?_) (fun _ => ?_)
      · refine sr_iconst (pc := 217) (n := (-1)) (v := (-1)) (by decide +kernel) rfl ?_
        exact sr_wk (sr_mono (mc := 0) (ms := 0) (by omega) (by omega) (g11_node_218 l a0 a1 ((-1)) t)) ⟨rfl, ⟨rfl, ⟨rfl, trivial⟩⟩⟩
      · refine sr_aloadn (pc := 209) (n := 0) (by decide +kernel) rfl ?_
        refine sr_iloadn (pc := 210) (n := 1) (by decide +kernel) rfl ?_
        refine sr_cV (pc := 211) (As := [sr_i a0]) (mc1 := 0) (ms1 := 0) (mc2 := 0) (ms2 := 0) fm_11_292 fl_11_292 (by decide +kernel) (sr_in11 _ (by omega)) (rm_11_node_11_harmOf) rfl rfl rfl (C11_harmOf l a0 t) ?_
        refine sr_kI (fun v11 t11 => ?_)
        refine sr_goto (pc := 214) (off := 4) (tg := 218) (by decide +kernel) (by decide) ?_
        exact sr_wk (sr_mono (mc := 0) (ms := 0) (by omega) (by omega) (g11_node_218 l a0 a1 v11 t11)) ⟨rfl, ⟨rfl, ⟨rfl, trivial⟩⟩⟩
    · simp at ho
def f11_node_28 (a0 : Int32) (a1 : Int32)  : Int32 → sr_t → sr_Rs := fun xs0 t => (sr_lt (sr_u t 11 0 0 xs0) (fun t1 => (if (t1.1 11 0 0) ≤ 0 then (if a0 < 0 ∨ 24 ≤ a0.toNatClampNeg then none else (if (t1.1 25 0 a0.toNatClampNeg) = 1 then f11_node_55 a0 a1 1 t1 else f11_node_55 a0 a1 0 t1)) else (some (.inl (some (sr_i 0)), t1)))))
theorem g11_node_28 (l : Launch) (a0 : Int32) (a1 : Int32)    : ∀ (xs0 : Int32), ∀ (t : sr_t), sr_g l sr_m11_node 28 [some (sr_r 11 0), some (sr_i a0), some (sr_i a1), none] [sr_i xs0, sr_r 11 0] t (f11_node_28 a0 a1  xs0 t) 0 0 := by
  intro xs0  t
  unfold f11_node_28
  refine sr_pI (pc := 28) fg_11_93 ft_11_0 (by decide +kernel) (sr_in11 _ (by omega)) (fun _ => rfl) (fun t1 => ?_)
  refine sr_aloadn (pc := 31) (n := 0) (by decide +kernel) rfl ?_
  refine sr_gI (pc := 32) fg_11_93 (by decide +kernel) (sr_in11 _ (by omega)) (fun _ => rfl) ?_
  refine sr_if_le (pc := 35) (off := 5) (tg := 40) (by decide +kernel) (by decide) (fun _ => ?_) (fun _ => ?_)
  · refine sr_aloadn (pc := 40) (n := 0) (by decide +kernel) rfl ?_
    refine sr_gC (pc := 41) (i2 := 0) fg_11_13 (by decide +kernel) (sr_in11 _ (by omega)) (fun _ => rfl) ?_
    refine sr_iloadn (pc := 44) (n := 1) (by decide +kernel) rfl ?_
    refine sr_aI (pc := 45) (n := 24) rfl (by decide +kernel) (sr_in25 _ (by omega)) (fun _ _ => rfl) ?_
    refine sr_iconst (pc := 46) (n := 1) (v := 1) (by decide +kernel) rfl ?_
    refine sr_icmp_ne (pc := 47) (off := 7) (tg := 54) (by decide +kernel) (by decide) (fun _ => ?_) (fun _ => ?_)
    · refine sr_iconst (pc := 54) (n := 0) (v := 0) (by decide +kernel) rfl ?_
      exact sr_wk (sr_mono (mc := 0) (ms := 0) (by omega) (by omega) (g11_node_55 l a0 a1 0 t1)) ⟨rfl, ⟨rfl, ⟨rfl, trivial⟩⟩⟩
    · refine sr_iconst (pc := 50) (n := 1) (v := 1) (by decide +kernel) rfl ?_
      refine sr_goto (pc := 51) (off := 4) (tg := 55) (by decide +kernel) (by decide) ?_
      exact sr_wk (sr_mono (mc := 0) (ms := 0) (by omega) (by omega) (g11_node_55 l a0 a1 1 t1)) ⟨rfl, ⟨rfl, ⟨rfl, trivial⟩⟩⟩
  · refine sr_iconst (pc := 38) (n := 0) (v := 0) (by decide +kernel) rfl ?_
    exact sr_iret (pc := 39) (by decide +kernel) rfl
def F11_node (a0 : Int32) (a1 : Int32) (t : sr_t) : sr_Rs := (sr_bI (F11_isNode a0 t) (fun v1 t1 => (if v1 = 0 then f11_node_28 a0 a1 1 t1 else (sr_bI (F11_isIn a1 0 11 t1) (fun v2 t2 => (if v2 = 0 then f11_node_28 a0 a1 2 t2 else f11_node_28 a0 a1 0 t2))))))
theorem C11_node (l : Launch) (a0 : Int32) (a1 : Int32)  (t : sr_t) : sr_ct' l sr_m11_node [sr_r 11 0, sr_i a0, sr_i a1] t (F11_node a0 a1 t) 0 0 := by
  refine sr_T_of (L0 := [some (sr_r 11 0), some (sr_i a0), some (sr_i a1), none]) rfl (by decide +kernel) (fun _ => rfl) (fun _ => Nat.le_of_ble_eq_true rfl) ?_
  unfold F11_node
  refine sr_aloadn (pc := 0) (n := 0) (by decide +kernel) rfl ?_
  refine sr_aloadn (pc := 1) (n := 0) (by decide +kernel) rfl ?_
  refine sr_iloadn (pc := 2) (n := 1) (by decide +kernel) rfl ?_
  refine sr_cV (pc := 3) (As := [sr_i a0]) (mc1 := 0) (ms1 := 0) (mc2 := 0) (ms2 := 0) fm_11_141 fl_11_141 (by decide +kernel) (sr_in11 _ (by omega)) (rm_11_node_11_isNode) rfl rfl rfl (C11_isNode l a0 t) ?_
  refine sr_kI (fun v1 t1 => ?_)
  refine sr_if_ne (pc := 6) (off := 7) (tg := 13) (by decide +kernel) (by decide) (fun _ => ?_) (fun _ => ?_)
  · refine sr_iloadn (pc := 13) (n := 2) (by decide +kernel) rfl ?_
    refine sr_iconst (pc := 14) (n := 0) (v := 0) (by decide +kernel) rfl ?_
    refine sr_bipush (pc := 15) (n := 11) (v := 11) (by decide +kernel) (by decide) ?_
    refine sr_cS (pc := 17) (As := [sr_i a1, sr_i 0, sr_i 11]) (mc1 := 0) (ms1 := 0) (mc2 := 0) (ms2 := 0) fm_11_96 fl_11_96 (by decide +kernel) (rm_11_node_11_isIn) rfl rfl rfl (C11_isIn l a1 0 11 t1) ?_
    refine sr_kI (fun v2 t2 => ?_)
    refine sr_if_ne (pc := 20) (off := 7) (tg := 27) (by decide +kernel) (by decide) (fun _ => ?_) (fun _ => ?_)
    · refine sr_iconst (pc := 27) (n := 0) (v := 0) (by decide +kernel) rfl ?_
      exact sr_wk (sr_mono (mc := 0) (ms := 0) (by omega) (by omega) (g11_node_28 l a0 a1 0 t2)) ⟨rfl, ⟨rfl, ⟨rfl, trivial⟩⟩⟩
    · refine sr_iconst (pc := 23) (n := 2) (v := 2) (by decide +kernel) rfl ?_
      refine sr_goto (pc := 24) (off := 4) (tg := 28) (by decide +kernel) (by decide) ?_
      exact sr_wk (sr_mono (mc := 0) (ms := 0) (by omega) (by omega) (g11_node_28 l a0 a1 2 t2)) ⟨rfl, ⟨rfl, ⟨rfl, trivial⟩⟩⟩
  · refine sr_iconst (pc := 9) (n := 1) (v := 1) (by decide +kernel) rfl ?_
    refine sr_goto (pc := 10) (off := 18) (tg := 28) (by decide +kernel) (by decide) ?_
    exact sr_wk (sr_mono (mc := 0) (ms := 0) (by omega) (by omega) (g11_node_28 l a0 a1 1 t1)) ⟨rfl, ⟨rfl, ⟨rfl, trivial⟩⟩⟩
def sr_m11_link : sr_M := (⟨"ShiftRingModel", "link", "(IIZ)I"⟩, prog_13_method_66_code, 4, (some .int), [], 2, 43)
theorem rm_11_link_11_isIn : sr_RM sr_m11_link sr_m11_isIn := ⟨Nat.le_of_ble_eq_true rfl, Nat.le_of_ble_eq_true rfl⟩
theorem rm_11_link_11_isNode : sr_RM sr_m11_link sr_m11_isNode := ⟨Nat.le_of_ble_eq_true rfl, Nat.le_of_ble_eq_true rfl⟩
theorem rm_11_link_11_tableOf : sr_RM sr_m11_link sr_m11_tableOf := ⟨Nat.le_of_ble_eq_true rfl, Nat.le_of_ble_eq_true rfl⟩
def f11_link_71 (a0 : Int32) (a1 : Int32) (a2 : Int32)  : Int32 → sr_t → sr_Rs := fun xs0 t => (some (.inl (some (sr_i xs0)), t))
theorem g11_link_71 (l : Launch) (a0 : Int32) (a1 : Int32) (a2 : Int32)    : ∀ (xs0 : Int32), ∀ (t : sr_t), sr_g l sr_m11_link 71 [some (sr_r 11 0), some (sr_i a0), some (sr_i a1), some (sr_i a2)] [sr_i xs0] t (f11_link_71 a0 a1 a2  xs0 t) 0 0 := by
  intro xs0  t
  unfold f11_link_71
  exact sr_iret (pc := 71) (by decide +kernel) rfl
def f11_link_62 (a0 : Int32) (a1 : Int32) (a2 : Int32)  : Int32 → Int32 → sr_t → sr_Rs := fun xs0 xs1 t => (sr_bI (F11_tableOf xs1 (xs0 + a1) t) (fun v1 t1 => f11_link_71 a0 a1 a2 v1 t1))
theorem g11_link_62 (l : Launch) (a0 : Int32) (a1 : Int32) (a2 : Int32)    : ∀ (xs0 : Int32) (xs1 : Int32), ∀ (t : sr_t), sr_g l sr_m11_link 62 [some (sr_r 11 0), some (sr_i a0), some (sr_i a1), some (sr_i a2)] [sr_i xs0, sr_i xs1, sr_r 11 0] t (f11_link_62 a0 a1 a2  xs0 xs1 t) 0 0 := by
  intro xs0 xs1  t
  unfold f11_link_62
  refine sr_iloadn (pc := 62) (n := 2) (by decide +kernel) rfl ?_
  refine sr_iadd (pc := 63) (by decide +kernel) ?_
  refine sr_cV (pc := 64) (As := [sr_i xs1, sr_i (xs0 + a1)]) (mc1 := 0) (ms1 := 0) (mc2 := 0) (ms2 := 0) fm_11_123 fl_11_123 (by decide +kernel) (sr_in11 _ (by omega)) (rm_11_link_11_tableOf) rfl rfl rfl (C11_tableOf l xs1 (xs0 + a1) t) ?_
  refine sr_kI (fun v1 t1 => ?_)
  refine sr_goto (pc := 67) (off := 4) (tg := 71) (by decide +kernel) (by decide) ?_
  exact sr_wk (sr_mono (mc := 0) (ms := 0) (by omega) (by omega) (g11_link_71 l a0 a1 a2 v1 t1)) ⟨rfl, ⟨rfl, ⟨rfl, ⟨rfl, trivial⟩⟩⟩⟩
def f11_link_39 (a0 : Int32) (a1 : Int32) (a2 : Int32)  : Int32 → Int32 → Int32 → Int32 → sr_t → sr_Rs := fun xs0 xs1 xs3 xs4 t => (sr_bI (F11_tableOf xs1 xs0 t) (fun v1 t1 => (sr_bI (F11_isIn xs4 xs3 (v1 - 1) t1) (fun v2 t2 => (if v2 = 0 then f11_link_71 a0 a1 a2 ((-1)) t2 else (if a2 = 0 then f11_link_62 a0 a1 a2 2 a0 t2 else f11_link_62 a0 a1 a2 6 a0 t2))))))
theorem g11_link_39 (l : Launch) (a0 : Int32) (a1 : Int32) (a2 : Int32)    : ∀ (xs0 : Int32) (xs1 : Int32) (xs3 : Int32) (xs4 : Int32), ∀ (t : sr_t), sr_g l sr_m11_link 39 [some (sr_r 11 0), some (sr_i a0), some (sr_i a1), some (sr_i a2)] [sr_i xs0, sr_i xs1, sr_r 11 0, sr_i xs3, sr_i xs4] t (f11_link_39 a0 a1 a2  xs0 xs1 xs3 xs4 t) 0 0 := by
  intro xs0 xs1 xs3 xs4  t
  unfold f11_link_39
  refine sr_cV (pc := 39) (As := [sr_i xs1, sr_i xs0]) (mc1 := 0) (ms1 := 0) (mc2 := 0) (ms2 := 0) fm_11_123 fl_11_123 (by decide +kernel) (sr_in11 _ (by omega)) (rm_11_link_11_tableOf) rfl rfl rfl (C11_tableOf l xs1 xs0 t) ?_
  refine sr_kI (fun v1 t1 => ?_)
  refine sr_iconst (pc := 42) (n := 1) (v := 1) (by decide +kernel) rfl ?_
  refine sr_isub (pc := 43) (by decide +kernel) ?_
  refine sr_cS (pc := 44) (As := [sr_i xs4, sr_i xs3, sr_i (v1 - 1)]) (mc1 := 0) (ms1 := 0) (mc2 := 0) (ms2 := 0) fm_11_96 fl_11_96 (by decide +kernel) (rm_11_link_11_isIn) rfl rfl rfl (C11_isIn l xs4 xs3 (v1 - 1) t1) ?_
  refine sr_kI (fun v2 t2 => ?_)
  refine sr_if_eq (pc := 47) (off := 23) (tg := 70) (by decide +kernel) (by decide) (fun _ => ?_) (fun _ => ?_)
  · refine sr_iconst (pc := 70) (n := (-1)) (v := (-1)) (by decide +kernel) rfl ?_
    exact sr_wk (sr_mono (mc := 0) (ms := 0) (by omega) (by omega) (g11_link_71 l a0 a1 a2 ((-1)) t2)) ⟨rfl, ⟨rfl, ⟨rfl, ⟨rfl, trivial⟩⟩⟩⟩
  · refine sr_aloadn (pc := 50) (n := 0) (by decide +kernel) rfl ?_
    refine sr_iloadn (pc := 51) (n := 1) (by decide +kernel) rfl ?_
    refine sr_iloadn (pc := 52) (n := 3) (by decide +kernel) rfl ?_
    refine sr_if_eq (pc := 53) (off := 8) (tg := 61) (by decide +kernel) (by decide) (fun _ => ?_) (fun _ => ?_)
    · refine sr_iconst (pc := 61) (n := 2) (v := 2) (by decide +kernel) rfl ?_
      exact sr_wk (sr_mono (mc := 0) (ms := 0) (by omega) (by omega) (g11_link_62 l a0 a1 a2 2 a0 t2)) ⟨rfl, ⟨rfl, ⟨rfl, ⟨rfl, trivial⟩⟩⟩⟩
    · refine sr_bipush (pc := 56) (n := 6) (v := 6) (by decide +kernel) (by decide) ?_
      refine sr_goto (pc := 58) (off := 4) (tg := 62) (by decide +kernel) (by decide) ?_
      exact sr_wk (sr_mono (mc := 0) (ms := 0) (by omega) (by omega) (g11_link_62 l a0 a1 a2 6 a0 t2)) ⟨rfl, ⟨rfl, ⟨rfl, ⟨rfl, trivial⟩⟩⟩⟩
def f11_link_14 (a0 : Int32) (a1 : Int32) (a2 : Int32)  : Int32 → sr_t → sr_Rs := fun xs0 t => (sr_lt (sr_u t 11 0 0 xs0) (fun t1 => (if (t1.1 11 0 0) ≤ 0 then (if a2 = 0 then f11_link_39 a0 a1 a2 1 a0 0 a1 t1 else f11_link_39 a0 a1 a2 5 a0 0 a1 t1) else (some (.inl (some (sr_i 0)), t1)))))
theorem g11_link_14 (l : Launch) (a0 : Int32) (a1 : Int32) (a2 : Int32)    : ∀ (xs0 : Int32), ∀ (t : sr_t), sr_g l sr_m11_link 14 [some (sr_r 11 0), some (sr_i a0), some (sr_i a1), some (sr_i a2)] [sr_i xs0, sr_r 11 0] t (f11_link_14 a0 a1 a2  xs0 t) 0 0 := by
  intro xs0  t
  unfold f11_link_14
  refine sr_pI (pc := 14) fg_11_93 ft_11_0 (by decide +kernel) (sr_in11 _ (by omega)) (fun _ => rfl) (fun t1 => ?_)
  refine sr_aloadn (pc := 17) (n := 0) (by decide +kernel) rfl ?_
  refine sr_gI (pc := 18) fg_11_93 (by decide +kernel) (sr_in11 _ (by omega)) (fun _ => rfl) ?_
  refine sr_if_le (pc := 21) (off := 5) (tg := 26) (by decide +kernel) (by decide) (fun _ => ?_) (fun _ => ?_)
  · refine sr_iloadn (pc := 26) (n := 2) (by decide +kernel) rfl ?_
    refine sr_iconst (pc := 27) (n := 0) (v := 0) (by decide +kernel) rfl ?_
    refine sr_aloadn (pc := 28) (n := 0) (by decide +kernel) rfl ?_
    refine sr_iloadn (pc := 29) (n := 1) (by decide +kernel) rfl ?_
    refine sr_iloadn (pc := 30) (n := 3) (by decide +kernel) rfl ?_
    refine sr_if_eq (pc := 31) (off := 7) (tg := 38) (by decide +kernel) (by decide) (fun _ => ?_) (fun _ => ?_)
    · refine sr_iconst (pc := 38) (n := 1) (v := 1) (by decide +kernel) rfl ?_
      exact sr_wk (sr_mono (mc := 0) (ms := 0) (by omega) (by omega) (g11_link_39 l a0 a1 a2 1 a0 0 a1 t1)) ⟨rfl, ⟨rfl, ⟨rfl, ⟨rfl, trivial⟩⟩⟩⟩
    · refine sr_iconst (pc := 34) (n := 5) (v := 5) (by decide +kernel) rfl ?_
      refine sr_goto (pc := 35) (off := 4) (tg := 39) (by decide +kernel) (by decide) ?_
      exact sr_wk (sr_mono (mc := 0) (ms := 0) (by omega) (by omega) (g11_link_39 l a0 a1 a2 5 a0 0 a1 t1)) ⟨rfl, ⟨rfl, ⟨rfl, ⟨rfl, trivial⟩⟩⟩⟩
  · refine sr_iconst (pc := 24) (n := 0) (v := 0) (by decide +kernel) rfl ?_
    exact sr_iret (pc := 25) (by decide +kernel) rfl
def F11_link (a0 : Int32) (a1 : Int32) (a2 : Int32) (t : sr_t) : sr_Rs := (sr_bI (F11_isNode a0 t) (fun v1 t1 => (if v1 = 0 then f11_link_14 a0 a1 a2 1 t1 else f11_link_14 a0 a1 a2 0 t1)))
theorem C11_link (l : Launch) (a0 : Int32) (a1 : Int32) (a2 : Int32)  (t : sr_t) : sr_ct' l sr_m11_link [sr_r 11 0, sr_i a0, sr_i a1, sr_i a2] t (F11_link a0 a1 a2 t) 0 0 := by
  refine sr_T_of (L0 := [some (sr_r 11 0), some (sr_i a0), some (sr_i a1), some (sr_i a2)]) rfl (by decide +kernel) (fun _ => rfl) (fun _ => Nat.le_of_ble_eq_true rfl) ?_
  unfold F11_link
  refine sr_aloadn (pc := 0) (n := 0) (by decide +kernel) rfl ?_
  refine sr_aloadn (pc := 1) (n := 0) (by decide +kernel) rfl ?_
  refine sr_iloadn (pc := 2) (n := 1) (by decide +kernel) rfl ?_
  refine sr_cV (pc := 3) (As := [sr_i a0]) (mc1 := 0) (ms1 := 0) (mc2 := 0) (ms2 := 0) fm_11_141 fl_11_141 (by decide +kernel) (sr_in11 _ (by omega)) (rm_11_link_11_isNode) rfl rfl rfl (C11_isNode l a0 t) ?_
  refine sr_kI (fun v1 t1 => ?_)
  refine sr_if_eq (pc := 6) (off := 7) (tg := 13) (by decide +kernel) (by decide) (fun _ => ?_) (fun _ => ?_)
  · refine sr_iconst (pc := 13) (n := 1) (v := 1) (by decide +kernel) rfl ?_
    exact sr_wk (sr_mono (mc := 0) (ms := 0) (by omega) (by omega) (g11_link_14 l a0 a1 a2 1 t1)) ⟨rfl, ⟨rfl, ⟨rfl, ⟨rfl, trivial⟩⟩⟩⟩
  · refine sr_iconst (pc := 9) (n := 0) (v := 0) (by decide +kernel) rfl ?_
    refine sr_goto (pc := 10) (off := 4) (tg := 14) (by decide +kernel) (by decide) ?_
    exact sr_wk (sr_mono (mc := 0) (ms := 0) (by omega) (by omega) (g11_link_14 l a0 a1 a2 0 t1)) ⟨rfl, ⟨rfl, ⟨rfl, ⟨rfl, trivial⟩⟩⟩⟩
def sr_m11_wrongStart : sr_M := (⟨"ShiftRingModel", "wrongStart", "(II)I"⟩, prog_13_method_67_code, 3, (some .int), [], 2, 45)
def sr_m11_start : sr_M := (⟨"ShiftRingModel", "start", "(II)I"⟩, prog_13_method_68_code, 3, (some .int), [], 4, 92)
theorem fl_11_295 : Cond.methodLink "ShiftRingModel" 295 (sr_My sr_m11_wrongStart) ∈ sr_TB := (sr_tb (n := 1800) (by decide +kernel) rfl)
theorem fm_11_295 : sr_FV "ShiftRingModel" 295 sr_m11_wrongStart 11 2 := ⟨⟨rfl, sr_tb (n := 1803) (by decide +kernel) rfl, sr_tb (n := 12) (by decide +kernel) rfl, ⟨by decide, by decide, by decide +kernel⟩, Or.inl fl_11_295⟩, ⟨TX11, 53, rfl, rfl⟩, sr_tb (n := 1802) (by decide +kernel) rfl, sr_ts (n := 76) (by decide +kernel) rfl⟩
theorem rm_11_start_11_starts : sr_RM sr_m11_start sr_m11_starts := ⟨Nat.le_of_ble_eq_true rfl, Nat.le_of_ble_eq_true rfl⟩
theorem rm_11_start_11_wrongStart : sr_RM sr_m11_start sr_m11_wrongStart := ⟨Nat.le_of_ble_eq_true rfl, Nat.le_of_ble_eq_true rfl⟩
theorem rm_11_wrongStart_11_isNode : sr_RM sr_m11_wrongStart sr_m11_isNode := ⟨Nat.le_of_ble_eq_true rfl, Nat.le_of_ble_eq_true rfl⟩
theorem rm_11_wrongStart_11_isPlace : sr_RM sr_m11_wrongStart sr_m11_isPlace := ⟨Nat.le_of_ble_eq_true rfl, Nat.le_of_ble_eq_true rfl⟩
theorem rm_11_wrongStart_11_nextOf : sr_RM sr_m11_wrongStart sr_m11_nextOf := ⟨Nat.le_of_ble_eq_true rfl, Nat.le_of_ble_eq_true rfl⟩
def f11_wrongStart_46 (a0 : Int32) (a1 : Int32)  : Int32 → sr_t → sr_Rs := fun xs0 t => (some (.inl (some (sr_i xs0)), t))
theorem g11_wrongStart_46 (l : Launch) (a0 : Int32) (a1 : Int32)    : ∀ (xs0 : Int32), ∀ (t : sr_t), sr_g l sr_m11_wrongStart 46 [some (sr_r 11 0), some (sr_i a0), some (sr_i a1)] [sr_i xs0] t (f11_wrongStart_46 a0 a1  xs0 t) 0 0 := by
  intro xs0  t
  unfold f11_wrongStart_46
  exact sr_iret (pc := 46) (by decide +kernel) rfl
def f11_wrongStart_41 (a0 : Int32) (a1 : Int32)  : sr_t → sr_Rs := fun  t => f11_wrongStart_46 a0 a1 3 t
theorem g11_wrongStart_41 (l : Launch) (a0 : Int32) (a1 : Int32)    : ∀ (t : sr_t), sr_g l sr_m11_wrongStart 41 [some (sr_r 11 0), some (sr_i a0), some (sr_i a1)] [] t (f11_wrongStart_41 a0 a1   t) 0 0 := by
  intro t
  unfold f11_wrongStart_41
  refine sr_iconst (pc := 41) (n := 3) (v := 3) (by decide +kernel) rfl ?_
  refine sr_goto (pc := 42) (off := 4) (tg := 46) (by decide +kernel) (by decide) ?_
  exact sr_wk (sr_mono (mc := 0) (ms := 0) (by omega) (by omega) (g11_wrongStart_46 l a0 a1 3 t)) ⟨rfl, ⟨rfl, ⟨rfl, trivial⟩⟩⟩
def F11_wrongStart (a0 : Int32) (a1 : Int32) (t : sr_t) : sr_Rs := (sr_bI (F11_isNode a0 t) (fun v1 t1 => (if v1 = 0 then f11_wrongStart_46 a0 a1 1 t1 else (sr_bI (F11_isPlace a1 t1) (fun v2 t2 => (if v2 = 0 then f11_wrongStart_46 a0 a1 2 t2 else (if a0 < 0 ∨ 24 ≤ a0.toNatClampNeg then none else (if (t2.1 25 0 a0.toNatClampNeg) = 0 then f11_wrongStart_41 a0 a1 t2 else (sr_bI (F11_nextOf a0 t2) (fun v3 t3 => (if v3 = ((-1)) then f11_wrongStart_41 a0 a1 t3 else f11_wrongStart_46 a0 a1 0 t3)))))))))))
theorem C11_wrongStart (l : Launch) (a0 : Int32) (a1 : Int32)  (t : sr_t) : sr_ct' l sr_m11_wrongStart [sr_r 11 0, sr_i a0, sr_i a1] t (F11_wrongStart a0 a1 t) 0 0 := by
  refine sr_T_of (L0 := [some (sr_r 11 0), some (sr_i a0), some (sr_i a1)]) rfl (by decide +kernel) (fun _ => rfl) (fun _ => Nat.le_of_ble_eq_true rfl) ?_
  unfold F11_wrongStart
  refine sr_aloadn (pc := 0) (n := 0) (by decide +kernel) rfl ?_
  refine sr_iloadn (pc := 1) (n := 1) (by decide +kernel) rfl ?_
  refine sr_cV (pc := 2) (As := [sr_i a0]) (mc1 := 0) (ms1 := 0) (mc2 := 0) (ms2 := 0) fm_11_141 fl_11_141 (by decide +kernel) (sr_in11 _ (by omega)) (rm_11_wrongStart_11_isNode) rfl rfl rfl (C11_isNode l a0 t) ?_
  refine sr_kI (fun v1 t1 => ?_)
  refine sr_if_ne (pc := 5) (off := 7) (tg := 12) (by decide +kernel) (by decide) (fun _ => ?_) (fun _ => ?_)
  · refine sr_iloadn (pc := 12) (n := 2) (by decide +kernel) rfl ?_
    refine sr_cS (pc := 13) (As := [sr_i a1]) (mc1 := 0) (ms1 := 0) (mc2 := 0) (ms2 := 0) fm_11_133 fl_11_133 (by decide +kernel) (rm_11_wrongStart_11_isPlace) rfl rfl rfl (C11_isPlace l a1 t1) ?_
    refine sr_kI (fun v2 t2 => ?_)
    refine sr_if_ne (pc := 16) (off := 7) (tg := 23) (by decide +kernel) (by decide) (fun _ => ?_) (fun _ => ?_)
    · refine sr_aloadn (pc := 23) (n := 0) (by decide +kernel) rfl ?_
      refine sr_gC (pc := 24) (i2 := 0) fg_11_13 (by decide +kernel) (sr_in11 _ (by omega)) (fun _ => rfl) ?_
      refine sr_iloadn (pc := 27) (n := 1) (by decide +kernel) rfl ?_
      refine sr_aI (pc := 28) (n := 24) rfl (by decide +kernel) (sr_in25 _ (by omega)) (fun _ _ => rfl) ?_
      refine sr_if_eq (pc := 29) (off := 12) (tg := 41) (by decide +kernel) (by decide) (fun _ => ?_) (fun _ => ?_)
      · exact sr_wk (sr_mono (mc := 0) (ms := 0) (by omega) (by omega) (g11_wrongStart_41 l a0 a1 t2)) ⟨rfl, ⟨rfl, ⟨rfl, trivial⟩⟩⟩
      · refine sr_aloadn (pc := 32) (n := 0) (by decide +kernel) rfl ?_
        refine sr_iloadn (pc := 33) (n := 1) (by decide +kernel) rfl ?_
        refine sr_cV (pc := 34) (As := [sr_i a0]) (mc1 := 0) (ms1 := 0) (mc2 := 0) (ms2 := 0) fm_11_168 fl_11_168 (by decide +kernel) (sr_in11 _ (by omega)) (rm_11_wrongStart_11_nextOf) rfl rfl rfl (C11_nextOf l a0 t2) ?_
        refine sr_kI (fun v3 t3 => ?_)
        refine sr_iconst (pc := 37) (n := (-1)) (v := (-1)) (by decide +kernel) rfl ?_
        refine sr_icmp_ne (pc := 38) (off := 7) (tg := 45) (by decide +kernel) (by decide) (fun _ => ?_) (fun _ => ?_)
        · refine sr_iconst (pc := 45) (n := 0) (v := 0) (by decide +kernel) rfl ?_
          exact sr_wk (sr_mono (mc := 0) (ms := 0) (by omega) (by omega) (g11_wrongStart_46 l a0 a1 0 t3)) ⟨rfl, ⟨rfl, ⟨rfl, trivial⟩⟩⟩
        · exact sr_wk (sr_mono (mc := 0) (ms := 0) (by omega) (by omega) (g11_wrongStart_41 l a0 a1 t3)) ⟨rfl, ⟨rfl, ⟨rfl, trivial⟩⟩⟩
    · refine sr_iconst (pc := 19) (n := 2) (v := 2) (by decide +kernel) rfl ?_
      refine sr_goto (pc := 20) (off := 26) (tg := 46) (by decide +kernel) (by decide) ?_
      exact sr_wk (sr_mono (mc := 0) (ms := 0) (by omega) (by omega) (g11_wrongStart_46 l a0 a1 2 t2)) ⟨rfl, ⟨rfl, ⟨rfl, trivial⟩⟩⟩
  · refine sr_iconst (pc := 8) (n := 1) (v := 1) (by decide +kernel) rfl ?_
    refine sr_goto (pc := 9) (off := 37) (tg := 46) (by decide +kernel) (by decide) ?_
    exact sr_wk (sr_mono (mc := 0) (ms := 0) (by omega) (by omega) (g11_wrongStart_46 l a0 a1 1 t1)) ⟨rfl, ⟨rfl, ⟨rfl, trivial⟩⟩⟩
def F11_start (a0 : Int32) (a1 : Int32) (t : sr_t) : sr_Rs := (sr_bI (F11_wrongStart a0 a1 t) (fun v1 t1 => (sr_lt (sr_u t1 11 0 0 v1) (fun t2 => (if (t2.1 11 0 0) ≤ 0 then (sr_lt (sr_u t2 11 0 10 a0) (fun t3 => (sr_bV (F11_starts a1 1 t3) (fun t4 => (some (.inl (some (sr_i (t4.1 11 0 11))), t4)))))) else (some (.inl (some (sr_i 0)), t2)))))))
theorem C11_start (l : Launch) (a0 : Int32) (a1 : Int32)  (t : sr_t) : sr_ct' l sr_m11_start [sr_r 11 0, sr_i a0, sr_i a1] t (F11_start a0 a1 t) 0 0 := by
  refine sr_T_of (L0 := [some (sr_r 11 0), some (sr_i a0), some (sr_i a1)]) rfl (by decide +kernel) (fun _ => rfl) (fun _ => Nat.le_of_ble_eq_true rfl) ?_
  unfold F11_start
  refine sr_aloadn (pc := 0) (n := 0) (by decide +kernel) rfl ?_
  refine sr_aloadn (pc := 1) (n := 0) (by decide +kernel) rfl ?_
  refine sr_iloadn (pc := 2) (n := 1) (by decide +kernel) rfl ?_
  refine sr_iloadn (pc := 3) (n := 2) (by decide +kernel) rfl ?_
  refine sr_cV (pc := 4) (As := [sr_i a0, sr_i a1]) (mc1 := 0) (ms1 := 0) (mc2 := 0) (ms2 := 0) fm_11_295 fl_11_295 (by decide +kernel) (sr_in11 _ (by omega)) (rm_11_start_11_wrongStart) rfl rfl rfl (C11_wrongStart l a0 a1 t) ?_
  refine sr_kI (fun v1 t1 => ?_)
  refine sr_pI (pc := 7) fg_11_93 ft_11_0 (by decide +kernel) (sr_in11 _ (by omega)) (fun _ => rfl) (fun t2 => ?_)
  refine sr_aloadn (pc := 10) (n := 0) (by decide +kernel) rfl ?_
  refine sr_gI (pc := 11) fg_11_93 (by decide +kernel) (sr_in11 _ (by omega)) (fun _ => rfl) ?_
  refine sr_if_le (pc := 14) (off := 5) (tg := 19) (by decide +kernel) (by decide) (fun _ => ?_) (fun _ => ?_)
  · refine sr_aloadn (pc := 19) (n := 0) (by decide +kernel) rfl ?_
    refine sr_iloadn (pc := 20) (n := 1) (by decide +kernel) rfl ?_
    refine sr_pI (pc := 21) fg_11_174 ft_11_10 (by decide +kernel) (sr_in11 _ (by omega)) (fun _ => rfl) (fun t3 => ?_)
    refine sr_aloadn (pc := 24) (n := 0) (by decide +kernel) rfl ?_
    refine sr_iloadn (pc := 25) (n := 2) (by decide +kernel) rfl ?_
    refine sr_iconst (pc := 26) (n := 1) (v := 1) (by decide +kernel) rfl ?_
    refine sr_cV (pc := 27) (As := [sr_i a1, sr_i 1]) (mc1 := 0) (ms1 := 0) (mc2 := 0) (ms2 := 0) fm_11_199 fl_11_199 (by decide +kernel) (sr_in11 _ (by omega)) (rm_11_start_11_starts) rfl rfl rfl (C11_starts l a1 1 t3) ?_
    refine sr_kV (fun t4 => ?_)
    refine sr_aloadn (pc := 30) (n := 0) (by decide +kernel) rfl ?_
    refine sr_gI (pc := 31) fg_11_177 (by decide +kernel) (sr_in11 _ (by omega)) (fun _ => rfl) ?_
    exact sr_iret (pc := 34) (by decide +kernel) rfl
  · refine sr_iconst (pc := 17) (n := 0) (v := 0) (by decide +kernel) rfl ?_
    exact sr_iret (pc := 18) (by decide +kernel) rfl
def sr_m11_idealOf : sr_M := (⟨"ShiftRingModel", "idealOf", "(II)I"⟩, prog_13_method_69_code, 6, (some .int), [], 4, 92)
def sr_m11_ideal : sr_M := (⟨"ShiftRingModel", "ideal", "(II)I"⟩, prog_13_method_70_code, 3, (some .int), [], 5, 117)
theorem fl_11_298 : Cond.methodLink "ShiftRingModel" 298 (sr_My sr_m11_idealOf) ∈ sr_TB := (sr_tb (n := 1808) (by decide +kernel) rfl)
theorem fm_11_298 : sr_FV "ShiftRingModel" 298 sr_m11_idealOf 11 2 := ⟨⟨rfl, sr_tb (n := 1811) (by decide +kernel) rfl, sr_tb (n := 12) (by decide +kernel) rfl, ⟨by decide, by decide, by decide +kernel⟩, Or.inl fl_11_298⟩, ⟨TX11, 53, rfl, rfl⟩, sr_tb (n := 1810) (by decide +kernel) rfl, sr_ts (n := 77) (by decide +kernel) rfl⟩
theorem rm_11_ideal_11_idealOf : sr_RM sr_m11_ideal sr_m11_idealOf := ⟨Nat.le_of_ble_eq_true rfl, Nat.le_of_ble_eq_true rfl⟩
theorem rm_11_ideal_11_wrongStart : sr_RM sr_m11_ideal sr_m11_wrongStart := ⟨Nat.le_of_ble_eq_true rfl, Nat.le_of_ble_eq_true rfl⟩
theorem rm_11_idealOf_11_hostOf : sr_RM sr_m11_idealOf sr_m11_hostOf := ⟨Nat.le_of_ble_eq_true rfl, Nat.le_of_ble_eq_true rfl⟩
theorem rm_11_idealOf_11_letterOf : sr_RM sr_m11_idealOf sr_m11_letterOf := ⟨Nat.le_of_ble_eq_true rfl, Nat.le_of_ble_eq_true rfl⟩
theorem rm_11_idealOf_11_letters : sr_RM sr_m11_idealOf sr_m11_letters := ⟨Nat.le_of_ble_eq_true rfl, Nat.le_of_ble_eq_true rfl⟩
theorem rm_11_idealOf_11_starts : sr_RM sr_m11_idealOf sr_m11_starts := ⟨Nat.le_of_ble_eq_true rfl, Nat.le_of_ble_eq_true rfl⟩
theorem rm_11_idealOf_11_upFrom : sr_RM sr_m11_idealOf sr_m11_upFrom := ⟨Nat.le_of_ble_eq_true rfl, Nat.le_of_ble_eq_true rfl⟩
def f11_idealOf_88 (a0 : Int32) (a1 : Int32) (k16 : Int32 → Int32 → sr_t → sr_Rs) (k97 : Int32 → Int32 → sr_t → sr_Rs) : Int32 → Int32 → Int32 → sr_t → sr_Rs := fun x5 xs0 xs1 t => k16 (xs1 + xs0) x5 t
theorem g11_idealOf_88 (l : Launch) (a0 : Int32) (a1 : Int32)  (k16 : Int32 → Int32 → sr_t → sr_Rs) (k97 : Int32 → Int32 → sr_t → sr_Rs) (hk16 : ∀ (x3 : Int32) (x4 : Int32), ∀ (t : sr_t), sr_g l sr_m11_idealOf 16 [some (sr_r 11 0), some (sr_i a0), some (sr_i a1), some (sr_i x3), some (sr_i x4), none] [] t (k16 x3 x4 t) 0 0) (hk97 : ∀ (x3 : Int32) (x4 : Int32), ∀ (t : sr_t), sr_g l sr_m11_idealOf 97 [some (sr_r 11 0), some (sr_i a0), some (sr_i a1), some (sr_i x3), some (sr_i x4), none] [] t (k97 x3 x4 t) 0 0) : ∀ (x5 : Int32) (xs0 : Int32) (xs1 : Int32), ∀ (t : sr_t), sr_g l sr_m11_idealOf 88 [some (sr_r 11 0), some (sr_i a0), some (sr_i a1), none, none, some (sr_i x5)] [sr_i xs0, sr_i xs1] t (f11_idealOf_88 a0 a1 k16 k97 x5 xs0 xs1 t) 0 0 := by
  intro x5 xs0 xs1  t
  unfold f11_idealOf_88
  refine sr_iadd (pc := 88) (by decide +kernel) ?_
  refine sr_istoren (pc := 89) (n := 3) (by decide +kernel) (by decide) rfl rfl ?_
  refine sr_iload (pc := 90) (i := 5) (by decide +kernel) rfl ?_
  refine sr_istore (pc := 92) (i := 4) (by decide +kernel) (by decide) rfl rfl ?_
  refine sr_goto (pc := 94) (off := (-78)) (tg := 16) (by decide +kernel) (by decide) ?_
  exact sr_wk (sr_mono (mc := 0) (ms := 0) (by omega) (by omega) (hk16 (xs1 + xs0) x5 t)) ⟨rfl, ⟨rfl, ⟨rfl, ⟨rfl, ⟨rfl, trivial⟩⟩⟩⟩⟩
def f11_idealOf_16 (a0 : Int32) (a1 : Int32) (k97 : Int32 → Int32 → sr_t → sr_Rs) : Nat → Int32 → Int32 → sr_t → sr_Rs
  | 0 => fun _ _ _ => none
  | n + 1 => fun x3 x4 t => (if (t.1 11 0 12) ≤ 0 then k97 x3 x4 t else (sr_bI (F11_letters t) (fun v1 t1 => (sr_bI (F11_letterOf a1 (v1 - (t1.1 11 0 12)) t1) (fun v2 t2 => (if 4096 = 0 then none else (sr_lt (sr_u t2 11 0 11 ((((t.1 11 0 11) * (t.1 11 0 7)) + v2) - (((t.1 11 0 11) * (t.1 11 0 7)) + v2) / 4096 * 4096)) (fun t3 => (sr_lt (sr_u t3 11 0 12 ((t3.1 11 0 12) - 1)) (fun t4 => (sr_bI (F11_hostOf (t4.1 11 0 11) t4) (fun v5 t5 => (if v5 = x4 then f11_idealOf_88 a0 a1 (f11_idealOf_16 a0 a1 k97 n) k97 v5 0 x3 t5 else f11_idealOf_88 a0 a1 (f11_idealOf_16 a0 a1 k97 n) k97 v5 1 x3 t5)))))))))))))
theorem g11_idealOf_16 (l : Launch) (a0 : Int32) (a1 : Int32)  (k97 : Int32 → Int32 → sr_t → sr_Rs) (hk97 : ∀ (x3 : Int32) (x4 : Int32), ∀ (t : sr_t), sr_g l sr_m11_idealOf 97 [some (sr_r 11 0), some (sr_i a0), some (sr_i a1), some (sr_i x3), some (sr_i x4), none] [] t (k97 x3 x4 t) 0 0) : ∀ (n : Nat) (x3 : Int32) (x4 : Int32), ∀ (t : sr_t), sr_g l sr_m11_idealOf 16 [some (sr_r 11 0), some (sr_i a0), some (sr_i a1), some (sr_i x3), some (sr_i x4), none] [] t (f11_idealOf_16 a0 a1 k97 n x3 x4 t) 0 0 := by
  intro n
  induction n with
  | zero => intros; exact sr_Gn
  | succ n ih =>
    intro x3 x4  t
    unfold f11_idealOf_16
    refine sr_aloadn (pc := 16) (n := 0) (by decide +kernel) rfl ?_
    refine sr_gI (pc := 17) fg_11_180 (by decide +kernel) (sr_in11 _ (by omega)) (fun _ => rfl) ?_
    refine sr_if_le (pc := 20) (off := 77) (tg := 97) (by decide +kernel) (by decide) (fun _ => ?_) (fun _ => ?_)
    · exact sr_wk (sr_mono (mc := 0) (ms := 0) (by omega) (by omega) (hk97 x3 x4 t)) ⟨rfl, ⟨rfl, ⟨rfl, ⟨rfl, ⟨rfl, trivial⟩⟩⟩⟩⟩
    · refine sr_aloadn (pc := 23) (n := 0) (by decide +kernel) rfl ?_
      refine sr_aloadn (pc := 24) (n := 0) (by decide +kernel) rfl ?_
      refine sr_gI (pc := 25) fg_11_177 (by decide +kernel) (sr_in11 _ (by omega)) (fun _ => rfl) ?_
      refine sr_aloadn (pc := 28) (n := 0) (by decide +kernel) rfl ?_
      refine sr_gI (pc := 29) fg_11_25 (by decide +kernel) (sr_in11 _ (by omega)) (fun _ => rfl) ?_
      refine sr_imul (pc := 32) (by decide +kernel) ?_
      refine sr_aloadn (pc := 33) (n := 0) (by decide +kernel) rfl ?_
      refine sr_iloadn (pc := 34) (n := 2) (by decide +kernel) rfl ?_
      refine sr_aloadn (pc := 35) (n := 0) (by decide +kernel) rfl ?_
      refine sr_cV (pc := 36) (As := []) (mc1 := 0) (ms1 := 0) (mc2 := 0) (ms2 := 0) fm_11_153 fl_11_153 (by decide +kernel) (sr_in11 _ (by omega)) (rm_11_idealOf_11_letters) rfl rfl rfl (C11_letters l t) ?_
      refine sr_kI (fun v1 t1 => ?_)
      refine sr_aloadn (pc := 39) (n := 0) (by decide +kernel) rfl ?_
      refine sr_gI (pc := 40) fg_11_180 (by decide +kernel) (sr_in11 _ (by omega)) (fun _ => rfl) ?_
      refine sr_isub (pc := 43) (by decide +kernel) ?_
      refine sr_cV (pc := 44) (As := [sr_i a1, sr_i (v1 - (t1.1 11 0 12))]) (mc1 := 0) (ms1 := 0) (mc2 := 0) (ms2 := 0) fm_11_162 fl_11_162 (by decide +kernel) (sr_in11 _ (by omega)) (rm_11_idealOf_11_letterOf) rfl rfl rfl (C11_letterOf l a1 (v1 - (t1.1 11 0 12)) t1) ?_
      refine sr_kI (fun v2 t2 => ?_)
      refine sr_iadd (pc := 47) (by decide +kernel) ?_
      refine sr_sipush (pc := 48) (n := 4096) (v := 4096) (by decide +kernel) (by decide) ?_
      refine sr_irem (pc := 51) (by decide +kernel) (fun _ => ?_)
      refine sr_pI (pc := 52) fg_11_177 ft_11_11 (by decide +kernel) (sr_in11 _ (by omega)) (fun _ => rfl) (fun t3 => ?_)
      refine sr_aloadn (pc := 55) (n := 0) (by decide +kernel) rfl ?_
      refine sr_dup (pc := 56) (by decide +kernel) rfl ?_
      refine sr_gI (pc := 57) fg_11_180 (by decide +kernel) (sr_in11 _ (by omega)) (fun _ => rfl) ?_
      refine sr_iconst (pc := 60) (n := 1) (v := 1) (by decide +kernel) rfl ?_
      refine sr_isub (pc := 61) (by decide +kernel) ?_
      refine sr_pI (pc := 62) fg_11_180 ft_11_12 (by decide +kernel) (sr_in11 _ (by omega)) (fun _ => rfl) (fun t4 => ?_)
      refine sr_aloadn (pc := 65) (n := 0) (by decide +kernel) rfl ?_
      refine sr_aloadn (pc := 66) (n := 0) (by decide +kernel) rfl ?_
      refine sr_gI (pc := 67) fg_11_177 (by decide +kernel) (sr_in11 _ (by omega)) (fun _ => rfl) ?_
      refine sr_cV (pc := 70) (As := [sr_i (t4.1 11 0 11)]) (mc1 := 0) (ms1 := 0) (mc2 := 0) (ms2 := 0) fm_11_111 fl_11_111 (by decide +kernel) (sr_in11 _ (by omega)) (rm_11_idealOf_11_hostOf) rfl rfl rfl (C11_hostOf l (t4.1 11 0 11) t4) ?_
      refine sr_kI (fun v5 t5 => ?_)
      refine sr_istore (pc := 73) (i := 5) (by decide +kernel) (by decide) rfl rfl ?_
      refine sr_iloadn (pc := 75) (n := 3) (by decide +kernel) rfl ?_
      refine sr_iload (pc := 76) (i := 5) (by decide +kernel) rfl ?_
      refine sr_iload (pc := 78) (i := 4) (by decide +kernel) rfl ?_
      refine sr_icmp_eq (pc := 80) (off := 7) (tg := 87) (by decide +kernel) (by decide) (fun _ => ?_) (fun _ => ?_)
      · refine sr_iconst (pc := 87) (n := 0) (v := 0) (by decide +kernel) rfl ?_
        exact sr_wk (sr_mono (mc := 0) (ms := 0) (by omega) (by omega) (g11_idealOf_88 l a0 a1 (f11_idealOf_16 a0 a1 k97 n) k97 ih hk97 v5 0 x3 t5)) ⟨rfl, ⟨rfl, ⟨rfl, ⟨rfl, trivial⟩⟩⟩⟩
      · refine sr_iconst (pc := 83) (n := 1) (v := 1) (by decide +kernel) rfl ?_
        refine sr_goto (pc := 84) (off := 4) (tg := 88) (by decide +kernel) (by decide) ?_
        exact sr_wk (sr_mono (mc := 0) (ms := 0) (by omega) (by omega) (g11_idealOf_88 l a0 a1 (f11_idealOf_16 a0 a1 k97 n) k97 ih hk97 v5 1 x3 t5)) ⟨rfl, ⟨rfl, ⟨rfl, ⟨rfl, trivial⟩⟩⟩⟩
def f11_idealOf_114 (a0 : Int32) (a1 : Int32)  : Int32 → Int32 → sr_t → sr_Rs := fun xs0 xs1 t => (some (.inl (some (sr_i (xs1 + xs0))), t))
theorem g11_idealOf_114 (l : Launch) (a0 : Int32) (a1 : Int32)    : ∀ (xs0 : Int32) (xs1 : Int32), ∀ (t : sr_t), sr_g l sr_m11_idealOf 114 [some (sr_r 11 0), some (sr_i a0), some (sr_i a1), none, none, none] [sr_i xs0, sr_i xs1] t (f11_idealOf_114 a0 a1  xs0 xs1 t) 0 0 := by
  intro xs0 xs1  t
  unfold f11_idealOf_114
  refine sr_iadd (pc := 114) (by decide +kernel) ?_
  exact sr_iret (pc := 115) (by decide +kernel) rfl
def f11_idealOf_97 (a0 : Int32) (a1 : Int32)  : Int32 → Int32 → sr_t → sr_Rs := fun x3 x4 t => (sr_bI (F11_upFrom a1 1 t) (fun v1 t1 => (if x4 = v1 then f11_idealOf_114 a0 a1 0 x3 t1 else f11_idealOf_114 a0 a1 1 x3 t1)))
theorem g11_idealOf_97 (l : Launch) (a0 : Int32) (a1 : Int32)    : ∀ (x3 : Int32) (x4 : Int32), ∀ (t : sr_t), sr_g l sr_m11_idealOf 97 [some (sr_r 11 0), some (sr_i a0), some (sr_i a1), some (sr_i x3), some (sr_i x4), none] [] t (f11_idealOf_97 a0 a1  x3 x4 t) 0 0 := by
  intro x3 x4  t
  unfold f11_idealOf_97
  refine sr_iloadn (pc := 97) (n := 3) (by decide +kernel) rfl ?_
  refine sr_iload (pc := 98) (i := 4) (by decide +kernel) rfl ?_
  refine sr_aloadn (pc := 100) (n := 0) (by decide +kernel) rfl ?_
  refine sr_iloadn (pc := 101) (n := 2) (by decide +kernel) rfl ?_
  refine sr_iconst (pc := 102) (n := 1) (v := 1) (by decide +kernel) rfl ?_
  refine sr_cV (pc := 103) (As := [sr_i a1, sr_i 1]) (mc1 := 0) (ms1 := 0) (mc2 := 0) (ms2 := 0) fm_11_107 fl_11_107 (by decide +kernel) (sr_in11 _ (by omega)) (rm_11_idealOf_11_upFrom) rfl rfl rfl (C11_upFrom l a1 1 t) ?_
  refine sr_kI (fun v1 t1 => ?_)
  refine sr_icmp_eq (pc := 106) (off := 7) (tg := 113) (by decide +kernel) (by decide) (fun _ => ?_) (fun _ => ?_)
  · refine sr_iconst (pc := 113) (n := 0) (v := 0) (by decide +kernel) rfl ?_
    exact sr_wk (sr_mono (mc := 0) (ms := 0) (by omega) (by omega) (g11_idealOf_114 l a0 a1 0 x3 t1)) ⟨rfl, ⟨rfl, ⟨rfl, trivial⟩⟩⟩
  · refine sr_iconst (pc := 109) (n := 1) (v := 1) (by decide +kernel) rfl ?_
    refine sr_goto (pc := 110) (off := 4) (tg := 114) (by decide +kernel) (by decide) ?_
    exact sr_wk (sr_mono (mc := 0) (ms := 0) (by omega) (by omega) (g11_idealOf_114 l a0 a1 1 x3 t1)) ⟨rfl, ⟨rfl, ⟨rfl, trivial⟩⟩⟩
def F11_idealOf (a0 : Int32) (a1 : Int32) (t : sr_t) : sr_Rs := (sr_lt (sr_u t 11 0 10 a0) (fun t1 => (sr_bV (F11_starts a1 1 t1) (fun t2 => f11_idealOf_16 a0 a1 (f11_idealOf_97 a0 a1) sr_fu 0 a0 t2))))
theorem C11_idealOf (l : Launch) (a0 : Int32) (a1 : Int32)  (t : sr_t) : sr_ct' l sr_m11_idealOf [sr_r 11 0, sr_i a0, sr_i a1] t (F11_idealOf a0 a1 t) 0 0 := by
  refine sr_T_of (L0 := [some (sr_r 11 0), some (sr_i a0), some (sr_i a1), none, none, none]) rfl (by decide +kernel) (fun _ => rfl) (fun _ => Nat.le_of_ble_eq_true rfl) ?_
  unfold F11_idealOf
  refine sr_aloadn (pc := 0) (n := 0) (by decide +kernel) rfl ?_
  refine sr_iloadn (pc := 1) (n := 1) (by decide +kernel) rfl ?_
  refine sr_pI (pc := 2) fg_11_174 ft_11_10 (by decide +kernel) (sr_in11 _ (by omega)) (fun _ => rfl) (fun t1 => ?_)
  refine sr_aloadn (pc := 5) (n := 0) (by decide +kernel) rfl ?_
  refine sr_iloadn (pc := 6) (n := 2) (by decide +kernel) rfl ?_
  refine sr_iconst (pc := 7) (n := 1) (v := 1) (by decide +kernel) rfl ?_
  refine sr_cV (pc := 8) (As := [sr_i a1, sr_i 1]) (mc1 := 0) (ms1 := 0) (mc2 := 0) (ms2 := 0) fm_11_199 fl_11_199 (by decide +kernel) (sr_in11 _ (by omega)) (rm_11_idealOf_11_starts) rfl rfl rfl (C11_starts l a1 1 t1) ?_
  refine sr_kV (fun t2 => ?_)
  refine sr_iconst (pc := 11) (n := 0) (v := 0) (by decide +kernel) rfl ?_
  refine sr_istoren (pc := 12) (n := 3) (by decide +kernel) (by decide) rfl rfl ?_
  refine sr_iloadn (pc := 13) (n := 1) (by decide +kernel) rfl ?_
  refine sr_istore (pc := 14) (i := 4) (by decide +kernel) (by decide) rfl rfl ?_
  exact sr_wk (sr_mono (mc := 0) (ms := 0) (by omega) (by omega) (g11_idealOf_16 l a0 a1 (f11_idealOf_97 a0 a1) (g11_idealOf_97 l a0 a1) sr_fu 0 a0 t2)) ⟨rfl, ⟨rfl, ⟨rfl, ⟨rfl, ⟨rfl, trivial⟩⟩⟩⟩⟩
def f11_ideal_27 (a0 : Int32) (a1 : Int32)  : Int32 → sr_t → sr_Rs := fun xs0 t => (some (.inl (some (sr_i xs0)), t))
theorem g11_ideal_27 (l : Launch) (a0 : Int32) (a1 : Int32)    : ∀ (xs0 : Int32), ∀ (t : sr_t), sr_g l sr_m11_ideal 27 [some (sr_r 11 0), some (sr_i a0), some (sr_i a1)] [sr_i xs0] t (f11_ideal_27 a0 a1  xs0 t) 0 0 := by
  intro xs0  t
  unfold f11_ideal_27
  exact sr_iret (pc := 27) (by decide +kernel) rfl
def F11_ideal (a0 : Int32) (a1 : Int32) (t : sr_t) : sr_Rs := (sr_bI (F11_wrongStart a0 a1 t) (fun v1 t1 => (sr_lt (sr_u t1 11 0 0 v1) (fun t2 => (if (t2.1 11 0 0) ≤ 0 then (sr_bI (F11_idealOf a0 a1 t2) (fun v3 t3 => f11_ideal_27 a0 a1 v3 t3)) else f11_ideal_27 a0 a1 0 t2)))))
theorem C11_ideal (l : Launch) (a0 : Int32) (a1 : Int32)  (t : sr_t) : sr_ct' l sr_m11_ideal [sr_r 11 0, sr_i a0, sr_i a1] t (F11_ideal a0 a1 t) 0 0 := by
  refine sr_T_of (L0 := [some (sr_r 11 0), some (sr_i a0), some (sr_i a1)]) rfl (by decide +kernel) (fun _ => rfl) (fun _ => Nat.le_of_ble_eq_true rfl) ?_
  unfold F11_ideal
  refine sr_aloadn (pc := 0) (n := 0) (by decide +kernel) rfl ?_
  refine sr_aloadn (pc := 1) (n := 0) (by decide +kernel) rfl ?_
  refine sr_iloadn (pc := 2) (n := 1) (by decide +kernel) rfl ?_
  refine sr_iloadn (pc := 3) (n := 2) (by decide +kernel) rfl ?_
  refine sr_cV (pc := 4) (As := [sr_i a0, sr_i a1]) (mc1 := 0) (ms1 := 0) (mc2 := 0) (ms2 := 0) fm_11_295 fl_11_295 (by decide +kernel) (sr_in11 _ (by omega)) (rm_11_ideal_11_wrongStart) rfl rfl rfl (C11_wrongStart l a0 a1 t) ?_
  refine sr_kI (fun v1 t1 => ?_)
  refine sr_pI (pc := 7) fg_11_93 ft_11_0 (by decide +kernel) (sr_in11 _ (by omega)) (fun _ => rfl) (fun t2 => ?_)
  refine sr_aloadn (pc := 10) (n := 0) (by decide +kernel) rfl ?_
  refine sr_gI (pc := 11) fg_11_93 (by decide +kernel) (sr_in11 _ (by omega)) (fun _ => rfl) ?_
  refine sr_if_le (pc := 14) (off := 7) (tg := 21) (by decide +kernel) (by decide) (fun _ => ?_) (fun _ => ?_)
  · refine sr_aloadn (pc := 21) (n := 0) (by decide +kernel) rfl ?_
    refine sr_iloadn (pc := 22) (n := 1) (by decide +kernel) rfl ?_
    refine sr_iloadn (pc := 23) (n := 2) (by decide +kernel) rfl ?_
    refine sr_cV (pc := 24) (As := [sr_i a0, sr_i a1]) (mc1 := 0) (ms1 := 0) (mc2 := 0) (ms2 := 0) fm_11_298 fl_11_298 (by decide +kernel) (sr_in11 _ (by omega)) (rm_11_ideal_11_idealOf) rfl rfl rfl (C11_idealOf l a0 a1 t2) ?_
    refine sr_kI (fun v3 t3 => ?_)
    exact sr_wk (sr_mono (mc := 0) (ms := 0) (by omega) (by omega) (g11_ideal_27 l a0 a1 v3 t3)) ⟨rfl, ⟨rfl, ⟨rfl, trivial⟩⟩⟩
  · refine sr_iconst (pc := 17) (n := 0) (v := 0) (by decide +kernel) rfl ?_
    refine sr_goto (pc := 18) (off := 9) (tg := 27) (by decide +kernel) (by decide) ?_
    exact sr_wk (sr_mono (mc := 0) (ms := 0) (by omega) (by omega) (g11_ideal_27 l a0 a1 0 t2)) ⟨rfl, ⟨rfl, ⟨rfl, trivial⟩⟩⟩
def sr_m11_takesOf : sr_M := (⟨"ShiftRingModel", "takesOf", "(II)I"⟩, prog_13_method_71_code, 4, (some .int), [], 6, 144)
def sr_m11_takes : sr_M := (⟨"ShiftRingModel", "takes", "(II)I"⟩, prog_13_method_72_code, 3, (some .int), [], 7, 167)
theorem fl_11_301 : Cond.methodLink "ShiftRingModel" 301 (sr_My sr_m11_takesOf) ∈ sr_TB := (sr_tb (n := 1816) (by decide +kernel) rfl)
theorem fm_11_301 : sr_FV "ShiftRingModel" 301 sr_m11_takesOf 11 2 := ⟨⟨rfl, sr_tb (n := 1819) (by decide +kernel) rfl, sr_tb (n := 12) (by decide +kernel) rfl, ⟨by decide, by decide, by decide +kernel⟩, Or.inl fl_11_301⟩, ⟨TX11, 53, rfl, rfl⟩, sr_tb (n := 1818) (by decide +kernel) rfl, sr_ts (n := 78) (by decide +kernel) rfl⟩
theorem rm_11_takes_11_takesOf : sr_RM sr_m11_takes sr_m11_takesOf := ⟨Nat.le_of_ble_eq_true rfl, Nat.le_of_ble_eq_true rfl⟩
theorem rm_11_takes_11_wrongLook : sr_RM sr_m11_takes sr_m11_wrongLook := ⟨Nat.le_of_ble_eq_true rfl, Nat.le_of_ble_eq_true rfl⟩
theorem rm_11_takesOf_11_isRight : sr_RM sr_m11_takesOf sr_m11_isRight := ⟨Nat.le_of_ble_eq_true rfl, Nat.le_of_ble_eq_true rfl⟩
theorem rm_11_takesOf_11_looks : sr_RM sr_m11_takesOf sr_m11_looks := ⟨Nat.le_of_ble_eq_true rfl, Nat.le_of_ble_eq_true rfl⟩
def f11_takesOf_25 (a0 : Int32) (a1 : Int32)  : Int32 → sr_t → sr_Rs := fun xs0 t => (some (.inl (some (sr_i xs0)), t))
theorem g11_takesOf_25 (l : Launch) (a0 : Int32) (a1 : Int32)    : ∀ (xs0 : Int32), ∀ (t : sr_t), sr_g l sr_m11_takesOf 25 [some (sr_r 11 0), some (sr_i a0), some (sr_i a1), none] [sr_i xs0] t (f11_takesOf_25 a0 a1  xs0 t) 0 0 := by
  intro xs0  t
  unfold f11_takesOf_25
  exact sr_iret (pc := 25) (by decide +kernel) rfl
def F11_takesOf (a0 : Int32) (a1 : Int32) (t : sr_t) : sr_Rs := (sr_bI (F11_looks a0 a1 1 t) (fun v1 t1 => (sr_bI (F11_isRight a1 v1 t1) (fun v2 t2 => (if v2 = 0 then f11_takesOf_25 a0 a1 ((-1)) t2 else f11_takesOf_25 a0 a1 (t2.1 11 0 13) t2)))))
theorem C11_takesOf (l : Launch) (a0 : Int32) (a1 : Int32)  (t : sr_t) : sr_ct' l sr_m11_takesOf [sr_r 11 0, sr_i a0, sr_i a1] t (F11_takesOf a0 a1 t) 0 0 := by
  refine sr_T_of (L0 := [some (sr_r 11 0), some (sr_i a0), some (sr_i a1), none]) rfl (by decide +kernel) (fun _ => rfl) (fun _ => Nat.le_of_ble_eq_true rfl) ?_
  unfold F11_takesOf
  refine sr_aloadn (pc := 0) (n := 0) (by decide +kernel) rfl ?_
  refine sr_iloadn (pc := 1) (n := 1) (by decide +kernel) rfl ?_
  refine sr_iloadn (pc := 2) (n := 2) (by decide +kernel) rfl ?_
  refine sr_iconst (pc := 3) (n := 1) (v := 1) (by decide +kernel) rfl ?_
  refine sr_cV (pc := 4) (As := [sr_i a0, sr_i a1, sr_i 1]) (mc1 := 0) (ms1 := 0) (mc2 := 0) (ms2 := 0) fm_11_221 fl_11_221 (by decide +kernel) (sr_in11 _ (by omega)) (rm_11_takesOf_11_looks) rfl rfl rfl (C11_looks l a0 a1 1 t) ?_
  refine sr_kI (fun v1 t1 => ?_)
  refine sr_istoren (pc := 7) (n := 3) (by decide +kernel) (by decide) rfl rfl ?_
  refine sr_aloadn (pc := 8) (n := 0) (by decide +kernel) rfl ?_
  refine sr_iloadn (pc := 9) (n := 2) (by decide +kernel) rfl ?_
  refine sr_iloadn (pc := 10) (n := 3) (by decide +kernel) rfl ?_
  refine sr_cV (pc := 11) (As := [sr_i a1, sr_i v1]) (mc1 := 0) (ms1 := 0) (mc2 := 0) (ms2 := 0) fm_11_225 fl_11_225 (by decide +kernel) (sr_in11 _ (by omega)) (rm_11_takesOf_11_isRight) rfl rfl rfl (C11_isRight l a1 v1 t1) ?_
  refine sr_kI (fun v2 t2 => ?_)
  refine sr_if_eq (pc := 14) (off := 10) (tg := 24) (by decide +kernel) (by decide) (fun _ => ?_) (fun _ => ?_)
  · refine sr_iconst (pc := 24) (n := (-1)) (v := (-1)) (by decide +kernel) rfl ?_
    exact sr_wk (sr_mono (mc := 0) (ms := 0) (by omega) (by omega) (g11_takesOf_25 l a0 a1 ((-1)) t2)) ⟨rfl, ⟨rfl, ⟨rfl, trivial⟩⟩⟩
  · refine sr_aloadn (pc := 17) (n := 0) (by decide +kernel) rfl ?_
    refine sr_gI (pc := 18) fg_11_183 (by decide +kernel) (sr_in11 _ (by omega)) (fun _ => rfl) ?_
    refine sr_goto (pc := 21) (off := 4) (tg := 25) (by decide +kernel) (by decide) ?_
    exact sr_wk (sr_mono (mc := 0) (ms := 0) (by omega) (by omega) (g11_takesOf_25 l a0 a1 (t2.1 11 0 13) t2)) ⟨rfl, ⟨rfl, ⟨rfl, trivial⟩⟩⟩
