def f11_apart_67 (a0 : Int32) (a1 : Int32) (k87 : sr_t → sr_Rs) : Nat → Int32 → sr_t → sr_Rs
  | 0 => fun _ _ => none
  | n + 1 => fun x3 t => (if 2304 ≤ x3 then k87 t else (if x3 < 0 ∨ 2304 ≤ x3.toNatClampNeg then none else sr_lt (sr_u t 45 0 x3.toNatClampNeg 0) (fun t1 => (f11_apart_67 a0 a1 k87 n) (x3 + 1) t1)))
theorem g11_apart_67 (l : Launch) (a0 : Int32) (a1 : Int32)  (k87 : sr_t → sr_Rs) (hk87 : ∀ (t : sr_t), sr_g l sr_m11_apart 87 [some (sr_r 11 0), some (sr_i a0), some (sr_i a1), none, none, none] [] t (k87 t) 0 0) : ∀ (n : Nat) (x3 : Int32), ∀ (t : sr_t), sr_g l sr_m11_apart 67 [some (sr_r 11 0), some (sr_i a0), some (sr_i a1), some (sr_i x3), none, none] [] t (f11_apart_67 a0 a1 k87 n x3 t) 0 0 := by
  intro n
  induction n with
  | zero => intros; exact sr_Gn
  | succ n ih =>
    intro x3  t
    unfold f11_apart_67
    refine sr_iloadn (pc := 67) (n := 3) (by decide +kernel) rfl ?_
    refine sr_sipush (pc := 68) (n := 2304) (v := 2304) (by decide +kernel) (by decide) ?_
    refine sr_icmp_ge (pc := 71) (off := 16) (tg := 87) (by decide +kernel) (by decide) (fun _ => ?_) (fun _ => ?_)
    · exact sr_wk (sr_mono (mc := 0) (ms := 0) (by omega) (by omega) (hk87 t)) ⟨rfl, ⟨rfl, ⟨rfl, trivial⟩⟩⟩
    · refine sr_aloadn (pc := 74) (n := 0) (by decide +kernel) rfl ?_
      refine sr_gC (pc := 75) (i2 := 0) fg_11_83 (by decide +kernel) (sr_in11 _ (by omega)) (fun _ => rfl) ?_
      refine sr_iloadn (pc := 78) (n := 3) (by decide +kernel) rfl ?_
      refine sr_iconst (pc := 79) (n := 0) (v := 0) (by decide +kernel) rfl ?_
      refine sr_sI (pc := 80) (n := 2304) rfl (by decide +kernel) (sr_in45 _ (by omega)) (fun _ _ => rfl) (fun t1 => ?_)
      refine sr_iinc (pc := 81) (i := 3) (n := 1) (w := x3 + 1) (by decide +kernel) rfl rfl (by decide) rfl rfl ?_
      refine sr_goto (pc := 84) (off := (-17)) (tg := 67) (by decide +kernel) (by decide) ?_
      exact sr_wk (sr_mono (mc := 0) (ms := 0) (by omega) (by omega) (ih (x3 + 1) t1)) ⟨rfl, ⟨rfl, ⟨rfl, ⟨rfl, trivial⟩⟩⟩⟩
def f11_apart_186 (a0 : Int32) (a1 : Int32) (k89 : Int32 → sr_t → sr_Rs) (k192 : sr_t → sr_Rs) : Int32 → sr_t → sr_Rs := fun x3 t => k89 (x3 + 1) t
theorem g11_apart_186 (l : Launch) (a0 : Int32) (a1 : Int32)  (k89 : Int32 → sr_t → sr_Rs) (k192 : sr_t → sr_Rs) (hk89 : ∀ (x3 : Int32), ∀ (t : sr_t), sr_g l sr_m11_apart 89 [some (sr_r 11 0), some (sr_i a0), some (sr_i a1), some (sr_i x3), none, none] [] t (k89 x3 t) 0 0) (hk192 : ∀ (t : sr_t), sr_g l sr_m11_apart 192 [some (sr_r 11 0), some (sr_i a0), some (sr_i a1), none, none, none] [] t (k192 t) 0 0) : ∀ (x3 : Int32), ∀ (t : sr_t), sr_g l sr_m11_apart 186 [some (sr_r 11 0), some (sr_i a0), some (sr_i a1), some (sr_i x3), none, none] [] t (f11_apart_186 a0 a1 k89 k192 x3 t) 0 0 := by
  intro x3  t
  unfold f11_apart_186
  refine sr_iinc (pc := 186) (i := 3) (n := 1) (w := x3 + 1) (by decide +kernel) rfl rfl (by decide) rfl rfl ?_
  refine sr_goto (pc := 189) (off := (-100)) (tg := 89) (by decide +kernel) (by decide) ?_
  exact sr_wk (sr_mono (mc := 0) (ms := 0) (by omega) (by omega) (hk89 (x3 + 1) t)) ⟨rfl, ⟨rfl, ⟨rfl, ⟨rfl, trivial⟩⟩⟩⟩
def f11_apart_149 (a0 : Int32) (a1 : Int32) (k186 : Int32 → sr_t → sr_Rs) : Nat → Int32 → Int32 → Int32 → sr_t → sr_Rs
  | 0 => fun _ _ _ _ => none
  | n + 1 => fun x3 x4 x5 t => (if (t.1 11 0 1) ≤ x5 then k186 x3 t else (if (48 * (24 + x3)) + x5 < 0 ∨ 2304 ≤ ((48 * (24 + x3)) + x5).toNatClampNeg then none else sr_lt (sr_u t 45 0 ((48 * (24 + x3)) + x5).toNatClampNeg ((x4 >>> (x5 &&& 31)) &&& 1)) (fun t1 => (f11_apart_149 a0 a1 k186 n) x3 x4 (x5 + 1) t1)))
theorem g11_apart_149 (l : Launch) (a0 : Int32) (a1 : Int32)  (k186 : Int32 → sr_t → sr_Rs) (hk186 : ∀ (x3 : Int32), ∀ (t : sr_t), sr_g l sr_m11_apart 186 [some (sr_r 11 0), some (sr_i a0), some (sr_i a1), some (sr_i x3), none, none] [] t (k186 x3 t) 0 0) : ∀ (n : Nat) (x3 : Int32) (x4 : Int32) (x5 : Int32), ∀ (t : sr_t), sr_g l sr_m11_apart 149 [some (sr_r 11 0), some (sr_i a0), some (sr_i a1), some (sr_i x3), some (sr_i x4), some (sr_i x5)] [] t (f11_apart_149 a0 a1 k186 n x3 x4 x5 t) 0 0 := by
  intro n
  induction n with
  | zero => intros; exact sr_Gn
  | succ n ih =>
    intro x3 x4 x5  t
    unfold f11_apart_149
    refine sr_iload (pc := 149) (i := 5) (by decide +kernel) rfl ?_
    refine sr_aloadn (pc := 151) (n := 0) (by decide +kernel) rfl ?_
    refine sr_gI (pc := 152) fg_11_100 (by decide +kernel) (sr_in11 _ (by omega)) (fun _ => rfl) ?_
    refine sr_icmp_ge (pc := 155) (off := 31) (tg := 186) (by decide +kernel) (by decide) (fun _ => ?_) (fun _ => ?_)
    · exact sr_wk (sr_mono (mc := 0) (ms := 0) (by omega) (by omega) (hk186 x3 t)) ⟨rfl, ⟨rfl, ⟨rfl, ⟨rfl, trivial⟩⟩⟩⟩
    · refine sr_aloadn (pc := 158) (n := 0) (by decide +kernel) rfl ?_
      refine sr_gC (pc := 159) (i2 := 0) fg_11_83 (by decide +kernel) (sr_in11 _ (by omega)) (fun _ => rfl) ?_
      refine sr_bipush (pc := 162) (n := 48) (v := 48) (by decide +kernel) (by decide) ?_
      refine sr_bipush (pc := 164) (n := 24) (v := 24) (by decide +kernel) (by decide) ?_
      refine sr_iloadn (pc := 166) (n := 3) (by decide +kernel) rfl ?_
      refine sr_iadd (pc := 167) (by decide +kernel) ?_
      refine sr_imul (pc := 168) (by decide +kernel) ?_
      refine sr_iload (pc := 169) (i := 5) (by decide +kernel) rfl ?_
      refine sr_iadd (pc := 171) (by decide +kernel) ?_
      refine sr_iload (pc := 172) (i := 4) (by decide +kernel) rfl ?_
      refine sr_iload (pc := 174) (i := 5) (by decide +kernel) rfl ?_
      refine sr_ishr (pc := 176) (by decide +kernel) ?_
      refine sr_iconst (pc := 177) (n := 1) (v := 1) (by decide +kernel) rfl ?_
      refine sr_iand (pc := 178) (by decide +kernel) ?_
      refine sr_sI (pc := 179) (n := 2304) rfl (by decide +kernel) (sr_in45 _ (by omega)) (fun _ _ => rfl) (fun t1 => ?_)
      refine sr_iinc (pc := 180) (i := 5) (n := 1) (w := x5 + 1) (by decide +kernel) rfl rfl (by decide) rfl rfl ?_
      refine sr_goto (pc := 183) (off := (-34)) (tg := 149) (by decide +kernel) (by decide) ?_
      exact sr_wk (sr_mono (mc := 0) (ms := 0) (by omega) (by omega) (ih x3 x4 (x5 + 1) t1)) ⟨rfl, ⟨rfl, ⟨rfl, ⟨rfl, ⟨rfl, ⟨rfl, trivial⟩⟩⟩⟩⟩⟩
def f11_apart_138 (a0 : Int32) (a1 : Int32) (k89 : Int32 → sr_t → sr_Rs) (k192 : sr_t → sr_Rs) : Int32 → Int32 → Int32 → sr_t → sr_Rs := fun x3 xs0 xs1 t => (if xs1 < 0 ∨ 2304 ≤ xs1.toNatClampNeg then none else sr_lt (sr_u t 45 0 xs1.toNatClampNeg xs0) (fun t1 => (sr_bI (F11_upLinks x3 t1) (fun v2 t2 => f11_apart_149 a0 a1 (f11_apart_186 a0 a1 k89 k192) sr_fu x3 v2 0 t2))))
theorem g11_apart_138 (l : Launch) (a0 : Int32) (a1 : Int32)  (k89 : Int32 → sr_t → sr_Rs) (k192 : sr_t → sr_Rs) (hk89 : ∀ (x3 : Int32), ∀ (t : sr_t), sr_g l sr_m11_apart 89 [some (sr_r 11 0), some (sr_i a0), some (sr_i a1), some (sr_i x3), none, none] [] t (k89 x3 t) 0 0) (hk192 : ∀ (t : sr_t), sr_g l sr_m11_apart 192 [some (sr_r 11 0), some (sr_i a0), some (sr_i a1), none, none, none] [] t (k192 t) 0 0) : ∀ (x3 : Int32) (xs0 : Int32) (xs1 : Int32), ∀ (t : sr_t), sr_g l sr_m11_apart 138 [some (sr_r 11 0), some (sr_i a0), some (sr_i a1), some (sr_i x3), none, none] [sr_i xs0, sr_i xs1, sr_r 45 0] t (f11_apart_138 a0 a1 k89 k192 x3 xs0 xs1 t) 0 0 := by
  intro x3 xs0 xs1  t
  unfold f11_apart_138
  refine sr_sI (pc := 138) (n := 2304) rfl (by decide +kernel) (sr_in45 _ (by omega)) (fun _ _ => rfl) (fun t1 => ?_)
  refine sr_aloadn (pc := 139) (n := 0) (by decide +kernel) rfl ?_
  refine sr_iloadn (pc := 140) (n := 3) (by decide +kernel) rfl ?_
  refine sr_cV (pc := 141) (As := [sr_i x3]) (mc1 := 0) (ms1 := 0) (mc2 := 0) (ms2 := 0) fm_11_307 fl_11_307 (by decide +kernel) (sr_in11 _ (by omega)) (rm_11_apart_11_upLinks) rfl rfl rfl (C11_upLinks l x3 t1) ?_
  refine sr_kI (fun v2 t2 => ?_)
  refine sr_istore (pc := 144) (i := 4) (by decide +kernel) (by decide) rfl rfl ?_
  refine sr_iconst (pc := 146) (n := 0) (v := 0) (by decide +kernel) rfl ?_
  refine sr_istore (pc := 147) (i := 5) (by decide +kernel) (by decide) rfl rfl ?_
  exact sr_wk (sr_mono (mc := 0) (ms := 0) (by omega) (by omega) (g11_apart_149 l a0 a1 (f11_apart_186 a0 a1 k89 k192) (g11_apart_186 l a0 a1 k89 k192 hk89 hk192) sr_fu x3 v2 0 t2)) ⟨rfl, ⟨rfl, ⟨rfl, ⟨rfl, ⟨rfl, ⟨rfl, trivial⟩⟩⟩⟩⟩⟩
def f11_apart_132 (a0 : Int32) (a1 : Int32) (k89 : Int32 → sr_t → sr_Rs) (k192 : sr_t → sr_Rs) : Int32 → Int32 → sr_t → sr_Rs := fun x3 xs0 t => f11_apart_138 a0 a1 k89 k192 x3 24 xs0 t
theorem g11_apart_132 (l : Launch) (a0 : Int32) (a1 : Int32)  (k89 : Int32 → sr_t → sr_Rs) (k192 : sr_t → sr_Rs) (hk89 : ∀ (x3 : Int32), ∀ (t : sr_t), sr_g l sr_m11_apart 89 [some (sr_r 11 0), some (sr_i a0), some (sr_i a1), some (sr_i x3), none, none] [] t (k89 x3 t) 0 0) (hk192 : ∀ (t : sr_t), sr_g l sr_m11_apart 192 [some (sr_r 11 0), some (sr_i a0), some (sr_i a1), none, none, none] [] t (k192 t) 0 0) : ∀ (x3 : Int32) (xs0 : Int32), ∀ (t : sr_t), sr_g l sr_m11_apart 132 [some (sr_r 11 0), some (sr_i a0), some (sr_i a1), some (sr_i x3), none, none] [sr_i xs0, sr_r 45 0] t (f11_apart_132 a0 a1 k89 k192 x3 xs0 t) 0 0 := by
  intro x3 xs0  t
  unfold f11_apart_132
  refine sr_bipush (pc := 132) (n := 24) (v := 24) (by decide +kernel) (by decide) ?_
  refine sr_goto (pc := 134) (off := 4) (tg := 138) (by decide +kernel) (by decide) ?_
  exact sr_wk (sr_mono (mc := 0) (ms := 0) (by omega) (by omega) (g11_apart_138 l a0 a1 k89 k192 hk89 hk192 x3 24 xs0 t)) ⟨rfl, ⟨rfl, ⟨rfl, ⟨rfl, trivial⟩⟩⟩⟩
def f11_apart_89 (a0 : Int32) (a1 : Int32) (k192 : sr_t → sr_Rs) : Nat → Int32 → sr_t → sr_Rs
  | 0 => fun _ _ => none
  | n + 1 => fun x3 t => (if (t.1 11 0 1) ≤ x3 then k192 t else (if x3 < 0 ∨ 24 ≤ x3.toNatClampNeg then none else (if (t.1 25 0 x3.toNatClampNeg) = 0 then f11_apart_186 a0 a1 (f11_apart_89 a0 a1 k192 n) k192 x3 t else (if x3 = a0 then f11_apart_132 a0 a1 (f11_apart_89 a0 a1 k192 n) k192 x3 (((48 * x3) + 24) + x3) t else (if x3 = a1 then f11_apart_132 a0 a1 (f11_apart_89 a0 a1 k192 n) k192 x3 (((48 * x3) + 24) + x3) t else f11_apart_138 a0 a1 (f11_apart_89 a0 a1 k192 n) k192 x3 1 (((48 * x3) + 24) + x3) t)))))
theorem g11_apart_89 (l : Launch) (a0 : Int32) (a1 : Int32)  (k192 : sr_t → sr_Rs) (hk192 : ∀ (t : sr_t), sr_g l sr_m11_apart 192 [some (sr_r 11 0), some (sr_i a0), some (sr_i a1), none, none, none] [] t (k192 t) 0 0) : ∀ (n : Nat) (x3 : Int32), ∀ (t : sr_t), sr_g l sr_m11_apart 89 [some (sr_r 11 0), some (sr_i a0), some (sr_i a1), some (sr_i x3), none, none] [] t (f11_apart_89 a0 a1 k192 n x3 t) 0 0 := by
  intro n
  induction n with
  | zero => intros; exact sr_Gn
  | succ n ih =>
    intro x3  t
    unfold f11_apart_89
    refine sr_iloadn (pc := 89) (n := 3) (by decide +kernel) rfl ?_
    refine sr_aloadn (pc := 90) (n := 0) (by decide +kernel) rfl ?_
    refine sr_gI (pc := 91) fg_11_100 (by decide +kernel) (sr_in11 _ (by omega)) (fun _ => rfl) ?_
    refine sr_icmp_ge (pc := 94) (off := 98) (tg := 192) (by decide +kernel) (by decide) (fun _ => ?_) (fun _ => ?_)
    · exact sr_wk (sr_mono (mc := 0) (ms := 0) (by omega) (by omega) (hk192 t)) ⟨rfl, ⟨rfl, ⟨rfl, trivial⟩⟩⟩
    · refine sr_aloadn (pc := 97) (n := 0) (by decide +kernel) rfl ?_
      refine sr_gC (pc := 98) (i2 := 0) fg_11_13 (by decide +kernel) (sr_in11 _ (by omega)) (fun _ => rfl) ?_
      refine sr_iloadn (pc := 101) (n := 3) (by decide +kernel) rfl ?_
      refine sr_aI (pc := 102) (n := 24) rfl (by decide +kernel) (sr_in25 _ (by omega)) (fun _ _ => rfl) ?_
      refine sr_if_ne (pc := 103) (off := 6) (tg := 109) (by decide +kernel) (by decide) (fun _ => ?_) (fun _ => ?_)
      · refine sr_aloadn (pc := 109) (n := 0) (by decide +kernel) rfl ?_
        refine sr_gC (pc := 110) (i2 := 0) fg_11_83 (by decide +kernel) (sr_in11 _ (by omega)) (fun _ => rfl) ?_
        refine sr_bipush (pc := 113) (n := 48) (v := 48) (by decide +kernel) (by decide) ?_
        refine sr_iloadn (pc := 115) (n := 3) (by decide +kernel) rfl ?_
        refine sr_imul (pc := 116) (by decide +kernel) ?_
        refine sr_bipush (pc := 117) (n := 24) (v := 24) (by decide +kernel) (by decide) ?_
        refine sr_iadd (pc := 119) (by decide +kernel) ?_
        refine sr_iloadn (pc := 120) (n := 3) (by decide +kernel) rfl ?_
        refine sr_iadd (pc := 121) (by decide +kernel) ?_
        refine sr_iloadn (pc := 122) (n := 3) (by decide +kernel) rfl ?_
        refine sr_iloadn (pc := 123) (n := 1) (by decide +kernel) rfl ?_
        refine sr_icmp_eq (pc := 124) (off := 8) (tg := 132) (by decide +kernel) (by decide) (fun _ => ?_) (fun _ => ?_)
        · exact sr_wk (sr_mono (mc := 0) (ms := 0) (by omega) (by omega) (g11_apart_132 l a0 a1 (f11_apart_89 a0 a1 k192 n) k192 ih hk192 x3 (((48 * x3) + 24) + x3) t)) ⟨rfl, ⟨rfl, ⟨rfl, ⟨rfl, trivial⟩⟩⟩⟩
        · refine sr_iloadn (pc := 127) (n := 3) (by decide +kernel) rfl ?_
          refine sr_iloadn (pc := 128) (n := 2) (by decide +kernel) rfl ?_
          refine sr_icmp_ne (pc := 129) (off := 8) (tg := 137) (by decide +kernel) (by decide) (fun _ => ?_) (fun _ => ?_)
          · refine sr_iconst (pc := 137) (n := 1) (v := 1) (by decide +kernel) rfl ?_
            exact sr_wk (sr_mono (mc := 0) (ms := 0) (by omega) (by omega) (g11_apart_138 l a0 a1 (f11_apart_89 a0 a1 k192 n) k192 ih hk192 x3 1 (((48 * x3) + 24) + x3) t)) ⟨rfl, ⟨rfl, ⟨rfl, ⟨rfl, trivial⟩⟩⟩⟩
          · exact sr_wk (sr_mono (mc := 0) (ms := 0) (by omega) (by omega) (g11_apart_132 l a0 a1 (f11_apart_89 a0 a1 k192 n) k192 ih hk192 x3 (((48 * x3) + 24) + x3) t)) ⟨rfl, ⟨rfl, ⟨rfl, ⟨rfl, trivial⟩⟩⟩⟩
      · refine sr_goto (pc := 106) (off := 80) (tg := 186) (by decide +kernel) (by decide) ?_
        exact sr_wk (sr_mono (mc := 0) (ms := 0) (by omega) (by omega) (g11_apart_186 l a0 a1 (f11_apart_89 a0 a1 k192 n) k192 ih hk192 x3 t)) ⟨rfl, ⟨rfl, ⟨rfl, ⟨rfl, trivial⟩⟩⟩⟩
def f11_apart_194 (a0 : Int32) (a1 : Int32) (k209 : Int32 → sr_t → sr_Rs) : Nat → Int32 → sr_t → sr_Rs
  | 0 => fun _ _ => none
  | n + 1 => fun x3 t => (sr_bI (F11_goesOnce a0 a1 t) (fun v1 t1 => (if v1 = 0 then k209 x3 t1 else (f11_apart_194 a0 a1 k209 n) (x3 + 1) t1)))
theorem g11_apart_194 (l : Launch) (a0 : Int32) (a1 : Int32)  (k209 : Int32 → sr_t → sr_Rs) (hk209 : ∀ (x3 : Int32), ∀ (t : sr_t), sr_g l sr_m11_apart 209 [some (sr_r 11 0), some (sr_i a0), some (sr_i a1), some (sr_i x3), none, none] [] t (k209 x3 t) 0 0) : ∀ (n : Nat) (x3 : Int32), ∀ (t : sr_t), sr_g l sr_m11_apart 194 [some (sr_r 11 0), some (sr_i a0), some (sr_i a1), some (sr_i x3), none, none] [] t (f11_apart_194 a0 a1 k209 n x3 t) 0 0 := by
  intro n
  induction n with
  | zero => intros; exact sr_Gn
  | succ n ih =>
    intro x3  t
    unfold f11_apart_194
    refine sr_aloadn (pc := 194) (n := 0) (by decide +kernel) rfl ?_
    refine sr_iloadn (pc := 195) (n := 1) (by decide +kernel) rfl ?_
    refine sr_iloadn (pc := 196) (n := 2) (by decide +kernel) rfl ?_
    refine sr_cV (pc := 197) (As := [sr_i a0, sr_i a1]) (mc1 := 0) (ms1 := 0) (mc2 := 0) (ms2 := 0) fm_11_313 fl_11_313 (by decide +kernel) (sr_in11 _ (by omega)) (rm_11_apart_11_goesOnce) rfl rfl rfl (C11_goesOnce l a0 a1 t) ?_
    refine sr_kI (fun v1 t1 => ?_)
    refine sr_if_eq (pc := 200) (off := 9) (tg := 209) (by decide +kernel) (by decide) (fun _ => ?_) (fun _ => ?_)
    · exact sr_wk (sr_mono (mc := 0) (ms := 0) (by omega) (by omega) (hk209 x3 t1)) ⟨rfl, ⟨rfl, ⟨rfl, ⟨rfl, trivial⟩⟩⟩⟩
    · refine sr_iinc (pc := 203) (i := 3) (n := 1) (w := x3 + 1) (by decide +kernel) rfl rfl (by decide) rfl rfl ?_
      refine sr_goto (pc := 206) (off := (-12)) (tg := 194) (by decide +kernel) (by decide) ?_
      exact sr_wk (sr_mono (mc := 0) (ms := 0) (by omega) (by omega) (ih (x3 + 1) t1)) ⟨rfl, ⟨rfl, ⟨rfl, ⟨rfl, trivial⟩⟩⟩⟩
def f11_apart_209 (a0 : Int32) (a1 : Int32)  : Int32 → sr_t → sr_Rs := fun x3 t => (some (.inl (some (sr_i x3)), t))
theorem g11_apart_209 (l : Launch) (a0 : Int32) (a1 : Int32)    : ∀ (x3 : Int32), ∀ (t : sr_t), sr_g l sr_m11_apart 209 [some (sr_r 11 0), some (sr_i a0), some (sr_i a1), some (sr_i x3), none, none] [] t (f11_apart_209 a0 a1  x3 t) 0 0 := by
  intro x3  t
  unfold f11_apart_209
  refine sr_iloadn (pc := 209) (n := 3) (by decide +kernel) rfl ?_
  exact sr_iret (pc := 210) (by decide +kernel) rfl
def f11_apart_192 (a0 : Int32) (a1 : Int32)  : sr_t → sr_Rs := fun  t => f11_apart_194 a0 a1 (f11_apart_209 a0 a1) sr_fu 0 t
theorem g11_apart_192 (l : Launch) (a0 : Int32) (a1 : Int32)    : ∀ (t : sr_t), sr_g l sr_m11_apart 192 [some (sr_r 11 0), some (sr_i a0), some (sr_i a1), none, none, none] [] t (f11_apart_192 a0 a1   t) 0 0 := by
  intro t
  unfold f11_apart_192
  refine sr_iconst (pc := 192) (n := 0) (v := 0) (by decide +kernel) rfl ?_
  refine sr_istoren (pc := 193) (n := 3) (by decide +kernel) (by decide) rfl rfl ?_
  exact sr_wk (sr_mono (mc := 0) (ms := 0) (by omega) (by omega) (g11_apart_194 l a0 a1 (f11_apart_209 a0 a1) (g11_apart_209 l a0 a1) sr_fu 0 t)) ⟨rfl, ⟨rfl, ⟨rfl, ⟨rfl, trivial⟩⟩⟩⟩
def f11_apart_87 (a0 : Int32) (a1 : Int32)  : sr_t → sr_Rs := fun  t => f11_apart_89 a0 a1 (f11_apart_192 a0 a1) sr_fu 0 t
theorem g11_apart_87 (l : Launch) (a0 : Int32) (a1 : Int32)    : ∀ (t : sr_t), sr_g l sr_m11_apart 87 [some (sr_r 11 0), some (sr_i a0), some (sr_i a1), none, none, none] [] t (f11_apart_87 a0 a1   t) 0 0 := by
  intro t
  unfold f11_apart_87
  refine sr_iconst (pc := 87) (n := 0) (v := 0) (by decide +kernel) rfl ?_
  refine sr_istoren (pc := 88) (n := 3) (by decide +kernel) (by decide) rfl rfl ?_
  exact sr_wk (sr_mono (mc := 0) (ms := 0) (by omega) (by omega) (g11_apart_89 l a0 a1 (f11_apart_192 a0 a1) (g11_apart_192 l a0 a1) sr_fu 0 t)) ⟨rfl, ⟨rfl, ⟨rfl, ⟨rfl, trivial⟩⟩⟩⟩
def f11_apart_53 (a0 : Int32) (a1 : Int32)  : Int32 → sr_t → sr_Rs := fun xs0 t => (sr_lt (sr_u t 11 0 0 xs0) (fun t1 => (if (t1.1 11 0 0) ≤ 0 then f11_apart_67 a0 a1 (f11_apart_87 a0 a1) sr_fu 0 t1 else (some (.inl (some (sr_i 0)), t1)))))
theorem g11_apart_53 (l : Launch) (a0 : Int32) (a1 : Int32)    : ∀ (xs0 : Int32), ∀ (t : sr_t), sr_g l sr_m11_apart 53 [some (sr_r 11 0), some (sr_i a0), some (sr_i a1), none, none, none] [sr_i xs0, sr_r 11 0] t (f11_apart_53 a0 a1  xs0 t) 0 0 := by
  intro xs0  t
  unfold f11_apart_53
  refine sr_pI (pc := 53) fg_11_93 ft_11_0 (by decide +kernel) (sr_in11 _ (by omega)) (fun _ => rfl) (fun t1 => ?_)
  refine sr_aloadn (pc := 56) (n := 0) (by decide +kernel) rfl ?_
  refine sr_gI (pc := 57) fg_11_93 (by decide +kernel) (sr_in11 _ (by omega)) (fun _ => rfl) ?_
  refine sr_if_le (pc := 60) (off := 5) (tg := 65) (by decide +kernel) (by decide) (fun _ => ?_) (fun _ => ?_)
  · refine sr_iconst (pc := 65) (n := 0) (v := 0) (by decide +kernel) rfl ?_
    refine sr_istoren (pc := 66) (n := 3) (by decide +kernel) (by decide) rfl rfl ?_
    exact sr_wk (sr_mono (mc := 0) (ms := 0) (by omega) (by omega) (g11_apart_67 l a0 a1 (f11_apart_87 a0 a1) (g11_apart_87 l a0 a1) sr_fu 0 t1)) ⟨rfl, ⟨rfl, ⟨rfl, ⟨rfl, trivial⟩⟩⟩⟩
  · refine sr_iconst (pc := 63) (n := 0) (v := 0) (by decide +kernel) rfl ?_
    exact sr_iret (pc := 64) (by decide +kernel) rfl
def f11_apart_17 (a0 : Int32) (a1 : Int32)  : sr_t → sr_Rs := fun  t => f11_apart_53 a0 a1 1 t
theorem g11_apart_17 (l : Launch) (a0 : Int32) (a1 : Int32)    : ∀ (t : sr_t), sr_g l sr_m11_apart 17 [some (sr_r 11 0), some (sr_i a0), some (sr_i a1), none, none, none] [sr_r 11 0] t (f11_apart_17 a0 a1   t) 0 0 := by
  intro t
  unfold f11_apart_17
  refine sr_iconst (pc := 17) (n := 1) (v := 1) (by decide +kernel) rfl ?_
  refine sr_goto (pc := 18) (off := 35) (tg := 53) (by decide +kernel) (by decide) ?_
  exact sr_wk (sr_mono (mc := 0) (ms := 0) (by omega) (by omega) (g11_apart_53 l a0 a1 1 t)) ⟨rfl, ⟨rfl, ⟨rfl, trivial⟩⟩⟩
def f11_apart_48 (a0 : Int32) (a1 : Int32)  : sr_t → sr_Rs := fun  t => f11_apart_53 a0 a1 3 t
theorem g11_apart_48 (l : Launch) (a0 : Int32) (a1 : Int32)    : ∀ (t : sr_t), sr_g l sr_m11_apart 48 [some (sr_r 11 0), some (sr_i a0), some (sr_i a1), none, none, none] [sr_r 11 0] t (f11_apart_48 a0 a1   t) 0 0 := by
  intro t
  unfold f11_apart_48
  refine sr_iconst (pc := 48) (n := 3) (v := 3) (by decide +kernel) rfl ?_
  refine sr_goto (pc := 49) (off := 4) (tg := 53) (by decide +kernel) (by decide) ?_
  exact sr_wk (sr_mono (mc := 0) (ms := 0) (by omega) (by omega) (g11_apart_53 l a0 a1 3 t)) ⟨rfl, ⟨rfl, ⟨rfl, trivial⟩⟩⟩
def F11_apart (a0 : Int32) (a1 : Int32) (t : sr_t) : sr_Rs := (sr_bI (F11_isNode a0 t) (fun v1 t1 => (if v1 = 0 then f11_apart_17 a0 a1 t1 else (sr_bI (F11_isNode a1 t1) (fun v2 t2 => (if v2 = 0 then f11_apart_17 a0 a1 t2 else (if a0 = a1 then f11_apart_53 a0 a1 2 t2 else (if a0 < 0 ∨ 24 ≤ a0.toNatClampNeg then none else (if (t2.1 25 0 a0.toNatClampNeg) = 0 then f11_apart_48 a0 a1 t2 else (if a1 < 0 ∨ 24 ≤ a1.toNatClampNeg then none else (if (t2.1 25 0 a1.toNatClampNeg) = 0 then f11_apart_48 a0 a1 t2 else f11_apart_53 a0 a1 0 t2)))))))))))
theorem C11_apart (l : Launch) (a0 : Int32) (a1 : Int32)  (t : sr_t) : sr_ct' l sr_m11_apart [sr_r 11 0, sr_i a0, sr_i a1] t (F11_apart a0 a1 t) 0 0 := by
  refine sr_T_of (L0 := [some (sr_r 11 0), some (sr_i a0), some (sr_i a1), none, none, none]) rfl (by decide +kernel) (fun _ => rfl) (fun _ => Nat.le_of_ble_eq_true rfl) ?_
  unfold F11_apart
  refine sr_aloadn (pc := 0) (n := 0) (by decide +kernel) rfl ?_
  refine sr_aloadn (pc := 1) (n := 0) (by decide +kernel) rfl ?_
  refine sr_iloadn (pc := 2) (n := 1) (by decide +kernel) rfl ?_
  refine sr_cV (pc := 3) (As := [sr_i a0]) (mc1 := 0) (ms1 := 0) (mc2 := 0) (ms2 := 0) fm_11_141 fl_11_141 (by decide +kernel) (sr_in11 _ (by omega)) (rm_11_apart_11_isNode) rfl rfl rfl (C11_isNode l a0 t) ?_
  refine sr_kI (fun v1 t1 => ?_)
  refine sr_if_eq (pc := 6) (off := 11) (tg := 17) (by decide +kernel) (by decide) (fun _ => ?_) (fun _ => ?_)
  · exact sr_wk (sr_mono (mc := 0) (ms := 0) (by omega) (by omega) (g11_apart_17 l a0 a1 t1)) ⟨rfl, ⟨rfl, ⟨rfl, trivial⟩⟩⟩
  · refine sr_aloadn (pc := 9) (n := 0) (by decide +kernel) rfl ?_
    refine sr_iloadn (pc := 10) (n := 2) (by decide +kernel) rfl ?_
    refine sr_cV (pc := 11) (As := [sr_i a1]) (mc1 := 0) (ms1 := 0) (mc2 := 0) (ms2 := 0) fm_11_141 fl_11_141 (by decide +kernel) (sr_in11 _ (by omega)) (rm_11_apart_11_isNode) rfl rfl rfl (C11_isNode l a1 t1) ?_
    refine sr_kI (fun v2 t2 => ?_)
    refine sr_if_ne (pc := 14) (off := 7) (tg := 21) (by decide +kernel) (by decide) (fun _ => ?_) (fun _ => ?_)
    · refine sr_iloadn (pc := 21) (n := 1) (by decide +kernel) rfl ?_
      refine sr_iloadn (pc := 22) (n := 2) (by decide +kernel) rfl ?_
      refine sr_icmp_ne (pc := 23) (off := 7) (tg := 30) (by decide +kernel) (by decide) (fun _ => ?_) (fun _ => ?_)
      · refine sr_aloadn (pc := 30) (n := 0) (by decide +kernel) rfl ?_
        refine sr_gC (pc := 31) (i2 := 0) fg_11_13 (by decide +kernel) (sr_in11 _ (by omega)) (fun _ => rfl) ?_
        refine sr_iloadn (pc := 34) (n := 1) (by decide +kernel) rfl ?_
        refine sr_aI (pc := 35) (n := 24) rfl (by decide +kernel) (sr_in25 _ (by omega)) (fun _ _ => rfl) ?_
        refine sr_if_eq (pc := 36) (off := 12) (tg := 48) (by decide +kernel) (by decide) (fun _ => ?_) (fun _ => ?_)
        · exact sr_wk (sr_mono (mc := 0) (ms := 0) (by omega) (by omega) (g11_apart_48 l a0 a1 t2)) ⟨rfl, ⟨rfl, ⟨rfl, trivial⟩⟩⟩
        · refine sr_aloadn (pc := 39) (n := 0) (by decide +kernel) rfl ?_
          refine sr_gC (pc := 40) (i2 := 0) fg_11_13 (by decide +kernel) (sr_in11 _ (by omega)) (fun _ => rfl) ?_
          refine sr_iloadn (pc := 43) (n := 2) (by decide +kernel) rfl ?_
          refine sr_aI (pc := 44) (n := 24) rfl (by decide +kernel) (sr_in25 _ (by omega)) (fun _ _ => rfl) ?_
          refine sr_if_ne (pc := 45) (off := 7) (tg := 52) (by decide +kernel) (by decide) (fun _ => ?_) (fun _ => ?_)
          · refine sr_iconst (pc := 52) (n := 0) (v := 0) (by decide +kernel) rfl ?_
            exact sr_wk (sr_mono (mc := 0) (ms := 0) (by omega) (by omega) (g11_apart_53 l a0 a1 0 t2)) ⟨rfl, ⟨rfl, ⟨rfl, trivial⟩⟩⟩
          · exact sr_wk (sr_mono (mc := 0) (ms := 0) (by omega) (by omega) (g11_apart_48 l a0 a1 t2)) ⟨rfl, ⟨rfl, ⟨rfl, trivial⟩⟩⟩
      · refine sr_iconst (pc := 26) (n := 2) (v := 2) (by decide +kernel) rfl ?_
        refine sr_goto (pc := 27) (off := 26) (tg := 53) (by decide +kernel) (by decide) ?_
        exact sr_wk (sr_mono (mc := 0) (ms := 0) (by omega) (by omega) (g11_apart_53 l a0 a1 2 t2)) ⟨rfl, ⟨rfl, ⟨rfl, trivial⟩⟩⟩
    · exact sr_wk (sr_mono (mc := 0) (ms := 0) (by omega) (by omega) (g11_apart_17 l a0 a1 t2)) ⟨rfl, ⟨rfl, ⟨rfl, trivial⟩⟩⟩
def sr_m11_copies : sr_M := (⟨"ShiftRingModel", "copies", "(I)I"⟩, prog_13_method_88_code, 3, (some .int), [], 1, 22)
theorem fg_11_32 : sr_FG "ShiftRingModel" 32 11 9 53 := ⟨RX11, TX11, tyX11, rfl, by decide, rfl, uw_11, tyX11_ok, nmX11, Or.inl (sr_tb (n := 1394) (by decide +kernel) rfl)⟩
theorem ft_11_9 : sr_FT 11 9 53 0 false := ⟨RX11, TX11, rfl, rfl, (fun h => nomatch h), (show parseFieldDescriptor (TX11 9).2.2.1 = some .int from by decide +kernel)⟩
theorem rm_11_copies_11_isIn : sr_RM sr_m11_copies sr_m11_isIn := ⟨Nat.le_of_ble_eq_true rfl, Nat.le_of_ble_eq_true rfl⟩
def f11_copies_15 (a0 : Int32)  : Int32 → sr_t → sr_Rs := fun xs0 t => (sr_lt (sr_u t 11 0 0 xs0) (fun t1 => (if (t1.1 11 0 0) ≤ 0 then (sr_lt (sr_u t1 11 0 9 a0) (fun t2 => (some (.inl (some (sr_i (t1.1 11 0 9))), t2)))) else (some (.inl (some (sr_i 0)), t1)))))
theorem g11_copies_15 (l : Launch) (a0 : Int32)    : ∀ (xs0 : Int32), ∀ (t : sr_t), sr_g l sr_m11_copies 15 [some (sr_r 11 0), some (sr_i a0), none] [sr_i xs0, sr_r 11 0] t (f11_copies_15 a0  xs0 t) 0 0 := by
  intro xs0  t
  unfold f11_copies_15
  refine sr_pI (pc := 15) fg_11_93 ft_11_0 (by decide +kernel) (sr_in11 _ (by omega)) (fun _ => rfl) (fun t1 => ?_)
  refine sr_aloadn (pc := 18) (n := 0) (by decide +kernel) rfl ?_
  refine sr_gI (pc := 19) fg_11_93 (by decide +kernel) (sr_in11 _ (by omega)) (fun _ => rfl) ?_
  refine sr_if_le (pc := 22) (off := 5) (tg := 27) (by decide +kernel) (by decide) (fun _ => ?_) (fun _ => ?_)
  · refine sr_aloadn (pc := 27) (n := 0) (by decide +kernel) rfl ?_
    refine sr_gI (pc := 28) fg_11_32 (by decide +kernel) (sr_in11 _ (by omega)) (fun _ => rfl) ?_
    refine sr_istoren (pc := 31) (n := 2) (by decide +kernel) (by decide) rfl rfl ?_
    refine sr_aloadn (pc := 32) (n := 0) (by decide +kernel) rfl ?_
    refine sr_iloadn (pc := 33) (n := 1) (by decide +kernel) rfl ?_
    refine sr_pI (pc := 34) fg_11_32 ft_11_9 (by decide +kernel) (sr_in11 _ (by omega)) (fun _ => rfl) (fun t2 => ?_)
    refine sr_iloadn (pc := 37) (n := 2) (by decide +kernel) rfl ?_
    exact sr_iret (pc := 38) (by decide +kernel) rfl
  · refine sr_iconst (pc := 25) (n := 0) (v := 0) (by decide +kernel) rfl ?_
    exact sr_iret (pc := 26) (by decide +kernel) rfl
def F11_copies (a0 : Int32) (t : sr_t) : sr_Rs := (sr_bI (F11_isIn a0 1 3 t) (fun v1 t1 => (if v1 = 0 then f11_copies_15 a0 1 t1 else f11_copies_15 a0 0 t1)))
theorem C11_copies (l : Launch) (a0 : Int32)  (t : sr_t) : sr_ct' l sr_m11_copies [sr_r 11 0, sr_i a0] t (F11_copies a0 t) 0 0 := by
  refine sr_T_of (L0 := [some (sr_r 11 0), some (sr_i a0), none]) rfl (by decide +kernel) (fun _ => rfl) (fun _ => Nat.le_of_ble_eq_true rfl) ?_
  unfold F11_copies
  refine sr_aloadn (pc := 0) (n := 0) (by decide +kernel) rfl ?_
  refine sr_iloadn (pc := 1) (n := 1) (by decide +kernel) rfl ?_
  refine sr_iconst (pc := 2) (n := 1) (v := 1) (by decide +kernel) rfl ?_
  refine sr_iconst (pc := 3) (n := 3) (v := 3) (by decide +kernel) rfl ?_
  refine sr_cS (pc := 4) (As := [sr_i a0, sr_i 1, sr_i 3]) (mc1 := 0) (ms1 := 0) (mc2 := 0) (ms2 := 0) fm_11_96 fl_11_96 (by decide +kernel) (rm_11_copies_11_isIn) rfl rfl rfl (C11_isIn l a0 1 3 t) ?_
  refine sr_kI (fun v1 t1 => ?_)
  refine sr_if_eq (pc := 7) (off := 7) (tg := 14) (by decide +kernel) (by decide) (fun _ => ?_) (fun _ => ?_)
  · refine sr_iconst (pc := 14) (n := 1) (v := 1) (by decide +kernel) rfl ?_
    exact sr_wk (sr_mono (mc := 0) (ms := 0) (by omega) (by omega) (g11_copies_15 l a0 1 t1)) ⟨rfl, ⟨rfl, trivial⟩⟩
  · refine sr_iconst (pc := 10) (n := 0) (v := 0) (by decide +kernel) rfl ?_
    refine sr_goto (pc := 11) (off := 4) (tg := 15) (by decide +kernel) (by decide) ?_
    exact sr_wk (sr_mono (mc := 0) (ms := 0) (by omega) (by omega) (g11_copies_15 l a0 0 t1)) ⟨rfl, ⟨rfl, trivial⟩⟩
def sr_m11_knownAs : sr_M := (⟨"ShiftRingModel", "knownAs", "(I)I"⟩, prog_13_method_86_code, 3, (some .int), [], 0, 0)
def sr_m11_cell : sr_M := (⟨"ShiftRingModel", "cell", "(II)I"⟩, prog_13_method_87_code, 2, (some .int), [], 0, 0)
def sr_m11_holds : sr_M := (⟨"ShiftRingModel", "holds", "(IIII)V"⟩, prog_13_method_89_code, 5, none, [], 1, 21)
def sr_m11_put : sr_M := (⟨"ShiftRingModel", "put", "(III)I"⟩, prog_13_method_90_code, 9, (some .int), [], 7, 170)
theorem fg_11_59 : sr_FG "ShiftRingModel" 59 11 35 53 := ⟨RX11, TX11, tyX11, rfl, by decide, rfl, uw_11, tyX11_ok, nmX11, Or.inl (sr_tb (n := 1418) (by decide +kernel) rfl)⟩
theorem fg_11_62 : sr_FG "ShiftRingModel" 62 11 36 53 := ⟨RX11, TX11, tyX11, rfl, by decide, rfl, uw_11, tyX11_ok, nmX11, Or.inl (sr_tb (n := 1419) (by decide +kernel) rfl)⟩
theorem fg_11_65 : sr_FG "ShiftRingModel" 65 11 37 53 := ⟨RX11, TX11, tyX11, rfl, by decide, rfl, uw_11, tyX11_ok, nmX11, Or.inl (sr_tb (n := 1420) (by decide +kernel) rfl)⟩
theorem fg_11_68 : sr_FG "ShiftRingModel" 68 11 38 53 := ⟨RX11, TX11, tyX11, rfl, by decide, rfl, uw_11, tyX11_ok, nmX11, Or.inl (sr_tb (n := 1421) (by decide +kernel) rfl)⟩
theorem fg_11_316 : sr_FG "ShiftRingModel" 316 11 33 53 := ⟨RX11, TX11, tyX11, rfl, by decide, rfl, uw_11, tyX11_ok, nmX11, Or.inl (sr_tb (n := 1416) (by decide +kernel) rfl)⟩
theorem fg_11_325 : sr_FG "ShiftRingModel" 325 11 34 53 := ⟨RX11, TX11, tyX11, rfl, by decide, rfl, uw_11, tyX11_ok, nmX11, Or.inl (sr_tb (n := 1417) (by decide +kernel) rfl)⟩
theorem ft_11_33 : sr_FT 11 33 53 0 false := ⟨RX11, TX11, rfl, rfl, (fun h => nomatch h), (show parseFieldDescriptor (TX11 33).2.2.1 = some .int from by decide +kernel)⟩
theorem ft_11_34 : sr_FT 11 34 53 0 false := ⟨RX11, TX11, rfl, rfl, (fun h => nomatch h), (show parseFieldDescriptor (TX11 34).2.2.1 = some .int from by decide +kernel)⟩
theorem fl_11_319 : Cond.methodLink "ShiftRingModel" 319 (sr_My sr_m11_cell) ∈ sr_TB := (sr_tb (n := 1884) (by decide +kernel) rfl)
theorem fm_11_319 : sr_FS "ShiftRingModel" 319 sr_m11_cell 2 := ⟨⟨rfl, sr_tb (n := 1886) (by decide +kernel) rfl, sr_tb (n := 12) (by decide +kernel) rfl, ⟨by decide, by decide, by decide +kernel⟩, Or.inl fl_11_319⟩, sr_tb (n := 1885) (by decide +kernel) rfl⟩
theorem fl_11_322 : Cond.methodLink "ShiftRingModel" 322 (sr_My sr_m11_knownAs) ∈ sr_TB := (sr_tb (n := 1876) (by decide +kernel) rfl)
theorem fm_11_322 : sr_FV "ShiftRingModel" 322 sr_m11_knownAs 11 1 := ⟨⟨rfl, sr_tb (n := 1879) (by decide +kernel) rfl, sr_tb (n := 12) (by decide +kernel) rfl, ⟨by decide, by decide, by decide +kernel⟩, Or.inl fl_11_322⟩, ⟨TX11, 53, rfl, rfl⟩, sr_tb (n := 1878) (by decide +kernel) rfl, sr_ts (n := 83) (by decide +kernel) rfl⟩
theorem fl_11_328 : Cond.methodLink "ShiftRingModel" 328 (sr_My sr_m11_holds) ∈ sr_TB := (sr_tb (n := 1880) (by decide +kernel) rfl)
theorem fm_11_328 : sr_FV "ShiftRingModel" 328 sr_m11_holds 11 4 := ⟨⟨rfl, sr_tb (n := 1883) (by decide +kernel) rfl, sr_tb (n := 12) (by decide +kernel) rfl, ⟨by decide, by decide, by decide +kernel⟩, Or.inl fl_11_328⟩, ⟨TX11, 53, rfl, rfl⟩, sr_tb (n := 1882) (by decide +kernel) rfl, sr_ts (n := 84) (by decide +kernel) rfl⟩
theorem rm_11_holds_11_cell : sr_RM sr_m11_holds sr_m11_cell := ⟨Nat.le_of_ble_eq_true rfl, Nat.le_of_ble_eq_true rfl⟩
theorem rm_11_put_11_holds : sr_RM sr_m11_put sr_m11_holds := ⟨Nat.le_of_ble_eq_true rfl, Nat.le_of_ble_eq_true rfl⟩
theorem rm_11_put_11_isIn : sr_RM sr_m11_put sr_m11_isIn := ⟨Nat.le_of_ble_eq_true rfl, Nat.le_of_ble_eq_true rfl⟩
theorem rm_11_put_11_isNode : sr_RM sr_m11_put sr_m11_isNode := ⟨Nat.le_of_ble_eq_true rfl, Nat.le_of_ble_eq_true rfl⟩
theorem rm_11_put_11_isPlace : sr_RM sr_m11_put sr_m11_isPlace := ⟨Nat.le_of_ble_eq_true rfl, Nat.le_of_ble_eq_true rfl⟩
theorem rm_11_put_11_knownAs : sr_RM sr_m11_put sr_m11_knownAs := ⟨Nat.le_of_ble_eq_true rfl, Nat.le_of_ble_eq_true rfl⟩
theorem rm_11_put_11_latestLook : sr_RM sr_m11_put sr_m11_latestLook := ⟨Nat.le_of_ble_eq_true rfl, Nat.le_of_ble_eq_true rfl⟩
theorem rm_11_put_11_tableOf : sr_RM sr_m11_put sr_m11_tableOf := ⟨Nat.le_of_ble_eq_true rfl, Nat.le_of_ble_eq_true rfl⟩
def f11_knownAs_2 (a0 : Int32) (k20 : Int32 → sr_t → sr_Rs) (k28 : sr_t → sr_Rs) : Nat → Int32 → sr_t → sr_Rs
  | 0 => fun _ _ => none
  | n + 1 => fun x2 t => (if (t.1 11 0 33) ≤ x2 then k28 t else (if x2 < 0 ∨ 32 ≤ x2.toNatClampNeg then none else (if (t.1 37 0 x2.toNatClampNeg) = a0 then k20 x2 t else (f11_knownAs_2 a0 k20 k28 n) (x2 + 1) t)))
theorem g11_knownAs_2 (l : Launch) (a0 : Int32)  (k20 : Int32 → sr_t → sr_Rs) (k28 : sr_t → sr_Rs) (hk20 : ∀ (x2 : Int32), ∀ (t : sr_t), sr_g l sr_m11_knownAs 20 [some (sr_r 11 0), some (sr_i a0), some (sr_i x2)] [] t (k20 x2 t) 0 0) (hk28 : ∀ (t : sr_t), sr_g l sr_m11_knownAs 28 [some (sr_r 11 0), some (sr_i a0), none] [] t (k28 t) 0 0) : ∀ (n : Nat) (x2 : Int32), ∀ (t : sr_t), sr_g l sr_m11_knownAs 2 [some (sr_r 11 0), some (sr_i a0), some (sr_i x2)] [] t (f11_knownAs_2 a0 k20 k28 n x2 t) 0 0 := by
  intro n
  induction n with
  | zero => intros; exact sr_Gn
  | succ n ih =>
    intro x2  t
    unfold f11_knownAs_2
    refine sr_iloadn (pc := 2) (n := 2) (by decide +kernel) rfl ?_
    refine sr_aloadn (pc := 3) (n := 0) (by decide +kernel) rfl ?_
    refine sr_gI (pc := 4) fg_11_316 (by decide +kernel) (sr_in11 _ (by omega)) (fun _ => rfl) ?_
    refine sr_icmp_ge (pc := 7) (off := 21) (tg := 28) (by decide +kernel) (by decide) (fun _ => ?_) (fun _ => ?_)
    · exact sr_wk (sr_mono (mc := 0) (ms := 0) (by omega) (by omega) (hk28 t)) ⟨rfl, ⟨rfl, trivial⟩⟩
    · refine sr_aloadn (pc := 10) (n := 0) (by decide +kernel) rfl ?_
      refine sr_gC (pc := 11) (i2 := 0) fg_11_59 (by decide +kernel) (sr_in11 _ (by omega)) (fun _ => rfl) ?_
      refine sr_iloadn (pc := 14) (n := 2) (by decide +kernel) rfl ?_
      refine sr_aI (pc := 15) (n := 32) rfl (by decide +kernel) (sr_in37 _ (by omega)) (fun _ _ => rfl) ?_
      refine sr_iloadn (pc := 16) (n := 1) (by decide +kernel) rfl ?_
      refine sr_icmp_ne (pc := 17) (off := 5) (tg := 22) (by decide +kernel) (by decide) (fun _ => ?_) (fun _ => ?_)
      · refine sr_iinc (pc := 22) (i := 2) (n := 1) (w := x2 + 1) (by decide +kernel) rfl rfl (by decide) rfl rfl ?_
        refine sr_goto (pc := 25) (off := (-23)) (tg := 2) (by decide +kernel) (by decide) ?_
        exact sr_wk (sr_mono (mc := 0) (ms := 0) (by omega) (by omega) (ih (x2 + 1) t)) ⟨rfl, ⟨rfl, ⟨rfl, trivial⟩⟩⟩
      · exact sr_wk (sr_mono (mc := 0) (ms := 0) (by omega) (by omega) (hk20 x2 t)) ⟨rfl, ⟨rfl, ⟨rfl, trivial⟩⟩⟩
def f11_knownAs_20 (a0 : Int32)  : Int32 → sr_t → sr_Rs := fun x2 t => (some (.inl (some (sr_i x2)), t))
theorem g11_knownAs_20 (l : Launch) (a0 : Int32)    : ∀ (x2 : Int32), ∀ (t : sr_t), sr_g l sr_m11_knownAs 20 [some (sr_r 11 0), some (sr_i a0), some (sr_i x2)] [] t (f11_knownAs_20 a0  x2 t) 0 0 := by
  intro x2  t
  unfold f11_knownAs_20
  refine sr_iloadn (pc := 20) (n := 2) (by decide +kernel) rfl ?_
  exact sr_iret (pc := 21) (by decide +kernel) rfl
def f11_knownAs_28 (a0 : Int32)  : sr_t → sr_Rs := fun  t => (some (.inl (some (sr_i ((-1)))), t))
theorem g11_knownAs_28 (l : Launch) (a0 : Int32)    : ∀ (t : sr_t), sr_g l sr_m11_knownAs 28 [some (sr_r 11 0), some (sr_i a0), none] [] t (f11_knownAs_28 a0   t) 0 0 := by
  intro t
  unfold f11_knownAs_28
  refine sr_iconst (pc := 28) (n := (-1)) (v := (-1)) (by decide +kernel) rfl ?_
  exact sr_iret (pc := 29) (by decide +kernel) rfl
def F11_knownAs (a0 : Int32) (t : sr_t) : sr_Rs := f11_knownAs_2 a0 (f11_knownAs_20 a0) (f11_knownAs_28 a0) sr_fu 0 t
theorem C11_knownAs (l : Launch) (a0 : Int32)  (t : sr_t) : sr_ct' l sr_m11_knownAs [sr_r 11 0, sr_i a0] t (F11_knownAs a0 t) 0 0 := by
  refine sr_T_of (L0 := [some (sr_r 11 0), some (sr_i a0), none]) rfl (by decide +kernel) (fun _ => rfl) (fun _ => Nat.le_of_ble_eq_true rfl) ?_
  unfold F11_knownAs
  refine sr_iconst (pc := 0) (n := 0) (v := 0) (by decide +kernel) rfl ?_
  refine sr_istoren (pc := 1) (n := 2) (by decide +kernel) (by decide) rfl rfl ?_
  exact sr_wk (sr_mono (mc := 0) (ms := 0) (by omega) (by omega) (g11_knownAs_2 l a0 (f11_knownAs_20 a0) (f11_knownAs_28 a0) (g11_knownAs_20 l a0) (g11_knownAs_28 l a0) sr_fu 0 t)) ⟨rfl, ⟨rfl, ⟨rfl, trivial⟩⟩⟩
def F11_cell (a0 : Int32) (a1 : Int32) (t : sr_t) : sr_Rs := (some (.inl (some (sr_i ((32 * a0) + a1))), t))
theorem C11_cell (l : Launch) (a0 : Int32) (a1 : Int32)  (t : sr_t) : sr_ct' l sr_m11_cell [sr_i a0, sr_i a1] t (F11_cell a0 a1 t) 0 0 := by
  refine sr_T_of (L0 := [some (sr_i a0), some (sr_i a1)]) rfl (by decide +kernel) (fun _ => rfl) (fun _ => Nat.le_of_ble_eq_true rfl) ?_
  unfold F11_cell
  refine sr_bipush (pc := 0) (n := 32) (v := 32) (by decide +kernel) (by decide) ?_
  refine sr_iloadn (pc := 2) (n := 0) (by decide +kernel) rfl ?_
  refine sr_imul (pc := 3) (by decide +kernel) ?_
  refine sr_iloadn (pc := 4) (n := 1) (by decide +kernel) rfl ?_
  refine sr_iadd (pc := 5) (by decide +kernel) ?_
  exact sr_iret (pc := 6) (by decide +kernel) rfl
def F11_holds (a0 : Int32) (a1 : Int32) (a2 : Int32) (a3 : Int32) (t : sr_t) : sr_Rs := (sr_bI (F11_cell a0 a1 t) (fun v1 t1 => (if v1 < 0 ∨ 768 ≤ v1.toNatClampNeg then none else sr_lt (sr_u t1 39 0 v1.toNatClampNeg a2) (fun t2 => (sr_bI (F11_cell a0 a1 t2) (fun v3 t3 => (if v3 < 0 ∨ 768 ≤ v3.toNatClampNeg then none else sr_lt (sr_u t3 40 0 v3.toNatClampNeg a3) (fun t4 => (some (.inl none, t4))))))))))
theorem C11_holds (l : Launch) (a0 : Int32) (a1 : Int32) (a2 : Int32) (a3 : Int32)  (t : sr_t) : sr_ct' l sr_m11_holds [sr_r 11 0, sr_i a0, sr_i a1, sr_i a2, sr_i a3] t (F11_holds a0 a1 a2 a3 t) 0 0 := by
  refine sr_T_of (L0 := [some (sr_r 11 0), some (sr_i a0), some (sr_i a1), some (sr_i a2), some (sr_i a3)]) rfl (by decide +kernel) (fun _ => rfl) (fun _ => Nat.le_of_ble_eq_true rfl) ?_
  unfold F11_holds
  refine sr_aloadn (pc := 0) (n := 0) (by decide +kernel) rfl ?_
  refine sr_gC (pc := 1) (i2 := 0) fg_11_65 (by decide +kernel) (sr_in11 _ (by omega)) (fun _ => rfl) ?_
  refine sr_iloadn (pc := 4) (n := 1) (by decide +kernel) rfl ?_
  refine sr_iloadn (pc := 5) (n := 2) (by decide +kernel) rfl ?_
  refine sr_cS (pc := 6) (As := [sr_i a0, sr_i a1]) (mc1 := 0) (ms1 := 0) (mc2 := 0) (ms2 := 0) fm_11_319 fl_11_319 (by decide +kernel) (rm_11_holds_11_cell) rfl rfl rfl (C11_cell l a0 a1 t) ?_
  refine sr_kI (fun v1 t1 => ?_)
  refine sr_iloadn (pc := 9) (n := 3) (by decide +kernel) rfl ?_
  refine sr_sI (pc := 10) (n := 768) rfl (by decide +kernel) (sr_in39 _ (by omega)) (fun _ _ => rfl) (fun t2 => ?_)
  refine sr_aloadn (pc := 11) (n := 0) (by decide +kernel) rfl ?_
  refine sr_gC (pc := 12) (i2 := 0) fg_11_68 (by decide +kernel) (sr_in11 _ (by omega)) (fun _ => rfl) ?_
  refine sr_iloadn (pc := 15) (n := 1) (by decide +kernel) rfl ?_
  refine sr_iloadn (pc := 16) (n := 2) (by decide +kernel) rfl ?_
  refine sr_cS (pc := 17) (As := [sr_i a0, sr_i a1]) (mc1 := 0) (ms1 := 0) (mc2 := 0) (ms2 := 0) fm_11_319 fl_11_319 (by decide +kernel) (rm_11_holds_11_cell) rfl rfl rfl (C11_cell l a0 a1 t2) ?_
  refine sr_kI (fun v3 t3 => ?_)
  refine sr_iload (pc := 20) (i := 4) (by decide +kernel) rfl ?_
  refine sr_sI (pc := 22) (n := 768) rfl (by decide +kernel) (sr_in40 _ (by omega)) (fun _ _ => rfl) (fun t4 => ?_)
  exact sr_ret (pc := 23) (by decide +kernel) rfl
def f11_put_250 (a0 : Int32) (a1 : Int32) (a2 : Int32) (k188 : Int32 → Int32 → Int32 → Int32 → sr_t → sr_Rs) (k256 : Int32 → sr_t → sr_Rs) : Int32 → Int32 → Int32 → Int32 → sr_t → sr_Rs := fun x4 x5 x6 x7 t => k188 x4 x5 x6 (x7 + 1) t
theorem g11_put_250 (l : Launch) (a0 : Int32) (a1 : Int32) (a2 : Int32)  (k188 : Int32 → Int32 → Int32 → Int32 → sr_t → sr_Rs) (k256 : Int32 → sr_t → sr_Rs) (hk188 : ∀ (x4 : Int32) (x5 : Int32) (x6 : Int32) (x7 : Int32), ∀ (t : sr_t), sr_g l sr_m11_put 188 [some (sr_r 11 0), some (sr_i a0), some (sr_i a1), some (sr_i a2), some (sr_i x4), some (sr_i x5), some (sr_i x6), some (sr_i x7), none] [] t (k188 x4 x5 x6 x7 t) 0 0) (hk256 : ∀ (x6 : Int32), ∀ (t : sr_t), sr_g l sr_m11_put 256 [some (sr_r 11 0), some (sr_i a0), some (sr_i a1), some (sr_i a2), none, none, some (sr_i x6), none, none] [] t (k256 x6 t) 0 0) : ∀ (x4 : Int32) (x5 : Int32) (x6 : Int32) (x7 : Int32), ∀ (t : sr_t), sr_g l sr_m11_put 250 [some (sr_r 11 0), some (sr_i a0), some (sr_i a1), some (sr_i a2), some (sr_i x4), some (sr_i x5), some (sr_i x6), some (sr_i x7), none] [] t (f11_put_250 a0 a1 a2 k188 k256 x4 x5 x6 x7 t) 0 0 := by
  intro x4 x5 x6 x7  t
  unfold f11_put_250
  refine sr_iinc (pc := 250) (i := 7) (n := 1) (w := x7 + 1) (by decide +kernel) rfl rfl (by decide) rfl rfl ?_
  refine sr_goto (pc := 253) (off := (-65)) (tg := 188) (by decide +kernel) (by decide) ?_
  exact sr_wk (sr_mono (mc := 0) (ms := 0) (by omega) (by omega) (hk188 x4 x5 x6 (x7 + 1) t)) ⟨rfl, ⟨rfl, ⟨rfl, ⟨rfl, ⟨rfl, ⟨rfl, ⟨rfl, ⟨rfl, trivial⟩⟩⟩⟩⟩⟩⟩⟩
def f11_put_188 (a0 : Int32) (a1 : Int32) (a2 : Int32) (k256 : Int32 → sr_t → sr_Rs) : Nat → Int32 → Int32 → Int32 → Int32 → sr_t → sr_Rs
  | 0 => fun _ _ _ _ _ => none
  | n + 1 => fun x4 x5 x6 x7 t => (sr_bI (F11_tableOf x4 1 t) (fun v1 t1 => (if v1 ≤ x7 then k256 x6 t1 else (if (t1.1 11 0 9) ≤ x6 then k256 x6 t1 else (sr_bI (F11_tableOf x4 (2 + x7) t1) (fun v2 t2 => (if v2 < 0 ∨ 24 ≤ v2.toNatClampNeg then none else (if (t2.1 25 0 v2.toNatClampNeg) = 0 then f11_put_250 a0 a1 a2 (f11_put_188 a0 a1 a2 k256 n) k256 x4 x5 x6 x7 t2 else (sr_bV (F11_holds v2 x5 a2 (t2.1 11 0 34) t2) (fun t3 => f11_put_250 a0 a1 a2 (f11_put_188 a0 a1 a2 k256 n) k256 x4 x5 (x6 + 1) x7 t3))))))))))
theorem g11_put_188 (l : Launch) (a0 : Int32) (a1 : Int32) (a2 : Int32)  (k256 : Int32 → sr_t → sr_Rs) (hk256 : ∀ (x6 : Int32), ∀ (t : sr_t), sr_g l sr_m11_put 256 [some (sr_r 11 0), some (sr_i a0), some (sr_i a1), some (sr_i a2), none, none, some (sr_i x6), none, none] [] t (k256 x6 t) 0 0) : ∀ (n : Nat) (x4 : Int32) (x5 : Int32) (x6 : Int32) (x7 : Int32), ∀ (t : sr_t), sr_g l sr_m11_put 188 [some (sr_r 11 0), some (sr_i a0), some (sr_i a1), some (sr_i a2), some (sr_i x4), some (sr_i x5), some (sr_i x6), some (sr_i x7), none] [] t (f11_put_188 a0 a1 a2 k256 n x4 x5 x6 x7 t) 0 0 := by
  intro n
  induction n with
  | zero => intros; exact sr_Gn
  | succ n ih =>
    intro x4 x5 x6 x7  t
    unfold f11_put_188
    refine sr_iload (pc := 188) (i := 7) (by decide +kernel) rfl ?_
    refine sr_aloadn (pc := 190) (n := 0) (by decide +kernel) rfl ?_
    refine sr_iload (pc := 191) (i := 4) (by decide +kernel) rfl ?_
    refine sr_iconst (pc := 193) (n := 1) (v := 1) (by decide +kernel) rfl ?_
    refine sr_cV (pc := 194) (As := [sr_i x4, sr_i 1]) (mc1 := 0) (ms1 := 0) (mc2 := 0) (ms2 := 0) fm_11_123 fl_11_123 (by decide +kernel) (sr_in11 _ (by omega)) (rm_11_put_11_tableOf) rfl rfl rfl (C11_tableOf l x4 1 t) ?_
    refine sr_kI (fun v1 t1 => ?_)
    refine sr_icmp_ge (pc := 197) (off := 59) (tg := 256) (by decide +kernel) (by decide) (fun _ => ?_) (fun _ => ?_)
    · exact sr_wk (sr_mono (mc := 0) (ms := 0) (by omega) (by omega) (hk256 x6 t1)) ⟨rfl, ⟨rfl, ⟨rfl, ⟨rfl, ⟨rfl, trivial⟩⟩⟩⟩⟩
    · refine sr_iload (pc := 200) (i := 6) (by decide +kernel) rfl ?_
      refine sr_aloadn (pc := 202) (n := 0) (by decide +kernel) rfl ?_
      refine sr_gI (pc := 203) fg_11_32 (by decide +kernel) (sr_in11 _ (by omega)) (fun _ => rfl) ?_
      refine sr_icmp_ge (pc := 206) (off := 50) (tg := 256) (by decide +kernel) (by decide) (fun _ => ?_) (fun _ => ?_)
      · exact sr_wk (sr_mono (mc := 0) (ms := 0) (by omega) (by omega) (hk256 x6 t1)) ⟨rfl, ⟨rfl, ⟨rfl, ⟨rfl, ⟨rfl, trivial⟩⟩⟩⟩⟩
      · refine sr_aloadn (pc := 209) (n := 0) (by decide +kernel) rfl ?_
        refine sr_iload (pc := 210) (i := 4) (by decide +kernel) rfl ?_
        refine sr_iconst (pc := 212) (n := 2) (v := 2) (by decide +kernel) rfl ?_
        refine sr_iload (pc := 213) (i := 7) (by decide +kernel) rfl ?_
        refine sr_iadd (pc := 215) (by decide +kernel) ?_
        refine sr_cV (pc := 216) (As := [sr_i x4, sr_i (2 + x7)]) (mc1 := 0) (ms1 := 0) (mc2 := 0) (ms2 := 0) fm_11_123 fl_11_123 (by decide +kernel) (sr_in11 _ (by omega)) (rm_11_put_11_tableOf) rfl rfl rfl (C11_tableOf l x4 (2 + x7) t1) ?_
        refine sr_kI (fun v2 t2 => ?_)
        refine sr_istore (pc := 219) (i := 8) (by decide +kernel) (by decide) rfl rfl ?_
        refine sr_aloadn (pc := 221) (n := 0) (by decide +kernel) rfl ?_
        refine sr_gC (pc := 222) (i2 := 0) fg_11_13 (by decide +kernel) (sr_in11 _ (by omega)) (fun _ => rfl) ?_
        refine sr_iload (pc := 225) (i := 8) (by decide +kernel) rfl ?_
        refine sr_aI (pc := 227) (n := 24) rfl (by decide +kernel) (sr_in25 _ (by omega)) (fun _ _ => rfl) ?_
        refine sr_if_ne (pc := 228) (off := 6) (tg := 234) (by decide +kernel) (by decide) (fun _ => ?_) (fun _ => ?_)
        · refine sr_aloadn (pc := 234) (n := 0) (by decide +kernel) rfl ?_
          refine sr_iload (pc := 235) (i := 8) (by decide +kernel) rfl ?_
          refine sr_iload (pc := 237) (i := 5) (by decide +kernel) rfl ?_
          refine sr_iloadn (pc := 239) (n := 3) (by decide +kernel) rfl ?_
          refine sr_aloadn (pc := 240) (n := 0) (by decide +kernel) rfl ?_
          refine sr_gI (pc := 241) fg_11_325 (by decide +kernel) (sr_in11 _ (by omega)) (fun _ => rfl) ?_
          refine sr_cV (pc := 244) (As := [sr_i v2, sr_i x5, sr_i a2, sr_i (t2.1 11 0 34)]) (mc1 := 0) (ms1 := 0) (mc2 := 0) (ms2 := 0) fm_11_328 fl_11_328 (by decide +kernel) (sr_in11 _ (by omega)) (rm_11_put_11_holds) rfl rfl rfl (C11_holds l v2 x5 a2 (t2.1 11 0 34) t2) ?_
          refine sr_kV (fun t3 => ?_)
          refine sr_iinc (pc := 247) (i := 6) (n := 1) (w := x6 + 1) (by decide +kernel) rfl rfl (by decide) rfl rfl ?_
          exact sr_wk (sr_mono (mc := 0) (ms := 0) (by omega) (by omega) (g11_put_250 l a0 a1 a2 (f11_put_188 a0 a1 a2 k256 n) k256 ih hk256 x4 x5 (x6 + 1) x7 t3)) ⟨rfl, ⟨rfl, ⟨rfl, ⟨rfl, ⟨rfl, ⟨rfl, ⟨rfl, ⟨rfl, trivial⟩⟩⟩⟩⟩⟩⟩⟩
        · refine sr_goto (pc := 231) (off := 19) (tg := 250) (by decide +kernel) (by decide) ?_
          exact sr_wk (sr_mono (mc := 0) (ms := 0) (by omega) (by omega) (g11_put_250 l a0 a1 a2 (f11_put_188 a0 a1 a2 k256 n) k256 ih hk256 x4 x5 x6 x7 t2)) ⟨rfl, ⟨rfl, ⟨rfl, ⟨rfl, ⟨rfl, ⟨rfl, ⟨rfl, ⟨rfl, trivial⟩⟩⟩⟩⟩⟩⟩⟩
def f11_put_256 (a0 : Int32) (a1 : Int32) (a2 : Int32)  : Int32 → sr_t → sr_Rs := fun x6 t => (some (.inl (some (sr_i x6)), t))
theorem g11_put_256 (l : Launch) (a0 : Int32) (a1 : Int32) (a2 : Int32)    : ∀ (x6 : Int32), ∀ (t : sr_t), sr_g l sr_m11_put 256 [some (sr_r 11 0), some (sr_i a0), some (sr_i a1), some (sr_i a2), none, none, some (sr_i x6), none, none] [] t (f11_put_256 a0 a1 a2  x6 t) 0 0 := by
  intro x6  t
  unfold f11_put_256
  refine sr_iload (pc := 256) (i := 6) (by decide +kernel) rfl ?_
  exact sr_iret (pc := 258) (by decide +kernel) rfl
def f11_put_148 (a0 : Int32) (a1 : Int32) (a2 : Int32)  : Int32 → Int32 → sr_t → sr_Rs := fun x4 x5 t => (sr_lt (sr_u t 11 0 34 ((t.1 11 0 34) + 1)) (fun t1 => (if x5 < 0 ∨ 32 ≤ x5.toNatClampNeg then none else sr_lt (sr_u t1 38 0 x5.toNatClampNeg (t1.1 11 0 34)) (fun t2 => (sr_bV (F11_holds x4 x5 a2 (t2.1 11 0 34) t2) (fun t3 => f11_put_188 a0 a1 a2 (f11_put_256 a0 a1 a2) sr_fu x4 x5 1 0 t3))))))
theorem g11_put_148 (l : Launch) (a0 : Int32) (a1 : Int32) (a2 : Int32)    : ∀ (x4 : Int32) (x5 : Int32), ∀ (t : sr_t), sr_g l sr_m11_put 148 [some (sr_r 11 0), some (sr_i a0), some (sr_i a1), some (sr_i a2), some (sr_i x4), some (sr_i x5), none, none, none] [] t (f11_put_148 a0 a1 a2  x4 x5 t) 0 0 := by
  intro x4 x5  t
  unfold f11_put_148
  refine sr_aloadn (pc := 148) (n := 0) (by decide +kernel) rfl ?_
  refine sr_dup (pc := 149) (by decide +kernel) rfl ?_
  refine sr_gI (pc := 150) fg_11_325 (by decide +kernel) (sr_in11 _ (by omega)) (fun _ => rfl) ?_
  refine sr_iconst (pc := 153) (n := 1) (v := 1) (by decide +kernel) rfl ?_
  refine sr_iadd (pc := 154) (by decide +kernel) ?_
  refine sr_pI (pc := 155) fg_11_325 ft_11_34 (by decide +kernel) (sr_in11 _ (by omega)) (fun _ => rfl) (fun t1 => ?_)
  refine sr_aloadn (pc := 158) (n := 0) (by decide +kernel) rfl ?_
  refine sr_gC (pc := 159) (i2 := 0) fg_11_62 (by decide +kernel) (sr_in11 _ (by omega)) (fun _ => rfl) ?_
  refine sr_iload (pc := 162) (i := 5) (by decide +kernel) rfl ?_
  refine sr_aloadn (pc := 164) (n := 0) (by decide +kernel) rfl ?_
  refine sr_gI (pc := 165) fg_11_325 (by decide +kernel) (sr_in11 _ (by omega)) (fun _ => rfl) ?_
  refine sr_sI (pc := 168) (n := 32) rfl (by decide +kernel) (sr_in38 _ (by omega)) (fun _ _ => rfl) (fun t2 => ?_)
  refine sr_aloadn (pc := 169) (n := 0) (by decide +kernel) rfl ?_
  refine sr_iload (pc := 170) (i := 4) (by decide +kernel) rfl ?_
  refine sr_iload (pc := 172) (i := 5) (by decide +kernel) rfl ?_
  refine sr_iloadn (pc := 174) (n := 3) (by decide +kernel) rfl ?_
  refine sr_aloadn (pc := 175) (n := 0) (by decide +kernel) rfl ?_
  refine sr_gI (pc := 176) fg_11_325 (by decide +kernel) (sr_in11 _ (by omega)) (fun _ => rfl) ?_
  refine sr_cV (pc := 179) (As := [sr_i x4, sr_i x5, sr_i a2, sr_i (t2.1 11 0 34)]) (mc1 := 0) (ms1 := 0) (mc2 := 0) (ms2 := 0) fm_11_328 fl_11_328 (by decide +kernel) (sr_in11 _ (by omega)) (rm_11_put_11_holds) rfl rfl rfl (C11_holds l x4 x5 a2 (t2.1 11 0 34) t2) ?_
  refine sr_kV (fun t3 => ?_)
  refine sr_iconst (pc := 182) (n := 1) (v := 1) (by decide +kernel) rfl ?_
  refine sr_istore (pc := 183) (i := 6) (by decide +kernel) (by decide) rfl rfl ?_
  refine sr_iconst (pc := 185) (n := 0) (v := 0) (by decide +kernel) rfl ?_
  refine sr_istore (pc := 186) (i := 7) (by decide +kernel) (by decide) rfl rfl ?_
  exact sr_wk (sr_mono (mc := 0) (ms := 0) (by omega) (by omega) (g11_put_188 l a0 a1 a2 (f11_put_256 a0 a1 a2) (g11_put_256 l a0 a1 a2) sr_fu x4 x5 1 0 t3)) ⟨rfl, ⟨rfl, ⟨rfl, ⟨rfl, ⟨rfl, ⟨rfl, ⟨rfl, ⟨rfl, trivial⟩⟩⟩⟩⟩⟩⟩⟩
def f11_put_99 (a0 : Int32) (a1 : Int32) (a2 : Int32)  : Int32 → Int32 → sr_t → sr_Rs := fun x4 xs0 t => (sr_lt (sr_u t 11 0 0 xs0) (fun t1 => (if (t1.1 11 0 0) ≤ 0 then (sr_bI (F11_knownAs a1 t1) (fun v2 t2 => (if v2 = ((-1)) then (if t2.1 11 0 33 < 0 ∨ 32 ≤ (t2.1 11 0 33).toNatClampNeg then none else sr_lt (sr_u t2 37 0 (t2.1 11 0 33).toNatClampNeg a1) (fun t3 => (sr_lt (sr_u t3 11 0 33 ((t3.1 11 0 33) + 1)) (fun t4 => f11_put_148 a0 a1 a2 x4 (t2.1 11 0 33) t4)))) else f11_put_148 a0 a1 a2 x4 v2 t2))) else (some (.inl (some (sr_i 0)), t1)))))
theorem g11_put_99 (l : Launch) (a0 : Int32) (a1 : Int32) (a2 : Int32)    : ∀ (x4 : Int32) (xs0 : Int32), ∀ (t : sr_t), sr_g l sr_m11_put 99 [some (sr_r 11 0), some (sr_i a0), some (sr_i a1), some (sr_i a2), some (sr_i x4), none, none, none, none] [sr_i xs0, sr_r 11 0] t (f11_put_99 a0 a1 a2  x4 xs0 t) 0 0 := by
  intro x4 xs0  t
  unfold f11_put_99
  refine sr_pI (pc := 99) fg_11_93 ft_11_0 (by decide +kernel) (sr_in11 _ (by omega)) (fun _ => rfl) (fun t1 => ?_)
  refine sr_aloadn (pc := 102) (n := 0) (by decide +kernel) rfl ?_
  refine sr_gI (pc := 103) fg_11_93 (by decide +kernel) (sr_in11 _ (by omega)) (fun _ => rfl) ?_
  refine sr_if_le (pc := 106) (off := 5) (tg := 111) (by decide +kernel) (by decide) (fun _ => ?_) (fun _ => ?_)
  · refine sr_aloadn (pc := 111) (n := 0) (by decide +kernel) rfl ?_
    refine sr_iloadn (pc := 112) (n := 2) (by decide +kernel) rfl ?_
    refine sr_cV (pc := 113) (As := [sr_i a1]) (mc1 := 0) (ms1 := 0) (mc2 := 0) (ms2 := 0) fm_11_322 fl_11_322 (by decide +kernel) (sr_in11 _ (by omega)) (rm_11_put_11_knownAs) rfl rfl rfl (C11_knownAs l a1 t1) ?_
    refine sr_kI (fun v2 t2 => ?_)
    refine sr_istore (pc := 116) (i := 5) (by decide +kernel) (by decide) rfl rfl ?_
    refine sr_iload (pc := 118) (i := 5) (by decide +kernel) rfl ?_
    refine sr_iconst (pc := 120) (n := (-1)) (v := (-1)) (by decide +kernel) rfl ?_
    refine sr_icmp_ne (pc := 121) (off := 27) (tg := 148) (by decide +kernel) (by decide) (fun _ => ?_) (fun _ => ?_)
    · exact sr_wk (sr_mono (mc := 0) (ms := 0) (by omega) (by omega) (g11_put_148 l a0 a1 a2 x4 v2 t2)) ⟨rfl, ⟨rfl, ⟨rfl, ⟨rfl, ⟨rfl, ⟨rfl, trivial⟩⟩⟩⟩⟩⟩
    · refine sr_aloadn (pc := 124) (n := 0) (by decide +kernel) rfl ?_
      refine sr_gI (pc := 125) fg_11_316 (by decide +kernel) (sr_in11 _ (by omega)) (fun _ => rfl) ?_
      refine sr_istore (pc := 128) (i := 5) (by decide +kernel) (by decide) rfl rfl ?_
      refine sr_aloadn (pc := 130) (n := 0) (by decide +kernel) rfl ?_
      refine sr_gC (pc := 131) (i2 := 0) fg_11_59 (by decide +kernel) (sr_in11 _ (by omega)) (fun _ => rfl) ?_
      refine sr_iload (pc := 134) (i := 5) (by decide +kernel) rfl ?_
      refine sr_iloadn (pc := 136) (n := 2) (by decide +kernel) rfl ?_
      refine sr_sI (pc := 137) (n := 32) rfl (by decide +kernel) (sr_in37 _ (by omega)) (fun _ _ => rfl) (fun t3 => ?_)
      refine sr_aloadn (pc := 138) (n := 0) (by decide +kernel) rfl ?_
      refine sr_dup (pc := 139) (by decide +kernel) rfl ?_
      refine sr_gI (pc := 140) fg_11_316 (by decide +kernel) (sr_in11 _ (by omega)) (fun _ => rfl) ?_
      refine sr_iconst (pc := 143) (n := 1) (v := 1) (by decide +kernel) rfl ?_
      refine sr_iadd (pc := 144) (by decide +kernel) ?_
      refine sr_pI (pc := 145) fg_11_316 ft_11_33 (by decide +kernel) (sr_in11 _ (by omega)) (fun _ => rfl) (fun t4 => ?_)
      exact sr_wk (sr_mono (mc := 0) (ms := 0) (by omega) (by omega) (g11_put_148 l a0 a1 a2 x4 (t2.1 11 0 33) t4)) ⟨rfl, ⟨rfl, ⟨rfl, ⟨rfl, ⟨rfl, ⟨rfl, trivial⟩⟩⟩⟩⟩⟩
  · refine sr_iconst (pc := 109) (n := 0) (v := 0) (by decide +kernel) rfl ?_
    exact sr_iret (pc := 110) (by decide +kernel) rfl
def f11_put_67 (a0 : Int32) (a1 : Int32) (a2 : Int32)  : Int32 → sr_t → sr_Rs := fun xs0 t => (sr_lt (sr_u t 11 0 0 xs0) (fun t1 => (if (t1.1 11 0 0) ≤ 0 then (sr_bI (F11_latestLook a0 a1 1 t1) (fun v2 t2 => (if 0 ≤ v2 then f11_put_99 a0 a1 a2 v2 0 t2 else f11_put_99 a0 a1 a2 v2 3 t2))) else (some (.inl (some (sr_i 0)), t1)))))
theorem g11_put_67 (l : Launch) (a0 : Int32) (a1 : Int32) (a2 : Int32)    : ∀ (xs0 : Int32), ∀ (t : sr_t), sr_g l sr_m11_put 67 [some (sr_r 11 0), some (sr_i a0), some (sr_i a1), some (sr_i a2), none, none, none, none, none] [sr_i xs0, sr_r 11 0] t (f11_put_67 a0 a1 a2  xs0 t) 0 0 := by
  intro xs0  t
  unfold f11_put_67
  refine sr_pI (pc := 67) fg_11_93 ft_11_0 (by decide +kernel) (sr_in11 _ (by omega)) (fun _ => rfl) (fun t1 => ?_)
  refine sr_aloadn (pc := 70) (n := 0) (by decide +kernel) rfl ?_
  refine sr_gI (pc := 71) fg_11_93 (by decide +kernel) (sr_in11 _ (by omega)) (fun _ => rfl) ?_
  refine sr_if_le (pc := 74) (off := 5) (tg := 79) (by decide +kernel) (by decide) (fun _ => ?_) (fun _ => ?_)
  · refine sr_aloadn (pc := 79) (n := 0) (by decide +kernel) rfl ?_
    refine sr_iloadn (pc := 80) (n := 1) (by decide +kernel) rfl ?_
    refine sr_iloadn (pc := 81) (n := 2) (by decide +kernel) rfl ?_
    refine sr_iconst (pc := 82) (n := 1) (v := 1) (by decide +kernel) rfl ?_
    refine sr_cV (pc := 83) (As := [sr_i a0, sr_i a1, sr_i 1]) (mc1 := 0) (ms1 := 0) (mc2 := 0) (ms2 := 0) fm_11_237 fl_11_237 (by decide +kernel) (sr_in11 _ (by omega)) (rm_11_put_11_latestLook) rfl rfl rfl (C11_latestLook l a0 a1 1 t1) ?_
    refine sr_kI (fun v2 t2 => ?_)
    refine sr_istore (pc := 86) (i := 4) (by decide +kernel) (by decide) rfl rfl ?_
    refine sr_aloadn (pc := 88) (n := 0) (by decide +kernel) rfl ?_
    refine sr_iload (pc := 89) (i := 4) (by decide +kernel) rfl ?_
    refine sr_if_ge (pc := 91) (off := 7) (tg := 98) (by decide +kernel) (by decide) (fun _ => ?_) (fun _ => ?_)
    · refine sr_iconst (pc := 98) (n := 0) (v := 0) (by decide +kernel) rfl ?_
      exact sr_wk (sr_mono (mc := 0) (ms := 0) (by omega) (by omega) (g11_put_99 l a0 a1 a2 v2 0 t2)) ⟨rfl, ⟨rfl, ⟨rfl, ⟨rfl, ⟨rfl, trivial⟩⟩⟩⟩⟩
    · refine sr_iconst (pc := 94) (n := 3) (v := 3) (by decide +kernel) rfl ?_
      refine sr_goto (pc := 95) (off := 4) (tg := 99) (by decide +kernel) (by decide) ?_
      exact sr_wk (sr_mono (mc := 0) (ms := 0) (by omega) (by omega) (g11_put_99 l a0 a1 a2 v2 3 t2)) ⟨rfl, ⟨rfl, ⟨rfl, ⟨rfl, ⟨rfl, trivial⟩⟩⟩⟩⟩
  · refine sr_iconst (pc := 77) (n := 0) (v := 0) (by decide +kernel) rfl ?_
    exact sr_iret (pc := 78) (by decide +kernel) rfl
def f11_put_31 (a0 : Int32) (a1 : Int32) (a2 : Int32)  : sr_t → sr_Rs := fun  t => f11_put_67 a0 a1 a2 2 t
theorem g11_put_31 (l : Launch) (a0 : Int32) (a1 : Int32) (a2 : Int32)    : ∀ (t : sr_t), sr_g l sr_m11_put 31 [some (sr_r 11 0), some (sr_i a0), some (sr_i a1), some (sr_i a2), none, none, none, none, none] [sr_r 11 0] t (f11_put_31 a0 a1 a2   t) 0 0 := by
  intro t
  unfold f11_put_31
  refine sr_iconst (pc := 31) (n := 2) (v := 2) (by decide +kernel) rfl ?_
  refine sr_goto (pc := 32) (off := 35) (tg := 67) (by decide +kernel) (by decide) ?_
  exact sr_wk (sr_mono (mc := 0) (ms := 0) (by omega) (by omega) (g11_put_67 l a0 a1 a2 2 t)) ⟨rfl, ⟨rfl, ⟨rfl, ⟨rfl, trivial⟩⟩⟩⟩
def f11_put_62 (a0 : Int32) (a1 : Int32) (a2 : Int32)  : sr_t → sr_Rs := fun  t => f11_put_67 a0 a1 a2 3 t
theorem g11_put_62 (l : Launch) (a0 : Int32) (a1 : Int32) (a2 : Int32)    : ∀ (t : sr_t), sr_g l sr_m11_put 62 [some (sr_r 11 0), some (sr_i a0), some (sr_i a1), some (sr_i a2), none, none, none, none, none] [sr_r 11 0] t (f11_put_62 a0 a1 a2   t) 0 0 := by
  intro t
  unfold f11_put_62
  refine sr_iconst (pc := 62) (n := 3) (v := 3) (by decide +kernel) rfl ?_
  refine sr_goto (pc := 63) (off := 4) (tg := 67) (by decide +kernel) (by decide) ?_
  exact sr_wk (sr_mono (mc := 0) (ms := 0) (by omega) (by omega) (g11_put_67 l a0 a1 a2 3 t)) ⟨rfl, ⟨rfl, ⟨rfl, ⟨rfl, trivial⟩⟩⟩⟩
def f11_put_66 (a0 : Int32) (a1 : Int32) (a2 : Int32)  : sr_t → sr_Rs := fun  t => f11_put_67 a0 a1 a2 0 t
theorem g11_put_66 (l : Launch) (a0 : Int32) (a1 : Int32) (a2 : Int32)    : ∀ (t : sr_t), sr_g l sr_m11_put 66 [some (sr_r 11 0), some (sr_i a0), some (sr_i a1), some (sr_i a2), none, none, none, none, none] [sr_r 11 0] t (f11_put_66 a0 a1 a2   t) 0 0 := by
  intro t
  unfold f11_put_66
  refine sr_iconst (pc := 66) (n := 0) (v := 0) (by decide +kernel) rfl ?_
  exact sr_wk (sr_mono (mc := 0) (ms := 0) (by omega) (by omega) (g11_put_67 l a0 a1 a2 0 t)) ⟨rfl, ⟨rfl, ⟨rfl, ⟨rfl, trivial⟩⟩⟩⟩
def F11_put (a0 : Int32) (a1 : Int32) (a2 : Int32) (t : sr_t) : sr_Rs := (sr_bI (F11_isNode a0 t) (fun v1 t1 => (if v1 = 0 then f11_put_67 a0 a1 a2 1 t1 else (sr_bI (F11_isPlace a1 t1) (fun v2 t2 => (if v2 = 0 then f11_put_31 a0 a1 a2 t2 else (sr_bI (F11_isIn a2 0 999 t2) (fun v3 t3 => (if v3 = 0 then f11_put_31 a0 a1 a2 t3 else (if a0 < 0 ∨ 24 ≤ a0.toNatClampNeg then none else (if (t3.1 25 0 a0.toNatClampNeg) = 0 then f11_put_62 a0 a1 a2 t3 else (sr_bI (F11_knownAs a1 t3) (fun v4 t4 => (if v4 = ((-1)) then (if (t4.1 11 0 33) = 32 then f11_put_62 a0 a1 a2 t4 else f11_put_66 a0 a1 a2 t4) else f11_put_66 a0 a1 a2 t4))))))))))))))
theorem C11_put (l : Launch) (a0 : Int32) (a1 : Int32) (a2 : Int32)  (t : sr_t) : sr_ct' l sr_m11_put [sr_r 11 0, sr_i a0, sr_i a1, sr_i a2] t (F11_put a0 a1 a2 t) 0 0 := by
  refine sr_T_of (L0 := [some (sr_r 11 0), some (sr_i a0), some (sr_i a1), some (sr_i a2), none, none, none, none, none]) rfl (by decide +kernel) (fun _ => rfl) (fun _ => Nat.le_of_ble_eq_true rfl) ?_
  unfold F11_put
  refine sr_aloadn (pc := 0) (n := 0) (by decide +kernel) rfl ?_
  refine sr_aloadn (pc := 1) (n := 0) (by decide +kernel) rfl ?_
  refine sr_iloadn (pc := 2) (n := 1) (by decide +kernel) rfl ?_
  refine sr_cV (pc := 3) (As := [sr_i a0]) (mc1 := 0) (ms1 := 0) (mc2 := 0) (ms2 := 0) fm_11_141 fl_11_141 (by decide +kernel) (sr_in11 _ (by omega)) (rm_11_put_11_isNode) rfl rfl rfl (C11_isNode l a0 t) ?_
  refine sr_kI (fun v1 t1 => ?_)
  refine sr_if_ne (pc := 6) (off := 7) (tg := 13) (by decide +kernel) (by decide) (fun _ => ?_) (fun _ => ?_)
  · refine sr_iloadn (pc := 13) (n := 2) (by decide +kernel) rfl ?_
    refine sr_cS (pc := 14) (As := [sr_i a1]) (mc1 := 0) (ms1 := 0) (mc2 := 0) (ms2 := 0) fm_11_133 fl_11_133 (by decide +kernel) (rm_11_put_11_isPlace) rfl rfl rfl (C11_isPlace l a1 t1) ?_
    refine sr_kI (fun v2 t2 => ?_)
    refine sr_if_eq (pc := 17) (off := 14) (tg := 31) (by decide +kernel) (by decide) (fun _ => ?_) (fun _ => ?_)
    · exact sr_wk (sr_mono (mc := 0) (ms := 0) (by omega) (by omega) (g11_put_31 l a0 a1 a2 t2)) ⟨rfl, ⟨rfl, ⟨rfl, ⟨rfl, trivial⟩⟩⟩⟩
    · refine sr_iloadn (pc := 20) (n := 3) (by decide +kernel) rfl ?_
      refine sr_iconst (pc := 21) (n := 0) (v := 0) (by decide +kernel) rfl ?_
      refine sr_sipush (pc := 22) (n := 999) (v := 999) (by decide +kernel) (by decide) ?_
      refine sr_cS (pc := 25) (As := [sr_i a2, sr_i 0, sr_i 999]) (mc1 := 0) (ms1 := 0) (mc2 := 0) (ms2 := 0) fm_11_96 fl_11_96 (by decide +kernel) (rm_11_put_11_isIn) rfl rfl rfl (C11_isIn l a2 0 999 t2) ?_
      refine sr_kI (fun v3 t3 => ?_)
      refine sr_if_ne (pc := 28) (off := 7) (tg := 35) (by decide +kernel) (by decide) (fun _ => ?_) (fun _ => ?_)
      · refine sr_aloadn (pc := 35) (n := 0) (by decide +kernel) rfl ?_
        refine sr_gC (pc := 36) (i2 := 0) fg_11_13 (by decide +kernel) (sr_in11 _ (by omega)) (fun _ => rfl) ?_
        refine sr_iloadn (pc := 39) (n := 1) (by decide +kernel) rfl ?_
        refine sr_aI (pc := 40) (n := 24) rfl (by decide +kernel) (sr_in25 _ (by omega)) (fun _ _ => rfl) ?_
        refine sr_if_eq (pc := 41) (off := 21) (tg := 62) (by decide +kernel) (by decide) (fun _ => ?_) (fun _ => ?_)
        · exact sr_wk (sr_mono (mc := 0) (ms := 0) (by omega) (by omega) (g11_put_62 l a0 a1 a2 t3)) ⟨rfl, ⟨rfl, ⟨rfl, ⟨rfl, trivial⟩⟩⟩⟩
        · refine sr_aloadn (pc := 44) (n := 0) (by decide +kernel) rfl ?_
          refine sr_iloadn (pc := 45) (n := 2) (by decide +kernel) rfl ?_
          refine sr_cV (pc := 46) (As := [sr_i a1]) (mc1 := 0) (ms1 := 0) (mc2 := 0) (ms2 := 0) fm_11_322 fl_11_322 (by decide +kernel) (sr_in11 _ (by omega)) (rm_11_put_11_knownAs) rfl rfl rfl (C11_knownAs l a1 t3) ?_
          refine sr_kI (fun v4 t4 => ?_)
          refine sr_iconst (pc := 49) (n := (-1)) (v := (-1)) (by decide +kernel) rfl ?_
          refine sr_icmp_ne (pc := 50) (off := 16) (tg := 66) (by decide +kernel) (by decide) (fun _ => ?_) (fun _ => ?_)
          · exact sr_wk (sr_mono (mc := 0) (ms := 0) (by omega) (by omega) (g11_put_66 l a0 a1 a2 t4)) ⟨rfl, ⟨rfl, ⟨rfl, ⟨rfl, trivial⟩⟩⟩⟩
          · refine sr_aloadn (pc := 53) (n := 0) (by decide +kernel) rfl ?_
            refine sr_gI (pc := 54) fg_11_316 (by decide +kernel) (sr_in11 _ (by omega)) (fun _ => rfl) ?_
            refine sr_bipush (pc := 57) (n := 32) (v := 32) (by decide +kernel) (by decide) ?_
            refine sr_icmp_ne (pc := 59) (off := 7) (tg := 66) (by decide +kernel) (by decide) (fun _ => ?_) (fun _ => ?_)
            · exact sr_wk (sr_mono (mc := 0) (ms := 0) (by omega) (by omega) (g11_put_66 l a0 a1 a2 t4)) ⟨rfl, ⟨rfl, ⟨rfl, ⟨rfl, trivial⟩⟩⟩⟩
            · exact sr_wk (sr_mono (mc := 0) (ms := 0) (by omega) (by omega) (g11_put_62 l a0 a1 a2 t4)) ⟨rfl, ⟨rfl, ⟨rfl, ⟨rfl, trivial⟩⟩⟩⟩
      · exact sr_wk (sr_mono (mc := 0) (ms := 0) (by omega) (by omega) (g11_put_31 l a0 a1 a2 t3)) ⟨rfl, ⟨rfl, ⟨rfl, ⟨rfl, trivial⟩⟩⟩⟩
  · refine sr_iconst (pc := 9) (n := 1) (v := 1) (by decide +kernel) rfl ?_
    refine sr_goto (pc := 10) (off := 57) (tg := 67) (by decide +kernel) (by decide) ?_
    exact sr_wk (sr_mono (mc := 0) (ms := 0) (by omega) (by omega) (g11_put_67 l a0 a1 a2 1 t1)) ⟨rfl, ⟨rfl, ⟨rfl, ⟨rfl, trivial⟩⟩⟩⟩
def sr_m11_valueOf : sr_M := (⟨"ShiftRingModel", "valueOf", "(II)I"⟩, prog_13_method_91_code, 3, (some .int), [], 1, 21)
def sr_m11_get : sr_M := (⟨"ShiftRingModel", "get", "(II)I"⟩, prog_13_method_92_code, 8, (some .int), [], 7, 170)
theorem fl_11_332 : Cond.methodLink "ShiftRingModel" 332 (sr_My sr_m11_valueOf) ∈ sr_TB := (sr_tb (n := 1891) (by decide +kernel) rfl)
theorem fm_11_332 : sr_FV "ShiftRingModel" 332 sr_m11_valueOf 11 2 := ⟨⟨rfl, sr_tb (n := 1894) (by decide +kernel) rfl, sr_tb (n := 12) (by decide +kernel) rfl, ⟨by decide, by decide, by decide +kernel⟩, Or.inl fl_11_332⟩, ⟨TX11, 53, rfl, rfl⟩, sr_tb (n := 1893) (by decide +kernel) rfl, sr_ts (n := 85) (by decide +kernel) rfl⟩
theorem rm_11_get_11_knownAs : sr_RM sr_m11_get sr_m11_knownAs := ⟨Nat.le_of_ble_eq_true rfl, Nat.le_of_ble_eq_true rfl⟩
theorem rm_11_get_11_latestLook : sr_RM sr_m11_get sr_m11_latestLook := ⟨Nat.le_of_ble_eq_true rfl, Nat.le_of_ble_eq_true rfl⟩
theorem rm_11_get_11_tableOf : sr_RM sr_m11_get sr_m11_tableOf := ⟨Nat.le_of_ble_eq_true rfl, Nat.le_of_ble_eq_true rfl⟩
theorem rm_11_get_11_valueOf : sr_RM sr_m11_get sr_m11_valueOf := ⟨Nat.le_of_ble_eq_true rfl, Nat.le_of_ble_eq_true rfl⟩
theorem rm_11_get_11_wrongLook : sr_RM sr_m11_get sr_m11_wrongLook := ⟨Nat.le_of_ble_eq_true rfl, Nat.le_of_ble_eq_true rfl⟩
theorem rm_11_valueOf_11_cell : sr_RM sr_m11_valueOf sr_m11_cell := ⟨Nat.le_of_ble_eq_true rfl, Nat.le_of_ble_eq_true rfl⟩
def f11_valueOf_27 (a0 : Int32) (a1 : Int32)  : Int32 → sr_t → sr_Rs := fun xs0 t => (some (.inl (some (sr_i xs0)), t))
theorem g11_valueOf_27 (l : Launch) (a0 : Int32) (a1 : Int32)    : ∀ (xs0 : Int32), ∀ (t : sr_t), sr_g l sr_m11_valueOf 27 [some (sr_r 11 0), some (sr_i a0), some (sr_i a1)] [sr_i xs0] t (f11_valueOf_27 a0 a1  xs0 t) 0 0 := by
  intro xs0  t
  unfold f11_valueOf_27
  exact sr_iret (pc := 27) (by decide +kernel) rfl
def F11_valueOf (a0 : Int32) (a1 : Int32) (t : sr_t) : sr_Rs := (sr_bI (F11_cell a0 a1 t) (fun v1 t1 => (if v1 < 0 ∨ 768 ≤ v1.toNatClampNeg then none else (if (t1.1 40 0 v1.toNatClampNeg) = 0 then f11_valueOf_27 a0 a1 ((-1)) t1 else (sr_bI (F11_cell a0 a1 t1) (fun v2 t2 => (if v2 < 0 ∨ 768 ≤ v2.toNatClampNeg then none else f11_valueOf_27 a0 a1 (t2.1 39 0 v2.toNatClampNeg) t2)))))))
theorem C11_valueOf (l : Launch) (a0 : Int32) (a1 : Int32)  (t : sr_t) : sr_ct' l sr_m11_valueOf [sr_r 11 0, sr_i a0, sr_i a1] t (F11_valueOf a0 a1 t) 0 0 := by
  refine sr_T_of (L0 := [some (sr_r 11 0), some (sr_i a0), some (sr_i a1)]) rfl (by decide +kernel) (fun _ => rfl) (fun _ => Nat.le_of_ble_eq_true rfl) ?_
  unfold F11_valueOf
  refine sr_aloadn (pc := 0) (n := 0) (by decide +kernel) rfl ?_
  refine sr_gC (pc := 1) (i2 := 0) fg_11_68 (by decide +kernel) (sr_in11 _ (by omega)) (fun _ => rfl) ?_
  refine sr_iloadn (pc := 4) (n := 1) (by decide +kernel) rfl ?_
  refine sr_iloadn (pc := 5) (n := 2) (by decide +kernel) rfl ?_
  refine sr_cS (pc := 6) (As := [sr_i a0, sr_i a1]) (mc1 := 0) (ms1 := 0) (mc2 := 0) (ms2 := 0) fm_11_319 fl_11_319 (by decide +kernel) (rm_11_valueOf_11_cell) rfl rfl rfl (C11_cell l a0 a1 t) ?_
  refine sr_kI (fun v1 t1 => ?_)
  refine sr_aI (pc := 9) (n := 768) rfl (by decide +kernel) (sr_in40 _ (by omega)) (fun _ _ => rfl) ?_
  refine sr_if_ne (pc := 10) (off := 7) (tg := 17) (by decide +kernel) (by decide) (fun _ => ?_) (fun _ => ?_)
  · refine sr_aloadn (pc := 17) (n := 0) (by decide +kernel) rfl ?_
    refine sr_gC (pc := 18) (i2 := 0) fg_11_65 (by decide +kernel) (sr_in11 _ (by omega)) (fun _ => rfl) ?_
    refine sr_iloadn (pc := 21) (n := 1) (by decide +kernel) rfl ?_
    refine sr_iloadn (pc := 22) (n := 2) (by decide +kernel) rfl ?_
    refine sr_cS (pc := 23) (As := [sr_i a0, sr_i a1]) (mc1 := 0) (ms1 := 0) (mc2 := 0) (ms2 := 0) fm_11_319 fl_11_319 (by decide +kernel) (rm_11_valueOf_11_cell) rfl rfl rfl (C11_cell l a0 a1 t1) ?_
    refine sr_kI (fun v2 t2 => ?_)
    refine sr_aI (pc := 26) (n := 768) rfl (by decide +kernel) (sr_in39 _ (by omega)) (fun _ _ => rfl) ?_
    exact sr_wk (sr_mono (mc := 0) (ms := 0) (by omega) (by omega) (g11_valueOf_27 l a0 a1 (t2.1 39 0 v2.toNatClampNeg) t2)) ⟨rfl, ⟨rfl, ⟨rfl, trivial⟩⟩⟩
  · refine sr_iconst (pc := 13) (n := (-1)) (v := (-1)) (by decide +kernel) rfl ?_
    refine sr_goto (pc := 14) (off := 13) (tg := 27) (by decide +kernel) (by decide) ?_
    exact sr_wk (sr_mono (mc := 0) (ms := 0) (by omega) (by omega) (g11_valueOf_27 l a0 a1 ((-1)) t1)) ⟨rfl, ⟨rfl, ⟨rfl, trivial⟩⟩⟩
def f11_get_127 (a0 : Int32) (a1 : Int32) (k76 : Int32 → Int32 → Int32 → Int32 → sr_t → sr_Rs) (k135 : Int32 → sr_t → sr_Rs) : Int32 → Int32 → Int32 → Int32 → sr_t → sr_Rs := fun x3 x4 x6 xs0 t => k76 x3 x4 xs0 (x6 + 1) t
theorem g11_get_127 (l : Launch) (a0 : Int32) (a1 : Int32)  (k76 : Int32 → Int32 → Int32 → Int32 → sr_t → sr_Rs) (k135 : Int32 → sr_t → sr_Rs) (hk76 : ∀ (x3 : Int32) (x4 : Int32) (x5 : Int32) (x6 : Int32), ∀ (t : sr_t), sr_g l sr_m11_get 76 [some (sr_r 11 0), some (sr_i a0), some (sr_i a1), some (sr_i x3), some (sr_i x4), some (sr_i x5), some (sr_i x6), none] [] t (k76 x3 x4 x5 x6 t) 0 0) (hk135 : ∀ (x5 : Int32), ∀ (t : sr_t), sr_g l sr_m11_get 135 [some (sr_r 11 0), some (sr_i a0), some (sr_i a1), none, none, some (sr_i x5), none, none] [] t (k135 x5 t) 0 0) : ∀ (x3 : Int32) (x4 : Int32) (x6 : Int32) (xs0 : Int32), ∀ (t : sr_t), sr_g l sr_m11_get 127 [some (sr_r 11 0), some (sr_i a0), some (sr_i a1), some (sr_i x3), some (sr_i x4), none, some (sr_i x6), none] [sr_i xs0] t (f11_get_127 a0 a1 k76 k135 x3 x4 x6 xs0 t) 0 0 := by
  intro x3 x4 x6 xs0  t
  unfold f11_get_127
  refine sr_istore (pc := 127) (i := 5) (by decide +kernel) (by decide) rfl rfl ?_
  refine sr_iinc (pc := 129) (i := 6) (n := 1) (w := x6 + 1) (by decide +kernel) rfl rfl (by decide) rfl rfl ?_
  refine sr_goto (pc := 132) (off := (-56)) (tg := 76) (by decide +kernel) (by decide) ?_
  exact sr_wk (sr_mono (mc := 0) (ms := 0) (by omega) (by omega) (hk76 x3 x4 xs0 (x6 + 1) t)) ⟨rfl, ⟨rfl, ⟨rfl, ⟨rfl, ⟨rfl, ⟨rfl, ⟨rfl, trivial⟩⟩⟩⟩⟩⟩⟩
def f11_get_76 (a0 : Int32) (a1 : Int32) (k135 : Int32 → sr_t → sr_Rs) : Nat → Int32 → Int32 → Int32 → Int32 → sr_t → sr_Rs
  | 0 => fun _ _ _ _ _ => none
  | n + 1 => fun x3 x4 x5 x6 t => (sr_bI (F11_tableOf x3 1 t) (fun v1 t1 => (if v1 ≤ x6 then k135 x5 t1 else (if x5 = ((-1)) then (sr_bI (F11_tableOf x3 (2 + x6) t1) (fun v2 t2 => (if v2 < 0 ∨ 24 ≤ v2.toNatClampNeg then none else (if (t2.1 25 0 v2.toNatClampNeg) = 1 then (sr_bI (F11_valueOf v2 x4 t2) (fun v3 t3 => f11_get_127 a0 a1 (f11_get_76 a0 a1 k135 n) k135 x3 x4 x6 v3 t3)) else f11_get_127 a0 a1 (f11_get_76 a0 a1 k135 n) k135 x3 x4 x6 ((-1)) t2)))) else k135 x5 t1))))
theorem g11_get_76 (l : Launch) (a0 : Int32) (a1 : Int32)  (k135 : Int32 → sr_t → sr_Rs) (hk135 : ∀ (x5 : Int32), ∀ (t : sr_t), sr_g l sr_m11_get 135 [some (sr_r 11 0), some (sr_i a0), some (sr_i a1), none, none, some (sr_i x5), none, none] [] t (k135 x5 t) 0 0) : ∀ (n : Nat) (x3 : Int32) (x4 : Int32) (x5 : Int32) (x6 : Int32), ∀ (t : sr_t), sr_g l sr_m11_get 76 [some (sr_r 11 0), some (sr_i a0), some (sr_i a1), some (sr_i x3), some (sr_i x4), some (sr_i x5), some (sr_i x6), none] [] t (f11_get_76 a0 a1 k135 n x3 x4 x5 x6 t) 0 0 := by
  intro n
  induction n with
  | zero => intros; exact sr_Gn
  | succ n ih =>
    intro x3 x4 x5 x6  t
    unfold f11_get_76
    refine sr_iload (pc := 76) (i := 6) (by decide +kernel) rfl ?_
    refine sr_aloadn (pc := 78) (n := 0) (by decide +kernel) rfl ?_
    refine sr_iloadn (pc := 79) (n := 3) (by decide +kernel) rfl ?_
    refine sr_iconst (pc := 80) (n := 1) (v := 1) (by decide +kernel) rfl ?_
    refine sr_cV (pc := 81) (As := [sr_i x3, sr_i 1]) (mc1 := 0) (ms1 := 0) (mc2 := 0) (ms2 := 0) fm_11_123 fl_11_123 (by decide +kernel) (sr_in11 _ (by omega)) (rm_11_get_11_tableOf) rfl rfl rfl (C11_tableOf l x3 1 t) ?_
    refine sr_kI (fun v1 t1 => ?_)
    refine sr_icmp_ge (pc := 84) (off := 51) (tg := 135) (by decide +kernel) (by decide) (fun _ => ?_) (fun _ => ?_)
    · exact sr_wk (sr_mono (mc := 0) (ms := 0) (by omega) (by omega) (hk135 x5 t1)) ⟨rfl, ⟨rfl, ⟨rfl, ⟨rfl, trivial⟩⟩⟩⟩
    · refine sr_iload (pc := 87) (i := 5) (by decide +kernel) rfl ?_
      refine sr_iconst (pc := 89) (n := (-1)) (v := (-1)) (by decide +kernel) rfl ?_
      refine sr_icmp_ne (pc := 90) (off := 45) (tg := 135) (by decide +kernel) (by decide) (fun _ => ?_) (fun _ => ?_)
      · exact sr_wk (sr_mono (mc := 0) (ms := 0) (by omega) (by omega) (hk135 x5 t1)) ⟨rfl, ⟨rfl, ⟨rfl, ⟨rfl, trivial⟩⟩⟩⟩
      · refine sr_aloadn (pc := 93) (n := 0) (by decide +kernel) rfl ?_
        refine sr_iloadn (pc := 94) (n := 3) (by decide +kernel) rfl ?_
        refine sr_iconst (pc := 95) (n := 2) (v := 2) (by decide +kernel) rfl ?_
        refine sr_iload (pc := 96) (i := 6) (by decide +kernel) rfl ?_
        refine sr_iadd (pc := 98) (by decide +kernel) ?_
        refine sr_cV (pc := 99) (As := [sr_i x3, sr_i (2 + x6)]) (mc1 := 0) (ms1 := 0) (mc2 := 0) (ms2 := 0) fm_11_123 fl_11_123 (by decide +kernel) (sr_in11 _ (by omega)) (rm_11_get_11_tableOf) rfl rfl rfl (C11_tableOf l x3 (2 + x6) t1) ?_
        refine sr_kI (fun v2 t2 => ?_)
        refine sr_istore (pc := 102) (i := 7) (by decide +kernel) (by decide) rfl rfl ?_
        refine sr_aloadn (pc := 104) (n := 0) (by decide +kernel) rfl ?_
        refine sr_gC (pc := 105) (i2 := 0) fg_11_13 (by decide +kernel) (sr_in11 _ (by omega)) (fun _ => rfl) ?_
        refine sr_iload (pc := 108) (i := 7) (by decide +kernel) rfl ?_
        refine sr_aI (pc := 110) (n := 24) rfl (by decide +kernel) (sr_in25 _ (by omega)) (fun _ _ => rfl) ?_
        refine sr_iconst (pc := 111) (n := 1) (v := 1) (by decide +kernel) rfl ?_
        refine sr_icmp_ne (pc := 112) (off := 14) (tg := 126) (by decide +kernel) (by decide) (fun _ => ?_) (fun _ => ?_)
        · refine sr_iconst (pc := 126) (n := (-1)) (v := (-1)) (by decide +kernel) rfl ?_
          exact sr_wk (sr_mono (mc := 0) (ms := 0) (by omega) (by omega) (g11_get_127 l a0 a1 (f11_get_76 a0 a1 k135 n) k135 ih hk135 x3 x4 x6 ((-1)) t2)) ⟨rfl, ⟨rfl, ⟨rfl, ⟨rfl, ⟨rfl, ⟨rfl, trivial⟩⟩⟩⟩⟩⟩
        · refine sr_aloadn (pc := 115) (n := 0) (by decide +kernel) rfl ?_
          refine sr_iload (pc := 116) (i := 7) (by decide +kernel) rfl ?_
          refine sr_iload (pc := 118) (i := 4) (by decide +kernel) rfl ?_
          refine sr_cV (pc := 120) (As := [sr_i v2, sr_i x4]) (mc1 := 0) (ms1 := 0) (mc2 := 0) (ms2 := 0) fm_11_332 fl_11_332 (by decide +kernel) (sr_in11 _ (by omega)) (rm_11_get_11_valueOf) rfl rfl rfl (C11_valueOf l v2 x4 t2) ?_
          refine sr_kI (fun v3 t3 => ?_)
          refine sr_goto (pc := 123) (off := 4) (tg := 127) (by decide +kernel) (by decide) ?_
          exact sr_wk (sr_mono (mc := 0) (ms := 0) (by omega) (by omega) (g11_get_127 l a0 a1 (f11_get_76 a0 a1 k135 n) k135 ih hk135 x3 x4 x6 v3 t3)) ⟨rfl, ⟨rfl, ⟨rfl, ⟨rfl, ⟨rfl, ⟨rfl, trivial⟩⟩⟩⟩⟩⟩
def f11_get_135 (a0 : Int32) (a1 : Int32)  : Int32 → sr_t → sr_Rs := fun x5 t => (some (.inl (some (sr_i x5)), t))
theorem g11_get_135 (l : Launch) (a0 : Int32) (a1 : Int32)    : ∀ (x5 : Int32), ∀ (t : sr_t), sr_g l sr_m11_get 135 [some (sr_r 11 0), some (sr_i a0), some (sr_i a1), none, none, some (sr_i x5), none, none] [] t (f11_get_135 a0 a1  x5 t) 0 0 := by
  intro x5  t
  unfold f11_get_135
  refine sr_iload (pc := 135) (i := 5) (by decide +kernel) rfl ?_
  exact sr_iret (pc := 137) (by decide +kernel) rfl
def f11_get_37 (a0 : Int32) (a1 : Int32)  : Int32 → Int32 → sr_t → sr_Rs := fun x3 xs0 t => (sr_lt (sr_u t 11 0 0 xs0) (fun t1 => (if (t1.1 11 0 0) ≤ 0 then (sr_bI (F11_knownAs a1 t1) (fun v2 t2 => (if v2 = ((-1)) then (some (.inl (some (sr_i ((-1)))), t2)) else (sr_bI (F11_valueOf x3 v2 t2) (fun v3 t3 => f11_get_76 a0 a1 (f11_get_135 a0 a1) sr_fu x3 v2 v3 0 t3))))) else (some (.inl (some (sr_i 0)), t1)))))
theorem g11_get_37 (l : Launch) (a0 : Int32) (a1 : Int32)    : ∀ (x3 : Int32) (xs0 : Int32), ∀ (t : sr_t), sr_g l sr_m11_get 37 [some (sr_r 11 0), some (sr_i a0), some (sr_i a1), some (sr_i x3), none, none, none, none] [sr_i xs0, sr_r 11 0] t (f11_get_37 a0 a1  x3 xs0 t) 0 0 := by
  intro x3 xs0  t
  unfold f11_get_37
  refine sr_pI (pc := 37) fg_11_93 ft_11_0 (by decide +kernel) (sr_in11 _ (by omega)) (fun _ => rfl) (fun t1 => ?_)
  refine sr_aloadn (pc := 40) (n := 0) (by decide +kernel) rfl ?_
  refine sr_gI (pc := 41) fg_11_93 (by decide +kernel) (sr_in11 _ (by omega)) (fun _ => rfl) ?_
  refine sr_if_le (pc := 44) (off := 5) (tg := 49) (by decide +kernel) (by decide) (fun _ => ?_) (fun _ => ?_)
  · refine sr_aloadn (pc := 49) (n := 0) (by decide +kernel) rfl ?_
    refine sr_iloadn (pc := 50) (n := 2) (by decide +kernel) rfl ?_
    refine sr_cV (pc := 51) (As := [sr_i a1]) (mc1 := 0) (ms1 := 0) (mc2 := 0) (ms2 := 0) fm_11_322 fl_11_322 (by decide +kernel) (sr_in11 _ (by omega)) (rm_11_get_11_knownAs) rfl rfl rfl (C11_knownAs l a1 t1) ?_
    refine sr_kI (fun v2 t2 => ?_)
    refine sr_istore (pc := 54) (i := 4) (by decide +kernel) (by decide) rfl rfl ?_
    refine sr_iload (pc := 56) (i := 4) (by decide +kernel) rfl ?_
    refine sr_iconst (pc := 58) (n := (-1)) (v := (-1)) (by decide +kernel) rfl ?_
    refine sr_icmp_ne (pc := 59) (off := 5) (tg := 64) (by decide +kernel) (by decide) (fun _ => ?_) (fun _ => ?_)
    · refine sr_aloadn (pc := 64) (n := 0) (by decide +kernel) rfl ?_
      refine sr_iloadn (pc := 65) (n := 3) (by decide +kernel) rfl ?_
      refine sr_iload (pc := 66) (i := 4) (by decide +kernel) rfl ?_
      refine sr_cV (pc := 68) (As := [sr_i x3, sr_i v2]) (mc1 := 0) (ms1 := 0) (mc2 := 0) (ms2 := 0) fm_11_332 fl_11_332 (by decide +kernel) (sr_in11 _ (by omega)) (rm_11_get_11_valueOf) rfl rfl rfl (C11_valueOf l x3 v2 t2) ?_
      refine sr_kI (fun v3 t3 => ?_)
      refine sr_istore (pc := 71) (i := 5) (by decide +kernel) (by decide) rfl rfl ?_
      refine sr_iconst (pc := 73) (n := 0) (v := 0) (by decide +kernel) rfl ?_
      refine sr_istore (pc := 74) (i := 6) (by decide +kernel) (by decide) rfl rfl ?_
      exact sr_wk (sr_mono (mc := 0) (ms := 0) (by omega) (by omega) (g11_get_76 l a0 a1 (f11_get_135 a0 a1) (g11_get_135 l a0 a1) sr_fu x3 v2 v3 0 t3)) ⟨rfl, ⟨rfl, ⟨rfl, ⟨rfl, ⟨rfl, ⟨rfl, ⟨rfl, trivial⟩⟩⟩⟩⟩⟩⟩
    · refine sr_iconst (pc := 62) (n := (-1)) (v := (-1)) (by decide +kernel) rfl ?_
      exact sr_iret (pc := 63) (by decide +kernel) rfl
  · refine sr_iconst (pc := 47) (n := 0) (v := 0) (by decide +kernel) rfl ?_
    exact sr_iret (pc := 48) (by decide +kernel) rfl
def F11_get (a0 : Int32) (a1 : Int32) (t : sr_t) : sr_Rs := (sr_bI (F11_wrongLook a0 a1 t) (fun v1 t1 => (sr_lt (sr_u t1 11 0 0 v1) (fun t2 => (if (t2.1 11 0 0) ≤ 0 then (sr_bI (F11_latestLook a0 a1 1 t2) (fun v3 t3 => (if 0 ≤ v3 then f11_get_37 a0 a1 v3 0 t3 else f11_get_37 a0 a1 v3 3 t3))) else (some (.inl (some (sr_i 0)), t2)))))))
theorem C11_get (l : Launch) (a0 : Int32) (a1 : Int32)  (t : sr_t) : sr_ct' l sr_m11_get [sr_r 11 0, sr_i a0, sr_i a1] t (F11_get a0 a1 t) 0 0 := by
  refine sr_T_of (L0 := [some (sr_r 11 0), some (sr_i a0), some (sr_i a1), none, none, none, none, none]) rfl (by decide +kernel) (fun _ => rfl) (fun _ => Nat.le_of_ble_eq_true rfl) ?_
  unfold F11_get
  refine sr_aloadn (pc := 0) (n := 0) (by decide +kernel) rfl ?_
  refine sr_aloadn (pc := 1) (n := 0) (by decide +kernel) rfl ?_
  refine sr_iloadn (pc := 2) (n := 1) (by decide +kernel) rfl ?_
  refine sr_iloadn (pc := 3) (n := 2) (by decide +kernel) rfl ?_
  refine sr_cV (pc := 4) (As := [sr_i a0, sr_i a1]) (mc1 := 0) (ms1 := 0) (mc2 := 0) (ms2 := 0) fm_11_234 fl_11_234 (by decide +kernel) (sr_in11 _ (by omega)) (rm_11_get_11_wrongLook) rfl rfl rfl (C11_wrongLook l a0 a1 t) ?_
  refine sr_kI (fun v1 t1 => ?_)
  refine sr_pI (pc := 7) fg_11_93 ft_11_0 (by decide +kernel) (sr_in11 _ (by omega)) (fun _ => rfl) (fun t2 => ?_)
  refine sr_aloadn (pc := 10) (n := 0) (by decide +kernel) rfl ?_
  refine sr_gI (pc := 11) fg_11_93 (by decide +kernel) (sr_in11 _ (by omega)) (fun _ => rfl) ?_
  refine sr_if_le (pc := 14) (off := 5) (tg := 19) (by decide +kernel) (by decide) (fun _ => ?_) (fun _ => ?_)
  · refine sr_aloadn (pc := 19) (n := 0) (by decide +kernel) rfl ?_
    refine sr_iloadn (pc := 20) (n := 1) (by decide +kernel) rfl ?_
    refine sr_iloadn (pc := 21) (n := 2) (by decide +kernel) rfl ?_
    refine sr_iconst (pc := 22) (n := 1) (v := 1) (by decide +kernel) rfl ?_
    refine sr_cV (pc := 23) (As := [sr_i a0, sr_i a1, sr_i 1]) (mc1 := 0) (ms1 := 0) (mc2 := 0) (ms2 := 0) fm_11_237 fl_11_237 (by decide +kernel) (sr_in11 _ (by omega)) (rm_11_get_11_latestLook) rfl rfl rfl (C11_latestLook l a0 a1 1 t2) ?_
    refine sr_kI (fun v3 t3 => ?_)
    refine sr_istoren (pc := 26) (n := 3) (by decide +kernel) (by decide) rfl rfl ?_
    refine sr_aloadn (pc := 27) (n := 0) (by decide +kernel) rfl ?_
    refine sr_iloadn (pc := 28) (n := 3) (by decide +kernel) rfl ?_
    refine sr_if_ge (pc := 29) (off := 7) (tg := 36) (by decide +kernel) (by decide) (fun _ => ?_) (fun _ => ?_)
    · refine sr_iconst (pc := 36) (n := 0) (v := 0) (by decide +kernel) rfl ?_
      exact sr_wk (sr_mono (mc := 0) (ms := 0) (by omega) (by omega) (g11_get_37 l a0 a1 v3 0 t3)) ⟨rfl, ⟨rfl, ⟨rfl, ⟨rfl, trivial⟩⟩⟩⟩
    · refine sr_iconst (pc := 32) (n := 3) (v := 3) (by decide +kernel) rfl ?_
      refine sr_goto (pc := 33) (off := 4) (tg := 37) (by decide +kernel) (by decide) ?_
      exact sr_wk (sr_mono (mc := 0) (ms := 0) (by omega) (by omega) (g11_get_37 l a0 a1 v3 3 t3)) ⟨rfl, ⟨rfl, ⟨rfl, ⟨rfl, trivial⟩⟩⟩⟩
  · refine sr_iconst (pc := 17) (n := 0) (v := 0) (by decide +kernel) rfl ?_
    exact sr_iret (pc := 18) (by decide +kernel) rfl
def sr_m11_keepersOf : sr_M := (⟨"ShiftRingModel", "keepersOf", "(I)I"⟩, prog_13_method_93_code, 5, (some .int), [], 2, 45)
def sr_m11_settles : sr_M := (⟨"ShiftRingModel", "settles", "(II)I"⟩, prog_13_method_94_code, 7, (some .int), [], 3, 69)
def sr_m11_settle : sr_M := (⟨"ShiftRingModel", "settle", "(I)I"⟩, prog_13_method_95_code, 4, (some .int), [], 4, 95)
theorem fl_11_335 : Cond.methodLink "ShiftRingModel" 335 (sr_My sr_m11_keepersOf) ∈ sr_TB := (sr_tb (n := 1903) (by decide +kernel) rfl)
theorem fm_11_335 : sr_FV "ShiftRingModel" 335 sr_m11_keepersOf 11 1 := ⟨⟨rfl, sr_tb (n := 1906) (by decide +kernel) rfl, sr_tb (n := 12) (by decide +kernel) rfl, ⟨by decide, by decide, by decide +kernel⟩, Or.inl fl_11_335⟩, ⟨TX11, 53, rfl, rfl⟩, sr_tb (n := 1905) (by decide +kernel) rfl, sr_ts (n := 87) (by decide +kernel) rfl⟩
theorem fl_11_338 : Cond.methodLink "ShiftRingModel" 338 (sr_My sr_m11_settles) ∈ sr_TB := (sr_tb (n := 1899) (by decide +kernel) rfl)
theorem fm_11_338 : sr_FV "ShiftRingModel" 338 sr_m11_settles 11 2 := ⟨⟨rfl, sr_tb (n := 1902) (by decide +kernel) rfl, sr_tb (n := 12) (by decide +kernel) rfl, ⟨by decide, by decide, by decide +kernel⟩, Or.inl fl_11_338⟩, ⟨TX11, 53, rfl, rfl⟩, sr_tb (n := 1901) (by decide +kernel) rfl, sr_ts (n := 86) (by decide +kernel) rfl⟩
theorem rm_11_keepersOf_11_upFrom : sr_RM sr_m11_keepersOf sr_m11_upFrom := ⟨Nat.le_of_ble_eq_true rfl, Nat.le_of_ble_eq_true rfl⟩
theorem rm_11_keepersOf_11_ups : sr_RM sr_m11_keepersOf sr_m11_ups := ⟨Nat.le_of_ble_eq_true rfl, Nat.le_of_ble_eq_true rfl⟩
theorem rm_11_settle_11_settles : sr_RM sr_m11_settle sr_m11_settles := ⟨Nat.le_of_ble_eq_true rfl, Nat.le_of_ble_eq_true rfl⟩
theorem rm_11_settle_11_wrongUp : sr_RM sr_m11_settle sr_m11_wrongUp := ⟨Nat.le_of_ble_eq_true rfl, Nat.le_of_ble_eq_true rfl⟩
theorem rm_11_settles_11_cell : sr_RM sr_m11_settles sr_m11_cell := ⟨Nat.le_of_ble_eq_true rfl, Nat.le_of_ble_eq_true rfl⟩
theorem rm_11_settles_11_holds : sr_RM sr_m11_settles sr_m11_holds := ⟨Nat.le_of_ble_eq_true rfl, Nat.le_of_ble_eq_true rfl⟩
theorem rm_11_settles_11_keepersOf : sr_RM sr_m11_settles sr_m11_keepersOf := ⟨Nat.le_of_ble_eq_true rfl, Nat.le_of_ble_eq_true rfl⟩
def f11_keepersOf_59 (a0 : Int32) (k12 : Int32 → Int32 → Int32 → sr_t → sr_Rs) (k66 : Int32 → sr_t → sr_Rs) : Int32 → Int32 → Int32 → sr_t → sr_Rs := fun x2 x4 xs0 t => k12 x2 xs0 (x4 + 1) t
theorem g11_keepersOf_59 (l : Launch) (a0 : Int32)  (k12 : Int32 → Int32 → Int32 → sr_t → sr_Rs) (k66 : Int32 → sr_t → sr_Rs) (hk12 : ∀ (x2 : Int32) (x3 : Int32) (x4 : Int32), ∀ (t : sr_t), sr_g l sr_m11_keepersOf 12 [some (sr_r 11 0), some (sr_i a0), some (sr_i x2), some (sr_i x3), some (sr_i x4)] [] t (k12 x2 x3 x4 t) 0 0) (hk66 : ∀ (x2 : Int32), ∀ (t : sr_t), sr_g l sr_m11_keepersOf 66 [some (sr_r 11 0), some (sr_i a0), some (sr_i x2), none, none] [] t (k66 x2 t) 0 0) : ∀ (x2 : Int32) (x4 : Int32) (xs0 : Int32), ∀ (t : sr_t), sr_g l sr_m11_keepersOf 59 [some (sr_r 11 0), some (sr_i a0), some (sr_i x2), none, some (sr_i x4)] [sr_i xs0] t (f11_keepersOf_59 a0 k12 k66 x2 x4 xs0 t) 0 0 := by
  intro x2 x4 xs0  t
  unfold f11_keepersOf_59
  refine sr_istoren (pc := 59) (n := 3) (by decide +kernel) (by decide) rfl rfl ?_
  refine sr_iinc (pc := 60) (i := 4) (n := 1) (w := x4 + 1) (by decide +kernel) rfl rfl (by decide) rfl rfl ?_
  refine sr_goto (pc := 63) (off := (-51)) (tg := 12) (by decide +kernel) (by decide) ?_
  exact sr_wk (sr_mono (mc := 0) (ms := 0) (by omega) (by omega) (hk12 x2 xs0 (x4 + 1) t)) ⟨rfl, ⟨rfl, ⟨rfl, ⟨rfl, ⟨rfl, trivial⟩⟩⟩⟩⟩
def f11_keepersOf_12 (a0 : Int32) (k66 : Int32 → sr_t → sr_Rs) : Nat → Int32 → Int32 → Int32 → sr_t → sr_Rs
  | 0 => fun _ _ _ _ => none
  | n + 1 => fun x2 x3 x4 t => (if (t.1 11 0 9) ≤ x4 then k66 x2 t else (sr_bI (F11_ups t) (fun v1 t1 => (if v1 ≤ x4 then k66 x2 t1 else (sr_bI (F11_ups t1) (fun v2 t2 => (if v2 ≤ 1 then f11_keepersOf_59 a0 (f11_keepersOf_12 a0 k66 n) k66 (x2 ||| (1 <<< (x3 &&& 31))) x4 x3 t2 else (if x3 < 0 ∨ 24 ≤ x3.toNatClampNeg then none else (sr_bI (F11_upFrom (t2.1 24 0 x3.toNatClampNeg) 0 t2) (fun v3 t3 => f11_keepersOf_59 a0 (f11_keepersOf_12 a0 k66 n) k66 (x2 ||| (1 <<< (x3 &&& 31))) x4 v3 t3))))))))))
theorem g11_keepersOf_12 (l : Launch) (a0 : Int32)  (k66 : Int32 → sr_t → sr_Rs) (hk66 : ∀ (x2 : Int32), ∀ (t : sr_t), sr_g l sr_m11_keepersOf 66 [some (sr_r 11 0), some (sr_i a0), some (sr_i x2), none, none] [] t (k66 x2 t) 0 0) : ∀ (n : Nat) (x2 : Int32) (x3 : Int32) (x4 : Int32), ∀ (t : sr_t), sr_g l sr_m11_keepersOf 12 [some (sr_r 11 0), some (sr_i a0), some (sr_i x2), some (sr_i x3), some (sr_i x4)] [] t (f11_keepersOf_12 a0 k66 n x2 x3 x4 t) 0 0 := by
  intro n
  induction n with
  | zero => intros; exact sr_Gn
  | succ n ih =>
    intro x2 x3 x4  t
    unfold f11_keepersOf_12
    refine sr_iload (pc := 12) (i := 4) (by decide +kernel) rfl ?_
    refine sr_aloadn (pc := 14) (n := 0) (by decide +kernel) rfl ?_
    refine sr_gI (pc := 15) fg_11_32 (by decide +kernel) (sr_in11 _ (by omega)) (fun _ => rfl) ?_
    refine sr_icmp_ge (pc := 18) (off := 48) (tg := 66) (by decide +kernel) (by decide) (fun _ => ?_) (fun _ => ?_)
    · exact sr_wk (sr_mono (mc := 0) (ms := 0) (by omega) (by omega) (hk66 x2 t)) ⟨rfl, ⟨rfl, ⟨rfl, trivial⟩⟩⟩
    · refine sr_iload (pc := 21) (i := 4) (by decide +kernel) rfl ?_
      refine sr_aloadn (pc := 23) (n := 0) (by decide +kernel) rfl ?_
      refine sr_cV (pc := 24) (As := []) (mc1 := 0) (ms1 := 0) (mc2 := 0) (ms2 := 0) fm_11_115 fl_11_115 (by decide +kernel) (sr_in11 _ (by omega)) (rm_11_keepersOf_11_ups) rfl rfl rfl (C11_ups l t) ?_
      refine sr_kI (fun v1 t1 => ?_)
      refine sr_icmp_ge (pc := 27) (off := 39) (tg := 66) (by decide +kernel) (by decide) (fun _ => ?_) (fun _ => ?_)
      · exact sr_wk (sr_mono (mc := 0) (ms := 0) (by omega) (by omega) (hk66 x2 t1)) ⟨rfl, ⟨rfl, ⟨rfl, trivial⟩⟩⟩
      · refine sr_iloadn (pc := 30) (n := 2) (by decide +kernel) rfl ?_
        refine sr_iconst (pc := 31) (n := 1) (v := 1) (by decide +kernel) rfl ?_
        refine sr_iloadn (pc := 32) (n := 3) (by decide +kernel) rfl ?_
        refine sr_ishl (pc := 33) (by decide +kernel) ?_
        refine sr_ior (pc := 34) (by decide +kernel) ?_
        refine sr_istoren (pc := 35) (n := 2) (by decide +kernel) (by decide) rfl rfl ?_
        refine sr_aloadn (pc := 36) (n := 0) (by decide +kernel) rfl ?_
        refine sr_cV (pc := 37) (As := []) (mc1 := 0) (ms1 := 0) (mc2 := 0) (ms2 := 0) fm_11_115 fl_11_115 (by decide +kernel) (sr_in11 _ (by omega)) (rm_11_keepersOf_11_ups) rfl rfl rfl (C11_ups l t1) ?_
        refine sr_kI (fun v2 t2 => ?_)
        refine sr_iconst (pc := 40) (n := 1) (v := 1) (by decide +kernel) rfl ?_
        refine sr_icmp_le (pc := 41) (off := 17) (tg := 58) (by decide +kernel) (by decide) (fun _ => ?_) (fun _ => ?_)
        · refine sr_iloadn (pc := 58) (n := 3) (by decide +kernel) rfl ?_
          exact sr_wk (sr_mono (mc := 0) (ms := 0) (by omega) (by omega) (g11_keepersOf_59 l a0 (f11_keepersOf_12 a0 k66 n) k66 ih hk66 (x2 ||| (1 <<< (x3 &&& 31))) x4 x3 t2)) ⟨rfl, ⟨rfl, ⟨rfl, ⟨rfl, trivial⟩⟩⟩⟩
        · refine sr_aloadn (pc := 44) (n := 0) (by decide +kernel) rfl ?_
          refine sr_aloadn (pc := 45) (n := 0) (by decide +kernel) rfl ?_
          refine sr_gC (pc := 46) (i2 := 0) fg_11_7 (by decide +kernel) (sr_in11 _ (by omega)) (fun _ => rfl) ?_
          refine sr_iloadn (pc := 49) (n := 3) (by decide +kernel) rfl ?_
          refine sr_aI (pc := 50) (n := 24) rfl (by decide +kernel) (sr_in24 _ (by omega)) (fun _ _ => rfl) ?_
          refine sr_iconst (pc := 51) (n := 0) (v := 0) (by decide +kernel) rfl ?_
          refine sr_cV (pc := 52) (As := [sr_i (t2.1 24 0 x3.toNatClampNeg), sr_i 0]) (mc1 := 0) (ms1 := 0) (mc2 := 0) (ms2 := 0) fm_11_107 fl_11_107 (by decide +kernel) (sr_in11 _ (by omega)) (rm_11_keepersOf_11_upFrom) rfl rfl rfl (C11_upFrom l (t2.1 24 0 x3.toNatClampNeg) 0 t2) ?_
          refine sr_kI (fun v3 t3 => ?_)
          refine sr_goto (pc := 55) (off := 4) (tg := 59) (by decide +kernel) (by decide) ?_
          exact sr_wk (sr_mono (mc := 0) (ms := 0) (by omega) (by omega) (g11_keepersOf_59 l a0 (f11_keepersOf_12 a0 k66 n) k66 ih hk66 (x2 ||| (1 <<< (x3 &&& 31))) x4 v3 t3)) ⟨rfl, ⟨rfl, ⟨rfl, ⟨rfl, trivial⟩⟩⟩⟩
def f11_keepersOf_66 (a0 : Int32)  : Int32 → sr_t → sr_Rs := fun x2 t => (some (.inl (some (sr_i x2)), t))
theorem g11_keepersOf_66 (l : Launch) (a0 : Int32)    : ∀ (x2 : Int32), ∀ (t : sr_t), sr_g l sr_m11_keepersOf 66 [some (sr_r 11 0), some (sr_i a0), some (sr_i x2), none, none] [] t (f11_keepersOf_66 a0  x2 t) 0 0 := by
  intro x2  t
  unfold f11_keepersOf_66
  refine sr_iloadn (pc := 66) (n := 2) (by decide +kernel) rfl ?_
  exact sr_iret (pc := 67) (by decide +kernel) rfl
def F11_keepersOf (a0 : Int32) (t : sr_t) : sr_Rs := (sr_bI (F11_upFrom a0 1 t) (fun v1 t1 => f11_keepersOf_12 a0 (f11_keepersOf_66 a0) sr_fu 0 v1 0 t1))
theorem C11_keepersOf (l : Launch) (a0 : Int32)  (t : sr_t) : sr_ct' l sr_m11_keepersOf [sr_r 11 0, sr_i a0] t (F11_keepersOf a0 t) 0 0 := by
  refine sr_T_of (L0 := [some (sr_r 11 0), some (sr_i a0), none, none, none]) rfl (by decide +kernel) (fun _ => rfl) (fun _ => Nat.le_of_ble_eq_true rfl) ?_
  unfold F11_keepersOf
  refine sr_iconst (pc := 0) (n := 0) (v := 0) (by decide +kernel) rfl ?_
  refine sr_istoren (pc := 1) (n := 2) (by decide +kernel) (by decide) rfl rfl ?_
  refine sr_aloadn (pc := 2) (n := 0) (by decide +kernel) rfl ?_
  refine sr_iloadn (pc := 3) (n := 1) (by decide +kernel) rfl ?_
  refine sr_iconst (pc := 4) (n := 1) (v := 1) (by decide +kernel) rfl ?_
  refine sr_cV (pc := 5) (As := [sr_i a0, sr_i 1]) (mc1 := 0) (ms1 := 0) (mc2 := 0) (ms2 := 0) fm_11_107 fl_11_107 (by decide +kernel) (sr_in11 _ (by omega)) (rm_11_keepersOf_11_upFrom) rfl rfl rfl (C11_upFrom l a0 1 t) ?_
  refine sr_kI (fun v1 t1 => ?_)
  refine sr_istoren (pc := 8) (n := 3) (by decide +kernel) (by decide) rfl rfl ?_
  refine sr_iconst (pc := 9) (n := 0) (v := 0) (by decide +kernel) rfl ?_
  refine sr_istore (pc := 10) (i := 4) (by decide +kernel) (by decide) rfl rfl ?_
  exact sr_wk (sr_mono (mc := 0) (ms := 0) (by omega) (by omega) (g11_keepersOf_12 l a0 (f11_keepersOf_66 a0) (g11_keepersOf_66 l a0) sr_fu 0 v1 0 t1)) ⟨rfl, ⟨rfl, ⟨rfl, ⟨rfl, ⟨rfl, trivial⟩⟩⟩⟩⟩
def f11_settles_93 (a0 : Int32) (a1 : Int32) (k35 : Int32 → Int32 → Int32 → Int32 → sr_t → sr_Rs) (k99 : Int32 → Int32 → sr_t → sr_Rs) : Int32 → Int32 → Int32 → Int32 → sr_t → sr_Rs := fun x3 x4 x5 x6 t => k35 x3 x4 x5 (x6 + 1) t
theorem g11_settles_93 (l : Launch) (a0 : Int32) (a1 : Int32)  (k35 : Int32 → Int32 → Int32 → Int32 → sr_t → sr_Rs) (k99 : Int32 → Int32 → sr_t → sr_Rs) (hk35 : ∀ (x3 : Int32) (x4 : Int32) (x5 : Int32) (x6 : Int32), ∀ (t : sr_t), sr_g l sr_m11_settles 35 [some (sr_r 11 0), some (sr_i a0), some (sr_i a1), some (sr_i x3), some (sr_i x4), some (sr_i x5), some (sr_i x6)] [] t (k35 x3 x4 x5 x6 t) 0 0) (hk99 : ∀ (x4 : Int32) (x5 : Int32), ∀ (t : sr_t), sr_g l sr_m11_settles 99 [some (sr_r 11 0), some (sr_i a0), some (sr_i a1), none, some (sr_i x4), some (sr_i x5), none] [] t (k99 x4 x5 t) 0 0) : ∀ (x3 : Int32) (x4 : Int32) (x5 : Int32) (x6 : Int32), ∀ (t : sr_t), sr_g l sr_m11_settles 93 [some (sr_r 11 0), some (sr_i a0), some (sr_i a1), some (sr_i x3), some (sr_i x4), some (sr_i x5), some (sr_i x6)] [] t (f11_settles_93 a0 a1 k35 k99 x3 x4 x5 x6 t) 0 0 := by
  intro x3 x4 x5 x6  t
  unfold f11_settles_93
  refine sr_iinc (pc := 93) (i := 6) (n := 1) (w := x6 + 1) (by decide +kernel) rfl rfl (by decide) rfl rfl ?_
  refine sr_goto (pc := 96) (off := (-61)) (tg := 35) (by decide +kernel) (by decide) ?_
  exact sr_wk (sr_mono (mc := 0) (ms := 0) (by omega) (by omega) (hk35 x3 x4 x5 (x6 + 1) t)) ⟨rfl, ⟨rfl, ⟨rfl, ⟨rfl, ⟨rfl, ⟨rfl, ⟨rfl, trivial⟩⟩⟩⟩⟩⟩⟩
def f11_settles_35 (a0 : Int32) (a1 : Int32) (k99 : Int32 → Int32 → sr_t → sr_Rs) : Nat → Int32 → Int32 → Int32 → Int32 → sr_t → sr_Rs
  | 0 => fun _ _ _ _ _ => none
  | n + 1 => fun x3 x4 x5 x6 t => (if (t.1 11 0 1) ≤ x6 then k99 x4 x5 t else (if ((x4 >>> (x6 &&& 31)) &&& 1) = 0 then f11_settles_93 a0 a1 (f11_settles_35 a0 a1 k99 n) k99 x3 x4 x5 x6 t else (sr_bI (F11_cell x6 a1 t) (fun v1 t1 => (if v1 < 0 ∨ 768 ≤ v1.toNatClampNeg then none else (if (t1.1 40 0 v1.toNatClampNeg) < x3 then (sr_bI (F11_cell a0 a1 t1) (fun v2 t2 => (if v2 < 0 ∨ 768 ≤ v2.toNatClampNeg then none else (sr_bV (F11_holds x6 a1 (t2.1 39 0 v2.toNatClampNeg) x3 t2) (fun t3 => f11_settles_93 a0 a1 (f11_settles_35 a0 a1 k99 n) k99 x3 x4 (x5 + 1) x6 t3))))) else f11_settles_93 a0 a1 (f11_settles_35 a0 a1 k99 n) k99 x3 x4 x5 x6 t1))))))
theorem g11_settles_35 (l : Launch) (a0 : Int32) (a1 : Int32)  (k99 : Int32 → Int32 → sr_t → sr_Rs) (hk99 : ∀ (x4 : Int32) (x5 : Int32), ∀ (t : sr_t), sr_g l sr_m11_settles 99 [some (sr_r 11 0), some (sr_i a0), some (sr_i a1), none, some (sr_i x4), some (sr_i x5), none] [] t (k99 x4 x5 t) 0 0) : ∀ (n : Nat) (x3 : Int32) (x4 : Int32) (x5 : Int32) (x6 : Int32), ∀ (t : sr_t), sr_g l sr_m11_settles 35 [some (sr_r 11 0), some (sr_i a0), some (sr_i a1), some (sr_i x3), some (sr_i x4), some (sr_i x5), some (sr_i x6)] [] t (f11_settles_35 a0 a1 k99 n x3 x4 x5 x6 t) 0 0 := by
  intro n
  induction n with
  | zero => intros; exact sr_Gn
  | succ n ih =>
    intro x3 x4 x5 x6  t
    unfold f11_settles_35
    refine sr_iload (pc := 35) (i := 6) (by decide +kernel) rfl ?_
    refine sr_aloadn (pc := 37) (n := 0) (by decide +kernel) rfl ?_
    refine sr_gI (pc := 38) fg_11_100 (by decide +kernel) (sr_in11 _ (by omega)) (fun _ => rfl) ?_
    refine sr_icmp_ge (pc := 41) (off := 58) (tg := 99) (by decide +kernel) (by decide) (fun _ => ?_) (fun _ => ?_)
    · exact sr_wk (sr_mono (mc := 0) (ms := 0) (by omega) (by omega) (hk99 x4 x5 t)) ⟨rfl, ⟨rfl, ⟨rfl, ⟨rfl, ⟨rfl, trivial⟩⟩⟩⟩⟩
    · refine sr_iload (pc := 44) (i := 4) (by decide +kernel) rfl ?_
      refine sr_iload (pc := 46) (i := 6) (by decide +kernel) rfl ?_
      refine sr_ishr (pc := 48) (by decide +kernel) ?_
      refine sr_iconst (pc := 49) (n := 1) (v := 1) (by decide +kernel) rfl ?_
      refine sr_iand (pc := 50) (by decide +kernel) ?_
      refine sr_if_eq (pc := 51) (off := 42) (tg := 93) (by decide +kernel) (by decide) (fun _ => ?_) (fun _ => ?_)
      · exact sr_wk (sr_mono (mc := 0) (ms := 0) (by omega) (by omega) (g11_settles_93 l a0 a1 (f11_settles_35 a0 a1 k99 n) k99 ih hk99 x3 x4 x5 x6 t)) ⟨rfl, ⟨rfl, ⟨rfl, ⟨rfl, ⟨rfl, ⟨rfl, ⟨rfl, trivial⟩⟩⟩⟩⟩⟩⟩
      · refine sr_aloadn (pc := 54) (n := 0) (by decide +kernel) rfl ?_
        refine sr_gC (pc := 55) (i2 := 0) fg_11_68 (by decide +kernel) (sr_in11 _ (by omega)) (fun _ => rfl) ?_
        refine sr_iload (pc := 58) (i := 6) (by decide +kernel) rfl ?_
        refine sr_iloadn (pc := 60) (n := 2) (by decide +kernel) rfl ?_
        refine sr_cS (pc := 61) (As := [sr_i x6, sr_i a1]) (mc1 := 0) (ms1 := 0) (mc2 := 0) (ms2 := 0) fm_11_319 fl_11_319 (by decide +kernel) (rm_11_settles_11_cell) rfl rfl rfl (C11_cell l x6 a1 t) ?_
        refine sr_kI (fun v1 t1 => ?_)
        refine sr_aI (pc := 64) (n := 768) rfl (by decide +kernel) (sr_in40 _ (by omega)) (fun _ _ => rfl) ?_
        refine sr_iloadn (pc := 65) (n := 3) (by decide +kernel) rfl ?_
        refine sr_icmp_lt (pc := 66) (off := 6) (tg := 72) (by decide +kernel) (by decide) (fun _ => ?_) (fun _ => ?_)
        · refine sr_aloadn (pc := 72) (n := 0) (by decide +kernel) rfl ?_
          refine sr_iload (pc := 73) (i := 6) (by decide +kernel) rfl ?_
          refine sr_iloadn (pc := 75) (n := 2) (by decide +kernel) rfl ?_
          refine sr_aloadn (pc := 76) (n := 0) (by decide +kernel) rfl ?_
          refine sr_gC (pc := 77) (i2 := 0) fg_11_65 (by decide +kernel) (sr_in11 _ (by omega)) (fun _ => rfl) ?_
          refine sr_iloadn (pc := 80) (n := 1) (by decide +kernel) rfl ?_
          refine sr_iloadn (pc := 81) (n := 2) (by decide +kernel) rfl ?_
          refine sr_cS (pc := 82) (As := [sr_i a0, sr_i a1]) (mc1 := 0) (ms1 := 0) (mc2 := 0) (ms2 := 0) fm_11_319 fl_11_319 (by decide +kernel) (rm_11_settles_11_cell) rfl rfl rfl (C11_cell l a0 a1 t1) ?_
          refine sr_kI (fun v2 t2 => ?_)
          refine sr_aI (pc := 85) (n := 768) rfl (by decide +kernel) (sr_in39 _ (by omega)) (fun _ _ => rfl) ?_
          refine sr_iloadn (pc := 86) (n := 3) (by decide +kernel) rfl ?_
          refine sr_cV (pc := 87) (As := [sr_i x6, sr_i a1, sr_i (t2.1 39 0 v2.toNatClampNeg), sr_i x3]) (mc1 := 0) (ms1 := 0) (mc2 := 0) (ms2 := 0) fm_11_328 fl_11_328 (by decide +kernel) (sr_in11 _ (by omega)) (rm_11_settles_11_holds) rfl rfl rfl (C11_holds l x6 a1 (t2.1 39 0 v2.toNatClampNeg) x3 t2) ?_
          refine sr_kV (fun t3 => ?_)
          refine sr_iinc (pc := 90) (i := 5) (n := 1) (w := x5 + 1) (by decide +kernel) rfl rfl (by decide) rfl rfl ?_
          exact sr_wk (sr_mono (mc := 0) (ms := 0) (by omega) (by omega) (g11_settles_93 l a0 a1 (f11_settles_35 a0 a1 k99 n) k99 ih hk99 x3 x4 (x5 + 1) x6 t3)) ⟨rfl, ⟨rfl, ⟨rfl, ⟨rfl, ⟨rfl, ⟨rfl, ⟨rfl, trivial⟩⟩⟩⟩⟩⟩⟩
        · refine sr_goto (pc := 69) (off := 24) (tg := 93) (by decide +kernel) (by decide) ?_
          exact sr_wk (sr_mono (mc := 0) (ms := 0) (by omega) (by omega) (g11_settles_93 l a0 a1 (f11_settles_35 a0 a1 k99 n) k99 ih hk99 x3 x4 x5 x6 t1)) ⟨rfl, ⟨rfl, ⟨rfl, ⟨rfl, ⟨rfl, ⟨rfl, ⟨rfl, trivial⟩⟩⟩⟩⟩⟩⟩
def f11_settles_99 (a0 : Int32) (a1 : Int32)  : Int32 → Int32 → sr_t → sr_Rs := fun x4 x5 t => (if ((x4 >>> (a0 &&& 31)) &&& 1) = 1 then (some (.inl (some (sr_i x5)), t)) else (sr_bV (F11_holds a0 a1 0 0 t) (fun t1 => (some (.inl (some (sr_i (x5 + 1))), t1)))))
theorem g11_settles_99 (l : Launch) (a0 : Int32) (a1 : Int32)    : ∀ (x4 : Int32) (x5 : Int32), ∀ (t : sr_t), sr_g l sr_m11_settles 99 [some (sr_r 11 0), some (sr_i a0), some (sr_i a1), none, some (sr_i x4), some (sr_i x5), none] [] t (f11_settles_99 a0 a1  x4 x5 t) 0 0 := by
  intro x4 x5  t
  unfold f11_settles_99
  refine sr_iload (pc := 99) (i := 4) (by decide +kernel) rfl ?_
  refine sr_iloadn (pc := 101) (n := 1) (by decide +kernel) rfl ?_
  refine sr_ishr (pc := 102) (by decide +kernel) ?_
  refine sr_iconst (pc := 103) (n := 1) (v := 1) (by decide +kernel) rfl ?_
  refine sr_iand (pc := 104) (by decide +kernel) ?_
  refine sr_iconst (pc := 105) (n := 1) (v := 1) (by decide +kernel) rfl ?_
  refine sr_icmp_ne (pc := 106) (off := 6) (tg := 112) (by decide +kernel) (by decide) (fun _ => ?_) (fun _ => ?_)
  · refine sr_aloadn (pc := 112) (n := 0) (by decide +kernel) rfl ?_
    refine sr_iloadn (pc := 113) (n := 1) (by decide +kernel) rfl ?_
    refine sr_iloadn (pc := 114) (n := 2) (by decide +kernel) rfl ?_
    refine sr_iconst (pc := 115) (n := 0) (v := 0) (by decide +kernel) rfl ?_
    refine sr_iconst (pc := 116) (n := 0) (v := 0) (by decide +kernel) rfl ?_
    refine sr_cV (pc := 117) (As := [sr_i a0, sr_i a1, sr_i 0, sr_i 0]) (mc1 := 0) (ms1 := 0) (mc2 := 0) (ms2 := 0) fm_11_328 fl_11_328 (by decide +kernel) (sr_in11 _ (by omega)) (rm_11_settles_11_holds) rfl rfl rfl (C11_holds l a0 a1 0 0 t) ?_
    refine sr_kV (fun t1 => ?_)
    refine sr_iload (pc := 120) (i := 5) (by decide +kernel) rfl ?_
    refine sr_iconst (pc := 122) (n := 1) (v := 1) (by decide +kernel) rfl ?_
    refine sr_iadd (pc := 123) (by decide +kernel) ?_
    exact sr_iret (pc := 124) (by decide +kernel) rfl
  · refine sr_iload (pc := 109) (i := 5) (by decide +kernel) rfl ?_
    exact sr_iret (pc := 111) (by decide +kernel) rfl
def F11_settles (a0 : Int32) (a1 : Int32) (t : sr_t) : sr_Rs := (sr_bI (F11_cell a0 a1 t) (fun v1 t1 => (if v1 < 0 ∨ 768 ≤ v1.toNatClampNeg then none else (if (t1.1 40 0 v1.toNatClampNeg) = 0 then (some (.inl (some (sr_i 0)), t1)) else (if a1 < 0 ∨ 32 ≤ a1.toNatClampNeg then none else (sr_bI (F11_keepersOf (t1.1 37 0 a1.toNatClampNeg) t1) (fun v2 t2 => f11_settles_35 a0 a1 (f11_settles_99 a0 a1) sr_fu (t1.1 40 0 v1.toNatClampNeg) v2 0 0 t2)))))))
theorem C11_settles (l : Launch) (a0 : Int32) (a1 : Int32)  (t : sr_t) : sr_ct' l sr_m11_settles [sr_r 11 0, sr_i a0, sr_i a1] t (F11_settles a0 a1 t) 0 0 := by
  refine sr_T_of (L0 := [some (sr_r 11 0), some (sr_i a0), some (sr_i a1), none, none, none, none]) rfl (by decide +kernel) (fun _ => rfl) (fun _ => Nat.le_of_ble_eq_true rfl) ?_
  unfold F11_settles
  refine sr_aloadn (pc := 0) (n := 0) (by decide +kernel) rfl ?_
  refine sr_gC (pc := 1) (i2 := 0) fg_11_68 (by decide +kernel) (sr_in11 _ (by omega)) (fun _ => rfl) ?_
  refine sr_iloadn (pc := 4) (n := 1) (by decide +kernel) rfl ?_
  refine sr_iloadn (pc := 5) (n := 2) (by decide +kernel) rfl ?_
  refine sr_cS (pc := 6) (As := [sr_i a0, sr_i a1]) (mc1 := 0) (ms1 := 0) (mc2 := 0) (ms2 := 0) fm_11_319 fl_11_319 (by decide +kernel) (rm_11_settles_11_cell) rfl rfl rfl (C11_cell l a0 a1 t) ?_
  refine sr_kI (fun v1 t1 => ?_)
  refine sr_aI (pc := 9) (n := 768) rfl (by decide +kernel) (sr_in40 _ (by omega)) (fun _ _ => rfl) ?_
  refine sr_istoren (pc := 10) (n := 3) (by decide +kernel) (by decide) rfl rfl ?_
  refine sr_iloadn (pc := 11) (n := 3) (by decide +kernel) rfl ?_
  refine sr_if_ne (pc := 12) (off := 5) (tg := 17) (by decide +kernel) (by decide) (fun _ => ?_) (fun _ => ?_)
  · refine sr_aloadn (pc := 17) (n := 0) (by decide +kernel) rfl ?_
    refine sr_aloadn (pc := 18) (n := 0) (by decide +kernel) rfl ?_
    refine sr_gC (pc := 19) (i2 := 0) fg_11_59 (by decide +kernel) (sr_in11 _ (by omega)) (fun _ => rfl) ?_
    refine sr_iloadn (pc := 22) (n := 2) (by decide +kernel) rfl ?_
    refine sr_aI (pc := 23) (n := 32) rfl (by decide +kernel) (sr_in37 _ (by omega)) (fun _ _ => rfl) ?_
    refine sr_cV (pc := 24) (As := [sr_i (t1.1 37 0 a1.toNatClampNeg)]) (mc1 := 0) (ms1 := 0) (mc2 := 0) (ms2 := 0) fm_11_335 fl_11_335 (by decide +kernel) (sr_in11 _ (by omega)) (rm_11_settles_11_keepersOf) rfl rfl rfl (C11_keepersOf l (t1.1 37 0 a1.toNatClampNeg) t1) ?_
    refine sr_kI (fun v2 t2 => ?_)
    refine sr_istore (pc := 27) (i := 4) (by decide +kernel) (by decide) rfl rfl ?_
    refine sr_iconst (pc := 29) (n := 0) (v := 0) (by decide +kernel) rfl ?_
    refine sr_istore (pc := 30) (i := 5) (by decide +kernel) (by decide) rfl rfl ?_
    refine sr_iconst (pc := 32) (n := 0) (v := 0) (by decide +kernel) rfl ?_
    refine sr_istore (pc := 33) (i := 6) (by decide +kernel) (by decide) rfl rfl ?_
    exact sr_wk (sr_mono (mc := 0) (ms := 0) (by omega) (by omega) (g11_settles_35 l a0 a1 (f11_settles_99 a0 a1) (g11_settles_99 l a0 a1) sr_fu (t1.1 40 0 v1.toNatClampNeg) v2 0 0 t2)) ⟨rfl, ⟨rfl, ⟨rfl, ⟨rfl, ⟨rfl, ⟨rfl, ⟨rfl, trivial⟩⟩⟩⟩⟩⟩⟩
  · refine sr_iconst (pc := 15) (n := 0) (v := 0) (by decide +kernel) rfl ?_
    exact sr_iret (pc := 16) (by decide +kernel) rfl
