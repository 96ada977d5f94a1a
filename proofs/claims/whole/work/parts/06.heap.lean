/-! rules over the heap, returns, switches -/
section SRb
variable {α : Type} {em : α → sr_H} {l : Launch} {M : sr_M} {pc : Nat} {L : List (Option sr_V)} {S : List sr_V} {t : α} {x : Option (sr_O × α)} {mc ms : Nat}
def sr_fd (T : u_T) (j ty : Nat) : Prop := match ty with
  | 0 => parseFieldDescriptor (T j).2.2.1 = some .int
  | 1 => parseFieldDescriptor (T j).2.2.1 = some .boolean
  | _ => (∃ N : String, parseFieldDescriptor (T j).2.2.1 = some (.object N)) ∨ ∃ e : FieldType, parseFieldDescriptor (T j).2.2.1 = some (.array e)
/-- a field of class k by an entry of a pool -/
def sr_FG (own : String) (idx k j n : Nat) : Prop := ∃ (C : String) (T : u_T) (ty : Nat → FieldType), sr_cl[k]? = some (C, T, n) ∧ j < n ∧ sr_kd k = .inl n ∧ (∀ w ∈ u_ws C T n, w ∈ sr_TB) ∧ (∀ k, k < n → parseFieldDescriptor (T k).2.2.1 = some (ty k)) ∧ (∀ a, a < n → ∀ b, b < n → a ≠ b → (T a).2.1 ≠ (T b).2.1) ∧
  (Cond.fieldLink own idx (T j).1 (T j).2.1 (T j).2.2.1 ∈ sr_TB ∨ ∃ host, Cond.fieldLinkNest own idx (T j).1 (T j).2.1 (T j).2.2.1 host ∈ sr_NB)
/-- .. and its type: 0 int, 1 boolean, 2 a reference; whether it is final -/
def sr_FT (k j n ty : Nat) (fin : Bool) : Prop := ∃ (C : String) (T : u_T), sr_cl[k]? = some (C, T, n) ∧ (T j).2.2.2 = fin ∧ (fin = true → (T j).1 = C) ∧ sr_fd T j ty
/-- a value for a field of a type -/
def sr_vt (ty : Nat) (v : sr_V) : Prop := match ty with
  | 0 => ∃ a : Int32, v = sr_i a
  | 1 => v = sr_i 0 ∨ v = sr_i 1
  | _ => ∃ k i : Nat, v = sr_r k i
theorem sr_get {idx k j n i : Nat} {v : sr_V} (F : sr_FG (sr_My M).cls idx k j n) (hd : decode (sr_Mb M) pc = .ok (.getfield idx, 3)) (hm : (k, i) ∈ (em t).1) (hv : (em t).2.2 k i j = v) (kk : sr_G em l M (pc + 3) L (v :: S) t x mc ms) : sr_G em l M pc L (sr_r k i :: S) t x mc ms := by
  intro r t' hx p e R s m args below meth c D dA b H locs ls cells slots C Wd hL h1 h2 h3 h4 h5
  obtain ⟨Cn, T, ty, f1, f2, f3, f4, f5, f6, f7⟩ := F
  obtain ⟨q0, e1, e2⟩ := sr_at (ad := sr_ad b) (dA := dA) hm
  rw [sr_obj f3] at e2
  have hv2 : ((List.range n).map (fun j => sr_cv (sr_ad b) ((em t).2.2 k i j)))[j]? = some (sr_cv (sr_ad b) v) := by simp [f2, hv]
  rcases f7 with f7 | ⟨host, f7⟩
  · exact va_get C.1 C.2.1 C.2.2.2.2.2.1 f4 C.2.2.2.2.1 C.2.2.2.2.2.2.2.2.2.2.1 Wd.1 q0 e2 f1 j f2 (C.2.2.2.2.2.1 _ f7) (fun _ h9 => h9) hv2 hd (kk r t' hx p e R s m args below meth c D dA b H locs ls cells slots C Wd hL h1 h2 h3 h4 h5)
  · exact va_getN C.1 C.2.1 C.2.2.2.2.2.1 f4 C.2.2.2.2.1 C.2.2.2.2.2.2.2.2.2.2.1 Wd.1 q0 e2 f1 j f2 (va_Nw.use rfl (C.2.2.2.2.2.2.1 _ f7)) (fun _ h9 => h9) hv2 hd (kk r t' hx p e R s m args below meth c D dA b H locs ls cells slots C Wd hL h1 h2 h3 h4 h5)
theorem sr_vt_ok {ad : Nat → Nat → Nat} {ty : Nat} {v : sr_V} {T : u_T} {j : Nat} (h : sr_vt ty v) (hp : sr_fd T j ty) : ∃ f : FieldType, parseFieldDescriptor (T j).2.2.1 = some f ∧ narrow f (sr_cv ad v) = sr_cv ad v ∧ fits f (sr_cv ad v) = true := by
  match ty, h, hp with
  | 0, h, hp =>
    obtain ⟨a, rfl⟩ := h
    exact ⟨_, hp, rfl, rfl⟩
  | 1, h, hp =>
    refine ⟨_, hp, ?_⟩
    rcases h with rfl | rfl
    · show narrow .boolean (.int 0) = .int 0 ∧ fits .boolean (.int 0) = true
      exact ⟨by decide, by decide⟩
    · show narrow .boolean (.int 1) = .int 1 ∧ fits .boolean (.int 1) = true
      exact ⟨by decide, by decide⟩
  | n + 2, h, hp =>
    obtain ⟨k, i, rfl⟩ := h
    rcases hp with ⟨N, hp⟩ | ⟨e, hp⟩
    · exact ⟨_, hp, rfl, rfl⟩
    · exact ⟨_, hp, rfl, rfl⟩
theorem sr_put {idx k j n i ty : Nat} {v : sr_V} {t2 : α} {fin : Bool} (F : sr_FG (sr_My M).cls idx k j n) (F2 : sr_FT k j n ty fin) (hd : decode (sr_Mb M) pc = .ok (.putfield idx, 3)) (hm : (k, i) ∈ (em t).1) (hv : sr_vt ty v) (hf : fin = true → (sr_My M).name = "<init>" ∧ ∃ (C : String) (T : u_T), sr_cl[k]? = some (C, T, n) ∧ C = (sr_My M).cls ∧ Cond.fieldLink (sr_My M).cls idx (T j).1 (T j).2.1 (T j).2.2.1 ∈ sr_TB) (he : em t2 = ((em t).1, (em t).2.1, sr_up (em t).2.2 k i j v))
    (kk : sr_G em l M (pc + 3) L S t2 x mc ms) : sr_G em l M pc L (v :: sr_r k i :: S) t x mc ms := by
  intro r t' hx p e R s m args below meth c D dA b H locs ls cells slots C Wd hL h1 h2 h3 h4 h5
  obtain ⟨Cn, T, ty0, f1, f2, f3, f4, f5, f6, f7⟩ := F
  obtain ⟨Cn', T', g1, g2, g3, g4⟩ := F2
  cases f1.symm.trans g1
  obtain ⟨q0, e1, e2⟩ := sr_at (ad := sr_ad b) (dA := dA) hm
  obtain ⟨ft, p1, p2, p3⟩ := sr_vt_ok (ad := sr_ad b) hv g4
  have e3 := e2
  rw [sr_obj f3] at e3
  have hset : (sr_cs (sr_ad b) dA (em t)).set q0 (sr_ad b k i, .inr (k, ((List.range n).map (fun j => sr_cv (sr_ad b) ((em t).2.2 k i j))).set j (sr_cv (sr_ad b) v))) = sr_cs (sr_ad b) dA (em t2) := by
    rw [he]
    refine sr_set Wd.2.1 e1 ?_
    rw [sr_obj f3, sr_objset f2]
  have kk2 : ∀ (H1 : Heap) (locs1 : List Loc), va_P D sr_cl ((sr_cs (sr_ad b) dA (em t)).set q0 (sr_ad b k i, .inr (k, ((List.range n).map (fun j => sr_cv (sr_ad b) ((em t).2.2 k i j))).set j (sr_cv (sr_ad b) v)))) H1 → va_D (sr_A b) ((sr_cs (sr_ad b) dA (em t)).set q0 (sr_ad b k i, .inr (k, ((List.range n).map (fun j => sr_cv (sr_ad b) ((em t).2.2 k i j))).set j (sr_cv (sr_ad b) v)))) → va_S (sr_A b) s.heap H1 locs1 → W p l e R s m args below meth c H1 locs1 cells slots (vx_MQ below (sr_Q D dA b r (em t')) (sr_X D dA b r (em t')) args s (cells + mc) (slots + ms) (sr_A b)) (F0 m (pc + 3) ls (S.map (sr_cv (sr_ad b)))) := by
    intro H1 locs1 a1 a2 a3
    rw [hset] at a1 a2
    exact kk r t' hx p e R s m args below meth c D dA b H1 locs1 ls cells slots C ⟨a1, a2, a3⟩ hL h1 h2 h3 h4 (by rw [he]; exact h5)
  have hl : j < ((List.range n).map (fun j => sr_cv (sr_ad b) ((em t).2.2 k i j))).length := by simpa using f2
  cases fin with
  | true =>
    obtain ⟨f8, C9, T9, c1, c2, c3⟩ := hf rfl
    cases f1.symm.trans c1
    exact va_putF C.1 C.2.1 C.2.2.2.2.2.1 f4 ty0 f5 f6 C.2.2.2.2.1 C.2.2.2.2.2.2.2.2.2.2.1 Wd.1 Wd.2.1 Wd.2.2 q0 e3 f1 j f2 (C.2.2.2.2.2.1 _ c3) (fun _ h9 => h9) g2 (C.2.2.2.2.2.2.2.2.2.1.trans f8) ((g3 rfl).trans c2) p1 p2 p3 hl hd kk2
  | false =>
    rcases f7 with f7 | ⟨host, f7⟩
    · exact va_put C.1 C.2.1 C.2.2.2.2.2.1 f4 ty0 f5 f6 C.2.2.2.2.1 C.2.2.2.2.2.2.2.2.2.2.1 Wd.1 Wd.2.1 Wd.2.2 q0 e3 f1 j f2 (C.2.2.2.2.2.1 _ f7) (fun _ h9 => h9) g2 p1 p2 p3 hl hd kk2
    · exact va_putN C.1 C.2.1 C.2.2.2.2.2.1 f4 ty0 f5 f6 C.2.2.2.2.1 C.2.2.2.2.2.2.2.2.2.2.1 Wd.1 Wd.2.1 Wd.2.2 q0 e3 f1 j f2 (va_Nw.use rfl (C.2.2.2.2.2.2.1 _ f7)) (fun _ h9 => h9) g2 p1 p2 p3 hl hd kk2
theorem sr_iald {k i n : Nat} {a : Int32} (hk : sr_kd k = .inr (0, n)) (hd : decode (sr_Mb M) pc = .ok (.iaload, 1)) (hm : (k, i) ∈ (em t).1) {g : Int32} (hg : sr_I ((em t).2.2 k i a.toNatClampNeg) = g) (kk : ¬ (a < 0 ∨ n ≤ a.toNatClampNeg) → sr_G em l M (pc + 1) L (sr_i g :: S) t x mc ms) : sr_G em l M pc L (sr_i a :: sr_r k i :: S) t (if a < 0 ∨ n ≤ a.toNatClampNeg then none else x) mc ms := by
  intro r t' hx p e R s m args below meth c D dA b H locs ls cells slots C Wd hL h1 h2 h3 h4 h5
  by_cases hz : a < 0 ∨ n ≤ a.toNatClampNeg
  · rw [if_pos hz] at hx; cases hx
  · rw [if_neg hz] at hx
    obtain ⟨q0, e1, e2⟩ := sr_at (ad := sr_ad b) (dA := dA) hm
    rw [sr_arr hk] at e2
    subst hg
    exact va_iald C.1 C.2.1 C.2.2.2.2.2.2.2.2.2.2.1 Wd.1 q0 0 e2 rfl hz hd (kk hz r t' hx p e R s m args below meth c D dA b H locs ls cells slots C Wd hL h1 h2 h3 h4 h5)
theorem sr_lald {k i n : Nat} {a : Int32} (hk : sr_kd k = .inr (1, n)) (hd : decode (sr_Mb M) pc = .ok (.laload, 1)) (hm : (k, i) ∈ (em t).1) {g : Int64} (hg : sr_L ((em t).2.2 k i a.toNatClampNeg) = g) (kk : ¬ (a < 0 ∨ n ≤ a.toNatClampNeg) → sr_G em l M (pc + 1) L (sr_l g :: S) t x mc ms) : sr_G em l M pc L (sr_i a :: sr_r k i :: S) t (if a < 0 ∨ n ≤ a.toNatClampNeg then none else x) mc ms := by
  intro r t' hx p e R s m args below meth c D dA b H locs ls cells slots C Wd hL h1 h2 h3 h4 h5
  by_cases hz : a < 0 ∨ n ≤ a.toNatClampNeg
  · rw [if_pos hz] at hx; cases hx
  · rw [if_neg hz] at hx
    obtain ⟨q0, e1, e2⟩ := sr_at (ad := sr_ad b) (dA := dA) hm
    rw [sr_arr hk] at e2
    subst hg
    exact va_lald C.1 C.2.1 C.2.2.2.2.2.2.2.2.2.2.1 Wd.1 q0 1 e2 rfl hz hd (kk hz r t' hx p e R s m args below meth c D dA b H locs ls cells slots C Wd hL h1 h2 h3 h4 h5)
theorem sr_aald {k i n ty k2 i2 : Nat} {a : Int32} (hk : sr_kd k = .inr (ty, n)) (hty : ty = 2 ∨ ty = 3) (hd : decode (sr_Mb M) pc = .ok (.aaload, 1)) (hm : (k, i) ∈ (em t).1) (hg : (em t).2.2 k i a.toNatClampNeg = sr_r k2 i2) (kk : ¬ (a < 0 ∨ n ≤ a.toNatClampNeg) → sr_G em l M (pc + 1) L (sr_r k2 i2 :: S) t x mc ms) : sr_G em l M pc L (sr_i a :: sr_r k i :: S) t (if a < 0 ∨ n ≤ a.toNatClampNeg then none else x) mc ms := by
  intro r t' hx p e R s m args below meth c D dA b H locs ls cells slots C Wd hL h1 h2 h3 h4 h5
  by_cases hz : a < 0 ∨ n ≤ a.toNatClampNeg
  · rw [if_pos hz] at hx; cases hx
  · rw [if_neg hz] at hx
    obtain ⟨q0, e1, e2⟩ := sr_at (ad := sr_ad b) (dA := dA) hm
    rw [sr_arr hk] at e2
    have hk3 := kk hz r t' hx p e R s m args below meth c D dA b H locs ls cells slots C Wd hL h1 h2 h3 h4 h5
    rcases hty with rfl | rfl
    · refine va_aldq C.1 C.2.1 C.2.2.2.2.2.2.2.2.2.2.1 Wd.1 q0 2 e2 rfl hz hd ?_
      rw [hg]
      exact hk3
    · refine va_aldq C.1 C.2.1 C.2.2.2.2.2.2.2.2.2.2.1 Wd.1 q0 3 e2 rfl hz hd ?_
      rw [hg]
      exact hk3
theorem sr_alen {k i n ty : Nat} {v : Int32} (hk : sr_kd k = .inr (ty, n)) (hty : ty < 4) (hd : decode (sr_Mb M) pc = .ok (.arraylength, 1)) (hm : (k, i) ∈ (em t).1) (hv : Int32.ofNat n = v) (kk : sr_G em l M (pc + 1) L (sr_i v :: S) t x mc ms) : sr_G em l M pc L (sr_r k i :: S) t x mc ms := by
  intro r t' hx p e R s m args below meth c D dA b H locs ls cells slots C Wd hL h1 h2 h3 h4 h5
  obtain ⟨q0, e1, e2⟩ := sr_at (ad := sr_ad b) (dA := dA) hm
  rw [sr_arr hk] at e2
  have hk3 := kk r t' hx p e R s m args below meth c D dA b H locs ls cells slots C Wd hL h1 h2 h3 h4 h5
  have hq : ty = 0 ∨ ty = 1 ∨ ty = 2 ∨ ty = 3 := by omega
  rcases hq with rfl | rfl | rfl | rfl
  · exact va_alen C.1 C.2.1 C.2.2.2.2.2.2.2.2.2.2.1 Wd.1 q0 0 e2 rfl hv hd hk3
  · exact va_alen C.1 C.2.1 C.2.2.2.2.2.2.2.2.2.2.1 Wd.1 q0 1 e2 rfl hv hd hk3
  · exact va_alen C.1 C.2.1 C.2.2.2.2.2.2.2.2.2.2.1 Wd.1 q0 2 e2 rfl hv hd hk3
  · exact va_alen C.1 C.2.1 C.2.2.2.2.2.2.2.2.2.2.1 Wd.1 q0 3 e2 rfl hv hd hk3
theorem sr_iast {k i n : Nat} {a g : Int32} {t2 : α} (hk : sr_kd k = .inr (0, n)) (hd : decode (sr_Mb M) pc = .ok (.iastore, 1)) (hm : (k, i) ∈ (em t).1) (he : em t2 = ((em t).1, (em t).2.1, sr_up (em t).2.2 k i a.toNatClampNeg (sr_i g))) (kk : ¬ (a < 0 ∨ n ≤ a.toNatClampNeg) → sr_G em l M (pc + 1) L S t2 x mc ms) : sr_G em l M pc L (sr_i g :: sr_i a :: sr_r k i :: S) t (if a < 0 ∨ n ≤ a.toNatClampNeg then none else x) mc ms := by
  intro r t' hx p e R s m args below meth c D dA b H locs ls cells slots C Wd hL h1 h2 h3 h4 h5
  by_cases hz : a < 0 ∨ n ≤ a.toNatClampNeg
  · rw [if_pos hz] at hx; cases hx
  · rw [if_neg hz] at hx
    obtain ⟨q0, e1, e2⟩ := sr_at (ad := sr_ad b) (dA := dA) hm
    rw [sr_arr hk] at e2
    refine va_iast C.1 C.2.1 C.2.2.2.2.2.2.2.2.2.2.1 Wd.1 Wd.2.1 Wd.2.2 q0 0 e2 rfl hz hd (fun H1 locs1 a1 a2 a3 => ?_)
    have hset : (sr_cs (sr_ad b) dA (em t)).set q0 (sr_ad b k i, .inl (dA 0, n, .inl (upd (fun j => sr_I ((em t).2.2 k i j)) a.toNatClampNeg g))) = sr_cs (sr_ad b) dA (em t2) := by
      rw [he]
      refine sr_set Wd.2.1 e1 ?_
      rw [sr_arr hk]
      show Sum.inl (dA 0, n, Sum.inl (fun j => sr_I (sr_up (em t).2.2 k i a.toNatClampNeg (sr_i g) k i j))) = _
      rw [sr_intset]
    rw [hset] at a1 a2
    exact kk hz r t' hx p e R s m args below meth c D dA b H1 locs1 ls cells slots C ⟨a1, a2, a3⟩ hL h1 h2 h3 h4 (by rw [he]; exact h5)
theorem sr_last {k i n : Nat} {a : Int32} {g : Int64} {t2 : α} (hk : sr_kd k = .inr (1, n)) (hd : decode (sr_Mb M) pc = .ok (.lastore, 1)) (hm : (k, i) ∈ (em t).1) (he : em t2 = ((em t).1, (em t).2.1, sr_up (em t).2.2 k i a.toNatClampNeg (sr_l g))) (kk : ¬ (a < 0 ∨ n ≤ a.toNatClampNeg) → sr_G em l M (pc + 1) L S t2 x mc ms) : sr_G em l M pc L (sr_l g :: sr_i a :: sr_r k i :: S) t (if a < 0 ∨ n ≤ a.toNatClampNeg then none else x) mc ms := by
  intro r t' hx p e R s m args below meth c D dA b H locs ls cells slots C Wd hL h1 h2 h3 h4 h5
  by_cases hz : a < 0 ∨ n ≤ a.toNatClampNeg
  · rw [if_pos hz] at hx; cases hx
  · rw [if_neg hz] at hx
    obtain ⟨q0, e1, e2⟩ := sr_at (ad := sr_ad b) (dA := dA) hm
    rw [sr_arr hk] at e2
    refine va_last C.1 C.2.1 C.2.2.2.2.2.2.2.2.2.2.1 Wd.1 Wd.2.1 Wd.2.2 q0 1 e2 rfl hz hd (fun H1 locs1 a1 a2 a3 => ?_)
    have hset : (sr_cs (sr_ad b) dA (em t)).set q0 (sr_ad b k i, .inl (dA 1, n, .inr (.inl (vp_updL (fun j => sr_L ((em t).2.2 k i j)) a.toNatClampNeg g)))) = sr_cs (sr_ad b) dA (em t2) := by
      rw [he]
      refine sr_set Wd.2.1 e1 ?_
      rw [sr_arr hk]
      show Sum.inl (dA 1, n, Sum.inr (Sum.inl (fun j => sr_L (sr_up (em t).2.2 k i a.toNatClampNeg (sr_l g) k i j)))) = _
      rw [sr_lngset]
    rw [hset] at a1 a2
    exact kk hz r t' hx p e R s m args below meth c D dA b H1 locs1 ls cells slots C ⟨a1, a2, a3⟩ hL h1 h2 h3 h4 (by rw [he]; exact h5)
theorem sr_ad_inj (h : ∀ q ∈ sr_nms, ∀ q' ∈ sr_nms, sr_ix q.1 q.2 = sr_ix q'.1 q'.2 → q = q') {b k i k' i' : Nat} (h1 : (k, i) ∈ sr_nms) (h2 : (k', i') ∈ sr_nms) : sr_ad b k i = sr_ad b k' i' ↔ (k, i) = (k', i') := by
  constructor
  · intro e
    exact h _ h1 _ h2 (by unfold sr_ad at e; show sr_ix k i = sr_ix k' i'; omega)
  · intro e
    cases e; rfl
theorem sr_ret (hd : decode (sr_Mb M) pc = .ok (.return_, 1)) (hr : sr_Mt M = none) : sr_G em l M pc L [] t (some (.inl none, t)) mc ms := by
  intro r t' hx p e R s m args below meth c D dA b H locs ls cells slots C Wd hL h1 h2 h3 h4 h5
  cases hx
  refine W.widen (k := cells + mc) (n := slots + ms) (by omega) (by omega) ?_
  exact vx_ret (W.vret C.1 C.2.1 (C.2.2.2.1.trans hr) (fun u hu hW => ⟨⟨none, rfl, rfl⟩, by rw [hu]; exact Wd.1, Wd.2.1, Wd.2.2.F hu⟩) Wd.2.2.2.2 hd C.2.2.2.2.2.2.2.1)
theorem sr_iret {v : Int32} (hd : decode (sr_Mb M) pc = .ok (.ireturn, 1)) (hr : sr_Mt M = some .int) : sr_G em l M pc L [sr_i v] t (some (.inl (some (sr_i v)), t)) mc ms := by
  intro r t' hx p e R s m args below meth c D dA b H locs ls cells slots C Wd hL h1 h2 h3 h4 h5
  cases hx
  refine W.widen (k := cells + mc) (n := slots + ms) (by omega) (by omega) ?_
  exact vx_ret (W.iret C.1 C.2.1 (C.2.2.2.1.trans hr) (fun u hu hW => ⟨⟨some (sr_i v), rfl, rfl⟩, by rw [hu]; exact Wd.1, Wd.2.1, Wd.2.2.F hu⟩) Wd.2.2.2.2 hd C.2.2.2.2.2.2.2.1)
theorem sr_zret {v : Int32} (hd : decode (sr_Mb M) pc = .ok (.ireturn, 1)) (hr : sr_Mt M = some .boolean) (hv : v = 0 ∨ v = 1) : sr_G em l M pc L [sr_i v] t (some (.inl (some (sr_i v)), t)) mc ms := by
  intro r t' hx p e R s m args below meth c D dA b H locs ls cells slots C Wd hL h1 h2 h3 h4 h5
  cases hx
  refine W.widen (k := cells + mc) (n := slots + ms) (by omega) (by omega) ?_
  exact vx_ret (W.zret C.1 C.2.1 (C.2.2.2.1.trans hr) (by rcases hv with rfl | rfl <;> decide) (fun u hu hW => ⟨⟨some (sr_i v), rfl, rfl⟩, by rw [hu]; exact Wd.1, Wd.2.1, Wd.2.2.F hu⟩) Wd.2.2.2.2 hd C.2.2.2.2.2.2.2.1)
theorem sr_lret {v : Int64} (hd : decode (sr_Mb M) pc = .ok (.lreturn, 1)) (hr : sr_Mt M = some .long) : sr_G em l M pc L [sr_l v] t (some (.inl (some (sr_l v)), t)) mc ms := by
  intro r t' hx p e R s m args below meth c D dA b H locs ls cells slots C Wd hL h1 h2 h3 h4 h5
  cases hx
  refine W.widen (k := cells + mc) (n := slots + ms) (by omega) (by omega) ?_
  exact vx_ret (W.lret C.1 C.2.1 (C.2.2.2.1.trans hr) (fun u hu hW => ⟨⟨some (sr_l v), rfl, rfl⟩, by rw [hu]; exact Wd.1, Wd.2.1, Wd.2.2.F hu⟩) Wd.2.2.2.2 hd C.2.2.2.2.2.2.2.1)
theorem sr_aret {k i : Nat} {N : String} (hd : decode (sr_Mb M) pc = .ok (.areturn, 1)) (hr : sr_Mt M = some (.object N)) : sr_G em l M pc L [sr_r k i] t (some (.inl (some (sr_r k i)), t)) mc ms := by
  intro r t' hx p e R s m args below meth c D dA b H locs ls cells slots C Wd hL h1 h2 h3 h4 h5
  cases hx
  refine W.widen (k := cells + mc) (n := slots + ms) (by omega) (by omega) ?_
  exact vx_ret (W.aret C.1 C.2.1 (C.2.2.2.1.trans hr) (Or.inl ⟨_, rfl⟩) (Or.inr ⟨_, rfl⟩) (fun u hu hW => ⟨⟨some (sr_r k i), rfl, rfl⟩, by rw [hu]; exact Wd.1, Wd.2.1, Wd.2.2.F hu⟩) Wd.2.2.2.2 hd C.2.2.2.2.2.2.2.1)
theorem sr_tsw {u : Int32} {dflt lo hi : Int} {offs : Array Int} {len tg : Nat} {f : Nat → Option (sr_O × α)} (hd : decode (sr_Mb M) pc = .ok (.tableswitch dflt lo hi offs, len)) (hs : offs.size = (hi + 1 - lo).toNat) (ht : (pc : Int) + dflt = (tg : Int)) (kd : (u.toInt < lo ∨ hi < u.toInt) → sr_G em l M tg L S t x mc ms)
    (kk : ∀ (j : Nat) (off : Int), offs[j]? = some off → u.toInt = lo + j → ∃ tg : Nat, (pc : Int) + off = (tg : Int) ∧ sr_G em l M tg L S t (f j) mc ms) : sr_G em l M pc L (sr_i u :: S) t (if u.toInt < lo ∨ hi < u.toInt then x else f (u.toInt - lo).toNat) mc ms := by
  intro r t' hx p e R s m args below meth c D dA b H locs ls cells slots C Wd hL h1 h2 h3 h4 h5
  by_cases hz : u.toInt < lo ∨ hi < u.toInt
  · rw [if_pos hz] at hx
    exact lv_tableOut C.1 C.2.1 hd hz ht (kd hz r t' hx p e R s m args below meth c D dA b H locs ls cells slots C Wd hL h1 h2 h3 h4 h5)
  · rw [if_neg hz] at hx
    have hj : (u.toInt - lo).toNat < offs.size := by rw [hs]; omega
    obtain ⟨tg2, e1, e2⟩ := kk (u.toInt - lo).toNat offs[(u.toInt - lo).toNat] (Array.getElem?_eq_getElem hj) (by omega)
    exact lv_tableIn C.1 C.2.1 hd (fun q => hz (Or.inl q)) (fun q => hz (Or.inr q)) (Array.getElem?_eq_getElem hj) e1 (e2 r t' hx p e R s m args below meth c D dA b H locs ls cells slots C Wd hL h1 h2 h3 h4 h5)
end SRb
