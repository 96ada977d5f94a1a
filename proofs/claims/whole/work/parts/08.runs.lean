/-! calls -/
section SRd
variable {α : Type} {em : α → sr_H} {l : Launch} {M N : sr_M} {pc : Nat} {L : List (Option sr_V)} {S : List sr_V} {t : α} {x : Option (sr_O × α)} {mc ms mc1 ms1 mc2 ms2 : Nat}
/-- a method of class k by an entry of a pool, its own table empty -/
def sr_FM (own : String) (idx : Nat) (N : sr_M) (n : Nat) : Prop :=
  sr_Mh N = [] ∧ sr_cw N ∈ sr_TB ∧ Cond.initialized (sr_My N).cls ∈ sr_TB ∧ ((sr_My N).cls ≠ "java/lang/invoke/MethodHandle" ∧ (sr_My N).cls ≠ "java/lang/invoke/VarHandle" ∧ (parseMethodDescriptor (sr_My N).desc).map (fun d => d.parameters.length) = some n) ∧
  (Cond.methodLink own idx (sr_My N) ∈ sr_TB ∨ ∃ host, Cond.methodLinkNest own idx (sr_My N) host ∈ sr_NB)
def sr_FV (own : String) (idx : Nat) (N : sr_M) (k n : Nat) : Prop :=
  sr_FM own idx N n ∧ (∃ (T : u_T) (nn : Nat), sr_cl[k]? = some ((sr_My N).cls, T, nn) ∧ sr_kd k = .inl nn) ∧ Cond.instanceMethod (sr_My N) ∈ sr_TB ∧ Cond.selects (sr_My N).cls (sr_My N) (sr_My N) ∈ sr_TB
def sr_FS (own : String) (idx : Nat) (N : sr_M) (n : Nat) : Prop := sr_FM own idx N n ∧ Cond.static (sr_My N) ∈ sr_TB
def sr_FI (own : String) (idx : Nat) (N : sr_M) (n : Nat) : Prop := sr_FM own idx N n ∧ Cond.instanceMethod (sr_My N) ∈ sr_TB ∧ (sr_My N).name = "<init>" ∧ sr_Mt N = none
/-- room for a callee -/
def sr_RM (M N : sr_M) : Prop := sr_Mf N + 1 ≤ sr_Mf M ∧ 8 + (sr_Mn N + 11) + sr_Mo N ≤ sr_Mo M
def sr_ws (S : List sr_V) : Bool := decide ((S.map (fun v => if sr_c1 v then 1 else 2)).sum ≤ 8)
theorem sr_ws_ok {ad : Nat → Nat → Nat} (h : sr_ws S = true) : ((S.map (sr_cv ad)).map fun v => v.category).sum ≤ 8 := by
  have e : ((S.map (sr_cv ad)).map fun v => v.category) = S.map (fun v => if sr_c1 v then 1 else 2) := by
    rw [List.map_map]
    apply List.map_congr_left
    intro v _
    show (sr_cv ad v).category = _
    rw [sr_cat]
    rcases v with x | x | x <;> simp [sr_c1]
  rw [e]
  exact of_decide_eq_true h
theorem sr_good {w : Cond} (h : w ∈ sr_TB) : (w.onTables && w.keeps) = true ∨ ∃ ty, w = .arrayClass ty := good_of_word (List.mem_filter.mp h).2
section Go
variable {p : Program} {e : Env} {R : Room} {s : State} {m : MethodId} {args : Array Value} {below : List Frame} {meth : Method} {c : Code} {D : va_G} {dA : Nat → ClassId} {b : Nat} {H : Heap} {locs : List Loc} {ls : Array Slot} {cells slots : Nat}
theorem sr_callB {idx n : Nat} (C : sr_C l M p s m args meth c D dA b) (F : sr_FM (sr_My M).cls idx N n) (hR : sr_RM M N) (h1 : sr_Mf M ≤ R.frames) (h2 : sr_Mo M ≤ R.locals) (hl : Cond.methodLink (sr_My M).cls idx (sr_My N) ∈ sr_TB) :
    CallB R s args (sr_My M).cls idx (sr_My N) (sr_Mb N) (sr_Mn N) (sr_Mt N) (sr_cw N :: sr_TB) (sr_rm N mc1 ms1) mc1 ms1 n := by
  obtain ⟨f1, f2, f3, f4, -⟩ := F
  have hts := C.2.2.2.2.2.1
  refine callB_of n hts (fun w hw => ?_) (by rw [sr_cw_nil f1]) rfl rfl (hts _ f3) (hts _ hl) f4 ⟨Nat.le_trans hR.1 h1, Nat.le_trans hR.2 h2⟩
  rcases List.mem_cons.mp hw with rfl | h
  · exact ⟨f2, sr_good f2⟩
  · exact ⟨h, sr_good h⟩
theorem sr_callN {idx n : Nat} {host : String} (C : sr_C l M p s m args meth c D dA b) (F : sr_FM (sr_My M).cls idx N n) (hR : sr_RM M N) (h1 : sr_Mf M ≤ R.frames) (h2 : sr_Mo M ≤ R.locals) (hl : Cond.methodLinkNest (sr_My M).cls idx (sr_My N) host ∈ sr_NB) :
    va_CN R s args (sr_My M).cls idx (sr_My N) host (sr_Mb N) (sr_Mn N) (sr_Mt N) (sr_cw N :: sr_TB) (sr_rm N mc1 ms1) mc1 ms1 n := by
  obtain ⟨f1, f2, f3, f4, -⟩ := F
  have hts := C.2.2.2.2.2.1
  refine va_cnB n hts (fun w hw => ?_) (by rw [sr_cw_nil f1]) rfl rfl (C.2.2.2.2.2.2.1 _ hl) (hts _ f3) f4 ⟨Nat.le_trans hR.1 h1, Nat.le_trans hR.2 h2⟩
  rcases List.mem_cons.mp hw with rfl | h
  · exact ⟨f2, sr_good f2⟩
  · exact ⟨h, sr_good h⟩
/-- the callee's start, from any state with the caller's heap -/
theorem sr_pre {vs : List sr_V} {h : sr_H} (C : sr_C l M p s m args meth c D dA b) (Wd : sr_W D dA b h s H locs) (hz : H.size ≤ s.heap.size + cells) (h5 : h.2.1 = true → s.heap.size + cells = b + h.1.length ∧ h.1 = sr_nms.take h.1.length) :
    ∀ U : State, U.heap = H → s.WarmedH U.vm → sr_Pc l D dA b vs h (vs.map (sr_cv (sr_ad b))).toArray U := by
  intro U hU hW
  have hb : b ≤ H.size := Nat.le_trans C.2.2.2.2.2.2.2.2.2.2.2.2 Wd.2.2.1
  refine ⟨rfl, va_K.moved hW.alike C.2.2.2.2.2.2.2.2.2.2.1, by rw [hU]; exact Wd.1, Wd.2.1, by rw [hU]; exact hb, fun w hw => sr_nb_warm hw hW (C.2.2.2.2.2.2.1 w hw), sr_XS_warm hW hU Wd.2.2 C.2.2.2.2.2.2.2.2.2.2.2.1, fun hf => ?_⟩
  obtain ⟨a1, a2⟩ := h5 hf
  have a3 := sr_size sr_nms_ix Wd.1 hb a2
  exact ⟨by rw [hU]; omega, a2⟩
theorem sr_noX {st u : State} {E : String} {v : Option sr_V} {h : sr_H} : ¬ sr_X D dA b (.inl v) h E st u := fun hq => by
  obtain ⟨⟨z, hz, -⟩, -⟩ := hq
  cases hz
theorem sr_toMet {v : Option sr_V} {h : sr_H} {Pc : Array Value → State → Prop} {y : MethodName} {ws : List Cond} {rm : Room} (hM : vx_Met l y ws rm Pc (sr_Q D dA b (.inl v) h) (sr_X D dA b (.inl v) h) mc1 ms1 (sr_A b)) : Met l y ws rm Pc (sr_Q D dA b (.inl v) h) mc1 ms1 (sr_A b) := by
  intro p e a1 a2 a3 s m args below b1 b2 b3 b4
  obtain ⟨n, o, c1, c2, c3, c4⟩ := hM p e a1 a2 a3 s m args below b1 b2 b3 b4
  refine ⟨n, o, c1, c2, c3, ?_⟩
  rcases c4 with c4 | ⟨q, -, E, ce, L, z, -⟩
  · exact c4
  · exact absurd z sr_noX
/-- behind a call -/
theorem sr_fin {fx : Option (sr_O × α)} {kx : Option sr_V → α → Option (sr_O × α)} {st0 : List Value} {a : Array Value} {r : sr_O} {t' : α} (C : sr_C l M p s m args meth c D dA b) (Wd : sr_W D dA b (em t) s H locs) (hL : lv_has ls (sr_Mn M) (sr_lv (sr_ad b) 0 L)) (h1 : sr_Mf M ≤ R.frames) (h2 : sr_Mo M ≤ R.locals) (h3 : cells + (mc1 + mc2) ≤ R.cells) (h4 : slots + (ms1 + ms2) ≤ R.slots)
    (h5 : (em t).2.1 = true → s.heap.size + cells = b + (em t).1.length ∧ (em t).1 = sr_nms.take (em t).1.length)
    (hh : sr_Mh M = []) (hx : sr_bd fx kx = some (r, t'))
    (hrun : ∀ r1 t1, fx = some (r1, t1) → H.size ≤ s.heap.size + cells → vx_Run p l e R s m args below meth c H locs cells slots mc1 ms1 (F0 m pc ls st0) (S.map (sr_cv (sr_ad b))) (sr_Q D dA b r1 (em t1) a) (sr_X D dA b r1 (em t1)) (sr_A b))
    (hfl : ∀ v t1, fx = some (.inl v, t1) → (em t1).2.1 = true → (em t).2.1 = true ∧ (em t1).1.length = (em t).1.length + mc1 ∧ (em t1).1 = sr_nms.take (em t1).1.length)
    (kk : ∀ v t1, fx = some (.inl v, t1) → sr_G em l M (pc + 3) L (v.toList ++ S) t1 (kx v t1) mc2 ms2) :
    W p l e R s m args below meth c H locs cells slots (vx_MQ below (sr_Q D dA b r (em t')) (sr_X D dA b r (em t')) args s (cells + (mc1 + mc2)) (slots + (ms1 + ms2)) (sr_A b)) (F0 m pc ls st0) := by
  intro T hT X
  have hz : H.size ≤ s.heap.size + cells := by rw [← hT]; exact X.heapSize
  cases hfx : fx with
  | none => rw [hfx] at hx; cases hx
  | some q =>
    obtain ⟨r1, t1⟩ := q
    rcases hrun r1 t1 hfx hz T hT X with ⟨v, st₀, u, T', L9, g0, X', gL, e1, e2, ⟨⟨v1, hv1, hv2⟩, w1, w2, w3⟩, st⟩ | ⟨q, st₀, u, T', L9, E, ce, g0, X', gL, e1, e2, ⟨⟨z, hz1, hz2⟩, w1, w2, w3⟩, hce, hcv, hcl, st⟩
    · subst hv1
      cases hv2
      rw [hfx] at hx
      obtain ⟨k1, k2, k3⟩ := vx_keep (A0 := sr_A b) (A1 := sr_A b) (free := sr_A b) g0 e1 Wd.2.2 (fun _ _ h => h) (fun _ h => h) gL w3
      have key := kk v1 t1 hfx r t' hx p e R s m args below meth c D dA b T'.heap (locs ++ L9) ls (cells + mc1) (slots + ms1) C ⟨by rw [e1]; exact w1, w2, k3⟩ hL h1 h2 (by omega) (by omega) (fun hf => by
        obtain ⟨f1, f2, f3⟩ := hfl v1 t1 hfx hf
        have f4 := (h5 f1).1
        exact ⟨by omega, f3⟩)
      have hst : (v1.map (sr_cv (sr_ad b))).toList ++ S.map (sr_cv (sr_ad b)) = (v1.toList ++ S).map (sr_cv (sr_ad b)) := by cases v1 <;> rfl
      obtain ⟨t2, a1, b1⟩ := key T' rfl X'
      rw [Nat.add_assoc, Nat.add_assoc] at b1
      refine ⟨t2, st t2 ?_, b1⟩
      have e9 : ({ F0 m pc ls st0 with pc := (F0 m pc ls st0).pc + 3, stack := (v1.map (sr_cv (sr_ad b))).toList ++ S.map (sr_cv (sr_ad b)) } : JFrame) = F0 m (pc + 3) ls ((v1.toList ++ S).map (sr_cv (sr_ad b))) := by rw [hst]
      rw [e9]
      exact a1
    · subst hz1
      rw [hfx] at hx
      cases hx
      obtain ⟨k1, k2, k3⟩ := vx_keep (A0 := sr_A b) (A1 := sr_A b) (free := sr_A b) g0 e1 Wd.2.2 (fun _ _ h => h) (fun _ h => h) gL w3
      have key := vx_out (p := p) (l := l) (e := e) (R := R) (s := s) (m := m) (args := args) (below := below) (meth := meth) (c := c) (H := T'.heap) (locs := locs ++ L9) (cells := cells + mc1) (slots := slots + ms1) (ls := ls) (rest := S.map (sr_cv (sr_ad b))) (Qc := sr_Q D dA b (.inr z) (em t')) (XC := sr_X D dA b (.inr z) (em t')) (free := sr_A b) (pc := pc) (E := E) (ce := ce) (q := q) (mc := cells + (mc1 + mc2)) (ms := slots + (ms1 + ms2))
        (fun y hy => by rw [C.2.2.2.2.2.2.2.2.1, hh] at hy; cases hy) C.2.2.2.2.2.2.2.1 (by rw [e1]; exact hce) hcv hcl (fun u9 hu9 hW9 => ⟨⟨z, rfl, hz2⟩, by rw [hu9, e1]; exact w1, w2, k3.F hu9⟩) k3.2.2 (by omega) (by omega)
      obtain ⟨t2, a1, b1⟩ := key T' rfl X'
      exact ⟨t2, st.trans a1, b1⟩
end Go
theorem sr_Gn : sr_G em l M pc L S t none mc ms := fun _ _ h => nomatch h
def sr_dI (k : Int32 → α → Option (sr_O × α)) (v : Option sr_V) (t1 : α) : Option (sr_O × α) := match v with
  | some (.inl a) => k a t1
  | _ => none
def sr_dL (k : Int64 → α → Option (sr_O × α)) (v : Option sr_V) (t1 : α) : Option (sr_O × α) := match v with
  | some (.inr (.inl a)) => k a t1
  | _ => none
def sr_dV (k : α → Option (sr_O × α)) (v : Option sr_V) (t1 : α) : Option (sr_O × α) := match v with
  | none => k t1
  | _ => none
def sr_dR (kf cnt : Nat) (k : Nat → α → Option (sr_O × α)) (v : Option sr_V) (t1 : α) : Option (sr_O × α) := match v with
  | some (.inr (.inr (some q))) => if q.1 = kf ∧ q.2 < cnt then k q.2 t1 else none
  | _ => none
abbrev sr_bI (fx : Option (sr_O × α)) (k : Int32 → α → Option (sr_O × α)) : Option (sr_O × α) := sr_bd fx (sr_dI k)
abbrev sr_bL (fx : Option (sr_O × α)) (k : Int64 → α → Option (sr_O × α)) : Option (sr_O × α) := sr_bd fx (sr_dL k)
abbrev sr_bV (fx : Option (sr_O × α)) (k : α → Option (sr_O × α)) : Option (sr_O × α) := sr_bd fx (sr_dV k)
abbrev sr_bR (kf cnt : Nat) (fx : Option (sr_O × α)) (k : Nat → α → Option (sr_O × α)) : Option (sr_O × α) := sr_bd fx (sr_dR kf cnt k)
theorem sr_kI {fx : Option (sr_O × α)} {k : Int32 → α → Option (sr_O × α)} (kk : ∀ a t1, sr_G em l M pc L (sr_i a :: S) t1 (k a t1) mc ms) : ∀ v t1, fx = some (.inl v, t1) → sr_G em l M pc L (v.toList ++ S) t1 (sr_dI k v t1) mc ms := by
  intro v t1 _
  rcases v with _ | a | a | a
  · exact sr_Gn
  · exact kk a t1
  · exact sr_Gn
  · exact sr_Gn
theorem sr_kL {fx : Option (sr_O × α)} {k : Int64 → α → Option (sr_O × α)} (kk : ∀ a t1, sr_G em l M pc L (sr_l a :: S) t1 (k a t1) mc ms) : ∀ v t1, fx = some (.inl v, t1) → sr_G em l M pc L (v.toList ++ S) t1 (sr_dL k v t1) mc ms := by
  intro v t1 _
  rcases v with _ | a | a | a
  · exact sr_Gn
  · exact sr_Gn
  · exact kk a t1
  · exact sr_Gn
theorem sr_kV {fx : Option (sr_O × α)} {k : α → Option (sr_O × α)} (kk : ∀ t1, sr_G em l M pc L S t1 (k t1) mc ms) : ∀ v t1, fx = some (.inl v, t1) → sr_G em l M pc L (v.toList ++ S) t1 (sr_dV k v t1) mc ms := by
  intro v t1 _
  rcases v with _ | a
  · exact kk t1
  · exact sr_Gn
theorem sr_kR {kf cnt : Nat} {fx : Option (sr_O × α)} {k : Nat → α → Option (sr_O × α)} (kk : ∀ i t1, i < cnt → sr_G em l M pc L (sr_r kf i :: S) t1 (k i t1) mc ms) : ∀ v t1, fx = some (.inl v, t1) → sr_G em l M pc L (v.toList ++ S) t1 (sr_dR kf cnt k v t1) mc ms := by
  intro v t1 _
  rcases v with _ | a | a | _ | ⟨k', i⟩
  · exact sr_Gn
  · exact sr_Gn
  · exact sr_Gn
  · exact sr_Gn
  · show sr_G em l M pc L (sr_r k' i :: S) t1 (if k' = kf ∧ i < cnt then k i t1 else none) mc ms
    by_cases h : k' = kf ∧ i < cnt
    · rw [if_pos h, h.1]
      exact kk i t1 h.2
    · rw [if_neg h]
      exact sr_Gn
theorem sr_vx {p : Program} {e : Env} {R : Room} {s : State} {m : MethodId} {args : Array Value} {below : List Frame} {meth : Method} {c : Code} {H : Heap} {locs : List Loc} {cells slots : Nat} {g : JFrame} {rest : List Value} {Qa : State → Outcome → State → Prop} {XC : String → State → State → Prop} {free : Addr → Prop} (h : va_Run p l e R s m args below meth c H locs cells slots mc1 ms1 g rest Qa free) : vx_Run p l e R s m args below meth c H locs cells slots mc1 ms1 g rest Qa XC free := fun T hT X => Or.inl (h T hT X)
theorem sr_callV {idx k i n : Nat} {As : List sr_V} {fx : Option (sr_O × α)} {kx : Option sr_V → α → Option (sr_O × α)} (F : sr_FV (sr_My M).cls idx N k n) (hl : Cond.methodLink (sr_My M).cls idx (sr_My N) ∈ sr_TB) (hd : decode (sr_Mb M) pc = .ok (.invokevirtual idx, 3)) (hm : (k, i) ∈ (em t).1) (hR : sr_RM M N) (hn : As.length = n) (hS : sr_ws S = true) (hh : sr_Mh M = [])
    (hfl : ∀ v t1, fx = some (.inl v, t1) → (em t1).2.1 = true → (em t).2.1 = true ∧ (em t1).1.length = (em t).1.length + mc1 ∧ (em t1).1 = sr_nms.take (em t1).1.length)
    (hT : sr_T em l N (sr_r k i :: As) t fx mc1 ms1) (kk : ∀ v t1, fx = some (.inl v, t1) → sr_G em l M (pc + 3) L (v.toList ++ S) t1 (kx v t1) mc2 ms2) : sr_G em l M pc L (As.reverse ++ sr_r k i :: S) t (sr_bd fx kx) (mc1 + mc2) (ms1 + ms2) := by
  intro r t' hx p e R s m args below meth c D dA b H locs ls cells slots C Wd hL h1 h2 h3 h4 h5
  refine sr_fin (fx := fx) (kx := kx) (a := ((sr_r k i :: As).map (sr_cv (sr_ad b))).toArray) C Wd hL h1 h2 h3 h4 h5 hh hx (fun r1 t1 hfx hz => ?_) hfl kk
  obtain ⟨f0, ⟨T, nn, f1, f2⟩, f3, f4⟩ := F
  obtain ⟨q0, e1, e2⟩ := sr_at (ad := sr_ad b) (dA := dA) hm
  rw [sr_obj f2] at e2
  exact vx_runV (As := As.map (sr_cv (sr_ad b))) (b := sr_ad b k i) ⟨C.1, C.2.1, C.2.2.1, C.2.2.2.2.1, C.2.2.2.2.2.1⟩ (hT r1 t1 hfx D dA b) ⟨sr_callB C f0 hR h1 h2 hl, C.2.2.2.2.2.1 _ f3, C.2.2.2.2.2.1 _ f4⟩ ⟨sr_blind, va_recv C.2.2.2.2.2.2.2.2.2.2.1 Wd.1 f1 e2, sr_pre C Wd hz h5⟩ rfl (by rw [List.length_map]; exact hn) hL.1 (by simp [List.map_reverse]; rfl) (lv_room (sr_ws_ok hS)) hd ⟨by omega, by omega⟩
theorem sr_callS {idx n : Nat} {As : List sr_V} {fx : Option (sr_O × α)} {kx : Option sr_V → α → Option (sr_O × α)} (F : sr_FS (sr_My M).cls idx N n) (hl : Cond.methodLink (sr_My M).cls idx (sr_My N) ∈ sr_TB) (hd : decode (sr_Mb M) pc = .ok (.invokestatic idx, 3)) (hR : sr_RM M N) (hn : As.length = n) (hS : sr_ws S = true) (hh : sr_Mh M = [])
    (hfl : ∀ v t1, fx = some (.inl v, t1) → (em t1).2.1 = true → (em t).2.1 = true ∧ (em t1).1.length = (em t).1.length + mc1 ∧ (em t1).1 = sr_nms.take (em t1).1.length)
    (hT : sr_T em l N As t fx mc1 ms1) (kk : ∀ v t1, fx = some (.inl v, t1) → sr_G em l M (pc + 3) L (v.toList ++ S) t1 (kx v t1) mc2 ms2) : sr_G em l M pc L (As.reverse ++ S) t (sr_bd fx kx) (mc1 + mc2) (ms1 + ms2) := by
  intro r t' hx p e R s m args below meth c D dA b H locs ls cells slots C Wd hL h1 h2 h3 h4 h5
  refine sr_fin (fx := fx) (kx := kx) (a := (As.map (sr_cv (sr_ad b))).toArray) C Wd hL h1 h2 h3 h4 h5 hh hx (fun r1 t1 hfx hz => ?_) hfl kk
  obtain ⟨f0, f3⟩ := F
  exact vx_runS (As := As.map (sr_cv (sr_ad b))) ⟨C.1, C.2.1, C.2.2.1, C.2.2.2.2.1, C.2.2.2.2.2.1⟩ (hT r1 t1 hfx D dA b) ⟨sr_callB C f0 hR h1 h2 hl, C.2.2.2.2.2.1 _ f3⟩ ⟨sr_blind, sr_pre C Wd hz h5⟩ rfl (by rw [List.length_map]; exact hn) hL.1 (by simp [List.map_reverse]) (lv_room (sr_ws_ok hS)) hd ⟨by omega, by omega⟩
/-- a call of a nest mate's: it must return -/
def sr_nt (fx : Option (sr_O × α)) : Option (sr_O × α) := match fx with
  | some (.inl v, t1) => some (.inl v, t1)
  | _ => none
theorem sr_nt_some {fx : Option (sr_O × α)} {q : sr_O × α} (h : sr_nt fx = some q) : ∃ v t1, fx = some (.inl v, t1) ∧ q = (.inl v, t1) := by
  rcases fx with _ | ⟨v | y, t1⟩
  · cases h
  · cases h; exact ⟨v, t1, rfl, rfl⟩
  · cases h
theorem sr_callSN {idx n : Nat} {host : String} {As : List sr_V} {fx : Option (sr_O × α)} {kx : Option sr_V → α → Option (sr_O × α)} (F : sr_FS (sr_My M).cls idx N n) (hl : Cond.methodLinkNest (sr_My M).cls idx (sr_My N) host ∈ sr_NB) (hd : decode (sr_Mb M) pc = .ok (.invokestatic idx, 3)) (hR : sr_RM M N) (hn : As.length = n) (hS : sr_ws S = true) (hh : sr_Mh M = [])
    (hfl : ∀ v t1, sr_nt fx = some (.inl v, t1) → (em t1).2.1 = true → (em t).2.1 = true ∧ (em t1).1.length = (em t).1.length + mc1 ∧ (em t1).1 = sr_nms.take (em t1).1.length)
    (hT : sr_T em l N As t fx mc1 ms1) (kk : ∀ v t1, sr_nt fx = some (.inl v, t1) → sr_G em l M (pc + 3) L (v.toList ++ S) t1 (kx v t1) mc2 ms2) : sr_G em l M pc L (As.reverse ++ S) t (sr_bd (sr_nt fx) kx) (mc1 + mc2) (ms1 + ms2) := by
  intro r t' hx p e R s m args below meth c D dA b H locs ls cells slots C Wd hL h1 h2 h3 h4 h5
  refine sr_fin (fx := sr_nt fx) (kx := kx) (a := (As.map (sr_cv (sr_ad b))).toArray) C Wd hL h1 h2 h3 h4 h5 hh hx (fun r1 t1 hfx hz => ?_) hfl kk
  obtain ⟨f0, f3⟩ := F
  obtain ⟨v, t2, z1, z2⟩ := sr_nt_some hfx
  cases z2
  exact sr_vx (va_runSN (As := As.map (sr_cv (sr_ad b))) ⟨C.1, C.2.1, C.2.2.1, C.2.2.2.2.1, C.2.2.2.2.2.1⟩ (sr_toMet (hT _ _ z1 D dA b)) ⟨sr_callN C f0 hR h1 h2 hl, C.2.2.2.2.2.1 _ f3, trivial⟩ ⟨sr_blind, sr_pre C Wd hz h5⟩ rfl (by rw [List.length_map]; exact hn) hL.1 (by simp [List.map_reverse]) (lv_room (sr_ws_ok hS)) hd ⟨by omega, by omega⟩)
theorem sr_callVN {idx k i n : Nat} {host : String} {As : List sr_V} {fx : Option (sr_O × α)} {kx : Option sr_V → α → Option (sr_O × α)} (F : sr_FV (sr_My M).cls idx N k n) (hl : Cond.methodLinkNest (sr_My M).cls idx (sr_My N) host ∈ sr_NB) (hd : decode (sr_Mb M) pc = .ok (.invokevirtual idx, 3)) (hm : (k, i) ∈ (em t).1) (hR : sr_RM M N) (hn : As.length = n) (hS : sr_ws S = true) (hh : sr_Mh M = [])
    (hfl : ∀ v t1, sr_nt fx = some (.inl v, t1) → (em t1).2.1 = true → (em t).2.1 = true ∧ (em t1).1.length = (em t).1.length + mc1 ∧ (em t1).1 = sr_nms.take (em t1).1.length)
    (hT : sr_T em l N (sr_r k i :: As) t fx mc1 ms1) (kk : ∀ v t1, sr_nt fx = some (.inl v, t1) → sr_G em l M (pc + 3) L (v.toList ++ S) t1 (kx v t1) mc2 ms2) : sr_G em l M pc L (As.reverse ++ sr_r k i :: S) t (sr_bd (sr_nt fx) kx) (mc1 + mc2) (ms1 + ms2) := by
  intro r t' hx p e R s m args below meth c D dA b H locs ls cells slots C Wd hL h1 h2 h3 h4 h5
  refine sr_fin (fx := sr_nt fx) (kx := kx) (a := ((sr_r k i :: As).map (sr_cv (sr_ad b))).toArray) C Wd hL h1 h2 h3 h4 h5 hh hx (fun r1 t1 hfx hz => ?_) hfl kk
  obtain ⟨f0, ⟨T, nn, f1, f2⟩, f3, f4⟩ := F
  obtain ⟨q0, e1, e2⟩ := sr_at (ad := sr_ad b) (dA := dA) hm
  rw [sr_obj f2] at e2
  obtain ⟨v, t2, z1, z2⟩ := sr_nt_some hfx
  cases z2
  exact sr_vx (va_runVN (As := As.map (sr_cv (sr_ad b))) (b := sr_ad b k i) ⟨C.1, C.2.1, C.2.2.1, C.2.2.2.2.1, C.2.2.2.2.2.1⟩ (sr_toMet (hT _ _ z1 D dA b)) ⟨sr_callN C f0 hR h1 h2 hl, C.2.2.2.2.2.1 _ f3, C.2.2.2.2.2.1 _ f4⟩ ⟨sr_blind, va_recv C.2.2.2.2.2.2.2.2.2.2.1 Wd.1 f1 e2, sr_pre C Wd hz h5⟩ rfl (by rw [List.length_map]; exact hn) hL.1 (by simp [List.map_reverse]; rfl) (lv_room (sr_ws_ok hS)) hd ⟨by omega, by omega⟩)
theorem sr_callI {idx k i n : Nat} {As : List sr_V} {fx : Option (sr_O × α)} {kx : Option sr_V → α → Option (sr_O × α)} (F : sr_FI (sr_My M).cls idx N n) (hd : decode (sr_Mb M) pc = .ok (.invokespecial idx, 3)) (hR : sr_RM M N) (hn : As.length = n) (hS : sr_ws S = true) (hh : sr_Mh M = [])
    (hfl : ∀ v t1, sr_nt fx = some (.inl v, t1) → (em t1).2.1 = true → (em t).2.1 = true ∧ (em t1).1.length = (em t).1.length + mc1 ∧ (em t1).1 = sr_nms.take (em t1).1.length)
    (hT : sr_T em l N (sr_r k i :: As) t fx mc1 ms1) (kk : ∀ v t1, sr_nt fx = some (.inl v, t1) → sr_G em l M (pc + 3) L (v.toList ++ S) t1 (kx v t1) mc2 ms2) : sr_G em l M pc L (As.reverse ++ sr_r k i :: S) t (sr_bd (sr_nt fx) kx) (mc1 + mc2) (ms1 + ms2) := by
  intro r t' hx p e R s m args below meth c D dA b H locs ls cells slots C Wd hL h1 h2 h3 h4 h5
  refine sr_fin (fx := sr_nt fx) (kx := kx) (a := ((sr_r k i :: As).map (sr_cv (sr_ad b))).toArray) C Wd hL h1 h2 h3 h4 h5 hh hx (fun r1 t1 hfx hz => ?_) hfl kk
  obtain ⟨f0, f3, f4, f5⟩ := F
  obtain ⟨v, t2, z1, z2⟩ := sr_nt_some hfx
  cases z2
  have hpre := sr_pre (vs := sr_r k i :: As) C Wd hz h5
  rcases f0.2.2.2.2 with hl | ⟨host, hl⟩
  · have hb := sr_callB (R := R) (mc1 := mc1) (ms1 := ms1) C f0 hR h1 h2 hl
    rw [f5] at hb
    exact sr_vx (va_runI (As := As.map (sr_cv (sr_ad b))) (b := sr_ad b k i) ⟨C.1, C.2.1, C.2.2.1, C.2.2.2.2.1, C.2.2.2.2.2.1⟩ (sr_toMet (hT _ _ z1 D dA b)) ⟨hb, f4, C.2.2.2.2.2.1 _ f3⟩ ⟨sr_blind, hpre⟩ rfl (by rw [List.length_map]; exact hn) hL.1 (by simp [List.map_reverse]; rfl) (lv_room (sr_ws_ok hS)) hd ⟨by omega, by omega⟩)
  · have hb := sr_callN (R := R) (mc1 := mc1) (ms1 := ms1) C f0 hR h1 h2 hl
    rw [f5] at hb
    exact sr_vx (va_runIN (As := As.map (sr_cv (sr_ad b))) (b := sr_ad b k i) ⟨C.1, C.2.1, C.2.2.1, C.2.2.2.2.1, C.2.2.2.2.2.1⟩ (sr_toMet (hT _ _ z1 D dA b)) ⟨hb, f4, C.2.2.2.2.2.1 _ f3⟩ ⟨sr_blind, hpre⟩ rfl (by rw [List.length_map]; exact hn) hL.1 (by simp [List.map_reverse]; rfl) (lv_room (sr_ws_ok hS)) hd ⟨by omega, by omega⟩)
end SRd
