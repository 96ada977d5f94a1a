/-! methods with a table of handlers: each handler stores what was thrown and answers a number -/
section SRh
variable {α : Type} {em : α → sr_H} {l : Launch} {M N : sr_M} {pc : Nat} {L : List (Option sr_V)} {S : List sr_V} {t : α} {x : Option (sr_O × α)} {mc ms mc1 ms1 mc2 ms2 : Nat}
theorem sr_cw_tab {q : Nat × Nat × Nat × Nat} {hh : List (Nat × Nat × Nat × Nat)} (h : sr_Mh N = q :: hh) : sr_cw N = .codeWith (sr_My N) (sr_Mb N) (sr_Mn N) (sr_Mt N) (q :: hh) := by simp [sr_cw, h]
theorem sr_T_ofH {vs : List sr_V} {L0 : List (Option sr_V)} {q : Nat × Nat × Nat × Nat} {hh : List (Nat × Nat × Nat × Nat)} (hh' : sr_Mh N = q :: hh) (hy : plainName (sr_My N).cls = true) (hL0 : ∀ ad, sr_lv ad 0 L0 = lv_args 0 (vs.map (sr_cv ad))) (hsz : ∀ ad, (lg_sl (vs.map (sr_cv ad))).length ≤ sr_Mn N) (hG : sr_G em l N 0 L0 [] t x mc ms) : sr_T em l N vs t x mc ms := by
  intro r t' hx D dA b
  refine vx_ofWH (cc := sr_Mb N) (maxL := sr_Mn N) (ret := sr_Mt N) (hh := q :: hh) hy (by rw [sr_cw_tab hh']) ?_
  intro p e s m args below meth c s₁ B hml hv
  obtain ⟨rfl, hK, hP, hD, hb, hnb, hXS, hfl⟩ := hv
  have hts := atoms_spec (ws := sr_cw N :: sr_TB) B.pre
  have htab : c.exceptionTable.toList = tableOf (sr_Mh N) := by
    have h9 := hts _ List.mem_cons_self
    rw [sr_cw_tab hh'] at h9
    rw [hh']
    exact vx_table (x := sr_My N) B h9
  have hl := lv_entry (vs.map (sr_cv (sr_ad b))) (n := sr_Mn N) (hsz _)
  rw [lg_entry_eq]
  generalize (lg_sl (vs.map (sr_cv (sr_ad b))) ++ List.replicate (sr_Mn N - (lg_sl (vs.map (sr_cv (sr_ad b)))).length) Slot.unset).toArray = ls at hl ⊢
  rw [← hL0] at hl
  have k := hG r t' hx p e (sr_rm N mc ms) s m _ below meth c D dA b s.heap [] ls 0 0 ⟨B.exec, B.bytes, hml, B.returns, findClass_of_methodNamed B.named, fun w hw => hts w (List.mem_cons_of_mem _ hw), hnb, B.notSynchronized, htab, (name_of_methodNamed B.named B.method).1, hK, hXS, hb⟩ ⟨hP, hD, va_S.rf⟩ hl (Nat.le_refl _) (Nat.le_refl _) (by simp) (by simp) (fun h9 => ⟨by rw [(hfl h9).1]; omega, (hfl h9).2⟩)
  simp only [Nat.zero_add, List.map_nil] at k
  exact k
/-- what is thrown at pc as z is caught, and c answered -/
def sr_HF (M : sr_M) (pc z : Nat) (c : Int32) : Prop := ∃ (pre : List ExceptionTableEntry) (y : ExceptionTableEntry) (suf : List ExceptionTableEntry) (nm : String) (k : Nat) (n : Int), tableOf (sr_Mh M) = pre ++ y :: suf ∧ (∀ w ∈ pre, covers w pc = false ∨ (w.catchType ≠ 0 ∧ ∃ n : String, Cond.classLink (sr_My M).cls w.catchType n ∈ sr_TB ∧ (sr_E z, n) ∈ sr_NC)) ∧ covers y pc = true ∧ y.catchType ≠ 0 ∧ Cond.classLink (sr_My M).cls y.catchType nm ∈ sr_TB ∧ Cond.castable (sr_E z) nm ∈ sr_NB ∧ k < sr_Mn M ∧ Int32.ofInt n = c ∧
  ((decode (sr_Mb M) y.handlerPc = .ok (.astore k, 2) ∧ decode (sr_Mb M) (y.handlerPc + 2) = .ok (.iconst n, 1) ∧ decode (sr_Mb M) (y.handlerPc + 2 + 1) = .ok (.ireturn, 1)) ∨ (∃ f : Fin 4, (f : Nat) = k ∧ decode (sr_Mb M) y.handlerPc = .ok (.astore_n f, 1) ∧ decode (sr_Mb M) (y.handlerPc + 1) = .ok (.iconst n, 1) ∧ decode (sr_Mb M) (y.handlerPc + 1 + 1) = .ok (.ireturn, 1)))
def sr_bc (fx : Option (sr_O × α)) (hc : Nat → Option Int32) (kx : Option sr_V → α → Option (sr_O × α)) : Option (sr_O × α) := match fx with
  | none => none
  | some (.inl v, t1) => kx v t1
  | some (.inr q, t1) => match hc q with
    | some c => some (.inl (some (sr_i c)), t1)
    | none => none
theorem sr_callVC {idx k i n : Nat} {As : List sr_V} {fx : Option (sr_O × α)} {hc : Nat → Option Int32} {kx : Option sr_V → α → Option (sr_O × α)} (F : sr_FV (sr_My M).cls idx N k n) (hl : Cond.methodLink (sr_My M).cls idx (sr_My N) ∈ sr_TB) (hd : decode (sr_Mb M) pc = .ok (.invokevirtual idx, 3)) (hm : (k, i) ∈ (em t).1) (hR : sr_RM M N) (hn : As.length = n) (hS : sr_ws S = true) (hr : sr_Mt M = some .int)
    (hh : ∀ z c, hc z = some c → sr_HF M pc z c)
    (hfl : ∀ v t1, fx = some (v, t1) → (em t1).2.1 = false)
    (hT : sr_T em l N (sr_r k i :: As) t fx mc1 ms1) (kk : ∀ v t1, fx = some (.inl v, t1) → sr_G em l M (pc + 3) L (v.toList ++ S) t1 (kx v t1) mc2 ms2) : sr_G em l M pc L (As.reverse ++ sr_r k i :: S) t (sr_bc fx hc kx) (mc1 + mc2) (ms1 + ms2) := by
  intro r t' hx p e R s m args below meth c D dA b H locs ls cells slots C Wd hL h1 h2 h3 h4 h5
  obtain ⟨f0, ⟨T9, nn, f1, f2⟩, f3, f4⟩ := F
  obtain ⟨q0, e1, e2⟩ := sr_at (ad := sr_ad b) (dA := dA) hm
  rw [sr_obj f2] at e2
  intro T hT9 X
  have hz : H.size ≤ s.heap.size + cells := by rw [← hT9]; exact X.heapSize
  cases hfx : fx with
  | none => rw [hfx] at hx; cases hx
  | some q =>
    obtain ⟨r1, t1⟩ := q
    have hrun := vx_runV (p := p) (l := l) (e := e) (R := R) (s := s) (m := m) (args := args) (below := below) (meth := meth) (c := c) (H := H) (locs := locs) (cells := cells) (slots := slots) (g := F0 m pc ls ((As.reverse ++ sr_r k i :: S).map (sr_cv (sr_ad b)))) (rest := S.map (sr_cv (sr_ad b))) (As := As.map (sr_cv (sr_ad b))) (b := sr_ad b k i) ⟨C.1, C.2.1, C.2.2.1, C.2.2.2.2.1, C.2.2.2.2.2.1⟩ (hT r1 t1 hfx D dA b) ⟨sr_callB C f0 hR h1 h2 hl, C.2.2.2.2.2.1 _ f3, C.2.2.2.2.2.1 _ f4⟩ ⟨sr_blind, va_recv C.2.2.2.2.2.2.2.2.2.2.1 Wd.1 f1 e2, sr_pre C Wd hz h5⟩ rfl (by rw [List.length_map]; exact hn) hL.1 (by simp [List.map_reverse]; rfl) (lv_room (sr_ws_ok hS)) hd ⟨by omega, by omega⟩
    rcases hrun T hT9 X with ⟨v, st₀, u, T', L9, g0, X', gL, e1', e2', ⟨⟨v1, hv1, hv2⟩, w1, w2, w3⟩, st⟩ | ⟨q, st₀, u, T', L9, E, ce, g0, X', gL, e1', e2', ⟨⟨z, hz1, hz2⟩, w1, w2, w3⟩, hce, hcv, hcl, st⟩
    · subst hv1
      cases hv2
      rw [hfx] at hx
      obtain ⟨k1, k2, k3⟩ := vx_keep (A0 := sr_A b) (A1 := sr_A b) (free := sr_A b) g0 e1' Wd.2.2 (fun _ _ h => h) (fun _ h => h) gL w3
      have key := kk v1 t1 hfx r t' hx p e R s m args below meth c D dA b T'.heap (locs ++ L9) ls (cells + mc1) (slots + ms1) C ⟨by rw [e1']; exact w1, w2, k3⟩ hL h1 h2 (by omega) (by omega) (fun hf => by rw [hfl _ t1 hfx] at hf; cases hf)
      have hst : (v1.map (sr_cv (sr_ad b))).toList ++ S.map (sr_cv (sr_ad b)) = (v1.toList ++ S).map (sr_cv (sr_ad b)) := by cases v1 <;> rfl
      obtain ⟨t2, a1, b1⟩ := key T' rfl X'
      rw [Nat.add_assoc, Nat.add_assoc] at b1
      refine ⟨t2, st t2 ?_, b1⟩
      have e9 : ({ F0 m pc ls ((As.reverse ++ sr_r k i :: S).map (sr_cv (sr_ad b))) with pc := (F0 m pc ls ((As.reverse ++ sr_r k i :: S).map (sr_cv (sr_ad b)))).pc + 3, stack := (v1.map (sr_cv (sr_ad b))).toList ++ S.map (sr_cv (sr_ad b)) } : JFrame) = F0 m (pc + 3) ls ((v1.toList ++ S).map (sr_cv (sr_ad b))) := by rw [hst]
      rw [e9]
      exact a1
    · subst hz1
      rw [hfx] at hx
      cases hcz : hc z with
      | none => simp [sr_bc, hcz] at hx
      | some c9 =>
        have hx9 : (Sum.inl (some (sr_i c9)), t1) = (r, t') := by simpa [sr_bc, hcz] using hx
        cases hx9
        obtain ⟨pre, y, suf, nm, k9, n9, g1, g2, g3, g4, g5, g6, g7, g8, g9⟩ := hh z c9 hcz
        obtain ⟨k1, k2, k3⟩ := vx_keep (A0 := sr_A b) (A1 := sr_A b) (free := sr_A b) g0 e1' Wd.2.2 (fun _ _ h => h) (fun _ h => h) gL w3
        have hts := C.2.2.2.2.2.1
        have hQ : ∀ u9 : State, u9.heap = T'.heap → sr_Q D dA b (.inl (some (sr_i c9))) (em t') args s (.returned (some (.int c9))) u9 := fun u9 hu9 => ⟨⟨some (sr_i c9), rfl, rfl⟩, by rw [hu9, e1']; exact w1, w2, k3.F hu9⟩
        have hend : ∀ (pc9 : Nat) (ls9 : Array Slot), decode (sr_Mb M) pc9 = .ok (.iconst n9, 1) → decode (sr_Mb M) (pc9 + 1) = .ok (.ireturn, 1) → W p l e R s m args below meth c T'.heap (locs ++ L9) (cells + mc1) (slots + ms1) (vx_MQ below (sr_Q D dA b (.inl (some (sr_i c9))) (em t')) (sr_X D dA b (.inl (some (sr_i c9))) (em t')) args s (cells + (mc1 + mc2)) (slots + (ms1 + ms2)) (sr_A b)) (F0 m pc9 ls9 []) := by
          intro pc9 ls9 d1 d2
          refine lv_iconst C.1 C.2.1 d1 g8 ?_
          refine W.widen (k := cells + (mc1 + mc2)) (n := slots + (ms1 + ms2)) (by omega) (by omega) ?_
          exact vx_ret (W.iret C.1 C.2.1 (C.2.2.2.1.trans hr) (fun u9 hu9 _ => hQ u9 hu9) k3.2.2 d2 C.2.2.2.2.2.2.2.1)
        have key := vx_catch (p := p) (l := l) (e := e) (R := R) (s := s) (m := m) (args := args) (below := below) (meth := meth) (c := c) (H := T'.heap) (locs := locs ++ L9) (cells := cells + mc1) (slots := slots + ms1) (ls := ls) (rest := S.map (sr_cv (sr_ad b))) (pc := pc) (own := (sr_My M).cls) (name := nm) (E := E) (ce := ce) (q := q) (Q := vx_MQ below (sr_Q D dA b (.inl (some (sr_i c9))) (em t')) (sr_X D dA b (.inl (some (sr_i c9))) (em t')) args s (cells + (mc1 + mc2)) (slots + (ms1 + ms2)) (sr_A b)) C.2.2.2.2.1 pre y suf (C.2.2.2.2.2.2.2.2.1.trans g1)
          (fun w hw => by
            rcases g2 w hw with h | ⟨h0, n0, hn1, hn2⟩
            · exact Or.inl h
            · exact Or.inr ⟨h0, n0, hts _ hn1, by rw [hz2]; exact C.2.2.2.2.2.2.2.2.2.2.2.1.2.2.2.2 _ hn2⟩) g3 g4 (hts _ g5) (by rw [hz2]; exact va_Nw.use rfl (C.2.2.2.2.2.2.1 _ g6)) (by rw [e1']; exact hce) hcv hcl (by
            rcases g9 with ⟨d0, d1, d2⟩ | ⟨fn, hfn, d0, d1, d2⟩
            · exact lv_astore C.1 C.2.1 d0 hL g7 rfl (fun ls' _ => hend _ ls' d1 d2)
            · exact lv_astore_n C.1 C.2.1 d0 hfn hL g7 rfl (fun ls' _ => hend _ ls' d1 d2))
        obtain ⟨t2, a1, b1⟩ := key T' rfl X'
        exact ⟨t2, st.trans a1, b1⟩
end SRh
theorem sr_cVC {l : Launch} {M N : sr_M} {pc : Nat} {L : List (Option sr_V)} {S : List sr_V} {t : sr_t} {mc1 ms1 mc2 ms2 : Nat} {idx k i n : Nat} {As : List sr_V} {fx : sr_Rs} {hc : Nat → Option Int32} {kx : Option sr_V → sr_t → sr_Rs} (F : sr_FV (sr_My M).cls idx N k n) (hl : Cond.methodLink (sr_My M).cls idx (sr_My N) ∈ sr_TB) (hd : decode (sr_Mb M) pc = .ok (.invokevirtual idx, 3)) (hm : (k, i) ∈ sr_nms) (hR : sr_RM M N) (hn : As.length = n) (hS : sr_ws S = true) (hr : sr_Mt M = some .int) (hh : ∀ z c, hc z = some c → sr_HF M pc z c) (hT : sr_ct' l N (sr_r k i :: As) t fx mc1 ms1) (kk : ∀ v t1, fx = some (.inl v, t1) → sr_g l M (pc + 3) L (v.toList ++ S) t1 (kx v t1) mc2 ms2) : sr_g l M pc L (As.reverse ++ sr_r k i :: S) t (sr_bc fx hc kx) (mc1 + mc2) (ms1 + ms2) := sr_callVC F hl hd hm hR hn hS hr hh (fun _ _ _ => rfl) hT kk
