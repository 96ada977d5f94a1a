/-! a method's contract, and calls -/
section SRc
variable {α : Type} {em : α → sr_H} {l : Launch} {M N : sr_M} {pc : Nat} {L : List (Option sr_V)} {S : List sr_V} {t : α} {x : Option (sr_O × α)} {mc ms : Nat}
def sr_cw (N : sr_M) : Cond := match sr_Mh N with
  | [] => .code (sr_My N) (sr_Mb N) (sr_Mn N) (sr_Mt N)
  | h => .codeWith (sr_My N) (sr_Mb N) (sr_Mn N) (sr_Mt N) h
theorem sr_cw_nil (h : sr_Mh N = []) : sr_cw N = .code (sr_My N) (sr_Mb N) (sr_Mn N) (sr_Mt N) := by simp [sr_cw, h]
abbrev sr_rm (N : sr_M) (mc ms : Nat) : Room := { frames := sr_Mf N, cells := mc, slots := ms, locals := sr_Mo N }
def sr_Pc (l : Launch) (D : va_G) (dA : Nat → ClassId) (b : Nat) (vs : List sr_V) (h : sr_H) : Array Value → State → Prop := fun a U =>
  a = (vs.map (sr_cv (sr_ad b))).toArray ∧ va_K D sr_cl (sr_tys dA) U ∧ va_P D sr_cl (sr_cs (sr_ad b) dA h) U.heap ∧ va_D (sr_A b) (sr_cs (sr_ad b) dA h) ∧ b ≤ U.heap.size ∧ (∀ w ∈ sr_NB, va_Nw w U) ∧ sr_XS l b U ∧ (h.2.1 = true → U.heap.size = b + h.1.length ∧ h.1 = sr_nms.take h.1.length)
theorem sr_nb_tab {w : Cond} (h : w ∈ sr_NB) : w.onTables = true ∨ ∃ C, w = .arrayOver (.object C) := by
  have h2 := (List.mem_filter.mp h).2
  cases w <;> first | (simp [sr_nest] at h2; done) | (left; rfl) | skip
  case arrayOver ty =>
    cases ty <;> first | (simp [sr_nest] at h2; done) | exact Or.inr ⟨_, rfl⟩
theorem sr_nb_warm {w : Cond} (h : w ∈ sr_NB) {s U : State} (hW : s.WarmedH U.vm) (hZ : va_Nw w s) : va_Nw w U := by
  have h2 := (List.mem_filter.mp h).2
  cases w <;> first | (simp [sr_nest] at h2; done) | exact va_Nw.warmF hW hZ | exact va_Nw.warmM hW hZ | exact va_Nw.warmC hW hZ | exact va_Nw.warmD hW hZ | skip
  case arrayOver ty =>
    cases ty <;> first | (simp [sr_nest] at h2; done) | exact va_AO.moved hW.alike hZ
theorem sr_XS_warm {b : Nat} {s U : State} {H : Heap} {locs : List Loc} (hW : s.WarmedH U.vm) (hU : U.heap = H) (hS : va_S (sr_A b) s.heap H locs) (h : sr_XS l b s) : sr_XS l b U := by
  obtain ⟨h1, h2, h3, h4, h5⟩ := h
  have hk : ∀ a : Nat, a < s.heap.size → ¬ sr_A b a → U.heap[a]? = s.heap[a]? := fun a ha hb => by rw [hU]; exact hS.2.1 a ha hb
  exact ⟨h1, vx_Zq.moved hW.alike (vx_Zq.kept h2 hk), vx_Zq.moved hW.alike (vx_Zq.kept h3 hk), fun q hq => by
    obtain ⟨sa, z⟩ := h4 q hq
    exact ⟨sa, vk_R.warm hW z⟩, fun q hq => va_Nc.moved hW.alike (h5 q hq)⟩
theorem sr_blind {D : va_G} {dA : Nat → ClassId} {b : Nat} {vs : List sr_V} {h : sr_H} : FrameBlind (sr_Pc l D dA b vs h) := by
  intro a U g mk q
  obtain ⟨q0, q1, q2, q3, q4, q5, ⟨z1, z2, z3, z4, z5⟩, q7⟩ := q
  refine ⟨q0, va_K.moved (u := U) (U := U.calling g mk a) (Vm.Alike.refl U.vm) q1, q2, q3, q4, fun w hw => ?_, ⟨z1, vx_Zq.moved (u := U) (U := U.calling g mk a) (Vm.Alike.refl U.vm) z2, vx_Zq.moved (u := U) (U := U.calling g mk a) (Vm.Alike.refl U.vm) z3, fun y hy => ?_, fun y hy => va_Nc.moved (u := U) (U := U.calling g mk a) (Vm.Alike.refl U.vm) (z5 y hy)⟩, q7⟩
  · rcases sr_nb_tab hw with h1 | ⟨C, rfl⟩
    · exact va_Nw.same h1 (rfl : U.vm = (U.calling g mk a).vm) (q5 w hw)
    · exact va_AO.moved (u := U) (U := U.calling g mk a) (Vm.Alike.refl U.vm) (q5 _ hw)
  · obtain ⟨sa, z⟩ := z4 y hy
    exact ⟨sa, vk_R.same (u := U) (U := U.calling g mk a) rfl z⟩
/-- the contract of N at these arguments, over this heap -/
def sr_T (em : α → sr_H) (l : Launch) (N : sr_M) (vs : List sr_V) (t : α) (x : Option (sr_O × α)) (mc ms : Nat) : Prop :=
  ∀ (r : sr_O) (t' : α), x = some (r, t') → ∀ (D : va_G) (dA : Nat → ClassId) (b : Nat), vx_Met l (sr_My N) (sr_cw N :: sr_TB) (sr_rm N mc ms) (sr_Pc l D dA b vs (em t)) (sr_Q D dA b r (em t')) (sr_X D dA b r (em t')) mc ms (sr_A b)
theorem sr_T_of {vs : List sr_V} {L0 : List (Option sr_V)} (hh : sr_Mh N = []) (hy : plainName (sr_My N).cls = true) (hL0 : ∀ ad, sr_lv ad 0 L0 = lv_args 0 (vs.map (sr_cv ad))) (hsz : ∀ ad, (lg_sl (vs.map (sr_cv ad))).length ≤ sr_Mn N) (hG : sr_G em l N 0 L0 [] t x mc ms) : sr_T em l N vs t x mc ms := by
  intro r t' hx D dA b
  refine vx_ofW (cc := sr_Mb N) (maxL := sr_Mn N) (ret := sr_Mt N) hy (by rw [sr_cw_nil hh]) ?_
  intro p e s m args below meth c s₁ B hml htab hv
  obtain ⟨rfl, hK, hP, hD, hb, hnb, hXS, hfl⟩ := hv
  have hts := atoms_spec (ws := sr_cw N :: sr_TB) B.pre
  have hl := lv_entry (vs.map (sr_cv (sr_ad b))) (n := sr_Mn N) (hsz _)
  rw [lg_entry_eq]
  generalize (lg_sl (vs.map (sr_cv (sr_ad b))) ++ List.replicate (sr_Mn N - (lg_sl (vs.map (sr_cv (sr_ad b)))).length) Slot.unset).toArray = ls at hl ⊢
  rw [← hL0] at hl
  have k := hG r t' hx p e (sr_rm N mc ms) s m _ below meth c D dA b s.heap [] ls 0 0 ⟨B.exec, B.bytes, hml, B.returns, findClass_of_methodNamed B.named, fun w hw => hts w (List.mem_cons_of_mem _ hw), hnb, B.notSynchronized, by rw [hh]; exact List.eq_nil_iff_forall_not_mem.mpr htab, (name_of_methodNamed B.named B.method).1, hK, hXS, hb⟩ ⟨hP, hD, va_S.rf⟩ hl (Nat.le_refl _) (Nat.le_refl _) (by simp) (by simp) (fun h9 => ⟨by rw [(hfl h9).1]; omega, (hfl h9).2⟩)
  simp only [Nat.zero_add, List.map_nil] at k
  exact k
def sr_bd (fx : Option (sr_O × α)) (kx : Option sr_V → α → Option (sr_O × α)) : Option (sr_O × α) := match fx with
  | none => none
  | some (.inl v, t1) => kx v t1
  | some (.inr q, t1) => some (.inr q, t1)
theorem sr_size {D : va_G} {dA : Nat → ClassId} {b : Nat} {h : sr_H} {H : Heap} (hn : ∀ n q, sr_nms[n]? = some q → sr_ix q.1 q.2 = n) (hP : va_P D sr_cl (sr_cs (sr_ad b) dA h) H) (hb : b ≤ H.size) (ht : h.1 = sr_nms.take h.1.length) : b + h.1.length ≤ H.size := by
  rcases Nat.eq_zero_or_pos h.1.length with h0 | h0
  · omega
  · obtain ⟨n, hn1⟩ : ∃ n, h.1.length = n + 1 := ⟨h.1.length - 1, by omega⟩
    have hlt : n < h.1.length := by omega
    obtain ⟨⟨k, i⟩, e0⟩ : ∃ q, h.1[n]? = some q := ⟨_, List.getElem?_eq_getElem hlt⟩
    have e1 : sr_nms[n]? = some (k, i) := by
      have e2 : (sr_nms.take h.1.length)[n]? = some (k, i) := ht ▸ e0
      rw [List.getElem?_take, if_pos hlt] at e2
      exact e2
    have e3 : sr_ix k i = n := hn n _ e1
    have e4 := (hP n (sr_ad b k i, sr_cE (sr_ad b) dA h.2.2 k i) (by simp [sr_cs, e0])).lt
    have e5 : sr_ad b k i < H.size := e4
    rw [sr_ad, e3] at e5
    omega
theorem sr_nms_ix : ∀ n q, sr_nms[n]? = some q → sr_ix q.1 q.2 = n := by
  have h : ∀ n, n < 461 → ∀ q ∈ sr_nms[n]?, sr_ix q.1 q.2 = n := by decide +kernel
  intro n q hq
  refine h n ?_ q hq
  have h2 := (List.getElem?_eq_some_iff.mp hq).1
  exact Nat.lt_of_lt_of_le h2 (by decide +kernel)
end SRc
