-- ===== end of PART A; then your names; then what follows =====
/-! THE CLAIM OUT OF ONE WALK OF THE LAW'S BODY. Your part is whole_start (and what it stands on); all else here is the same for every law, but numbers. -/
def R_law : String := "ShiftRingLaw"
def lw_P (b : Addr) (xs : List Int32) (args : Array Value) (s : State) : Prop := args = #[.ref b] ∧ s.IntsAt b xs ∧ xs.length ≤ 2048 ∧ (Jvm.Cond.and given_1 narrow_1).before args s = true
def lw_Q (_ : Array Value) (s : State) (o : Outcome) (t : State) : Prop := o = .returned (some (.int 1)) ∧ Framed s o t [] 601024 7293033
def lw_Z (below : List Frame) (a : Array Value) (s : State) : State → Prop := fun t => ∃ o, t.status = .running ∧ Ended t below o ∧ lw_Q a s o t
/-- the law's own end, with 1 on the stack, nothing written that was there before, its room as the claim has it -/
theorem lw_ret {p : Program} {l : Launch} {e : Env} {s : State} {m : MethodId} {below : List Frame} {meth : Method} {c : Code} {b : Nat} (hx : p.tables.exec = Jvm.exec) (hb : c.code = code) (hr : meth.sig.returnType = ret) (hlocks : meth.locks = false) {pc : Nat} {H : Heap} {ls : Array Slot} (hdg : decode code pc = .ok (.ireturn, 1)) : W p l e room_1 s m #[Value.ref b] below meth c H [] 601024 7293033 (lw_Z below #[Value.ref b] s) (F0 m pc ls [.int 1]) := by
  intro T hT X
  obtain ⟨fs, hret, hrun, hended, hW, hframe⟩ := X.leave (v := some (.int 1)) (hlocks := hlocks) (fun h => by rw [hr] at h; cases h)
  have hmeth' : T.vm.method? m = some meth := X.method'
  refine ⟨T.setFrames fs, ?_, .returned (some (.int 1)), hrun, hended, rfl, ⟨_, rfl⟩, hW, hframe⟩
  jvm_step X.here [X.here.top, hx, hb, hdg, hmeth', hr, ret, narrow_b1]
  (try refine ⟨rfl, ?_⟩); (try refine ⟨rfl, ?_⟩)
  first | (intro acts; rw [hret _ acts rfl rfl rfl]) | rw [hret _ _ rfl rfl rfl]
  exact Steps.refl _
/-- what holds at the law's entry: the machine, the code, the tables' words (any of lw_tbl by 'hts w (by decide +kernel)'), the script of L ints xs at the cell b, what the Statement gives of the start (any of its parts by flat_of_before) -/
def lw_At (p : Program) (s : State) (m : MethodId) (meth : Method) (c : Code) (b L : Nat) (xs : Nat → Int32) : Prop :=
  p.tables.exec = Jvm.exec ∧ c.code = code ∧ meth.sig.returnType = ret ∧ c.maxLocals = 7 ∧ s.vm.findClass R_law = some m.cls ∧ (∀ w ∈ lw_tbl, w.before #[Value.ref b] s = true) ∧ va_X b L xs s s.heap ∧ b < s.heap.size ∧ meth.locks = false ∧ (Jvm.Cond.and given_1 narrow_1).before #[Value.ref b] s = true
/-- the law's own body, as a method: its name and table as they stand in the machine -/
abbrev sr_Ml (meth : Method) (c : Code) : sr_M := (⟨R_law, meth.name, ""⟩, code, 7, ret, c.exceptionTable.toList.map (fun e => (e.startPc, e.endPc, e.handlerPc, e.catchType)), 15, 608)
theorem sr_inl {n : Nat} {w : Cond} (h : tables_1[n]? = some w) : w ∈ lw_tbl := List.mem_append_right _ (List.mem_of_getElem? h)
def sr_gn : Cond := Jvm.Cond.and given_1 narrow_1
theorem sr_st1 : ∀ q ∈ sr_ST, Cond.stringRef q.1 q.2.1 q.2.2 ∈ lw_tbl := by decide +kernel
theorem sr_st2 : ∀ q ∈ sr_ST, Cond.exactly (.string q.1 q.2.1) "java/lang/String" ∈ flatC sr_gn := by decide +kernel
theorem sr_st3 : ∀ q ∈ sr_NC, Cond.not (.castable q.1 q.2) ∈ flatC sr_gn := by decide +kernel
theorem sr_st4 : Cond.isRef (.static Bundle.tN "UNASSIGNED_STACK" Bundle.steD) ∈ flatC sr_gn ∧ Cond.isRef (.static Bundle.tN "SUPPRESSED_SENTINEL" Bundle.listD) ∈ flatC sr_gn := by decide +kernel
theorem sr_known {s : State} {args : Array Value} (hts : ∀ w ∈ sr_TB, w.before args s = true) : ∃ (dC : Nat → ClassId) (dI : Nat → Nat → Nat), ∀ (k : Nat) (q : vw_C), sr_cl[k]? = some q → u_Kn s q.1 q.2.1 q.2.2 (dC k) (dI k) := by
  obtain ⟨c0, iS0, hK0⟩ := u_known (C := RX0) (T := TX0) (N := 4) (n := 4) hts uw_0 (hts (.instantiable RX0 4) (sr_tb (n := 202) (by decide +kernel) rfl))
  obtain ⟨c1, iS1, hK1⟩ := u_known (C := RX1) (T := TX1) (N := 2) (n := 2) hts uw_1 (hts (.instantiable RX1 2) (sr_tb (n := 374) (by decide +kernel) rfl))
  obtain ⟨c2, iS2, hK2⟩ := u_known (C := RX2) (T := TX2) (N := 8) (n := 8) hts uw_2 (hts (.instantiable RX2 8) (sr_tb (n := 39) (by decide +kernel) rfl))
  obtain ⟨c3, iS3, hK3⟩ := u_known (C := RX3) (T := TX3) (N := 9) (n := 9) hts uw_3 (hts (.instantiable RX3 9) (sr_tb (n := 32) (by decide +kernel) rfl))
  obtain ⟨c4, iS4, hK4⟩ := u_known (C := RX4) (T := TX4) (N := 2) (n := 2) hts uw_4 (hts (.instantiable RX4 2) (sr_tb (n := 51) (by decide +kernel) rfl))
  obtain ⟨c5, iS5, hK5⟩ := u_known (C := RX5) (T := TX5) (N := 11) (n := 11) hts uw_5 (hts (.instantiable RX5 11) (sr_tb (n := 321) (by decide +kernel) rfl))
  obtain ⟨c6, iS6, hK6⟩ := u_known (C := RX6) (T := TX6) (N := 5) (n := 5) hts uw_6 (hts (.instantiable RX6 5) (sr_tb (n := 195) (by decide +kernel) rfl))
  obtain ⟨c7, iS7, hK7⟩ := u_known (C := RX7) (T := TX7) (N := 3) (n := 3) hts uw_7 (hts (.instantiable RX7 3) (sr_tb (n := 45) (by decide +kernel) rfl))
  obtain ⟨c8, iS8, hK8⟩ := u_known (C := RX8) (T := TX8) (N := 17) (n := 17) hts uw_8 (hts (.instantiable RX8 17) (sr_tb (n := 243) (by decide +kernel) rfl))
  obtain ⟨c9, iS9, hK9⟩ := u_known (C := RX9) (T := TX9) (N := 3) (n := 3) hts uw_9 (hts (.instantiable RX9 3) (sr_tb (n := 389) (by decide +kernel) rfl))
  obtain ⟨c10, iS10, hK10⟩ := u_known (C := RX10) (T := TX10) (N := 7) (n := 7) hts uw_10 (hts (.instantiable RX10 7) (sr_tb (n := 24) (by decide +kernel) rfl))
  obtain ⟨c11, iS11, hK11⟩ := u_known (C := RX11) (T := TX11) (N := 53) (n := 53) hts uw_11 (hts (.instantiable RX11 53) (sr_tb (n := 1380) (by decide +kernel) rfl))
  refine ⟨fun k => [c0, c1, c2, c3, c4, c5, c6, c7, c8, c9, c10, c11].getD k c0, fun k => [iS0, iS1, iS2, iS3, iS4, iS5, iS6, iS7, iS8, iS9, iS10, iS11].getD k iS0, ?_⟩
  intro k q hq
  match k, hq with
  | 0, hq => cases hq; exact hK0
  | 1, hq => cases hq; exact hK1
  | 2, hq => cases hq; exact hK2
  | 3, hq => cases hq; exact hK3
  | 4, hq => cases hq; exact hK4
  | 5, hq => cases hq; exact hK5
  | 6, hq => cases hq; exact hK6
  | 7, hq => cases hq; exact hK7
  | 8, hq => cases hq; exact hK8
  | 9, hq => cases hq; exact hK9
  | 10, hq => cases hq; exact hK10
  | 11, hq => cases hq; exact hK11
  | k + 12, hq => simp [sr_cl] at hq
theorem sr_law_C {p : Program} {l : Launch} {s : State} {m : MethodId} {meth : Method} {c : Code} (hflags : l.flags = flags0) {b L : Nat} {xs : Nat → Int32} (C0 : lw_At p s m meth c b L xs) : ∃ (D : va_G) (dA : Nat → ClassId), sr_C l (sr_Ml meth c) p s m #[Value.ref b] meth c D dA s.heap.size ∧ sr_W D dA s.heap.size (sr_e2 (0, [])) s s.heap [] := by
  obtain ⟨hx, hb, hr, hml, hown, hts, hX, hbl, hlocks, hgv⟩ := C0
  have hT : ∀ w ∈ sr_TB, w.before #[Value.ref b] s = true := fun w hw => hts w (List.mem_filter.mp hw).1
  have hN : ∀ w ∈ sr_NB, va_Nw w s := by
    intro w hw
    have h1 := hts w (List.mem_filter.mp hw).1
    rcases sr_nb_tab hw with h2 | ⟨C, rfl⟩
    · exact va_Nw.of h2 h1
    · exact va_AO.of h1
  obtain ⟨dC, dI, hKc⟩ := sr_known hT
  obtain ⟨cI, kI, oI, i1, i2, i3⟩ := Cond.arrayClass_spec (hts (.arrayClass .int) (sr_inl (n := 67) (by decide +kernel)))
  obtain ⟨cJ, kJ, oJ, j1, j2, j3⟩ := Cond.arrayClass_spec (hts (.arrayClass .long) (sr_inl (n := 404) (by decide +kernel)))
  obtain ⟨oN, cN, kN, n0, -, n2, n3, n1⟩ := Cond.arrayOver_spec (hts (.arrayOver (.object RX2)) (sr_inl (n := 38) (by decide +kernel)))
  obtain ⟨oE, cE, kE, e0, -, e2, e3, e1⟩ := Cond.arrayOver_spec (hts (.arrayOver (.object RX0)) (sr_inl (n := 201) (by decide +kernel)))
  have hs := flat_of_before _ hgv
  have hA : ∀ a : Nat, a < s.heap.size → ¬ sr_A s.heap.size a := fun a h => Nat.not_le.mpr h
  refine ⟨(dC, dI), (fun t => match t with
    | 0 => cI
    | 1 => cJ
    | 2 => cN
    | _ => cE), ⟨hx, hb, hml, hr, hown, hT, hN, hlocks, ?_, rfl, ⟨hKc, ?_⟩, ⟨?_, ?_, ?_, ?_, ?_⟩, Nat.le_refl _⟩, ?_, ?_, va_S.rf⟩
  · show c.exceptionTable.toList = (c.exceptionTable.toList.map _).map _
    rw [List.map_map]
    have e9 : ((fun q : Nat × Nat × Nat × Nat => (⟨q.1, q.2.1, q.2.2.1, q.2.2.2⟩ : ExceptionTableEntry)) ∘ fun e : ExceptionTableEntry => (e.startPc, e.endPc, e.handlerPc, e.catchType)) = id := funext fun _ => rfl
    rw [e9, List.map_id]
  · intro k q hk
    match k, hk with
    | 0, hk =>
      cases hk
      exact ⟨fun n z => ⟨(fun k h => by cases h), kI, i2, oI, i3⟩, i1⟩
    | 1, hk =>
      cases hk
      exact ⟨fun n z => ⟨(fun k h => by cases h), kJ, j2, oJ, j3⟩, j1⟩
    | 2, hk =>
      cases hk
      exact ⟨fun n z => ⟨(fun k h => by cases h), kN, n2, oN, n3⟩, kN, oN, n2, n3, n0, n1⟩
    | 3, hk =>
      cases hk
      exact ⟨fun n z => ⟨(fun k h => by cases h), kE, e2, oE, e3⟩, kE, oE, e2, e3, e0, e1⟩
    | k + 4, hk => simp [sr_tys] at hk
  · unfold Launch.stackTraces
    rw [hflags]
    decide
  · exact vx_Zqof (hts _ (sr_inl (n := 808) (by decide +kernel))) (hts _ (sr_inl (n := 13) (by decide +kernel))) (hs _ sr_st4.1) hA
  · exact vx_Zqof (hts _ (sr_inl (n := 810) (by decide +kernel))) (hts _ (sr_inl (n := 13) (by decide +kernel))) (hs _ sr_st4.2) hA
  · intro q hq
    obtain ⟨a, _, _, _, h1, -⟩ := Cond.exactly_spec (hs _ (sr_st2 q hq))
    exact ⟨a, vk_R.of (hts _ (sr_st1 q hq)) h1⟩
  · intro q hq
    exact va_Nc.of (hs _ (sr_st3 q hq))
  · intro k q h
    simp [sr_cs, sr_e2] at h
  · exact ⟨fun i j p q h => by simp [sr_cs, sr_e2] at h, fun k q h => by simp [sr_cs, sr_e2] at h⟩
