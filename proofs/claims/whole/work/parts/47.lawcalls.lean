/-! calls and making in the law's own body, whose first local is the script -/
section SRw
variable {α : Type} {em : α → sr_H} {l : Launch} {M N : sr_M} {pc : Nat} {t t1 : α} {mc1 ms1 : Nat} {v : Option sr_V}
variable {p : Program} {e : Env} {R : Room} {s : State} {m : MethodId} {args : Array Value} {below : List Frame} {meth : Method} {c : Code} {D : va_G} {dA : Nat → ClassId} {b : Nat} {H : Heap} {locs : List Loc} {ls : Array Slot} {cells slots : Nat} {Q : State → Prop} {rest : List Value}
theorem sr_finW {st0 : List Value} {a : Array Value} (Wd : sr_W D dA b (em t) s H locs)
    (hrun : H.size ≤ s.heap.size + cells → vx_Run p l e R s m args below meth c H locs cells slots mc1 ms1 (F0 m pc ls st0) rest (sr_Q D dA b (.inl v) (em t1) a) (sr_X D dA b (.inl v) (em t1)) (sr_A b))
    (kk : ∀ H1 locs1, sr_W D dA b (em t1) s H1 locs1 → W p l e R s m args below meth c H1 locs1 (cells + mc1) (slots + ms1) Q (F0 m (pc + 3) ls ((v.map (sr_cv (sr_ad b))).toList ++ rest))) :
    W p l e R s m args below meth c H locs cells slots Q (F0 m pc ls st0) := by
  intro T hT X
  have hz : H.size ≤ s.heap.size + cells := by rw [← hT]; exact X.heapSize
  rcases hrun hz T hT X with ⟨v2, st₀, u, T', L9, g0, X', gL, e1, e2, ⟨⟨v1, hv1, hv2⟩, w1, w2, w3⟩, st⟩ | ⟨q, st₀, u, T', L9, E, ce, g0, X', gL, e1, e2, hX, hce, hcv, hcl, st⟩
  · cases hv1
    cases hv2
    obtain ⟨k1, k2, k3⟩ := vx_keep (A0 := sr_A b) (A1 := sr_A b) (free := sr_A b) g0 e1 Wd.2.2 (fun _ _ h => h) (fun _ h => h) gL w3
    obtain ⟨t2, a1, b1⟩ := kk T'.heap (locs ++ L9) ⟨by rw [e1]; exact w1, w2, k3⟩ T' rfl X'
    exact ⟨t2, st t2 a1, b1⟩
  · exact absurd hX sr_noX
theorem sr_wV {idx k i n : Nat} {As : List sr_V} (C : sr_C l M p s m args meth c D dA b) (Wd : sr_W D dA b (em t) s H locs) (hsz : ls.size = sr_Mn M) (h1 : sr_Mf M ≤ R.frames) (h2 : sr_Mo M ≤ R.locals) (h3 : cells + mc1 ≤ R.cells) (h4 : slots + ms1 ≤ R.slots) (h5 : (em t).2.1 = true → s.heap.size + cells = b + (em t).1.length ∧ (em t).1 = sr_nms.take (em t).1.length) (F : sr_FV (sr_My M).cls idx N k n) (hl : Cond.methodLink (sr_My M).cls idx (sr_My N) ∈ sr_TB) (hd : decode (sr_Mb M) pc = .ok (.invokevirtual idx, 3)) (hm : (k, i) ∈ (em t).1) (hR : sr_RM M N) (hn : As.length = n) (hS : (rest.map fun v => v.category).sum ≤ 8)
    (hT : sr_T em l N (sr_r k i :: As) t (some (.inl v, t1)) mc1 ms1)
    (kk : ∀ H1 locs1, sr_W D dA b (em t1) s H1 locs1 → W p l e R s m args below meth c H1 locs1 (cells + mc1) (slots + ms1) Q (F0 m (pc + 3) ls ((v.map (sr_cv (sr_ad b))).toList ++ rest))) :
    W p l e R s m args below meth c H locs cells slots Q (F0 m pc ls ((As.map (sr_cv (sr_ad b))).reverse ++ .ref (sr_ad b k i) :: rest)) := by
  refine sr_finW (a := ((sr_r k i :: As).map (sr_cv (sr_ad b))).toArray) Wd (fun hz => ?_) kk
  obtain ⟨f0, ⟨T, nn, f1, f2⟩, f3, f4⟩ := F
  obtain ⟨q0, e1, e2⟩ := sr_at (ad := sr_ad b) (dA := dA) hm
  rw [sr_obj f2] at e2
  exact vx_runV (As := As.map (sr_cv (sr_ad b))) (b := sr_ad b k i) ⟨C.1, C.2.1, C.2.2.1, C.2.2.2.2.1, C.2.2.2.2.2.1⟩ (hT (.inl v) t1 rfl D dA b) ⟨sr_callB C f0 hR h1 h2 hl, C.2.2.2.2.2.1 _ f3, C.2.2.2.2.2.1 _ f4⟩ ⟨sr_blind, va_recv C.2.2.2.2.2.2.2.2.2.2.1 Wd.1 f1 e2, sr_pre C Wd hz h5⟩ rfl (by rw [List.length_map]; exact hn) hsz rfl (lv_room hS) hd ⟨h3, h4⟩
/-- a static method with a table, by an entry of a pool -/
def sr_FH (own : String) (idx : Nat) (N : sr_M) (n : Nat) : Prop := (∃ q hh, sr_Mh N = q :: hh) ∧ sr_cw N ∈ sr_TB ∧ Cond.initialized (sr_My N).cls ∈ sr_TB ∧ Cond.static (sr_My N) ∈ sr_TB ∧ Cond.methodLink own idx (sr_My N) ∈ sr_TB ∧ ((sr_My N).cls ≠ "java/lang/invoke/MethodHandle" ∧ (sr_My N).cls ≠ "java/lang/invoke/VarHandle" ∧ (parseMethodDescriptor (sr_My N).desc).map (fun d => d.parameters.length) = some n)
theorem sr_wS {idx n : Nat} {As : List sr_V} (C : sr_C l M p s m args meth c D dA b) (Wd : sr_W D dA b (em t) s H locs) (hsz : ls.size = sr_Mn M) (h1 : sr_Mf M ≤ R.frames) (h2 : sr_Mo M ≤ R.locals) (h3 : cells + mc1 ≤ R.cells) (h4 : slots + ms1 ≤ R.slots) (h5 : (em t).2.1 = true → s.heap.size + cells = b + (em t).1.length ∧ (em t).1 = sr_nms.take (em t).1.length) (F : sr_FH (sr_My M).cls idx N n) (hd : decode (sr_Mb M) pc = .ok (.invokestatic idx, 3)) (hR : sr_RM M N) (hn : As.length = n) (hS : (rest.map fun v => v.category).sum ≤ 8)
    (hT : sr_T em l N As t (some (.inl v, t1)) mc1 ms1)
    (kk : ∀ H1 locs1, sr_W D dA b (em t1) s H1 locs1 → W p l e R s m args below meth c H1 locs1 (cells + mc1) (slots + ms1) Q (F0 m (pc + 3) ls ((v.map (sr_cv (sr_ad b))).toList ++ rest))) :
    W p l e R s m args below meth c H locs cells slots Q (F0 m pc ls ((As.map (sr_cv (sr_ad b))).reverse ++ rest)) := by
  refine sr_finW (a := (As.map (sr_cv (sr_ad b))).toArray) Wd (fun hz => ?_) kk
  obtain ⟨⟨q, hh, f0⟩, f1, f2, f3, f4, f5⟩ := F
  have hts := C.2.2.2.2.2.1
  have hG : GoodIn sr_TB (va_wsS (sr_My M).cls idx (sr_My N) (sr_cw N :: sr_TB)) := by
    intro w hw
    rcases List.mem_append.mp hw with h | h
    · simp only [List.mem_cons, List.not_mem_nil, or_false] at h
      rcases h with rfl | rfl | rfl
      · exact ⟨f4, sr_good f4⟩
      · exact ⟨f3, sr_good f3⟩
      · exact ⟨f2, sr_good f2⟩
    · rcases List.mem_cons.mp h with rfl | h
      · exact ⟨f1, sr_good f1⟩
      · exact ⟨h, sr_good h⟩
  exact vx_runSX (hh := q :: hh) (bytes := sr_Mb N) (maxL := sr_Mn N) (ret := sr_Mt N) (As := As.map (sr_cv (sr_ad b))) ⟨C.1, C.2.1, C.2.2.1, C.2.2.2.2.1, C.2.2.2.2.2.1⟩ (hT (.inl v) t1 rfl D dA b) (vx_cwSW n hts hG (by rw [sr_cw_tab f0]) rfl rfl f5 ⟨Nat.le_trans hR.1 h1, Nat.le_trans hR.2 h2⟩) ⟨sr_blind, sr_pre C Wd hz h5⟩ rfl (by rw [List.length_map]; exact hn) hsz rfl (lv_room hS) hd ⟨h3, h4⟩
theorem sr_wI {idx k i n : Nat} {As : List sr_V} (C : sr_C l M p s m args meth c D dA b) (Wd : sr_W D dA b (em t) s H locs) (hsz : ls.size = sr_Mn M) (h1 : sr_Mf M ≤ R.frames) (h2 : sr_Mo M ≤ R.locals) (h3 : cells + mc1 ≤ R.cells) (h4 : slots + ms1 ≤ R.slots) (h5 : (em t).2.1 = true → s.heap.size + cells = b + (em t).1.length ∧ (em t).1 = sr_nms.take (em t).1.length) (F : sr_FI (sr_My M).cls idx N n) (hl : Cond.methodLink (sr_My M).cls idx (sr_My N) ∈ sr_TB) (hd : decode (sr_Mb M) pc = .ok (.invokespecial idx, 3)) (hR : sr_RM M N) (hn : As.length = n) (hS : (rest.map fun v => v.category).sum ≤ 8)
    (hT : sr_T em l N (sr_r k i :: As) t (some (.inl v, t1)) mc1 ms1)
    (kk : ∀ H1 locs1, sr_W D dA b (em t1) s H1 locs1 → W p l e R s m args below meth c H1 locs1 (cells + mc1) (slots + ms1) Q (F0 m (pc + 3) ls ((v.map (sr_cv (sr_ad b))).toList ++ rest))) :
    W p l e R s m args below meth c H locs cells slots Q (F0 m pc ls ((As.map (sr_cv (sr_ad b))).reverse ++ .ref (sr_ad b k i) :: rest)) := by
  refine sr_finW (a := ((sr_r k i :: As).map (sr_cv (sr_ad b))).toArray) Wd (fun hz => ?_) kk
  obtain ⟨f0, f3, f4, f5⟩ := F
  have hb := sr_callB (R := R) (mc1 := mc1) (ms1 := ms1) C f0 hR h1 h2 hl
  rw [f5] at hb
  exact sr_vx (va_runI (As := As.map (sr_cv (sr_ad b))) (b := sr_ad b k i) ⟨C.1, C.2.1, C.2.2.1, C.2.2.2.2.1, C.2.2.2.2.2.1⟩ (sr_toMet (hT (.inl v) t1 rfl D dA b)) ⟨hb, f4, C.2.2.2.2.2.1 _ f3⟩ ⟨sr_blind, sr_pre C Wd hz h5⟩ rfl (by rw [List.length_map]; exact hn) hsz rfl (lv_room hS) hd ⟨h3, h4⟩)
/-- the names' count while things are made in the law's own body -/
theorem sr_hz {tc : sr_c} (hn : tc.1 ≤ 461) (h : s.heap.size + cells = b + tc.1) : (sr_e2 tc).2.1 = true → s.heap.size + cells = b + (sr_e2 tc).1.length ∧ (sr_e2 tc).1 = sr_nms.take (sr_e2 tc).1.length := by
  intro _
  have hl : sr_nms.length = 461 := by decide +kernel
  have e1 : (sr_e2 tc).1.length = tc.1 := by show (sr_nms.take tc.1).length = _; rw [List.length_take, hl]; omega
  exact ⟨by rw [e1]; exact h, by rw [e1]; rfl⟩
theorem sr_wnew {idx k n i : Nat} {tc : sr_c} (C : sr_C l M p s m args meth c D dA b) (Wd : sr_W D dA b (sr_e2 tc) s H locs) (h3 : cells + 1 ≤ R.cells) (h4 : slots + n ≤ R.slots) (hz : s.heap.size + cells = b + tc.1) (F : sr_FN (sr_My M).cls idx k n (sr_df k)) (hd : decode (sr_Mb M) pc = .ok (.new idx, 3)) (hq : sr_nms[tc.1]? = some (k, i)) (hf : sr_fr tc k i = true)
    (kk : ∀ H1, sr_W D dA b (sr_e2 (tc.1 + 1, tc.2)) s H1 locs → W p l e R s m args below meth c H1 locs (cells + 1) (slots + n) Q (F0 m (pc + 3) ls (.ref (sr_ad b k i) :: rest))) :
    W p l e R s m args below meth c H locs cells slots Q (F0 m pc ls rest) := by
  obtain ⟨Cn, T, ty, f1, f2, f3, f4, f5, f6, f7, f8⟩ := F
  have hts := C.2.2.2.2.2.1
  have hlen := sr_e2_len hq
  have hfs : ∀ j, j < n → defaultValue (ty j) = vp_V ((List.range n).map (fun j => sr_cv (sr_ad b) (sr_df k j))) j := by
    intro j hj
    rw [f8 (sr_ad b) j hj]
    simp [vp_V, hj]
  refine va_new C.1 C.2.1 hts f3 ty f4 C.2.2.2.2.1 (hts _ f5) (hts _ f6) (hts _ f7) C.2.2.2.2.2.2.2.2.2.2.1 Wd.1 Wd.2.1 Wd.2.2 (fun q hq => Nat.le_trans C.2.2.2.2.2.2.2.2.2.2.2.2 hq) f1 hfs h3 h4 hd (fun q H1 a1 a2 a3 => ?_)
  intro T9 hT9 X9
  have hz9 : H1.size ≤ s.heap.size + (cells + 1) := by rw [← hT9]; exact X9.heapSize
  obtain ⟨b1, b2, b3, -⟩ := sr_born (dA := dA) (cells := cells) (sz := s.heap.size) rfl (by rw [hlen]; exact hq) (fun _ => ⟨by rw [hlen]; exact hz, by rw [hlen]; rfl⟩) (sr_e2_al hq hf) (by rw [sr_obj f2]; simp [sr_pc]) a1 a2 hz9
  subst b1
  exact kk H1 ⟨b2, b3, a3⟩ T9 hT9 X9
theorem sr_wnewL {k i : Nat} {tc : sr_c} (C : sr_C l M p s m args meth c D dA b) (Wd : sr_W D dA b (sr_e2 tc) s H locs) (h3 : cells + 1 ≤ R.cells) (h4 : slots + 1 ≤ R.slots) (hz : s.heap.size + cells = b + tc.1) (hk : k = 23) (hd : decode (sr_Mb M) pc = .ok (.newarray .long, 2)) (hq : sr_nms[tc.1]? = some (k, i)) (hf : sr_fr tc k i = true)
    (kk : ∀ H1, sr_W D dA b (sr_e2 (tc.1 + 1, tc.2)) s H1 locs → W p l e R s m args below meth c H1 locs (cells + 1) (slots + 1) Q (F0 m (pc + 2) ls (.ref (sr_ad b k i) :: rest))) :
    W p l e R s m args below meth c H locs cells slots Q (F0 m pc ls (.int 1 :: rest)) := by
  subst hk
  have hts := C.2.2.2.2.2.1
  have hK := C.2.2.2.2.2.2.2.2.2.2.1
  have hlen := sr_e2_len hq
  refine va_newa (atype := .long) (ty := .long) (a0 := (1, .inr (.inl (fun _ => 0)))) C.1 C.2.1 (hts _ ac_long) rfl hK Wd.1 Wd.2.1 Wd.2.2 (fun q hq => Nat.le_trans C.2.2.2.2.2.2.2.2.2.2.2.2 hq) (fun cA => rfl) (by decide) (N' := 1) (by decide) (by decide) h3 h4 hd (fun q cA H1 a0 a1 a2 a3 => ?_)
  intro T9 hT9 X9
  have hz9 : H1.size ≤ s.heap.size + (cells + 1) := by rw [← hT9]; exact X9.heapSize
  have hcA : cA = dA 1 := by
    have z1 := (hK.2 1 (dA 1, .long) rfl).2
    have z2 := (a0.2 4 (cA, .long) rfl).2
    exact Option.some.inj (z2.symm.trans z1)
  subst hcA
  obtain ⟨b1, b2, b3, -⟩ := sr_born (dA := dA) (cells := cells) (sz := s.heap.size) (k := 23) rfl (by rw [hlen]; exact hq) (fun _ => ⟨by rw [hlen]; exact hz, by rw [hlen]; rfl⟩) (sr_e2_al hq hf) (by rw [sr_arr (ty := 1) (n := 1) rfl]; simp [sr_pc, sr_ct, sr_df, sr_L]) a1 a2 hz9
  rw [b1]
  exact kk H1 ⟨b2, b3, a3⟩ T9 hT9 X9
/-- a long of the typed heap's -/
theorem sr_wlal {k i n : Nat} {tt : sr_t} {a : Int32} (C : sr_C l M p s m args meth c D dA b) (Wd : sr_W D dA b (sr_em tt) s H locs) (hk : sr_kd k = .inr (1, n)) (hk2 : k < 47) (hm : (k, i) ∈ sr_nms) (hin : ¬ (a < 0 ∨ n ≤ a.toNatClampNeg)) (hd : decode (sr_Mb M) pc = .ok (.laload, 1)) (kk : W p l e R s m args below meth c H locs cells slots Q (F0 m (pc + 1) ls (.long (tt.2 k i a.toNatClampNeg) :: rest))) : W p l e R s m args below meth c H locs cells slots Q (F0 m pc ls (.int a :: .ref (sr_ad b k i) :: rest)) := by
  obtain ⟨q0, e1, e2⟩ := sr_at (h := sr_em tt) (ad := sr_ad b) (dA := dA) hm
  rw [sr_arr hk] at e2
  have e3 : sr_L ((sr_em tt).2.2 k i a.toNatClampNeg) = tt.2 k i a.toNatClampNeg := by
    show sr_L (sr_fv tt k i _) = _
    rw [sr_fv_lng hk hk2]
    rfl
  refine va_lald C.1 C.2.1 C.2.2.2.2.2.2.2.2.2.2.1 Wd.1 q0 1 e2 rfl hin hd ?_
  rw [e3]
  exact kk
end SRw
