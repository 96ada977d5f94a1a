/-! making things, comparing references, throwing -/
section SRe
variable {α : Type} {em : α → sr_H} {l : Launch} {M N : sr_M} {pc : Nat} {L : List (Option sr_V)} {S : List sr_V} {t : α} {x : Option (sr_O × α)} {mc ms mc1 ms1 mc2 ms2 : Nat}
theorem sr_objI {idx k i : Nat} (hd : decode (sr_Mb M) pc = .ok (.invokespecial idx, 3)) (hl : Cond.methodLink (sr_My M).cls idx objectInit ∈ sr_TB) (hi : Cond.instanceMethod objectInit ∈ sr_TB) (hc : Cond.code objectInit ⟨#[0xb1]⟩ 1 none ∈ sr_TB) (hf : 1 ≤ sr_Mf M) (ho : 20 ≤ sr_Mo M) (hS : sr_ws S = true) (kk : sr_G em l M (pc + 3) L S t x mc ms) : sr_G em l M pc L (sr_r k i :: S) t x mc ms := by
  intro r t' hx p e R s m args below meth c D dA b H locs ls cells slots C Wd hL h1 h2 h3 h4 h5
  have hts := C.2.2.2.2.2.1
  refine W.objInit C.1 C.2.1 C.2.2.2.2.1 (hts _ hl) (hts _ hi) (hts _ hc) rfl (by rw [C.2.2.1]; exact hL.1) rfl hd (by omega) ?_ (kk r t' hx p e R s m args below meth c D dA b H locs ls cells slots C Wd hL h1 h2 h3 h4 h5)
  have h8 := lv_room (m := m) (pc := pc) (ls := ls) (rest := S.map (sr_cv (sr_ad b))) (sr_ws_ok (ad := sr_ad b) hS)
  have h9 : (F0 m pc ls ((sr_r k i :: S).map (sr_cv (sr_ad b)))).monitorRoom = (F0 m pc ls (S.map (sr_cv (sr_ad b)))).monitorRoom := rfl
  rw [h9]
  omega
def sr_pc (s : sr_S) (k i : Nat) (f : Nat → sr_V) : sr_S := fun k' i' => if k' = k ∧ i' = i then f else s k' i'
def sr_al (h : sr_H) (k i : Nat) (f : Nat → sr_V) : sr_H := (h.1 ++ [(k, i)], h.2.1, sr_pc h.2.2 k i f)
/-- a new cell's address, and the world with it -/
theorem sr_born {D : va_G} {dA : Nat → ClassId} {b q k i cells : Nat} {h h2 : sr_H} {f : Nat → sr_V} {H1 : Heap} {E : va_E} {sz : Nat} (hf : h.2.1 = true) (hq : sr_nms[h.1.length]? = some (k, i)) (h5 : h.2.1 = true → sz + cells = b + h.1.length ∧ h.1 = sr_nms.take h.1.length) (he : h2 = sr_al h k i f) (hE : sr_cE (sr_ad b) dA (sr_pc h.2.2 k i f) k i = E)
    (hP : va_P D sr_cl (sr_cs (sr_ad b) dA h ++ [(q, E)]) H1) (hD : va_D (sr_A b) (sr_cs (sr_ad b) dA h ++ [(q, E)])) (hz : H1.size ≤ sz + (cells + 1)) :
    q = sr_ad b k i ∧ va_P D sr_cl (sr_cs (sr_ad b) dA h2) H1 ∧ va_D (sr_A b) (sr_cs (sr_ad b) dA h2) ∧ (h2.2.1 = true → sz + (cells + 1) = b + h2.1.length ∧ h2.1 = sr_nms.take h2.1.length) := by
  obtain ⟨a1, a2⟩ := h5 hf
  have hlen : (sr_cs (sr_ad b) dA h).length = h.1.length := by simp [sr_cs]
  have hlast : (sr_cs (sr_ad b) dA h ++ [(q, E)])[h.1.length]? = some (q, E) := by rw [← hlen]; simp
  have q1 : q < H1.size := (hP _ _ hlast).lt
  have q2 : b ≤ q := hD.2 _ _ hlast
  have nm : ∀ n, n < h.1.length → ∃ k' i', h.1[n]? = some (k', i') ∧ sr_ix k' i' = n := by
    intro n hn
    obtain ⟨⟨k', i'⟩, e0⟩ : ∃ q, h.1[n]? = some q := ⟨_, List.getElem?_eq_getElem hn⟩
    have e2 : (sr_nms.take h.1.length)[n]? = some (k', i') := a2 ▸ e0
    rw [List.getElem?_take, if_pos hn] at e2
    exact ⟨k', i', e0, sr_nms_ix n _ e2⟩
  have hix : sr_ix k i = h.1.length := sr_nms_ix _ _ hq
  have q3 : q = b + h.1.length := by
    rcases Nat.lt_or_ge q (b + h.1.length) with hlt | hge
    · exfalso
      obtain ⟨k', i', e0, e1⟩ := nm (q - b) (by omega)
      have e3 : (sr_cs (sr_ad b) dA h ++ [(q, E)])[q - b]? = some (sr_ad b k' i', sr_cE (sr_ad b) dA h.2.2 k' i') := by
        rw [List.getElem?_append_left (by rw [hlen]; omega)]
        simp [sr_cs, e0]
      have e4 := hD.1 _ _ _ _ e3 hlast (by show sr_ad b k' i' = q; rw [sr_ad, e1]; omega)
      omega
    · omega
  have q4 : q = sr_ad b k i := by rw [sr_ad, hix]; exact q3
  have hcs : sr_cs (sr_ad b) dA h ++ [(q, E)] = sr_cs (sr_ad b) dA h2 := by
    subst he
    subst hE
    rw [q4]
    simp only [sr_cs, sr_al, List.map_append, List.map_cons, List.map_nil]
    congr 1
    apply List.map_congr_left
    rintro ⟨k', i'⟩ hm
    obtain ⟨n, hn⟩ := List.getElem?_of_mem hm
    have hn2 : n < h.1.length := (List.getElem?_eq_some_iff.mp hn).1
    obtain ⟨k2, i2, e0, e1⟩ := nm n hn2
    cases e0.symm.trans hn
    have hne : ¬ (k' = k ∧ i' = i) := by
      rintro ⟨rfl, rfl⟩
      omega
    have hs : sr_pc h.2.2 k i f k' i' = h.2.2 k' i' := by simp [sr_pc, hne]
    show (sr_ad b k' i', sr_cE (sr_ad b) dA h.2.2 k' i') = (sr_ad b k' i', sr_cE (sr_ad b) dA (sr_pc h.2.2 k i f) k' i')
    simp only [sr_cE, hs]
  refine ⟨q4, by rw [← hcs]; exact hP, by rw [← hcs]; exact hD, fun _ => ?_⟩
  subst he
  have hl2 : (sr_al h k i f).1.length = h.1.length + 1 := by simp [sr_al]
  refine ⟨by rw [hl2]; omega, ?_⟩
  rw [hl2]
  show h.1 ++ [(k, i)] = _
  rw [List.take_add_one, hq]
  show h.1 ++ [(k, i)] = sr_nms.take h.1.length ++ [(k, i)]
  rw [← a2]
/-- a class by an entry of a pool, to be made -/
def sr_FN (own : String) (idx k n : Nat) (f : Nat → sr_V) : Prop := ∃ (C : String) (T : u_T) (ty : Nat → FieldType), sr_cl[k]? = some (C, T, n) ∧ sr_kd k = .inl n ∧ (∀ w ∈ u_ws C T n, w ∈ sr_TB) ∧ (∀ k, k < n → parseFieldDescriptor (T k).2.2.1 = some (ty k)) ∧ Cond.classLink own idx C ∈ sr_TB ∧ Cond.instantiable C n ∈ sr_TB ∧ Cond.initialized C ∈ sr_TB ∧ ∀ (ad : Nat → Nat → Nat) (j : Nat), j < n → defaultValue (ty j) = sr_cv ad (f j)
theorem sr_new {idx k n i : Nat} {f : Nat → sr_V} {t2 : α} (F : sr_FN (sr_My M).cls idx k n f) (hd : decode (sr_Mb M) pc = .ok (.new idx, 3)) (he : em t2 = sr_al (em t) k i f) (kk : sr_G em l M (pc + 3) L (sr_r k i :: S) t2 x mc ms) : sr_G em l M pc L S t (if (em t).2.1 = true ∧ sr_nms[(em t).1.length]? = some (k, i) then x else none) (1 + mc) (n + ms) := by
  intro r t' hx p e R s m args below meth c D dA b H locs ls cells slots C Wd hL h1 h2 h3 h4 h5
  by_cases hc : (em t).2.1 = true ∧ sr_nms[(em t).1.length]? = some (k, i)
  · rw [if_pos hc] at hx
    obtain ⟨Cn, T, ty, f1, f2, f3, f4, f5, f6, f7, f8⟩ := F
    have hts := C.2.2.2.2.2.1
    have hfs : ∀ j, j < n → defaultValue (ty j) = vp_V ((List.range n).map (fun j => sr_cv (sr_ad b) (f j))) j := by
      intro j hj
      rw [f8 (sr_ad b) j hj]
      simp [vp_V, hj]
    refine va_new C.1 C.2.1 hts f3 ty f4 C.2.2.2.2.1 (hts _ f5) (hts _ f6) (hts _ f7) C.2.2.2.2.2.2.2.2.2.2.1 Wd.1 Wd.2.1 Wd.2.2 (fun q hq => Nat.le_trans C.2.2.2.2.2.2.2.2.2.2.2.2 hq) f1 hfs (by omega) (by omega) hd (fun q H1 a1 a2 a3 => ?_)
    intro T9 hT9 X9
    have hz : H1.size ≤ s.heap.size + (cells + 1) := by rw [← hT9]; exact X9.heapSize
    obtain ⟨b1, b2, b3, b4⟩ := sr_born (dA := dA) (cells := cells) hc.1 hc.2 h5 he (by rw [sr_obj f2]; simp [sr_pc]) a1 a2 hz
    have key := kk r t' hx p e R s m args below meth c D dA b H1 locs ls (cells + 1) (slots + n) C ⟨b2, b3, a3⟩ hL h1 h2 (by omega) (by omega) b4
    rw [Nat.add_assoc, Nat.add_assoc] at key
    subst b1
    exact key T9 hT9 X9
  · rw [if_neg hc] at hx; cases hx
theorem sr_newa {k n i ty : Nat} {a : Int32} {f : Nat → sr_V} {t2 : α} {at' : ArrayType} (hk : sr_kd k = .inr (ty, n)) (hty : (ty = 0 ∧ at' = .int) ∨ (ty = 1 ∧ at' = .long)) (hw : Cond.arrayClass (newarray.typeOf at') ∈ sr_TB) (hd : decode (sr_Mb M) pc = .ok (.newarray at', 2)) (hf : ∀ j, f j = if ty = 0 then sr_i 0 else sr_l 0) (ha : ¬ a < 0) (hn : a.toNatClampNeg = n) (hb9 : n * 8 ≤ 536870912) (he : em t2 = sr_al (em t) k i f) (kk : sr_G em l M (pc + 2) L (sr_r k i :: S) t2 x mc ms) : sr_G em l M pc L (sr_i a :: S) t (if (em t).2.1 = true ∧ sr_nms[(em t).1.length]? = some (k, i) then x else none) (1 + mc) (n + ms) := by
  intro r t' hx p e R s m args below meth c D dA b H locs ls cells slots C Wd hL h1 h2 h3 h4 h5
  by_cases hc : (em t).2.1 = true ∧ sr_nms[(em t).1.length]? = some (k, i)
  · rw [if_pos hc] at hx
    have hts := C.2.2.2.2.2.1
    have hK := C.2.2.2.2.2.2.2.2.2.2.1
    rcases hty with ⟨rfl, rfl⟩ | ⟨rfl, rfl⟩
    · refine va_newa (atype := .int) (ty := .int) (a0 := (n, .inl (fun _ => 0))) C.1 C.2.1 (hts _ hw) rfl hK Wd.1 Wd.2.1 Wd.2.2 (fun q hq => Nat.le_trans C.2.2.2.2.2.2.2.2.2.2.2.2 hq) (fun cA => rfl) ha hn (by show n * 4 ≤ _; omega) (by omega) (by omega) hd (fun q cA H1 a0 a1 a2 a3 => ?_)
      intro T9 hT9 X9
      have hz : H1.size ≤ s.heap.size + (cells + 1) := by rw [← hT9]; exact X9.heapSize
      have hcA : cA = dA 0 := by
        have z1 := (hK.2 0 (dA 0, .int) rfl).2
        have z2 := (a0.2 4 (cA, .int) rfl).2
        exact Option.some.inj (z2.symm.trans z1)
      subst hcA
      obtain ⟨b1, b2, b3, b4⟩ := sr_born (dA := dA) (cells := cells) (f := f) hc.1 hc.2 h5 he (by rw [sr_arr hk]; simp [sr_pc, sr_ct, hf, sr_I]) a1 a2 hz
      have key := kk r t' hx p e R s m args below meth c D dA b H1 locs ls (cells + 1) (slots + n) C ⟨b2, b3, a3⟩ hL h1 h2 (by omega) (by omega) b4
      rw [Nat.add_assoc, Nat.add_assoc] at key
      subst b1
      exact key T9 hT9 X9
    · refine va_newa (atype := .long) (ty := .long) (a0 := (n, .inr (.inl (fun _ => 0)))) C.1 C.2.1 (hts _ hw) rfl hK Wd.1 Wd.2.1 Wd.2.2 (fun q hq => Nat.le_trans C.2.2.2.2.2.2.2.2.2.2.2.2 hq) (fun cA => rfl) ha hn (by show n * 8 ≤ _; omega) (by omega) (by omega) hd (fun q cA H1 a0 a1 a2 a3 => ?_)
      intro T9 hT9 X9
      have hz : H1.size ≤ s.heap.size + (cells + 1) := by rw [← hT9]; exact X9.heapSize
      have hcA : cA = dA 1 := by
        have z1 := (hK.2 1 (dA 1, .long) rfl).2
        have z2 := (a0.2 4 (cA, .long) rfl).2
        exact Option.some.inj (z2.symm.trans z1)
      subst hcA
      obtain ⟨b1, b2, b3, b4⟩ := sr_born (dA := dA) (cells := cells) (f := f) hc.1 hc.2 h5 he (by rw [sr_arr hk]; simp [sr_pc, sr_ct, hf, sr_L]) a1 a2 hz
      have key := kk r t' hx p e R s m args below meth c D dA b H1 locs ls (cells + 1) (slots + n) C ⟨b2, b3, a3⟩ hL h1 h2 (by omega) (by omega) b4
      rw [Nat.add_assoc, Nat.add_assoc] at key
      subst b1
      exact key T9 hT9 X9
  · rw [if_neg hc] at hx; cases hx
end SRe
