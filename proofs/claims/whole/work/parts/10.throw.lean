/-! arrays of references, comparing references, throwing, catching -/
section SRf
variable {α : Type} {em : α → sr_H} {l : Launch} {M N : sr_M} {pc : Nat} {L : List (Option sr_V)} {S : List sr_V} {t : α} {x y : Option (sr_O × α)} {mc ms mc1 ms1 mc2 ms2 : Nat}
theorem sr_newq {idx k n i ty : Nat} {a : Int32} {C9 : String} {f : Nat → sr_V} {t2 : α} (hk : sr_kd k = .inr (ty, n)) (hty : (ty = 2 ∧ C9 = RX2) ∨ (ty = 3 ∧ C9 = RX0)) (hw : Cond.classLink (sr_My M).cls idx C9 ∈ sr_TB) (hv : Cond.arrayOver (.object C9) ∈ sr_NB) (hd : decode (sr_Mb M) pc = .ok (.anewarray idx, 3)) (hf : ∀ j, f j = sr_n) (ha : ¬ a < 0) (hn : a.toNatClampNeg = n) (hb9 : n * 8 ≤ 536870912) (he : em t2 = sr_al (em t) k i f) (kk : sr_G em l M (pc + 3) L (sr_r k i :: S) t2 x mc ms) : sr_G em l M pc L (sr_i a :: S) t (if (em t).2.1 = true ∧ sr_nms[(em t).1.length]? = some (k, i) then x else none) (1 + mc) (n + ms) := by
  intro r t' hx p e R s m args below meth c D dA b H locs ls cells slots C Wd hL h1 h2 h3 h4 h5
  by_cases hc : (em t).2.1 = true ∧ sr_nms[(em t).1.length]? = some (k, i)
  · rw [if_pos hc] at hx
    have hts := C.2.2.2.2.2.1
    have hK := C.2.2.2.2.2.2.2.2.2.2.1
    have hAO : va_AO C9 s := C.2.2.2.2.2.2.1 _ hv
    refine va_newq C.1 C.2.1 C.2.2.2.2.1 (hts _ hw) hAO hK Wd.1 Wd.2.1 Wd.2.2 (fun q hq => Nat.le_trans C.2.2.2.2.2.2.2.2.2.2.2.2 hq) ha hn (by omega) (by omega) (by omega) hd (fun q cA H1 a0 a1 a2 a3 => ?_)
    intro T9 hT9 X9
    have hz : H1.size ≤ s.heap.size + (cells + 1) := by rw [← hT9]; exact X9.heapSize
    have z2 := (a0.2 4 (cA, .object C9) rfl).2
    obtain ⟨_, _, _, _, _, z3⟩ := z2
    have hcA : cA = dA ty := by
      rcases hty with ⟨rfl, rfl⟩ | ⟨rfl, rfl⟩
      · obtain ⟨_, _, _, _, _, z4⟩ := (hK.2 2 (dA 2, .object RX2) rfl).2
        exact Option.some.inj (z3.symm.trans z4)
      · obtain ⟨_, _, _, _, _, z4⟩ := (hK.2 3 (dA 3, .object RX0) rfl).2
        exact Option.some.inj (z3.symm.trans z4)
    subst hcA
    have hct : sr_ct (sr_ad b) ty (sr_pc (em t).2.2 k i f k i) = .inr (.inr (.inr (.inr (fun _ => none)))) := by
      rcases hty with ⟨rfl, -⟩ | ⟨rfl, -⟩ <;> simp [sr_pc, sr_ct, hf, sr_R]
    obtain ⟨b1, b2, b3, b4⟩ := sr_born (dA := dA) (cells := cells) (f := f) hc.1 hc.2 h5 he (by rw [sr_arr hk, hct]) a1 a2 hz
    have key := kk r t' hx p e R s m args below meth c D dA b H1 locs ls (cells + 1) (slots + n) C ⟨b2, b3, a3⟩ hL h1 h2 (by omega) (by omega) b4
    rw [Nat.add_assoc, Nat.add_assoc] at key
    subst b1
    exact key T9 hT9 X9
  · rw [if_neg hc] at hx; cases hx
theorem sr_aast {k i n ty k2 i2 nn : Nat} {a : Int32} {t2 : α} {T : u_T} {C9 : String} (hk : sr_kd k = .inr (ty, n)) (hty : (ty = 2 ∧ C9 = RX2) ∨ (ty = 3 ∧ C9 = RX0)) (hk2 : sr_kd k2 = .inl nn) (hc2 : sr_cl[k2]? = some (C9, T, nn)) (hd : decode (sr_Mb M) pc = .ok (.aastore, 1)) (hm : (k, i) ∈ (em t).1) (hm2 : (k2, i2) ∈ (em t).1) (he : em t2 = ((em t).1, (em t).2.1, sr_up (em t).2.2 k i a.toNatClampNeg (sr_r k2 i2))) (kk : ¬ (a < 0 ∨ n ≤ a.toNatClampNeg) → sr_G em l M (pc + 1) L S t2 x mc ms) : sr_G em l M pc L (sr_r k2 i2 :: sr_i a :: sr_r k i :: S) t (if a < 0 ∨ n ≤ a.toNatClampNeg then none else x) mc ms := by
  intro r t' hx p e R s m args below meth c D dA b H locs ls cells slots C Wd hL h1 h2 h3 h4 h5
  by_cases hz : a < 0 ∨ n ≤ a.toNatClampNeg
  · rw [if_pos hz] at hx; cases hx
  · rw [if_neg hz] at hx
    obtain ⟨q0, e1, e2⟩ := sr_at (ad := sr_ad b) (dA := dA) hm
    obtain ⟨q2, e3, e4⟩ := sr_at (ad := sr_ad b) (dA := dA) hm2
    rw [sr_arr hk] at e2
    rw [sr_obj hk2] at e4
    have hK := C.2.2.2.2.2.2.2.2.2.2.1
    have hct : ∀ g : Nat → sr_V, sr_ct (sr_ad b) ty g = .inr (.inr (.inr (.inr (fun j => sr_R (sr_ad b) (g j))))) := by
      intro g
      rcases hty with ⟨rfl, -⟩ | ⟨rfl, -⟩ <;> rfl
    rw [hct] at e2
    have ht : (sr_tys dA)[ty]? = some (dA ty, .object C9) := by
      rcases hty with ⟨rfl, rfl⟩ | ⟨rfl, rfl⟩ <;> rfl
    refine va_astq C.1 C.2.1 hK Wd.1 Wd.2.1 Wd.2.2 q0 ty q2 k2 e2 ht e4 hc2 hz hd (fun H1 locs1 a1 a2 a3 => ?_)
    have hset : (sr_cs (sr_ad b) dA (em t)).set q0 (sr_ad b k i, .inl (dA ty, n, .inr (.inr (.inr (.inr (va_up (fun j => sr_R (sr_ad b) ((em t).2.2 k i j)) a.toNatClampNeg (some (sr_ad b k2 i2)))))))) = sr_cs (sr_ad b) dA (em t2) := by
      rw [he]
      refine sr_set Wd.2.1 e1 ?_
      rw [sr_arr hk, hct, sr_refset]
    rw [hset] at a1 a2
    exact kk hz r t' hx p e R s m args below meth c D dA b H1 locs1 ls cells slots C ⟨a1, a2, a3⟩ hL h1 h2 h3 h4 (by rw [he]; exact h5)
theorem sr_ixj {k i k' i' : Nat} (h1 : (k, i) ∈ sr_nms) (h2 : (k', i') ∈ sr_nms) (h : sr_ix k i = sr_ix k' i') : (k, i) = (k', i') := by
  obtain ⟨n, e1⟩ := List.getElem?_of_mem h1
  obtain ⟨n', e2⟩ := List.getElem?_of_mem h2
  have a1 : sr_ix k i = n := sr_nms_ix _ _ e1
  have a2 : sr_ix k' i' = n' := sr_nms_ix _ _ e2
  have : n = n' := by omega
  subst this
  exact Option.some.inj (e1.symm.trans e2)
theorem sr_adj {b k i j : Nat} (h1 : (k, i) ∈ sr_nms) (h2 : (k, j) ∈ sr_nms) : (some (sr_ad b k i) = some (sr_ad b k j)) ↔ i = j := by
  constructor
  · intro e
    have e2 : sr_ad b k i = sr_ad b k j := Option.some.inj e
    have := sr_ixj h1 h2 (by unfold sr_ad at e2; omega)
    exact congrArg Prod.snd this
  · rintro rfl; rfl
theorem sr_acmp_eq {k i j : Nat} {off : Int} {tg : Nat} (hd : decode (sr_Mb M) pc = .ok (.if_acmp .eq off, 3)) (ht : (pc : Int) + off = (tg : Int)) (h1' : (k, i) ∈ sr_nms) (h2' : (k, j) ∈ sr_nms) (kt : i = j → sr_G em l M tg L S t x mc ms) (kf : ¬ (i = j) → sr_G em l M (pc + 3) L S t y mc ms) : sr_G em l M pc L (sr_r k j :: sr_r k i :: S) t (if i = j then x else y) mc ms := by
  intro r t' hx p e R s m args below meth c D dA b H locs ls cells slots C Wd hL h1 h2 h3 h4 h5
  refine lv_acmp_eq (rx := some (sr_ad b k i)) (ry := some (sr_ad b k j)) C.1 C.2.1 hd ht (fun hz => ?_) (fun hz => ?_)
  · have hz := (sr_adj h1' h2').mp hz
    rw [if_pos hz] at hx; exact kt hz r t' hx p e R s m args below meth c D dA b H locs ls cells slots C Wd hL h1 h2 h3 h4 h5
  · have hz : ¬ i = j := fun q => hz ((sr_adj h1' h2').mpr q)
    rw [if_neg hz] at hx; exact kf hz r t' hx p e R s m args below meth c D dA b H locs ls cells slots C Wd hL h1 h2 h3 h4 h5
theorem sr_acmp_ne {k i j : Nat} {off : Int} {tg : Nat} (hd : decode (sr_Mb M) pc = .ok (.if_acmp .ne off, 3)) (ht : (pc : Int) + off = (tg : Int)) (h1' : (k, i) ∈ sr_nms) (h2' : (k, j) ∈ sr_nms) (kt : ¬ (i = j) → sr_G em l M tg L S t x mc ms) (kf : i = j → sr_G em l M (pc + 3) L S t y mc ms) : sr_G em l M pc L (sr_r k j :: sr_r k i :: S) t (if i = j then y else x) mc ms := by
  intro r t' hx p e R s m args below meth c D dA b H locs ls cells slots C Wd hL h1 h2 h3 h4 h5
  refine lv_acmp_ne (rx := some (sr_ad b k i)) (ry := some (sr_ad b k j)) C.1 C.2.1 hd ht (fun hz => ?_) (fun hz => ?_)
  · have hz : ¬ i = j := fun q => hz ((sr_adj h1' h2').mpr q)
    rw [if_neg hz] at hx; exact kt hz r t' hx p e R s m args below meth c D dA b H locs ls cells slots C Wd hL h1 h2 h3 h4 h5
  · have hz : i = j := (sr_adj h1' h2').mp hz
    rw [if_pos hz] at hx; exact kf hz r t' hx p e R s m args below meth c D dA b H locs ls cells slots C Wd hL h1 h2 h3 h4 h5
abbrev sr_ch : List String := ["java/lang/RuntimeException", "java/lang/Exception"]
/-- an exception made and thrown in class own -/
def sr_FX (own : String) (ik ic z : Nat) : Prop := Bundle.fit (sr_E z) = true ∧ (∀ n ∈ sr_ch, Bundle.fit n = true) ∧ Cond.classLink own ik (sr_E z) ∈ sr_TB ∧ Cond.initialized (sr_E z) ∈ sr_TB ∧ (∀ w ∈ vx_atS own ic (sr_E z) sr_ch, w ∈ sr_TB ∨ (w ∈ sr_NB ∧ w.onTables = true)) ∧ (∀ w ∈ Cond.classLink own ik (sr_E z) :: Cond.initialized (sr_E z) :: vx_atS own ic (sr_E z) sr_ch, vx_ot w = true)
theorem sr_thr {ik is ic z : Nat} {tx : String} (F : sr_FX (sr_My M).cls ik ic z) (hs : ((sr_My M).cls, is, tx) ∈ sr_ST) (d0 : decode (sr_Mb M) pc = .ok (.new ik, 3)) (d3 : decode (sr_Mb M) (pc + 3) = .ok (.dup, 1))
    (d4 : (decode (sr_Mb M) (pc + 4) = .ok (.ldc is, 2) ∧ decode (sr_Mb M) (pc + 6) = .ok (.invokespecial ic, 3) ∧ decode (sr_Mb M) (pc + 9) = .ok (.athrow, 1)) ∨ (decode (sr_Mb M) (pc + 4) = .ok (.ldc_w is, 3) ∧ decode (sr_Mb M) (pc + 7) = .ok (.invokespecial ic, 3) ∧ decode (sr_Mb M) (pc + 10) = .ok (.athrow, 1)))
    (hh : sr_Mh M = []) (hf : 6 ≤ sr_Mf M) (ho : 90 ≤ sr_Mo M) (hS : sr_ws S = true) (hfl : (em t).2.1 = false) : sr_G em l M pc L S t (some (.inr z, t)) (1 + mc) (6 + ms) := by
  intro r t' hx p e R s m args below meth c D dA b H locs ls cells slots C Wd hL h1 h2 h3 h4 h5
  cases hx
  obtain ⟨f1, f2, f3, f4, f5, f6⟩ := F
  have hts := C.2.2.2.2.2.1
  obtain ⟨x1, x2, x3, x4, x5⟩ := C.2.2.2.2.2.2.2.2.2.2.2.1
  obtain ⟨sa, hsa⟩ := x4 _ hs
  have hat : ∀ w ∈ vx_atS (sr_My M).cls ic (sr_E z) sr_ch, w.before args s = true := by
    intro w hw
    rcases f5 w hw with h | ⟨h, ho⟩
    · exact hts _ h
    · exact va_Nw.use ho (C.2.2.2.2.2.2.1 _ h)
  have hout : ∀ q : Nat, ∀ x ∈ c.exceptionTable.toList, covers x q = false := fun q y hy => by rw [C.2.2.2.2.2.2.2.2.1, hh] at hy; cases hy
  have hw8 := sr_ws_ok (ad := sr_ad b) hS
  have hX : ∀ u : State, s.vm.Alike u.vm → H.size ≤ u.heap.size → (∀ q : Nat, q < H.size → u.heap[q]? = H[q]?) → sr_X D dA b (.inr z) (em t) (sr_E z) s u := by
    intro u _ hu1 hu2
    refine ⟨⟨z, rfl, rfl⟩, ?_, Wd.2.1, ?_⟩
    · exact Wd.1.kept (fun k q hk => hu2 q.1 (Wd.1 k q hk).lt)
    · exact ⟨Nat.le_trans Wd.2.2.1 hu1, fun q hq hA => by rw [hu2 q (Nat.lt_of_lt_of_le hq Wd.2.2.1)]; exact Wd.2.2.2.1 q hq hA⟩
  rcases d4 with ⟨d4, d6, d9⟩ | ⟨d4, d6, d9⟩
  · exact vx_throwS (names := sr_ch) C.1 C.2.1 x1 C.2.2.2.2.1 f1 f2 (hts _ f3) (hts _ f4) hsa hat f6 x2 x3 Wd.2.2 (hL.1.trans C.2.2.1.symm) d0 d3 d4 d6 d9 (hout _) (by show 2 + 3 < _; omega) (by show _ + (13 * (2 + 1) + 43) ≤ _; omega) (by omega) (by omega) C.2.2.2.2.2.2.2.1 hX Wd.2.2.2.2 (by omega) (by omega)
  · exact vx_throwSW (names := sr_ch) C.1 C.2.1 x1 C.2.2.2.2.1 f1 f2 (hts _ f3) (hts _ f4) hsa hat f6 x2 x3 Wd.2.2 (hL.1.trans C.2.2.1.symm) d0 d3 d4 d6 d9 (hout _) (by show 2 + 3 < _; omega) (by show _ + (13 * (2 + 1) + 43) ≤ _; omega) (by omega) (by omega) C.2.2.2.2.2.2.2.1 hX Wd.2.2.2.2 (by omega) (by omega)
end SRf
