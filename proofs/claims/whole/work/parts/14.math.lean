theorem sr_mmmax {α : Type} {em : α → sr_H} {l : Launch} {M : sr_M} {pc : Nat} {L : List (Option sr_V)} {S : List sr_V} {t : α} {x : Option (sr_O × α)} {mc ms idx : Nat} {u v : Int32} (hl : Cond.methodLink (sr_My M).cls idx Lib.Math.max.name ∈ sr_TB) (hd : decode (sr_Mb M) pc = .ok (.invokestatic idx, 3)) (hf : 1 ≤ sr_Mf M) (ho : 21 ≤ sr_Mo M) (hS : sr_ws S = true) (hst : Cond.static Lib.Math.max.name ∈ sr_TB) (hin : Cond.initialized "java/lang/Math" ∈ sr_TB) (hco : Cond.code Lib.Math.max.name Lib.Math.max.code 2 (some .int) ∈ sr_TB) (kk : sr_G em l M (pc + 3) L (sr_i (if u < v then v else u) :: S) t x mc ms) : sr_G em l M pc L (sr_i v :: sr_i u :: S) t x mc ms := by
  intro r t' hx p e R s m args below meth c D dA b H locs ls cells slots C Wd hL h1 h2 h3 h4 h5
  have hts := C.2.2.2.2.2.1
  have h8 := sr_ws_ok (ad := sr_ad b) hS
  exact va_mmax C.1 C.2.1 (C.2.2.1.trans hL.1.symm) C.2.2.2.2.1 (hts _ hl) (hts _ hst) (hts _ hin) (hts _ hco) (by omega) (by omega) (by omega) (by omega) hd (kk r t' hx p e R s m args below meth c D dA b H locs ls cells slots C Wd hL h1 h2 h3 h4 h5)
theorem sr_mmmin {α : Type} {em : α → sr_H} {l : Launch} {M : sr_M} {pc : Nat} {L : List (Option sr_V)} {S : List sr_V} {t : α} {x : Option (sr_O × α)} {mc ms idx : Nat} {u v : Int32} (hl : Cond.methodLink (sr_My M).cls idx Lib.Math.min.name ∈ sr_TB) (hd : decode (sr_Mb M) pc = .ok (.invokestatic idx, 3)) (hf : 1 ≤ sr_Mf M) (ho : 21 ≤ sr_Mo M) (hS : sr_ws S = true) (hst : Cond.static Lib.Math.min.name ∈ sr_TB) (hin : Cond.initialized "java/lang/Math" ∈ sr_TB) (hco : Cond.code Lib.Math.min.name Lib.Math.min.code 2 (some .int) ∈ sr_TB) (kk : sr_G em l M (pc + 3) L (sr_i (if v < u then v else u) :: S) t x mc ms) : sr_G em l M pc L (sr_i v :: sr_i u :: S) t x mc ms := by
  intro r t' hx p e R s m args below meth c D dA b H locs ls cells slots C Wd hL h1 h2 h3 h4 h5
  have hts := C.2.2.2.2.2.1
  have h8 := sr_ws_ok (ad := sr_ad b) hS
  exact va_mmin C.1 C.2.1 (C.2.2.1.trans hL.1.symm) C.2.2.2.2.1 (hts _ hl) (hts _ hst) (hts _ hin) (hts _ hco) (by omega) (by omega) (by omega) (by omega) hd (kk r t' hx p e R s m args below meth c D dA b H locs ls cells slots C Wd hL h1 h2 h3 h4 h5)
theorem sr_mmabs {α : Type} {em : α → sr_H} {l : Launch} {M : sr_M} {pc : Nat} {L : List (Option sr_V)} {S : List sr_V} {t : α} {x : Option (sr_O × α)} {mc ms idx : Nat} {u : Int32} (hl : Cond.methodLink (sr_My M).cls idx Lib.Math.abs.name ∈ sr_TB) (hd : decode (sr_Mb M) pc = .ok (.invokestatic idx, 3)) (hf : 1 ≤ sr_Mf M) (ho : 21 ≤ sr_Mo M) (hS : sr_ws S = true) (hst : Cond.static Lib.Math.abs.name ∈ sr_TB) (hin : Cond.initialized "java/lang/Math" ∈ sr_TB) (hco : Cond.code Lib.Math.abs.name Lib.Math.abs.code 1 (some .int) ∈ sr_TB) (kk : sr_G em l M (pc + 3) L (sr_i (if 0 ≤ u then u else 0 - u) :: S) t x mc ms) : sr_G em l M pc L (sr_i u :: S) t x mc ms := by
  intro r t' hx p e R s m args below meth c D dA b H locs ls cells slots C Wd hL h1 h2 h3 h4 h5
  have hts := C.2.2.2.2.2.1
  have h8 := sr_ws_ok (ad := sr_ad b) hS
  exact va_mabs C.1 C.2.1 (C.2.2.1.trans hL.1.symm) C.2.2.2.2.1 (hts _ hl) (hts _ hst) (hts _ hin) (hts _ hco) (by omega) (by omega) (by omega) (by omega) hd (kk r t' hx p e R s m args below meth c D dA b H locs ls cells slots C Wd hL h1 h2 h3 h4 h5)
theorem mw_max1 : Cond.static Lib.Math.max.name ∈ sr_TB := sr_tb (n := 548) (by decide +kernel) rfl
theorem mw_max2 : Cond.code Lib.Math.max.name Lib.Math.max.code 2 (some .int) ∈ sr_TB := sr_tb (n := 549) (by decide +kernel) rfl
theorem mw_min1 : Cond.static Lib.Math.min.name ∈ sr_TB := sr_tb (n := 749) (by decide +kernel) rfl
theorem mw_min2 : Cond.code Lib.Math.min.name Lib.Math.min.code 2 (some .int) ∈ sr_TB := sr_tb (n := 750) (by decide +kernel) rfl
theorem mw_abs1 : Cond.static Lib.Math.abs.name ∈ sr_TB := sr_tb (n := 642) (by decide +kernel) rfl
theorem mw_abs2 : Cond.code Lib.Math.abs.name Lib.Math.abs.code 1 (some .int) ∈ sr_TB := sr_tb (n := 643) (by decide +kernel) rfl
theorem mw_0 : Cond.initialized "java/lang/Math" ∈ sr_TB := sr_tb (n := 19) (by decide +kernel) rfl
