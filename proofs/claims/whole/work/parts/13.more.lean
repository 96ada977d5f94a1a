theorem sr_lsw {l : Launch} {M : sr_M} {pc : Nat} {L : List (Option sr_V)} {S : List sr_V} {t : sr_t} {mc ms : Nat} {u : Int32} {d a1 a2 a3 a4 : Int} {len t0 t1 t2 t3 t4 : Nat} {x0 x1 x2 x3 x4 : sr_Rs} (hd : decode (sr_Mb M) pc = .ok (.lookupswitch d #[(2, a1), (4, a2), (8, a3), (16, a4)], len)) (h0 : (pc : Int) + d = (t0 : Int)) (h1' : (pc : Int) + a1 = (t1 : Int)) (h2' : (pc : Int) + a2 = (t2 : Int)) (h3' : (pc : Int) + a3 = (t3 : Int)) (h4' : (pc : Int) + a4 = (t4 : Int))
    (k1 : sr_g l M t1 L S t x1 mc ms) (k2 : sr_g l M t2 L S t x2 mc ms) (k3 : sr_g l M t3 L S t x3 mc ms) (k4 : sr_g l M t4 L S t x4 mc ms) (k0 : sr_g l M t0 L S t x0 mc ms) : sr_g l M pc L (sr_i u :: S) t (if u = 2 then x1 else if u = 4 then x2 else if u = 8 then x3 else if u = 16 then x4 else x0) mc ms := by
  intro r t' hx p e R s m args below meth c D dA b H locs ls cells slots C Wd hL h1 h2 h3 h4 h5
  by_cases c1 : u = 2
  · subst c1
    rw [if_pos rfl] at hx
    exact lv_lookup C.1 C.2.1 hd (by rfl) (by rfl) h1' (k1 r t' hx p e R s m args below meth c D dA b H locs ls cells slots C Wd hL h1 h2 h3 h4 h5)
  · rw [if_neg c1] at hx
    by_cases c2 : u = 4
    · subst c2
      rw [if_pos rfl] at hx
      exact lv_lookup C.1 C.2.1 hd (by rfl) (by rfl) h2' (k2 r t' hx p e R s m args below meth c D dA b H locs ls cells slots C Wd hL h1 h2 h3 h4 h5)
    · rw [if_neg c2] at hx
      by_cases c3 : u = 8
      · subst c3
        rw [if_pos rfl] at hx
        exact lv_lookup C.1 C.2.1 hd (by rfl) (by rfl) h3' (k3 r t' hx p e R s m args below meth c D dA b H locs ls cells slots C Wd hL h1 h2 h3 h4 h5)
      · rw [if_neg c3] at hx
        by_cases c4 : u = 16
        · subst c4
          rw [if_pos rfl] at hx
          exact lv_lookup C.1 C.2.1 hd (by rfl) (by rfl) h4' (k4 r t' hx p e R s m args below meth c D dA b H locs ls cells slots C Wd hL h1 h2 h3 h4 h5)
        · rw [if_neg c4] at hx
          have n1 : u.toInt ≠ 2 := fun h => c1 (Int32.toInt_inj.mp h)
          have n2 : u.toInt ≠ 4 := fun h => c2 (Int32.toInt_inj.mp h)
          have n3 : u.toInt ≠ 8 := fun h => c3 (Int32.toInt_inj.mp h)
          have n4 : u.toInt ≠ 16 := fun h => c4 (Int32.toInt_inj.mp h)
          exact lv_lookup C.1 C.2.1 hd (by rfl) (by simp [Op.lookupswitch.offset, Ne.symm n1, Ne.symm n2, Ne.symm n3, Ne.symm n4, n1, n2, n3, n4]) h0 (k0 r t' hx p e R s m args below meth c D dA b H locs ls cells slots C Wd hL h1 h2 h3 h4 h5)
theorem sr_ldc2 {α : Type} {em : α → sr_H} {l : Launch} {M : sr_M} {pc : Nat} {L : List (Option sr_V)} {S : List sr_V} {t : α} {x : Option (sr_O × α)} {mc ms : Nat} {n : Nat} {v : Int64} (hd : decode (sr_Mb M) pc = .ok (.ldc2_w n, 3)) (hw : Cond.constantLong (sr_My M).cls n v ∈ sr_TB) (kk : sr_G em l M (pc + 3) L (sr_l v :: S) t x mc ms) : sr_G em l M pc L S t x mc ms := by
  intro r t' hx p e R s m args below meth c D dA b H locs ls cells slots C Wd hL h1 h2 h3 h4 h5
  exact lv_ldc2 C.1 C.2.1 C.2.2.2.2.1 (C.2.2.2.2.2.1 _ hw) hd (kk r t' hx p e R s m args below meth c D dA b H locs ls cells slots C Wd hL h1 h2 h3 h4 h5)
def sr_sw (lo hi : Int) (u : Int32) (x : sr_Rs) (f : Nat → sr_Rs) : sr_Rs := if u.toInt < lo ∨ hi < u.toInt then x else f (u.toInt - lo).toNat
theorem sr_tsw2 {l : Launch} {M : sr_M} {pc : Nat} {L : List (Option sr_V)} {S : List sr_V} {t : sr_t} {x : sr_Rs} {mc ms : Nat} {u : Int32} {dflt lo hi : Int} {offs : Array Int} {len tg : Nat} {f : Nat → sr_Rs} (hd : decode (sr_Mb M) pc = .ok (.tableswitch dflt lo hi offs, len)) (hs : offs.size = (hi + 1 - lo).toNat) (ht : (pc : Int) + dflt = (tg : Int)) (kd : (u.toInt < lo ∨ hi < u.toInt) → sr_g l M tg L S t x mc ms)
    (kk : ∀ (j : Nat) (off : Int), offs[j]? = some off → u.toInt = lo + j → ∃ tg : Nat, (pc : Int) + off = (tg : Int) ∧ sr_g l M tg L S t (f j) mc ms) : sr_g l M pc L (sr_i u :: S) t (sr_sw lo hi u x f) mc ms := sr_tsw hd hs ht kd kk
