/-! while things are being made: how many names there are, and what was put where, the newest first -/
abbrev sr_c : Type := Nat × List (Nat × Nat × Nat × sr_V)
def sr_df (k j : Nat) : sr_V := match k with
  | 0 => ([sr_i 0, sr_i 0, sr_n, sr_n] : List sr_V).getD j sr_n
  | 1 => ([sr_n, sr_n] : List sr_V).getD j sr_n
  | 2 => ([sr_i 0, sr_i 0, sr_i 0, sr_i 0, sr_n, sr_i 0, sr_i 0, sr_i 0] : List sr_V).getD j sr_n
  | 3 => ([sr_n, sr_n, sr_n, sr_i 0, sr_i 0, sr_i 0, sr_i 0, sr_i 0, sr_i 0] : List sr_V).getD j sr_n
  | 4 => ([sr_n, sr_i 0] : List sr_V).getD j sr_n
  | 5 => ([sr_n, sr_n, sr_n, sr_i 0, sr_i 0, sr_i 0, sr_i 0, sr_i 0, sr_i 0, sr_i 0, sr_i 0] : List sr_V).getD j sr_n
  | 6 => ([sr_n, sr_n, sr_i 0, sr_i 0, sr_i 0] : List sr_V).getD j sr_n
  | 7 => ([sr_i 0, sr_n, sr_n] : List sr_V).getD j sr_n
  | 8 => ([sr_n, sr_i 0, sr_i 0, sr_n, sr_i 0, sr_i 0, sr_i 0, sr_i 0, sr_i 0, sr_i 0, sr_i 0, sr_i 0, sr_i 0, sr_i 0, sr_i 0, sr_n, sr_n] : List sr_V).getD j sr_n
  | 9 => ([sr_n, sr_n, sr_n] : List sr_V).getD j sr_n
  | 10 => ([sr_n, sr_n, sr_n, sr_n, sr_n, sr_n, sr_n] : List sr_V).getD j sr_n
  | 11 => ([sr_i 0, sr_i 0, sr_n, sr_n, sr_n, sr_n, sr_n, sr_i 0, sr_i 0, sr_i 0, sr_i 0, sr_i 0, sr_i 0, sr_i 0, sr_i 0, sr_i 0, sr_i 0, sr_i 0, sr_i 0, sr_i 0, sr_i 0, sr_i 0, sr_i 0, sr_n, sr_n, sr_n, sr_n, sr_n, sr_i 0, sr_n, sr_i 0, sr_n, sr_n, sr_i 0, sr_i 0, sr_n, sr_n, sr_n, sr_n, sr_n, sr_i 0, sr_i 0, sr_i 0, sr_i 0, sr_i 0, sr_i 0, sr_i 0, sr_i 0, sr_n, sr_n, sr_n, sr_n, sr_n] : List sr_V).getD j sr_n
  | 13 => sr_n
  | 18 => sr_l 0
  | 22 => sr_n
  | 23 => sr_l 0
  | _ => sr_i 0
def sr_lk (g : List (Nat × Nat × Nat × sr_V)) (k i j : Nat) : sr_V := match g with
  | [] => sr_df k j
  | q :: r => if k = q.1 ∧ i = q.2.1 ∧ j = q.2.2.1 then q.2.2.2 else sr_lk r k i j
def sr_e2 (t : sr_c) : sr_H := (sr_nms.take t.1, true, sr_lk t.2)
abbrev sr_R2 : Type := Option (sr_O × sr_c)
theorem sr_e2_put (t : sr_c) (k i j : Nat) (v : sr_V) : sr_e2 (t.1, (k, i, j, v) :: t.2) = ((sr_e2 t).1, (sr_e2 t).2.1, sr_up (sr_e2 t).2.2 k i j v) := by
  unfold sr_e2
  congr 2
/-- (k, i) is there -/
def sr_mb (t : sr_c) (k i : Nat) : Bool := decide (sr_ix k i < t.1) && decide (sr_ix k i < 461)
theorem sr_mb_ok {t : sr_c} {k i : Nat} (h : sr_mb t k i = true) : (k, i) ∈ (sr_e2 t).1 := by
  simp only [sr_mb, Bool.and_eq_true, decide_eq_true_eq] at h
  have hl : sr_nms.length = 461 := by decide +kernel
  have h1 : sr_nms.idxOf (k, i) < sr_nms.length := by rw [hl]; exact h.2
  have h2 : sr_nms[sr_nms.idxOf (k, i)]? = some (k, i) := by
    rw [List.getElem?_eq_getElem h1, List.getElem_idxOf]
  refine List.mem_of_getElem? (i := sr_ix k i) ?_
  show (sr_nms.take t.1)[sr_ix k i]? = some (k, i)
  rw [List.getElem?_take, if_pos h.1]
  exact h2
def sr_fr (t : sr_c) (k i : Nat) : Bool := t.2.all (fun q => !(q.1 == k && q.2.1 == i))
theorem sr_fr_ok : ∀ (g : List (Nat × Nat × Nat × sr_V)) (k i : Nat), g.all (fun q => !(q.1 == k && q.2.1 == i)) = true → ∀ j, sr_lk g k i j = sr_df k j
  | [], _, _, _, _ => rfl
  | q :: r, k, i, h, j => by
    simp only [List.all_cons, Bool.and_eq_true, Bool.not_eq_true', Bool.and_eq_false_imp, beq_iff_eq] at h
    rw [sr_lk, if_neg]
    · exact sr_fr_ok r k i h.2 j
    · rintro ⟨e1, e2, -⟩
      have := h.1 e1.symm
      simp [e2] at this
theorem sr_e2_al {t : sr_c} {k i : Nat} (h1 : sr_nms[t.1]? = some (k, i)) (h2 : sr_fr t k i = true) : sr_e2 (t.1 + 1, t.2) = sr_al (sr_e2 t) k i (sr_df k) := by
  have hs : sr_pc (sr_lk t.2) k i (sr_df k) = sr_lk t.2 := by
    funext k' i' j'
    unfold sr_pc
    by_cases hc : k' = k ∧ i' = i
    · obtain ⟨rfl, rfl⟩ := hc
      rw [if_pos ⟨rfl, rfl⟩]
      exact (sr_fr_ok t.2 k' i' h2 j').symm
    · rw [if_neg hc]
  show (sr_nms.take (t.1 + 1), true, sr_lk t.2) = (sr_nms.take t.1 ++ [(k, i)], true, sr_pc (sr_lk t.2) k i (sr_df k))
  rw [hs, List.take_add_one, h1]
  rfl
theorem sr_e2_len {t : sr_c} {k i : Nat} (h1 : sr_nms[t.1]? = some (k, i)) : (sr_e2 t).1.length = t.1 := by
  have h2 := (List.getElem?_eq_some_iff.mp h1).1
  show (sr_nms.take t.1).length = t.1
  rw [List.length_take]
  omega
section SRk
variable {l : Launch} {M N : sr_M} {pc : Nat} {L : List (Option sr_V)} {S : List sr_V} {t : sr_c} {x : sr_R2} {mc ms : Nat}
def sr_lh (h : sr_c) (k : sr_c → sr_R2) : sr_R2 := k h
theorem sr_gh (h : sr_c) {kx : sr_c → sr_R2} (kk : ∀ h1, sr_G sr_e2 l M pc L S h1 (kx h1) mc ms) : sr_G sr_e2 l M pc L S h (sr_lh h kx) mc ms := kk h
def sr_if (c : Bool) (x : sr_R2) : sr_R2 := match c with
  | true => x
  | false => none
theorem sr_chk (c : Bool) (kk : c = true → sr_G sr_e2 l M pc L S t x mc ms) : sr_G sr_e2 l M pc L S t (sr_if c x) mc ms := by
  cases c with
  | true => exact kk rfl
  | false => exact sr_Gn
def sr_mI (v : sr_V) (k : Int32 → sr_R2) : sr_R2 := match v with
  | .inl a => k a
  | _ => none
theorem sr_mi (v : sr_V) {k : Int32 → sr_R2} (kk : ∀ a, v = sr_i a → sr_G sr_e2 l M pc L S t (k a) mc ms) : sr_G sr_e2 l M pc L S t (sr_mI v k) mc ms := by
  rcases v with a | a
  · exact kk a rfl
  · exact sr_Gn
/-- a new name -/
def sr_nw (t : sr_c) (k i : Nat) (kx : sr_c → sr_R2) : sr_R2 := sr_if (decide (sr_nms[t.1]? = some (k, i)) && sr_fr t k i) (kx (t.1 + 1, t.2))
theorem sr_new2 {idx k n i : Nat} {kx : sr_c → sr_R2} (F : sr_FN (sr_My M).cls idx k n (sr_df k)) (hd : decode (sr_Mb M) pc = .ok (.new idx, 3)) (kk : ∀ h1, sr_G sr_e2 l M (pc + 3) L (sr_r k i :: S) h1 (kx h1) mc ms) : sr_G sr_e2 l M pc L S t (sr_nw t k i kx) (1 + mc) (n + ms) := by
  refine sr_chk _ (fun hc => ?_)
  simp only [Bool.and_eq_true, decide_eq_true_eq] at hc
  have h := sr_new (em := sr_e2) (t2 := (t.1 + 1, t.2)) F hd (sr_e2_al hc.1 hc.2) (kk _)
  rw [if_pos ⟨rfl, by rw [sr_e2_len hc.1]; exact hc.1⟩] at h
  exact h
theorem sr_newa2 {k n i ty : Nat} {a : Int32} {kx : sr_c → sr_R2} {at' : ArrayType} (hk : sr_kd k = .inr (ty, n)) (hty : (ty = 0 ∧ at' = .int) ∨ (ty = 1 ∧ at' = .long)) (hw : Cond.arrayClass (newarray.typeOf at') ∈ sr_TB) (hd : decode (sr_Mb M) pc = .ok (.newarray at', 2)) (hf : ∀ j, sr_df k j = if ty = 0 then sr_i 0 else sr_l 0) (ha : ¬ a < 0) (hn : a.toNatClampNeg = n) (hb9 : n * 8 ≤ 536870912) (kk : ∀ h1, sr_G sr_e2 l M (pc + 2) L (sr_r k i :: S) h1 (kx h1) mc ms) : sr_G sr_e2 l M pc L (sr_i a :: S) t (sr_nw t k i kx) (1 + mc) (n + ms) := by
  refine sr_chk _ (fun hc => ?_)
  simp only [Bool.and_eq_true, decide_eq_true_eq] at hc
  have h := sr_newa (em := sr_e2) (t2 := (t.1 + 1, t.2)) hk hty hw hd hf ha hn hb9 (sr_e2_al hc.1 hc.2) (kk _)
  rw [if_pos ⟨rfl, by rw [sr_e2_len hc.1]; exact hc.1⟩] at h
  exact h
theorem sr_newq2 {idx k n i ty : Nat} {a : Int32} {C9 : String} {kx : sr_c → sr_R2} (hk : sr_kd k = .inr (ty, n)) (hty : (ty = 2 ∧ C9 = RX2) ∨ (ty = 3 ∧ C9 = RX0)) (hw : Cond.classLink (sr_My M).cls idx C9 ∈ sr_TB) (hv : Cond.arrayOver (.object C9) ∈ sr_NB) (hd : decode (sr_Mb M) pc = .ok (.anewarray idx, 3)) (hf : ∀ j, sr_df k j = sr_n) (ha : ¬ a < 0) (hn : a.toNatClampNeg = n) (hb9 : n * 8 ≤ 536870912) (kk : ∀ h1, sr_G sr_e2 l M (pc + 3) L (sr_r k i :: S) h1 (kx h1) mc ms) : sr_G sr_e2 l M pc L (sr_i a :: S) t (sr_nw t k i kx) (1 + mc) (n + ms) := by
  refine sr_chk _ (fun hc => ?_)
  simp only [Bool.and_eq_true, decide_eq_true_eq] at hc
  have h := sr_newq (em := sr_e2) (t2 := (t.1 + 1, t.2)) hk hty hw hv hd hf ha hn hb9 (sr_e2_al hc.1 hc.2) (kk _)
  rw [if_pos ⟨rfl, by rw [sr_e2_len hc.1]; exact hc.1⟩] at h
  exact h
/-- a callee's heap, held against the caller's: so many names more -/
def sr_fk (h : sr_c) (c1 : Nat) (fx : sr_R2) : sr_R2 := match fx with
  | some (r, h1) => sr_if (decide (h1.1 = h.1 + c1) && decide (h1.1 ≤ 461)) (some (r, h1))
  | none => none
theorem sr_fk_some {h : sr_c} {c1 : Nat} {fx : sr_R2} {r : sr_O} {h1 : sr_c} (e : sr_fk h c1 fx = some (r, h1)) : fx = some (r, h1) ∧ h1.1 = h.1 + c1 ∧ h1.1 ≤ 461 := by
  rcases fx with _ | ⟨r2, h2⟩
  · cases e
  · simp only [sr_fk] at e
    cases hc : (decide (h2.1 = h.1 + c1) && decide (h2.1 ≤ 461)) with
    | false => rw [hc] at e; cases e
    | true =>
      rw [hc] at e
      cases e
      simp only [Bool.and_eq_true, decide_eq_true_eq] at hc
      exact ⟨rfl, hc⟩
theorem sr_fk_len {h h1 : sr_c} {c1 : Nat} (e : h1.1 = h.1 + c1 ∧ h1.1 ≤ 461) : (sr_e2 h).2.1 = true ∧ (sr_e2 h1).1.length = (sr_e2 h).1.length + c1 ∧ (sr_e2 h1).1 = sr_nms.take (sr_e2 h1).1.length := by
  have hl : sr_nms.length = 461 := by decide +kernel
  have e1 : (sr_e2 h1).1.length = h1.1 := by show (sr_nms.take h1.1).length = _; rw [List.length_take, hl]; omega
  have e2 : (sr_e2 h).1.length = h.1 := by show (sr_nms.take h.1).length = _; rw [List.length_take, hl]; omega
  refine ⟨rfl, by rw [e1, e2]; exact e.1, ?_⟩
  rw [e1]
  rfl
theorem sr_fk_ok2 (h : sr_c) (c1 : Nat) (fx : sr_R2) : ∀ v t1, sr_fk h c1 fx = some (.inl v, t1) → (sr_e2 t1).2.1 = true → (sr_e2 h).2.1 = true ∧ (sr_e2 t1).1.length = (sr_e2 h).1.length + c1 ∧ (sr_e2 t1).1 = sr_nms.take (sr_e2 t1).1.length := fun _ _ e _ => sr_fk_len (sr_fk_some e).2
theorem sr_fk_ok (h : sr_c) (c1 : Nat) (fx : sr_R2) : ∀ v t1, sr_nt (sr_fk h c1 fx) = some (.inl v, t1) → (sr_e2 t1).2.1 = true → (sr_e2 h).2.1 = true ∧ (sr_e2 t1).1.length = (sr_e2 h).1.length + c1 ∧ (sr_e2 t1).1 = sr_nms.take (sr_e2 t1).1.length := fun v t1 e _ => by
  obtain ⟨v2, t2, e1, e2⟩ := sr_nt_some e
  cases e2
  exact sr_fk_len (sr_fk_some e1).2
theorem sr_fk_T {h : sr_c} {c1 : Nat} {vs : List sr_V} {fx : sr_R2} (hT : sr_T sr_e2 l N vs t fx mc ms) : sr_T sr_e2 l N vs t (sr_fk h c1 fx) mc ms := fun r t' e => hT r t' (sr_fk_some e).1
end SRk
theorem ac_int : Cond.arrayClass (newarray.typeOf .int) ∈ sr_TB := sr_tb (n := 67) (by decide +kernel) rfl
theorem ac_long : Cond.arrayClass (newarray.typeOf .long) ∈ sr_TB := sr_tb (n := 404) (by decide +kernel) rfl
theorem oi_1 : Cond.instanceMethod objectInit ∈ sr_TB := sr_tb (n := 29) (by decide +kernel) rfl
theorem oi_2 : Cond.code objectInit ⟨#[0xb1]⟩ 1 none ∈ sr_TB := sr_tb (n := 30) (by decide +kernel) rfl
theorem sr_lswG {α : Type} {em : α → sr_H} {l : Launch} {M : sr_M} {pc : Nat} {L : List (Option sr_V)} {S : List sr_V} {t : α} {mc ms : Nat} {u : Int32} {d a1 a2 a3 a4 : Int} {len t0 t1 t2 t3 t4 : Nat} {x0 x1 x2 x3 x4 : Option (sr_O × α)} (hd : decode (sr_Mb M) pc = .ok (.lookupswitch d #[(2, a1), (4, a2), (8, a3), (16, a4)], len)) (h0 : (pc : Int) + d = (t0 : Int)) (h1' : (pc : Int) + a1 = (t1 : Int)) (h2' : (pc : Int) + a2 = (t2 : Int)) (h3' : (pc : Int) + a3 = (t3 : Int)) (h4' : (pc : Int) + a4 = (t4 : Int))
    (k1 : sr_G em l M t1 L S t x1 mc ms) (k2 : sr_G em l M t2 L S t x2 mc ms) (k3 : sr_G em l M t3 L S t x3 mc ms) (k4 : sr_G em l M t4 L S t x4 mc ms) (k0 : sr_G em l M t0 L S t x0 mc ms) : sr_G em l M pc L (sr_i u :: S) t (if u = 2 then x1 else if u = 4 then x2 else if u = 8 then x3 else if u = 16 then x4 else x0) mc ms := by
  intro r t' hx p e R s m args below meth c D dA b H locs ls cells slots C Wd hL h1 h2 h3 h4 h5
  by_cases c1 : u = 2
  · subst c1
    rw [if_pos rfl] at hx
    exact lv_lookup C.1 C.2.1 hd (by rfl) (by rfl) h1' (k1 r t' hx p e R s m args below meth c D dA b H locs ls cells slots C Wd hL h1 h2 h3 h4 h5)
  · rw [if_neg c1] at hx
    by_cases c2 : u = 4
    · subst c2
      rw [if_pos rfl] at hx
      exact lv_lookup C.1 C.2.1 hd (by rfl) (by rfl) h2' (k2 r t' hx p e R s m args below meth c D dA b H locs ls cells slots C Wd hL h1 h2 h3 h4 h5)
    · rw [if_neg c2] at hx
      by_cases c3 : u = 8
      · subst c3
        rw [if_pos rfl] at hx
        exact lv_lookup C.1 C.2.1 hd (by rfl) (by rfl) h3' (k3 r t' hx p e R s m args below meth c D dA b H locs ls cells slots C Wd hL h1 h2 h3 h4 h5)
      · rw [if_neg c3] at hx
        by_cases c4 : u = 16
        · subst c4
          rw [if_pos rfl] at hx
          exact lv_lookup C.1 C.2.1 hd (by rfl) (by rfl) h4' (k4 r t' hx p e R s m args below meth c D dA b H locs ls cells slots C Wd hL h1 h2 h3 h4 h5)
        · rw [if_neg c4] at hx
          have n1 : u.toInt ≠ 2 := fun h => c1 (Int32.toInt_inj.mp h)
          have n2 : u.toInt ≠ 4 := fun h => c2 (Int32.toInt_inj.mp h)
          have n3 : u.toInt ≠ 8 := fun h => c3 (Int32.toInt_inj.mp h)
          have n4 : u.toInt ≠ 16 := fun h => c4 (Int32.toInt_inj.mp h)
          exact lv_lookup C.1 C.2.1 hd (by rfl) (by simp [Op.lookupswitch.offset, Ne.symm n1, Ne.symm n2, Ne.symm n3, Ne.symm n4, n1, n2, n3, n4]) h0 (k0 r t' hx p e R s m args below meth c D dA b H locs ls cells slots C Wd hL h1 h2 h3 h4 h5)
def FC10_bitsOf (a0 : Int32) (t : sr_c) : Option (sr_O × sr_c) := if a0 = 2 then some (.inl (some (sr_i 1)), t) else if a0 = 4 then some (.inl (some (sr_i 2)), t) else if a0 = 8 then some (.inl (some (sr_i 3)), t) else if a0 = 16 then some (.inl (some (sr_i 4)), t) else some (.inl (some (sr_i 0)), t)
theorem CC10_bitsOf (l : Launch) (a0 : Int32) (t : sr_c) : sr_T sr_e2 l sr_m10_bitsOf [sr_i a0] t (FC10_bitsOf a0 t) 0 0 := by
  refine sr_T_of (L0 := [some (sr_i a0)]) rfl (by decide +kernel) (fun _ => rfl) (fun _ => Nat.le_of_ble_eq_true rfl) ?_
  unfold FC10_bitsOf
  refine sr_iloadn (pc := 0) (n := 0) (by decide +kernel) rfl ?_
  refine sr_lswG (pc := 1) (u := a0) (d := 51) (a1 := 43) (a2 := 45) (a3 := 47) (a4 := 49) (len := 43) (t0 := 52) (t1 := 44) (t2 := 46) (t3 := 48) (t4 := 50) (by decide +kernel) (by decide) (by decide) (by decide) (by decide) (by decide) ?_ ?_ ?_ ?_ ?_
  · refine sr_iconst (pc := 44) (n := 1) (v := 1) (by decide +kernel) rfl ?_
    exact sr_iret (pc := 45) (by decide +kernel) rfl
  · refine sr_iconst (pc := 46) (n := 2) (v := 2) (by decide +kernel) rfl ?_
    exact sr_iret (pc := 47) (by decide +kernel) rfl
  · refine sr_iconst (pc := 48) (n := 3) (v := 3) (by decide +kernel) rfl ?_
    exact sr_iret (pc := 49) (by decide +kernel) rfl
  · refine sr_iconst (pc := 50) (n := 4) (v := 4) (by decide +kernel) rfl ?_
    exact sr_iret (pc := 51) (by decide +kernel) rfl
  · refine sr_iconst (pc := 52) (n := 0) (v := 0) (by decide +kernel) rfl ?_
    exact sr_iret (pc := 53) (by decide +kernel) rfl
