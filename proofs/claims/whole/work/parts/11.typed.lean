/-! the heap once all things are made: ints and longs alone, all references as they were laid but a trip's ring and node -/
abbrev sr_t : Type := (Nat → Nat → Nat → Int32) × (Nat → Nat → Nat → Int64)
def sr_u (t : sr_t) (k i j : Nat) (v : Int32) : sr_t := (fun k' i' j' => if k' = k ∧ i' = i ∧ j' = j then v else t.1 k' i' j', t.2)
def sr_ul (t : sr_t) (k i j : Nat) (v : Int64) : sr_t := (t.1, fun k' i' j' => if k' = k ∧ i' = i ∧ j' = j then v else t.2 k' i' j')
def sr_fv (t : sr_t) (k i j : Nat) : sr_V := match k with
  | 0 => match j with
    | 2 => sr_r 20 (i)
    | 3 => sr_r 21 (i)
    | j => sr_i (t.1 0 i j)
  | 1 => match j with
    | 0 => sr_r 3 (1)
    | 1 => sr_r 5 (0)
    | j => sr_i (t.1 1 i j)
  | 2 => match j with
    | 4 => sr_r 7 (i)
    | j => sr_i (t.1 2 i j)
  | 3 => match j with
    | 0 => sr_r 13 (i)
    | 1 => sr_r 2 (25 * i + 24)
    | 2 => sr_r 7 (50 + i)
    | j => sr_i (t.1 3 i j)
  | 4 => match j with
    | 0 => sr_r 12 (i)
    | j => sr_i (t.1 4 i j)
  | 5 => match j with
    | 0 => sr_r 8 (2)
    | 1 => sr_r 15 (0)
    | 2 => sr_r 16 (0)
    | j => sr_i (t.1 5 i j)
  | 6 => match j with
    | 0 => sr_r 22 (0)
    | 1 => sr_r 0 (32)
    | j => sr_i (t.1 6 i j)
  | 7 => match j with
    | 1 => sr_r 4 (2 * i)
    | 2 => sr_r 4 (2 * i + 1)
    | j => sr_i (t.1 7 i j)
  | 8 => match j with
    | 0 => sr_r 3 (t.1 8 i 0).toNatClampNeg
    | 3 => sr_r 2 (t.1 8 i 3).toNatClampNeg
    | 15 => sr_r 14 (i)
    | 16 => sr_r 4 (104 + i)
    | j => sr_i (t.1 8 i j)
  | 9 => match j with
    | 0 => sr_r 17 (0)
    | 1 => sr_r 18 (0)
    | 2 => sr_r 19 (0)
    | j => sr_i (t.1 9 i j)
  | 10 => match j with
    | 0 => sr_r 3 (0)
    | 1 => sr_r 6 (0)
    | 2 => sr_r 8 (0)
    | 3 => sr_r 8 (1)
    | 4 => sr_r 5 (0)
    | 5 => sr_r 1 (0)
    | 6 => sr_r 9 (0)
    | j => sr_i (t.1 10 i j)
  | 11 => match j with
    | 2 => sr_r 24 (0)
    | 3 => sr_r 25 (0)
    | 4 => sr_r 26 (0)
    | 5 => sr_r 27 (0)
    | 6 => sr_r 28 (0)
    | 23 => sr_r 29 (0)
    | 24 => sr_r 30 (0)
    | 25 => sr_r 31 (0)
    | 26 => sr_r 32 (0)
    | 27 => sr_r 33 (0)
    | 29 => sr_r 34 (0)
    | 31 => sr_r 35 (0)
    | 32 => sr_r 36 (0)
    | 35 => sr_r 37 (0)
    | 36 => sr_r 38 (0)
    | 37 => sr_r 39 (0)
    | 38 => sr_r 40 (0)
    | 39 => sr_r 41 (0)
    | 48 => sr_r 42 (0)
    | 49 => sr_r 43 (0)
    | 50 => sr_r 44 (0)
    | 51 => sr_r 45 (0)
    | 52 => sr_r 46 (0)
    | j => sr_i (t.1 11 i j)
  | 13 => sr_r 2 (25 * i + j)
  | 18 => sr_l (t.2 18 i j)
  | 22 => sr_r 0 j
  | 23 => sr_l (t.2 23 i j)
  | k => sr_i (t.1 k i j)
def sr_em (t : sr_t) : sr_H := (sr_nms, false, fun k i j => sr_fv t k i j)
theorem sr_fv_same {t t2 : sr_t} {k i j : Nat} (h1 : t.1 k i j = t2.1 k i j) (h2 : t.2 k i j = t2.2 k i j) : sr_fv t k i j = sr_fv t2 k i j := by
  unfold sr_fv
  split <;> first | rfl | (rw [h1]) | (rw [h2]) | (split <;> first | rfl | (rw [h1]) | (rw [h2]))
theorem sr_emu {t : sr_t} {k i j : Nat} {v : Int32} (h : ∀ t' : sr_t, sr_fv t' k i j = sr_i (t'.1 k i j)) : sr_em (sr_u t k i j v) = ((sr_em t).1, (sr_em t).2.1, sr_up (sr_em t).2.2 k i j (sr_i v)) := by
  unfold sr_em
  congr 2
  funext k' i' j'
  show sr_fv (sr_u t k i j v) k' i' j' = if k' = k ∧ i' = i ∧ j' = j then sr_i v else sr_fv t k' i' j'
  by_cases hc : k' = k ∧ i' = i ∧ j' = j
  · obtain ⟨rfl, rfl, rfl⟩ := hc
    rw [if_pos ⟨rfl, rfl, rfl⟩, h]
    simp [sr_u]
  · rw [if_neg hc]
    exact sr_fv_same (by simp [sr_u, hc]) rfl
theorem sr_emr {t : sr_t} {k i j a k2 : Nat} (h : ∀ t' : sr_t, sr_fv t' k i j = sr_r k2 (t'.1 k i j).toNatClampNeg) (ha : a < 2147483648) : sr_em (sr_u t k i j (nI a)) = ((sr_em t).1, (sr_em t).2.1, sr_up (sr_em t).2.2 k i j (sr_r k2 a)) := by
  unfold sr_em
  congr 2
  funext k' i' j'
  show sr_fv (sr_u t k i j (nI a)) k' i' j' = if k' = k ∧ i' = i ∧ j' = j then sr_r k2 a else sr_fv t k' i' j'
  by_cases hc : k' = k ∧ i' = i ∧ j' = j
  · obtain ⟨rfl, rfl, rfl⟩ := hc
    rw [if_pos ⟨rfl, rfl, rfl⟩, h]
    have : (sr_u t k' i' j' (nI a)).1 k' i' j' = nI a := by simp [sr_u]
    rw [this, nI_clamp ha]
  · rw [if_neg hc]
    exact sr_fv_same (by simp [sr_u, hc]) rfl
theorem sr_eml {t : sr_t} {k i j : Nat} {v : Int64} (h : ∀ t' : sr_t, sr_fv t' k i j = sr_l (t'.2 k i j)) : sr_em (sr_ul t k i j v) = ((sr_em t).1, (sr_em t).2.1, sr_up (sr_em t).2.2 k i j (sr_l v)) := by
  unfold sr_em
  congr 2
  funext k' i' j'
  show sr_fv (sr_ul t k i j v) k' i' j' = if k' = k ∧ i' = i ∧ j' = j then sr_l v else sr_fv t k' i' j'
  by_cases hc : k' = k ∧ i' = i ∧ j' = j
  · obtain ⟨rfl, rfl, rfl⟩ := hc
    rw [if_pos ⟨rfl, rfl, rfl⟩, h]
    simp [sr_ul]
  · rw [if_neg hc]
    exact sr_fv_same rfl (by simp [sr_ul, hc])
abbrev sr_Rs : Type := Option (sr_O × sr_t)
/-- a new heap gets a name -/
def sr_lt (t : sr_t) (k : sr_t → sr_Rs) : sr_Rs := k t
/-- a node, or ring, that a trip holds -/
def sr_ck (a cnt : Nat) (k : Nat → sr_Rs) : sr_Rs := if a < cnt then k a else none
abbrev sr_g (l : Launch) (M : sr_M) (pc : Nat) (L : List (Option sr_V)) (S : List sr_V) (t : sr_t) (x : sr_Rs) (mc ms : Nat) : Prop := sr_G sr_em l M pc L S t x mc ms
section SRg
variable {l : Launch} {M N : sr_M} {pc : Nat} {L : List (Option sr_V)} {S : List sr_V} {t : sr_t} {x y : sr_Rs} {mc ms mc1 ms1 mc2 ms2 : Nat}
theorem sr_gI {idx k j n i : Nat} (F : sr_FG (sr_My M).cls idx k j n) (hd : decode (sr_Mb M) pc = .ok (.getfield idx, 3)) (hm : (k, i) ∈ sr_nms) (hv : ∀ t' : sr_t, sr_fv t' k i j = sr_i (t'.1 k i j)) (kk : sr_g l M (pc + 3) L (sr_i (t.1 k i j) :: S) t x mc ms) : sr_g l M pc L (sr_r k i :: S) t x mc ms := sr_get F hd hm (hv t) kk
theorem sr_gC {idx k j n i k2 i2 : Nat} (F : sr_FG (sr_My M).cls idx k j n) (hd : decode (sr_Mb M) pc = .ok (.getfield idx, 3)) (hm : (k, i) ∈ sr_nms) (hv : ∀ t' : sr_t, sr_fv t' k i j = sr_r k2 i2) (kk : sr_g l M (pc + 3) L (sr_r k2 i2 :: S) t x mc ms) : sr_g l M pc L (sr_r k i :: S) t x mc ms := sr_get F hd hm (hv t) kk
theorem sr_gR {idx k j n i k2 cnt : Nat} {kx : Nat → sr_Rs} (F : sr_FG (sr_My M).cls idx k j n) (hd : decode (sr_Mb M) pc = .ok (.getfield idx, 3)) (hm : (k, i) ∈ sr_nms) (hv : ∀ t' : sr_t, sr_fv t' k i j = sr_r k2 (t'.1 k i j).toNatClampNeg) (kk : ∀ a, a < cnt → sr_g l M (pc + 3) L (sr_r k2 a :: S) t (kx a) mc ms) : sr_g l M pc L (sr_r k i :: S) t (sr_ck (t.1 k i j).toNatClampNeg cnt kx) mc ms := by
  refine sr_get F hd hm (hv t) ?_
  unfold sr_ck
  by_cases h : (t.1 k i j).toNatClampNeg < cnt
  · rw [if_pos h]; exact kk _ h
  · rw [if_neg h]; exact sr_Gn
theorem sr_pI {idx k j n i : Nat} {v : Int32} {kx : sr_t → sr_Rs} (F : sr_FG (sr_My M).cls idx k j n) (F2 : sr_FT k j n 0 false) (hd : decode (sr_Mb M) pc = .ok (.putfield idx, 3)) (hm : (k, i) ∈ sr_nms) (hv : ∀ t' : sr_t, sr_fv t' k i j = sr_i (t'.1 k i j)) (kk : ∀ t1, sr_g l M (pc + 3) L S t1 (kx t1) mc ms) : sr_g l M pc L (sr_i v :: sr_r k i :: S) t (sr_lt (sr_u t k i j v) kx) mc ms :=
  sr_put F F2 hd hm ⟨v, rfl⟩ (fun h => nomatch h) (sr_emu hv) (kk _)
theorem sr_pZ {idx k j n i : Nat} {v : Int32} {kx : sr_t → sr_Rs} (F : sr_FG (sr_My M).cls idx k j n) (F2 : sr_FT k j n 1 false) (hd : decode (sr_Mb M) pc = .ok (.putfield idx, 3)) (hm : (k, i) ∈ sr_nms) (hv : ∀ t' : sr_t, sr_fv t' k i j = sr_i (t'.1 k i j)) (kk : ∀ t1, sr_g l M (pc + 3) L S t1 (kx t1) mc ms) : sr_g l M pc L (sr_i v :: sr_r k i :: S) t (if v = 0 ∨ v = 1 then sr_lt (sr_u t k i j v) kx else none) mc ms := by
  by_cases h : v = 0 ∨ v = 1
  · rw [if_pos h]
    exact sr_put F F2 hd hm (h.elim (fun e => Or.inl (by rw [e])) (fun e => Or.inr (by rw [e]))) (fun h => nomatch h) (sr_emu hv) (kk _)
  · rw [if_neg h]; exact sr_Gn
theorem sr_pR {idx k j n i k2 a : Nat} {kx : sr_t → sr_Rs} (F : sr_FG (sr_My M).cls idx k j n) (F2 : sr_FT k j n 2 false) (hd : decode (sr_Mb M) pc = .ok (.putfield idx, 3)) (hm : (k, i) ∈ sr_nms) (hv : ∀ t' : sr_t, sr_fv t' k i j = sr_r k2 (t'.1 k i j).toNatClampNeg) (ha : a < 2147483648) (kk : ∀ t1, sr_g l M (pc + 3) L S t1 (kx t1) mc ms) : sr_g l M pc L (sr_r k2 a :: sr_r k i :: S) t (sr_lt (sr_u t k i j (nI a)) kx) mc ms :=
  sr_put F F2 hd hm ⟨_, _, rfl⟩ (fun h => nomatch h) (sr_emr hv ha) (kk _)
theorem sr_aI {k i n : Nat} {a : Int32} (hk : sr_kd k = .inr (0, n)) (hd : decode (sr_Mb M) pc = .ok (.iaload, 1)) (hm : (k, i) ∈ sr_nms) (hv : ∀ (t' : sr_t) (j : Nat), sr_fv t' k i j = sr_i (t'.1 k i j)) (kk : sr_g l M (pc + 1) L (sr_i (t.1 k i a.toNatClampNeg) :: S) t x mc ms) : sr_g l M pc L (sr_i a :: sr_r k i :: S) t (if a < 0 ∨ n ≤ a.toNatClampNeg then none else x) mc ms := sr_iald hk hd hm (by show sr_I (sr_fv t k i a.toNatClampNeg) = _; rw [hv]; rfl) (fun _ => kk)
theorem sr_aL {k i n : Nat} {a : Int32} (hk : sr_kd k = .inr (1, n)) (hd : decode (sr_Mb M) pc = .ok (.laload, 1)) (hm : (k, i) ∈ sr_nms) (hv : ∀ (t' : sr_t) (j : Nat), sr_fv t' k i j = sr_l (t'.2 k i j)) (kk : sr_g l M (pc + 1) L (sr_l (t.2 k i a.toNatClampNeg) :: S) t x mc ms) : sr_g l M pc L (sr_i a :: sr_r k i :: S) t (if a < 0 ∨ n ≤ a.toNatClampNeg then none else x) mc ms := sr_lald hk hd hm (by show sr_L (sr_fv t k i a.toNatClampNeg) = _; rw [hv]; rfl) (fun _ => kk)
theorem sr_aA {k i n ty k2 : Nat} {f : Nat → Nat} {a : Int32} (hk : sr_kd k = .inr (ty, n)) (hty : ty = 2 ∨ ty = 3) (hd : decode (sr_Mb M) pc = .ok (.aaload, 1)) (hm : (k, i) ∈ sr_nms) (hv : ∀ (t' : sr_t) (j : Nat), sr_fv t' k i j = sr_r k2 (f j)) (kk : a.toNatClampNeg < n → sr_g l M (pc + 1) L (sr_r k2 (f a.toNatClampNeg) :: S) t x mc ms) : sr_g l M pc L (sr_i a :: sr_r k i :: S) t (if a < 0 ∨ n ≤ a.toNatClampNeg then none else x) mc ms := sr_aald hk hty hd hm (hv t _) (fun h => kk (by omega))
theorem sr_al' {k i n ty : Nat} {v : Int32} (hk : sr_kd k = .inr (ty, n)) (hty : ty < 4) (hd : decode (sr_Mb M) pc = .ok (.arraylength, 1)) (hm : (k, i) ∈ sr_nms) (hv : Int32.ofNat n = v) (kk : sr_g l M (pc + 1) L (sr_i v :: S) t x mc ms) : sr_g l M pc L (sr_r k i :: S) t x mc ms := sr_alen hk hty hd hm hv kk
theorem sr_sI {k i n : Nat} {a g : Int32} {kx : sr_t → sr_Rs} (hk : sr_kd k = .inr (0, n)) (hd : decode (sr_Mb M) pc = .ok (.iastore, 1)) (hm : (k, i) ∈ sr_nms) (hv : ∀ (t' : sr_t) (j : Nat), sr_fv t' k i j = sr_i (t'.1 k i j)) (kk : ∀ t1, sr_g l M (pc + 1) L S t1 (kx t1) mc ms) : sr_g l M pc L (sr_i g :: sr_i a :: sr_r k i :: S) t (if a < 0 ∨ n ≤ a.toNatClampNeg then none else sr_lt (sr_u t k i a.toNatClampNeg g) kx) mc ms := sr_iast hk hd hm (sr_emu (fun t' => hv t' _)) (fun _ => kk _)
theorem sr_sL {k i n : Nat} {a : Int32} {g : Int64} {kx : sr_t → sr_Rs} (hk : sr_kd k = .inr (1, n)) (hd : decode (sr_Mb M) pc = .ok (.lastore, 1)) (hm : (k, i) ∈ sr_nms) (hv : ∀ (t' : sr_t) (j : Nat), sr_fv t' k i j = sr_l (t'.2 k i j)) (kk : ∀ t1, sr_g l M (pc + 1) L S t1 (kx t1) mc ms) : sr_g l M pc L (sr_l g :: sr_i a :: sr_r k i :: S) t (if a < 0 ∨ n ≤ a.toNatClampNeg then none else sr_lt (sr_ul t k i a.toNatClampNeg g) kx) mc ms := sr_last hk hd hm (sr_eml (fun t' => hv t' _)) (fun _ => kk _)
theorem sr_zr {v : Int32} (hd : decode (sr_Mb M) pc = .ok (.ireturn, 1)) (hr : sr_Mt M = some .boolean) : sr_g l M pc L [sr_i v] t (if v = 0 ∨ v = 1 then some (.inl (some (sr_i v)), t) else none) mc ms := by
  by_cases h : v = 0 ∨ v = 1
  · rw [if_pos h]; exact sr_zret hd hr h
  · rw [if_neg h]; exact sr_Gn
abbrev sr_ct' (l : Launch) (N : sr_M) (vs : List sr_V) (t : sr_t) (x : sr_Rs) (mc ms : Nat) : Prop := sr_T sr_em l N vs t x mc ms
theorem sr_cV {idx k i n : Nat} {As : List sr_V} {fx : sr_Rs} {kx : Option sr_V → sr_t → sr_Rs} (F : sr_FV (sr_My M).cls idx N k n) (hl : Cond.methodLink (sr_My M).cls idx (sr_My N) ∈ sr_TB) (hd : decode (sr_Mb M) pc = .ok (.invokevirtual idx, 3)) (hm : (k, i) ∈ sr_nms) (hR : sr_RM M N) (hn : As.length = n) (hS : sr_ws S = true) (hh : sr_Mh M = []) (hT : sr_ct' l N (sr_r k i :: As) t fx mc1 ms1) (kk : ∀ v t1, fx = some (.inl v, t1) → sr_g l M (pc + 3) L (v.toList ++ S) t1 (kx v t1) mc2 ms2) : sr_g l M pc L (As.reverse ++ sr_r k i :: S) t (sr_bd fx kx) (mc1 + mc2) (ms1 + ms2) := sr_callV F hl hd hm hR hn hS hh (fun _ _ _ h => nomatch h) hT kk
theorem sr_cS {idx n : Nat} {As : List sr_V} {fx : sr_Rs} {kx : Option sr_V → sr_t → sr_Rs} (F : sr_FS (sr_My M).cls idx N n) (hl : Cond.methodLink (sr_My M).cls idx (sr_My N) ∈ sr_TB) (hd : decode (sr_Mb M) pc = .ok (.invokestatic idx, 3)) (hR : sr_RM M N) (hn : As.length = n) (hS : sr_ws S = true) (hh : sr_Mh M = []) (hT : sr_ct' l N As t fx mc1 ms1) (kk : ∀ v t1, fx = some (.inl v, t1) → sr_g l M (pc + 3) L (v.toList ++ S) t1 (kx v t1) mc2 ms2) : sr_g l M pc L (As.reverse ++ S) t (sr_bd fx kx) (mc1 + mc2) (ms1 + ms2) := sr_callS F hl hd hR hn hS hh (fun _ _ _ h => nomatch h) hT kk
theorem sr_cSN {idx n : Nat} {host : String} {As : List sr_V} {fx : sr_Rs} {kx : Option sr_V → sr_t → sr_Rs} (F : sr_FS (sr_My M).cls idx N n) (hl : Cond.methodLinkNest (sr_My M).cls idx (sr_My N) host ∈ sr_NB) (hd : decode (sr_Mb M) pc = .ok (.invokestatic idx, 3)) (hR : sr_RM M N) (hn : As.length = n) (hS : sr_ws S = true) (hh : sr_Mh M = []) (hT : sr_ct' l N As t fx mc1 ms1) (kk : ∀ v t1, sr_nt fx = some (.inl v, t1) → sr_g l M (pc + 3) L (v.toList ++ S) t1 (kx v t1) mc2 ms2) : sr_g l M pc L (As.reverse ++ S) t (sr_bd (sr_nt fx) kx) (mc1 + mc2) (ms1 + ms2) := sr_callSN F hl hd hR hn hS hh (fun v t1 hq h => by obtain ⟨_, _, _, e⟩ := sr_nt_some hq; cases e; exact nomatch h) hT kk
theorem sr_cVN {idx k i n : Nat} {host : String} {As : List sr_V} {fx : sr_Rs} {kx : Option sr_V → sr_t → sr_Rs} (F : sr_FV (sr_My M).cls idx N k n) (hl : Cond.methodLinkNest (sr_My M).cls idx (sr_My N) host ∈ sr_NB) (hd : decode (sr_Mb M) pc = .ok (.invokevirtual idx, 3)) (hm : (k, i) ∈ sr_nms) (hR : sr_RM M N) (hn : As.length = n) (hS : sr_ws S = true) (hh : sr_Mh M = []) (hT : sr_ct' l N (sr_r k i :: As) t fx mc1 ms1) (kk : ∀ v t1, sr_nt fx = some (.inl v, t1) → sr_g l M (pc + 3) L (v.toList ++ S) t1 (kx v t1) mc2 ms2) : sr_g l M pc L (As.reverse ++ sr_r k i :: S) t (sr_bd (sr_nt fx) kx) (mc1 + mc2) (ms1 + ms2) := sr_callVN F hl hd hm hR hn hS hh (fun v t1 hq h => by obtain ⟨_, _, _, e⟩ := sr_nt_some hq; cases e; exact nomatch h) hT kk
end SRg
theorem sr_in0 : ∀ i, i < 33 → (0, i) ∈ sr_nms := by decide +kernel
theorem sr_in1 : ∀ i, i < 1 → (1, i) ∈ sr_nms := by decide +kernel
theorem sr_in2 : ∀ i, i < 50 → (2, i) ∈ sr_nms := by decide +kernel
theorem sr_in3 : ∀ i, i < 2 → (3, i) ∈ sr_nms := by decide +kernel
theorem sr_in4 : ∀ i, i < 107 → (4, i) ∈ sr_nms := by decide +kernel
theorem sr_in5 : ∀ i, i < 1 → (5, i) ∈ sr_nms := by decide +kernel
theorem sr_in6 : ∀ i, i < 1 → (6, i) ∈ sr_nms := by decide +kernel
theorem sr_in7 : ∀ i, i < 52 → (7, i) ∈ sr_nms := by decide +kernel
theorem sr_in8 : ∀ i, i < 3 → (8, i) ∈ sr_nms := by decide +kernel
theorem sr_in9 : ∀ i, i < 1 → (9, i) ∈ sr_nms := by decide +kernel
theorem sr_in10 : ∀ i, i < 1 → (10, i) ∈ sr_nms := by decide +kernel
theorem sr_in11 : ∀ i, i < 1 → (11, i) ∈ sr_nms := by decide +kernel
theorem sr_in12 : ∀ i, i < 107 → (12, i) ∈ sr_nms := by decide +kernel
theorem sr_in13 : ∀ i, i < 2 → (13, i) ∈ sr_nms := by decide +kernel
theorem sr_in14 : ∀ i, i < 3 → (14, i) ∈ sr_nms := by decide +kernel
theorem sr_in15 : ∀ i, i < 1 → (15, i) ∈ sr_nms := by decide +kernel
theorem sr_in16 : ∀ i, i < 1 → (16, i) ∈ sr_nms := by decide +kernel
theorem sr_in17 : ∀ i, i < 1 → (17, i) ∈ sr_nms := by decide +kernel
theorem sr_in18 : ∀ i, i < 1 → (18, i) ∈ sr_nms := by decide +kernel
theorem sr_in19 : ∀ i, i < 1 → (19, i) ∈ sr_nms := by decide +kernel
theorem sr_in20 : ∀ i, i < 33 → (20, i) ∈ sr_nms := by decide +kernel
theorem sr_in21 : ∀ i, i < 33 → (21, i) ∈ sr_nms := by decide +kernel
theorem sr_in22 : ∀ i, i < 1 → (22, i) ∈ sr_nms := by decide +kernel
theorem sr_in23 : ∀ i, i < 1 → (23, i) ∈ sr_nms := by decide +kernel
theorem sr_in24 : ∀ i, i < 1 → (24, i) ∈ sr_nms := by decide +kernel
theorem sr_in25 : ∀ i, i < 1 → (25, i) ∈ sr_nms := by decide +kernel
theorem sr_in26 : ∀ i, i < 1 → (26, i) ∈ sr_nms := by decide +kernel
theorem sr_in27 : ∀ i, i < 1 → (27, i) ∈ sr_nms := by decide +kernel
theorem sr_in28 : ∀ i, i < 1 → (28, i) ∈ sr_nms := by decide +kernel
theorem sr_in29 : ∀ i, i < 1 → (29, i) ∈ sr_nms := by decide +kernel
theorem sr_in30 : ∀ i, i < 1 → (30, i) ∈ sr_nms := by decide +kernel
theorem sr_in31 : ∀ i, i < 1 → (31, i) ∈ sr_nms := by decide +kernel
theorem sr_in32 : ∀ i, i < 1 → (32, i) ∈ sr_nms := by decide +kernel
theorem sr_in33 : ∀ i, i < 1 → (33, i) ∈ sr_nms := by decide +kernel
theorem sr_in34 : ∀ i, i < 1 → (34, i) ∈ sr_nms := by decide +kernel
theorem sr_in35 : ∀ i, i < 1 → (35, i) ∈ sr_nms := by decide +kernel
theorem sr_in36 : ∀ i, i < 1 → (36, i) ∈ sr_nms := by decide +kernel
theorem sr_in37 : ∀ i, i < 1 → (37, i) ∈ sr_nms := by decide +kernel
theorem sr_in38 : ∀ i, i < 1 → (38, i) ∈ sr_nms := by decide +kernel
theorem sr_in39 : ∀ i, i < 1 → (39, i) ∈ sr_nms := by decide +kernel
theorem sr_in40 : ∀ i, i < 1 → (40, i) ∈ sr_nms := by decide +kernel
theorem sr_in41 : ∀ i, i < 1 → (41, i) ∈ sr_nms := by decide +kernel
theorem sr_in42 : ∀ i, i < 1 → (42, i) ∈ sr_nms := by decide +kernel
theorem sr_in43 : ∀ i, i < 1 → (43, i) ∈ sr_nms := by decide +kernel
theorem sr_in44 : ∀ i, i < 1 → (44, i) ∈ sr_nms := by decide +kernel
theorem sr_in45 : ∀ i, i < 1 → (45, i) ∈ sr_nms := by decide +kernel
theorem sr_in46 : ∀ i, i < 1 → (46, i) ∈ sr_nms := by decide +kernel
def sr_fu : Nat := 1000000
theorem sr_tb {n : Nat} {w : Cond} (h : tables_1[n]? = some w) (hg : goodWord w = true) : w ∈ sr_TB := List.mem_filter.mpr ⟨List.mem_append_right _ (List.mem_of_getElem? h), hg⟩
theorem sr_nb {n : Nat} {w : Cond} (h : tables_1[n]? = some w) (hg : sr_nest w = true) : w ∈ sr_NB := List.mem_filter.mpr ⟨List.mem_append_right _ (List.mem_of_getElem? h), hg⟩
theorem sr_ts {n : Nat} {w : Cond} (h : (k2_sels lw_privs)[n]? = some w) (hg : goodWord w = true) : w ∈ sr_TB := List.mem_filter.mpr ⟨List.mem_append_left _ (List.mem_of_getElem? h), hg⟩
