section
/-! flows: room between 48 stations, what has gone, cuts -/
def fw (f : Nat → Int) : Nat → Int
  | 0 => 0
  | n + 1 => fw f n + f n
theorem fw_s {f : Nat → Int} {n : Nat} : fw f (n + 1) = fw f n + f n := rfl
theorem fw_congr {f g : Nat → Int} : ∀ n, (∀ i, i < n → f i = g i) → fw f n = fw g n := by
  intro n
  induction n with
  | zero => intro _; rfl
  | succ n ih => intro h; rw [fw_s, fw_s, ih (fun i hi => h i (by omega)), h n (by omega)]
theorem fw_le {f g : Nat → Int} : ∀ n, (∀ i, i < n → f i ≤ g i) → fw f n ≤ fw g n := by
  intro n
  induction n with
  | zero => intro _; exact Int.le_refl _
  | succ n ih =>
    intro h
    have a := ih (fun i hi => h i (by omega))
    have b := h n (by omega)
    rw [fw_s, fw_s]
    omega
theorem fw_add {f g : Nat → Int} : ∀ n, fw (fun i => f i + g i) n = fw f n + fw g n := by
  intro n
  induction n with
  | zero => rfl
  | succ n ih => rw [fw_s, fw_s, fw_s, ih]; omega
theorem fw_neg {f : Nat → Int} : ∀ n, fw (fun i => - f i) n = - fw f n := by
  intro n
  induction n with
  | zero => rfl
  | succ n ih => rw [fw_s, fw_s, ih]; omega
theorem fw_0 : ∀ n, fw (fun _ => 0) n = 0 := by
  intro n
  induction n with
  | zero => rfl
  | succ n ih => rw [fw_s, ih]; rfl
theorem fw_one {k : Nat} {c : Int} : ∀ n, fw (fun i => if i = k then c else 0) n = if k < n then c else 0 := by
  intro n
  induction n with
  | zero => rw [if_neg (by omega)]; rfl
  | succ n ih =>
    rw [fw_s, ih]
    by_cases e : n = k
    · rw [if_pos e, if_neg (by omega), if_pos (by omega)]; omega
    · rw [if_neg e]
      by_cases q : k < n
      · rw [if_pos q, if_pos (by omega)]; omega
      · rw [if_neg q, if_neg (by omega)]; omega
theorem fw_swap {f : Nat → Nat → Int} {m : Nat} : ∀ n, fw (fun i => fw (fun j => f i j) m) n = fw (fun j => fw (fun i => f i j) n) m := by
  intro n
  induction n with
  | zero => exact (fw_0 m).symm
  | succ n ih =>
    rw [fw_s, ih, ← fw_add]
    exact fw_congr m (fun j _ => rfl)
theorem fw_nn {f : Nat → Int} : ∀ n, (∀ i, i < n → 0 ≤ f i) → 0 ≤ fw f n := by
  intro n
  induction n with
  | zero => intro _; exact Int.le_refl _
  | succ n ih =>
    intro h
    have a := ih (fun i hi => h i (by omega))
    have b := h n (by omega)
    rw [fw_s]
    omega
theorem fw_term {f : Nat → Int} {k : Nat} : ∀ n, (∀ i, i < n → 0 ≤ f i) → k < n → f k ≤ fw f n := by
  intro n
  induction n with
  | zero => intro _ h; omega
  | succ n ih =>
    intro h hk
    rw [fw_s]
    have a := fw_nn n (fun i hi => h i (by omega))
    by_cases e : k = n
    · rw [e]; omega
    · have b := ih (fun i hi => h i (by omega)) (by omega)
      have c := h n (by omega)
      omega
def fl_G (r0 r : Nat → Nat → Nat) (u v : Nat) : Int := (r0 u v : Int) - (r u v : Int)
def fl_O (r0 r : Nat → Nat → Nat) (u : Nat) : Int := fw (fun v => fl_G r0 r u v) 48
/-- room r left of r0, F ways from s to e, and one more that has come from e back to c -/
def fl_K (r0 r : Nat → Nat → Nat) (s e F c : Nat) : Prop := (∀ u v, u < 48 → v < 48 → r u v + r v u = r0 u v + r0 v u) ∧ (∀ u, u < 48 → u ≠ e → fl_O r0 r u = (if u = s then (F : Int) else 0) + (if u = c then 1 else 0))
def fl_C (r0 : Nat → Nat → Nat) (S : Nat → Bool) : Int := fw (fun u => fw (fun v => if S u = true ∧ S v = false then (r0 u v : Int) else 0) 48) 48
theorem fl_cut {r0 r : Nat → Nat → Nat} {s e F : Nat} {S : Nat → Bool} (h : fl_K r0 r s e F e) (hs : s < 48) (hS : S s = true) (hE : S e = false) : (F : Int) = fw (fun u => fw (fun v => if S u = true ∧ S v = false then fl_G r0 r u v else 0) 48) 48 := by
  have an : ∀ u v, u < 48 → v < 48 → fl_G r0 r u v = - fl_G r0 r v u := fun u v hu hv => by
    have := h.1 u v hu hv
    unfold fl_G
    omega
  have ha : fw (fun u => fw (fun v => if S u = true ∧ S v = true then fl_G r0 r u v else 0) 48) 48 = 0 := by
    have e1 : fw (fun u => fw (fun v => if S u = true ∧ S v = true then fl_G r0 r u v else 0) 48) 48 = fw (fun v => fw (fun u => if S u = true ∧ S v = true then fl_G r0 r u v else 0) 48) 48 := fw_swap (f := fun u v => if S u = true ∧ S v = true then fl_G r0 r u v else 0) 48
    have e2 : fw (fun v => fw (fun u => if S u = true ∧ S v = true then fl_G r0 r u v else 0) 48) 48 = - fw (fun u => fw (fun v => if S u = true ∧ S v = true then fl_G r0 r u v else 0) 48) 48 := by
      rw [← fw_neg]
      refine fw_congr 48 (fun v hv => ?_)
      rw [← fw_neg]
      refine fw_congr 48 (fun u hu => ?_)
      by_cases q : S u = true ∧ S v = true
      · rw [if_pos q, if_pos ⟨q.2, q.1⟩]; exact an u v hu hv
      · rw [if_neg q, if_neg (fun p => q ⟨p.2, p.1⟩)]; rfl
    omega
  have hb : fw (fun u => fw (fun v => if S u = true ∧ S v = true then fl_G r0 r u v else 0) 48) 48 + fw (fun u => fw (fun v => if S u = true ∧ S v = false then fl_G r0 r u v else 0) 48) 48 = (F : Int) := by
    have e3 : fw (fun u => if u = s then (F : Int) else 0) 48 = F := by rw [fw_one, if_pos hs]
    rw [← fw_add]
    refine Eq.trans ?_ e3
    refine fw_congr 48 (fun u hu => ?_)
    rw [← fw_add]
    cases hSu : S u with
    | true =>
      have ne : u ≠ e := fun q => by rw [q, hE] at hSu; exact absurd hSu (by decide)
      have o := h.2 u hu ne
      rw [if_neg ne, Int.add_zero] at o
      rw [← o]
      refine fw_congr 48 (fun v hv => ?_)
      cases S v <;> simp
    | false =>
      have ne : u ≠ s := fun q => by rw [q, hS] at hSu; exact absurd hSu (by decide)
      rw [if_neg ne]
      refine (fw_congr 48 (fun v _ => ?_)).trans (fw_0 48)
      simp
  omega
theorem fl_le {r0 r : Nat → Nat → Nat} {s e F : Nat} {S : Nat → Bool} (h : fl_K r0 r s e F e) (hs : s < 48) (hS : S s = true) (hE : S e = false) : (F : Int) ≤ fl_C r0 S := by
  rw [fl_cut h hs hS hE]
  refine fw_le 48 (fun u _ => fw_le 48 (fun v _ => ?_))
  by_cases q : S u = true ∧ S v = false
  · rw [if_pos q, if_pos q]; unfold fl_G; omega
  · rw [if_neg q, if_neg q]; exact Int.le_refl _
theorem fl_eq {r0 r : Nat → Nat → Nat} {s e F : Nat} {S : Nat → Bool} (h : fl_K r0 r s e F e) (hs : s < 48) (hS : S s = true) (hE : S e = false) (z : ∀ u v, u < 48 → v < 48 → S u = true → S v = false → r u v = 0) : (F : Int) = fl_C r0 S := by
  rw [fl_cut h hs hS hE]
  refine fw_congr 48 (fun u hu => fw_congr 48 (fun v hv => ?_))
  by_cases q : S u = true ∧ S v = false
  · rw [if_pos q, if_pos q]
    have := z u v hu hv q.1 q.2
    unfold fl_G
    omega
  · rw [if_neg q, if_neg q]
def fl_P (r : Nat → Nat → Nat) (x y : Nat) (u v : Nat) : Nat := if u = x ∧ v = y then r u v - 1 else if u = y ∧ v = x then r u v + 1 else r u v
theorem fl_push {r0 r : Nat → Nat → Nat} {s e F c x : Nat} (h : fl_K r0 r s e F c) (hx : x < 48) (hc : c < 48) (ne : x ≠ c) (hr : r x c ≠ 0) : fl_K r0 (fl_P r x c) s e F x := by
  refine ⟨fun u v hu hv => ?_, fun u hu hue => ?_⟩
  · have b0 := h.1 u v hu hv
    unfold fl_P
    by_cases a : u = x ∧ v = c
    · rw [if_pos a, if_neg (show ¬ (v = x ∧ u = c) by omega), if_pos (show v = c ∧ u = x by omega)]
      obtain ⟨a1, a2⟩ := a
      subst a1
      subst a2
      omega
    · by_cases b : u = c ∧ v = x
      · rw [if_neg a, if_pos b, if_pos (show v = x ∧ u = c by omega)]
        obtain ⟨a1, a2⟩ := b
        subst a1
        subst a2
        omega
      · rw [if_neg a, if_neg b, if_neg (show ¬ (v = x ∧ u = c) by omega), if_neg (show ¬ (v = c ∧ u = x) by omega)]
        exact b0
  · have key : fl_O r0 (fl_P r x c) u = fl_O r0 r u + ((if u = x then 1 else 0) + (if u = c then -1 else 0)) := by
      have e1 : fw (fun v => fl_G r0 (fl_P r x c) u v) 48 = fw (fun v => fl_G r0 r u v + ((if v = c then (if u = x then (1 : Int) else 0) else 0) + (if v = x then (if u = c then (-1 : Int) else 0) else 0))) 48 := by
        refine fw_congr 48 (fun v hv => ?_)
        unfold fl_G fl_P
        by_cases a : u = x ∧ v = c
        · have : r u v ≠ 0 := by rw [a.1, a.2]; exact hr
          rw [if_pos a, if_pos a.2, if_pos a.1, if_neg (show ¬ v = x by omega)]
          omega
        · rw [if_neg a]
          by_cases b : u = c ∧ v = x
          · rw [if_pos b, if_pos b.2, if_pos b.1, if_neg (show ¬ v = c by omega)]
            omega
          · rw [if_neg b]
            have z1 : (if v = c then (if u = x then (1 : Int) else 0) else 0) = 0 := by
              by_cases q : v = c
              · rw [if_pos q, if_neg (fun p => a ⟨p, q⟩)]
              · rw [if_neg q]
            have z2 : (if v = x then (if u = c then (-1 : Int) else 0) else 0) = 0 := by
              by_cases q : v = x
              · rw [if_pos q, if_neg (fun p => b ⟨p, q⟩)]
              · rw [if_neg q]
            rw [z1, z2]
            omega
      unfold fl_O
      rw [e1, fw_add, fw_add, fw_one, fw_one, if_pos hc, if_pos hx]
    rw [key, h.2 u hu hue]
    generalize (if u = s then (F : Int) else 0) = z
    by_cases a : u = x
    · have b : ¬ u = c := by omega
      rw [if_pos a, if_neg b, if_neg b]
      omega
    · rw [if_neg a]
      by_cases b : u = c
      · rw [if_pos b, if_pos b]; omega
      · rw [if_neg b, if_neg b]; omega
theorem fl_done {r0 r : Nat → Nat → Nat} {s e F : Nat} (h : fl_K r0 r s e F s) : fl_K r0 r s e (F + 1) e := by
  refine ⟨h.1, fun u hu hue => ?_⟩
  rw [h.2 u hu hue, if_neg hue]
  by_cases a : u = s
  · rw [if_pos a, if_pos a, if_pos a]; omega
  · rw [if_neg a, if_neg a, if_neg a]
/-- a way back from c to s, as it was led -/
def fl_W (r0 r : Nat → Nat → Nat) (s e F : Nat) (V : Nat → Bool) (p d : Nat → Nat) (c : Nat) : Prop := fl_K r0 r s e F c ∧ c < 48 ∧ V c = true ∧ ∀ v, v < 48 → V v = true → v ≠ s → p v < 48 ∧ V (p v) = true ∧ d (p v) < d v ∧ (d v ≤ d c → r (p v) v ≠ 0)
theorem fl_step {r0 r : Nat → Nat → Nat} {s e F c : Nat} {V : Nat → Bool} {p d : Nat → Nat} (h : fl_W r0 r s e F V p d c) (hc : c ≠ s) : fl_W r0 (fl_P r (p c) c) s e F V p d (p c) ∧ p c ≠ c ∧ r (p c) c ≠ 0 ∧ p c < 48 ∧ d (p c) < d c := by
  obtain ⟨h1, h2, h3, h4⟩ := h
  obtain ⟨a1, a2, a3, a4⟩ := h4 c h2 h3 hc
  have ne : p c ≠ c := fun q => by rw [q] at a3; omega
  have r1 := a4 (Nat.le_refl _)
  refine ⟨⟨fl_push h1 a1 h2 ne r1, a1, a2, fun v hv hV hs => ?_⟩, ne, r1, a1, a3⟩
  obtain ⟨b1, b2, b3, b4⟩ := h4 v hv hV hs
  refine ⟨b1, b2, b3, fun hd => ?_⟩
  have n := b4 (by omega)
  unfold fl_P
  rw [if_neg (fun q => by have e := q.2; rw [e] at hd; omega)]
  split
  · omega
  · exact n
/-! the rooms of both -/
def fl_c0 (s : rg_T) (u v : Nat) : Nat := if u < 24 then (if v = 24 + u then 1 else 0) else (if v < 24 ∧ bs (UL s (u - 24)) v = true then 1 else 0)
def fl_r0 (s : rg_T) (a b : Nat) (u v : Nat) : Nat := if u < 24 then (if v = 24 + u ∧ u < rg_N s ∧ rg_u s u = true then (if u = a ∨ u = b then 24 else 1) else 0) else (if v < 24 ∧ bs (UL s (u - 24)) v = true then 1 else 0)
theorem fl_c1 {s : rg_T} {u v : Nat} (O : rg_ok s) (hu : u < 48) (hv : v < 48) : fl_c0 s u v + fl_c0 s v u ≤ 1 := by
  unfold fl_c0
  by_cases a : u < 24
  · rw [if_pos a]
    by_cases b : v < 24
    · rw [if_pos b, if_neg (by omega), if_neg (by omega)]; omega
    · rw [if_neg b]
      by_cases c : v = 24 + u
      · rw [if_pos c, if_neg (fun q => by have := (UL_bs O (by omega) q.2).2.2.2.2; omega)]
        omega
      · rw [if_neg c]
        split <;> omega
  · rw [if_neg a]
    by_cases b : v < 24
    · rw [if_pos b]
      by_cases c : u = 24 + v
      · rw [if_pos c, if_neg (fun q => by have := (UL_bs O (by omega) q.2).2.2.2.2; omega)]
        omega
      · rw [if_neg c]
        split <;> omega
    · rw [if_neg b, if_neg (fun q => by omega), if_neg (fun q => by omega)]
      omega
theorem fl_23 {s : rg_T} {a b F : Nat} {r : Nat → Nat → Nat} (O : rg_ok s) (ha : a < 24) (hb : b < 24) (h : fl_K (fl_c0 s) r (24 + a) b F b) : F ≤ 23 := by
  have h1 := fl_le (S := fun u => u == 24 + a) h (by omega) (by simp) (by simp; omega)
  have h2 : fl_C (fl_c0 s) (fun u => u == 24 + a) ≤ fw (fun u => if u = 24 + a then 23 else 0) 48 := by
    refine fw_le 48 (fun u hu => ?_)
    by_cases e : u = 24 + a
    · rw [if_pos e]
      refine Int.le_trans (fw_le 48 (g := fun v => if v < 24 ∧ v ≠ a then 1 else 0) (fun v hv => ?_)) ?_
      · show (if (u == 24 + a) = true ∧ (v == 24 + a) = false then (fl_c0 s u v : Int) else 0) ≤ if v < 24 ∧ v ≠ a then 1 else 0
        have c0 : fl_c0 s u v = if v < 24 ∧ bs (UL s (u - 24)) v = true then 1 else 0 := if_neg (by omega)
        by_cases q : v < 24 ∧ bs (UL s (u - 24)) v = true
        · have := (UL_bs O (by omega) q.2).2.2.2.2
          rw [if_pos (show v < 24 ∧ v ≠ a by omega), c0, if_pos q]
          split <;> omega
        · rw [c0, if_neg q]
          split <;> split <;> omega
      · rw [(by decide +kernel : ∀ a : Fin 24, fw (fun v => if v < 24 ∧ v ≠ a.val then 1 else 0) 48 = 23) ⟨a, ha⟩]
        exact Int.le_refl _
    · rw [if_neg e]
      refine Int.le_of_eq ((fw_congr 48 (fun v _ => ?_)).trans (fw_0 48))
      rw [if_neg (fun q => e (by simpa using q.1))]
  rw [fw_one, if_pos (by omega)] at h2
  omega
theorem fl_same {s : rg_T} {a b Fc Fr : Nat} {rc rr : Nat → Nat → Nat} {S T : Nat → Bool} (O : rg_ok s) (ha : a < rg_N s) (hb : b < rg_N s) (hua : rg_u s a = true) (ne : a ≠ b) (hc : fl_K (fl_c0 s) rc (24 + a) b Fc b) (Sa : S (24 + a) = true) (Sb : S b = false) (Sz : ∀ u v, u < 48 → v < 48 → S u = true → S v = false → rc u v = 0) (hr : fl_K (fl_r0 s a b) rr a b Fr b) (Ta : T a = true) (Tb : T b = false) (Tz : ∀ u v, u < 48 → v < 48 → T u = true → T v = false → rr u v = 0) : Fc = Fr := by
  have hN := O.1.1
  have h23 := fl_23 O (by omega) (by omega) hc
  have e1 := fl_eq hc (by omega) Sa Sb Sz
  have e2 := fl_eq hr (by omega) Ta Tb Tz
  have l1 : (Fr : Int) ≤ fl_C (fl_c0 s) S := by
    refine Int.le_trans (fl_le (S := fun u => S u || u == a) hr (by omega) (by simp) (by simp; exact ⟨Sb, fun q => ne q.symm⟩)) ?_
    refine fw_le 48 (fun u hu => fw_le 48 (fun v hv => ?_))
    show (if (S u || u == a) = true ∧ (S v || v == a) = false then (fl_r0 s a b u v : Int) else 0) ≤ (if S u = true ∧ S v = false then (fl_c0 s u v : Int) else 0)
    by_cases q : (S u || u == a) = true ∧ (S v || v == a) = false
    · rw [if_pos q]
      obtain ⟨q1, q2⟩ := q
      simp only [Bool.or_eq_false_iff, beq_eq_false_iff_ne] at q2
      cases hSu : S u with
      | true =>
        rw [if_pos ⟨rfl, q2.1⟩]
        have ub : u ≠ b := fun e => by rw [e, Sb] at hSu; exact absurd hSu (by decide)
        unfold fl_r0 fl_c0
        by_cases h24 : u < 24
        · rw [if_pos h24, if_pos h24]
          by_cases q3 : v = 24 + u ∧ u < rg_N s ∧ rg_u s u = true
          · have ua : u ≠ a := fun e => by rw [q3.1, e, Sa] at q2; exact absurd q2.1 (by decide)
            rw [if_pos q3, if_pos q3.1, if_neg (by omega)]
            exact Int.le_refl _
          · rw [if_neg q3]
            split <;> omega
        · rw [if_neg h24, if_neg h24]
          exact Int.le_refl _
      | false =>
        rw [if_neg (fun q => absurd q.1 (by decide))]
        have ua : u = a := by
          rw [hSu] at q1
          simpa using q1
        have : fl_r0 s a b u v = 0 := by
          unfold fl_r0
          rw [if_pos (by omega), if_neg (fun q3 => by rw [q3.1, ua, Sa] at q2; exact absurd q2.1 (by decide))]
        omega
    · rw [if_neg q]
      split <;> omega
  have Tx : T (24 + a) = true := by
    cases hT : T (24 + a) with
    | true => rfl
    | false =>
      have z : fl_r0 s a b a (24 + a) = 24 := by
        unfold fl_r0
        rw [if_pos (by omega), if_pos ⟨rfl, ha, hua⟩, if_pos (Or.inl rfl)]
      have nn : ∀ u v, (0 : Int) ≤ (if T u = true ∧ T v = false then (fl_r0 s a b u v : Int) else 0) := fun u v => by split <;> omega
      have t1 := fw_term (f := fun v => if T a = true ∧ T v = false then (fl_r0 s a b a v : Int) else 0) (k := 24 + a) 48 (fun v _ => nn a v) (by omega)
      have t2 := fw_term (f := fun u => fw (fun v => if T u = true ∧ T v = false then (fl_r0 s a b u v : Int) else 0) 48) (k := a) 48 (fun u _ => fw_nn 48 (fun v _ => nn u v)) (by omega)
      have t1' : (if T a = true ∧ T (24 + a) = false then (fl_r0 s a b a (24 + a) : Int) else 0) ≤ fw (fun v => if T a = true ∧ T v = false then (fl_r0 s a b a v : Int) else 0) 48 := t1
      have t2' : fw (fun v => if T a = true ∧ T v = false then (fl_r0 s a b a v : Int) else 0) 48 ≤ fl_C (fl_r0 s a b) T := t2
      rw [if_pos ⟨Ta, hT⟩, z] at t1'
      omega
  have l2 : (Fc : Int) ≤ fl_C (fl_r0 s a b) T := by
    refine Int.le_trans (fl_le (S := fun u => T u && (decide (24 ≤ u) || (decide (u < rg_N s) && rg_u s u))) hc (by omega) ?_ ?_) ?_
    · show (T (24 + a) && _) = true
      rw [Tx, decide_eq_true (show 24 ≤ 24 + a by omega)]
      rfl
    · show (T b && _) = false
      rw [Tb]
      rfl
    refine fw_le 48 (fun u hu => fw_le 48 (fun v hv => ?_))
    show (if (T u && (decide (24 ≤ u) || (decide (u < rg_N s) && rg_u s u))) = true ∧ (T v && (decide (24 ≤ v) || (decide (v < rg_N s) && rg_u s v))) = false then (fl_c0 s u v : Int) else 0) ≤ (if T u = true ∧ T v = false then (fl_r0 s a b u v : Int) else 0)
    by_cases q : (T u && (decide (24 ≤ u) || (decide (u < rg_N s) && rg_u s u))) = true ∧ (T v && (decide (24 ≤ v) || (decide (v < rg_N s) && rg_u s v))) = false
    · rw [if_pos q]
      obtain ⟨q1, q2⟩ := q
      simp only [Bool.and_eq_true, Bool.or_eq_true, decide_eq_true_eq] at q1
      by_cases q3 : T v = false
      · rw [if_pos ⟨q1.1, q3⟩]
        unfold fl_r0 fl_c0
        by_cases h24 : u < 24
        · have ub : u < rg_N s ∧ rg_u s u = true := by
            rcases q1.2 with q4 | q4
            · omega
            · exact q4
          rw [if_pos h24, if_pos h24]
          by_cases q5 : v = 24 + u
          · rw [if_pos q5, if_pos ⟨q5, ub⟩]
            split <;> omega
          · rw [if_neg q5, if_neg (fun q6 => q5 q6.1)]
            exact Int.le_refl _
        · rw [if_neg h24, if_neg h24]
          exact Int.le_refl _
      · have q4 : T v = true := by simpa using q3
        rw [q4, Bool.true_and] at q2
        have z : fl_c0 s u v = 0 := by
          simp only [Bool.or_eq_false_iff, decide_eq_false_iff_not] at q2
          unfold fl_c0
          by_cases h24 : u < 24
          · rw [if_pos h24, if_neg (by omega)]
          · rw [if_neg h24, if_neg]
            intro q5
            have ul := UL_bs O (by omega) q5.2
            rw [decide_eq_true ul.2.1, ul.2.2.2.1] at q2
            exact absurd q2.2 (by decide)
        rw [z, if_neg (fun q5 => q3 q5.2)]
        exact Int.le_refl _
    · rw [if_neg q]
      split <;> omega
  omega
end
