section
/-! outcomes, loops, frames, literals -/
def rs_to (Q : sr_O → sr_t → Prop) (x : sr_Rs) : Prop := ∃ o t, x = some (o, t) ∧ Q o t
theorem rs_ret {Q : sr_O → sr_t → Prop} {o : sr_O} {t : sr_t} (h : Q o t) : rs_to Q (some (o, t)) := ⟨o, t, rfl, h⟩
theorem rs_eq {x : sr_Rs} {o0 : sr_O} {t0 : sr_t} (h : rs_to (fun o t => o = o0 ∧ t = t0) x) : x = some (o0, t0) := by
  obtain ⟨o, t, e, rfl, rfl⟩ := h
  exact e
theorem rs_of {x : sr_Rs} {o0 : sr_O} {P : sr_t → Prop} (h : rs_to (fun o t => o = o0 ∧ P t) x) : ∃ t, x = some (o0, t) ∧ P t := by
  obtain ⟨o, t, e, rfl, h⟩ := h
  exact ⟨t, e, h⟩
theorem rs_loop {Q : sr_O → sr_t → Prop} {N : Nat} {L : Nat → Nat → sr_t → sr_Rs} (P : Nat → sr_t → Prop) (h1 : ∀ n g t, n < N → P n t → (∃ t', P (n + 1) t' ∧ L (g + 1) n t = L g (n + 1) t') ∨ rs_to Q (L (g + 1) n t)) (h2 : ∀ g t, P N t → rs_to Q (L (g + 1) N t)) {f : Nat} {t : sr_t} (hf : N < f) (h0 : P 0 t) : rs_to Q (L f 0 t) := by
  have key : ∀ c n f t, n + c = N → c < f → P n t → rs_to Q (L f n t) := by
    intro c
    induction c with
    | zero =>
      intro n f t hc hf hp
      obtain ⟨g, rfl⟩ : ∃ g, f = g + 1 := ⟨f - 1, by omega⟩
      have e : n = N := by omega
      subst e
      exact h2 g t hp
    | succ c ih =>
      intro n f t hc hf hp
      obtain ⟨g, rfl⟩ : ∃ g, f = g + 1 := ⟨f - 1, by omega⟩
      rcases h1 n g t (by omega) hp with ⟨t', q, e⟩ | h
      · rw [e]
        exact ih (n + 1) g t' (by omega) (by omega) q
      · exact h
  exact key N 0 f t (by omega) hf h0
/-- nothing but what S names has changed -/
def fr (S : Nat → Nat → Nat → Prop) (t t' : sr_t) : Prop := t'.2 = t.2 ∧ ∀ k i j, ¬ S k i j → t'.1 k i j = t.1 k i j
theorem fr_rfl {S : Nat → Nat → Nat → Prop} {t : sr_t} : fr S t t := ⟨rfl, fun _ _ _ _ => rfl⟩
theorem fr_trans {S : Nat → Nat → Nat → Prop} {t t1 t2 : sr_t} (h1 : fr S t t1) (h2 : fr S t1 t2) : fr S t t2 := ⟨h2.1.trans h1.1, fun k i j h => (h2.2 k i j h).trans (h1.2 k i j h)⟩
theorem fr_mono {S S' : Nat → Nat → Nat → Prop} {t t1 : sr_t} (h : fr S t t1) (hs : ∀ k i j, S k i j → S' k i j) : fr S' t t1 := ⟨h.1, fun k i j hn => h.2 k i j (fun q => hn (hs k i j q))⟩
theorem fr_u {S : Nat → Nat → Nat → Prop} {t t1 : sr_t} {k i j : Nat} {v : Int32} (h : fr S t t1) (hs : S k i j) : fr S t (sr_u t1 k i j v) := ⟨h.1, fun k' i' j' hn => by
  rw [pu_un (fun e => hn (by obtain ⟨rfl, rfl, rfl⟩ := e; exact hs))]
  exact h.2 k' i' j' hn⟩
/-- a read of a written heap -/
theorem pu_ur {t : sr_t} {k i j k' i' j' : Nat} {v : Int32} : (sr_u t k i j v).1 k' i' j' = if k' = k ∧ i' = i ∧ j' = j then v else t.1 k' i' j' := rfl
theorem nL_0 : (0 : Int32) = nI 0 := rfl
theorem nL_1 : (1 : Int32) = nI 1 := rfl
theorem nL_2 : (2 : Int32) = nI 2 := rfl
theorem nL_3 : (3 : Int32) = nI 3 := rfl
theorem nL_4 : (4 : Int32) = nI 4 := rfl
theorem nL_5 : (5 : Int32) = nI 5 := rfl
theorem nL_6 : (6 : Int32) = nI 6 := rfl
theorem nL_7 : (7 : Int32) = nI 7 := rfl
theorem nL_8 : (8 : Int32) = nI 8 := rfl
theorem nL_9 : (9 : Int32) = nI 9 := rfl
theorem nL_10 : (10 : Int32) = nI 10 := rfl
theorem nL_11 : (11 : Int32) = nI 11 := rfl
theorem nL_12 : (12 : Int32) = nI 12 := rfl
theorem nL_13 : (13 : Int32) = nI 13 := rfl
theorem nL_14 : (14 : Int32) = nI 14 := rfl
theorem nL_15 : (15 : Int32) = nI 15 := rfl
theorem nL_16 : (16 : Int32) = nI 16 := rfl
theorem nL_23 : (23 : Int32) = nI 23 := rfl
theorem nL_24 : (24 : Int32) = nI 24 := rfl
theorem nL_32 : (32 : Int32) = nI 32 := rfl
theorem nL_48 : (48 : Int32) = nI 48 := rfl
theorem nL_64 : (64 : Int32) = nI 64 := rfl
theorem nL_99 : (99 : Int32) = nI 99 := rfl
theorem nL_100 : (100 : Int32) = nI 100 := rfl
theorem nL_200 : (200 : Int32) = nI 200 := rfl
theorem nL_336 : (336 : Int32) = nI 336 := rfl
theorem nL_576 : (576 : Int32) = nI 576 := rfl
theorem nL_768 : (768 : Int32) = nI 768 := rfl
theorem nL_800 : (800 : Int32) = nI 800 := rfl
theorem nL_999 : (999 : Int32) = nI 999 := rfl
theorem nL_4095 : (4095 : Int32) = nI 4095 := rfl
theorem nL_4096 : (4096 : Int32) = nI 4096 := rfl
theorem nL_m1 : -(nI 1) = nu 24 := rfl
theorem nu_eq24 {a : Nat} (h : a ≤ 24) : nu a = nu 24 ↔ a = 24 := nu_m1 h
theorem nI_nu {a : Nat} (h : a < 2 ^ 31) : (nI a = nu 24) ↔ False := ⟨fun e => nI_m1 h e, False.elim⟩
theorem nu_eq {a b : Nat} (ha : a ≤ 24) (hb : b ≤ 24) : nu a = nu b ↔ a = b := by
  constructor
  · intro e
    by_cases h1 : a = 24
    · subst h1
      exact ((nu_eq24 hb).mp e.symm).symm
    · by_cases h2 : b = 24
      · subst h2
        exact (nu_eq24 ha).mp e
      · rw [nu_lt (by omega), nu_lt (by omega)] at e
        exact (nI_eq (by omega) (by omega)).mp e
  · intro e
    rw [e]
theorem nu_nI {a b : Nat} (ha : a ≤ 24) (hb : b < 24) : nu a = nI b ↔ a = b := by
  rw [← nu_lt hb]
  exact nu_eq ha (by omega)
theorem pu_ixN {c N : Nat} {A : sr_Rs} (h : c < N) (hN : N < 2 ^ 31) : (if nI c < 0 ∨ N ≤ (nI c).toNatClampNeg then none else A) = A := if_neg (nI_in h hN)
theorem pu_ixN' {c N : Nat} {A : sr_Rs} (h : c < N) (hN : N < 2 ^ 31) : (if nI c < nI 0 ∨ N ≤ (nI c).toNatClampNeg then none else A) = A := if_neg (nI_in h hN)
theorem bI_eq0 {b : Bool} : bI b = nI 0 ↔ b = false := bI_0
theorem bI_eq1 {b : Bool} : bI b = nI 1 ↔ b = true := bI_1
theorem bI_01 {b : Bool} : (bI b = 0 ∨ bI b = 1) ↔ True := by cases b <;> decide
theorem bI_01' {b : Bool} : (bI b = nI 0 ∨ bI b = nI 1) ↔ True := by cases b <;> decide
theorem pk_rem96 {a : Nat} (ha : a < 2 ^ 31) : nI a - nI a / nI 4096 * nI 4096 = nI (a % 4096) := pk_rem ha (by decide) (by decide)
/-! counting -/
theorem cu_congr {u v : Nat → Bool} : ∀ N : Nat, (∀ n, n < N → u n = v n) → rg_cu u N = rg_cu v N := by
  intro N
  induction N with
  | zero => intro _; rfl
  | succ N ih =>
    intro h
    rw [rg_cu_s, rg_cu_s, ih (fun n hn => h n (by omega)), h N (by omega)]
theorem cu_mono {u v : Nat → Bool} : ∀ N : Nat, (∀ n, n < N → u n = true → v n = true) → rg_cu u N ≤ rg_cu v N := by
  intro N
  induction N with
  | zero => intro _; exact Nat.le_refl _
  | succ N ih =>
    intro h
    rw [rg_cu_s, rg_cu_s]
    have a := ih (fun n hn => h n (by omega))
    have b := h N (by omega)
    cases hu : u N with
    | false => simp; omega
    | true => rw [b hu]; omega
theorem cu_ins {u v : Nat → Bool} {m : Nat} : ∀ N : Nat, m < N → u m = false → v m = true → (∀ n, n < N → n ≠ m → u n = v n) → rg_cu v N = rg_cu u N + 1 := by
  intro N
  induction N with
  | zero => intro h; omega
  | succ N ih =>
    intro hm hu hv h
    rw [rg_cu_s, rg_cu_s]
    by_cases e : m = N
    · subst e
      rw [hu, hv, cu_congr (u := u) (v := v) m (fun n hn => h n (by omega) (by omega))]
      simp
    · have a := ih (by omega) hu hv (fun n hn => h n (by omega))
      rw [a, h N (by omega) (by omega)]
      omega
theorem cu_ex {u v : Nat → Bool} : ∀ N : Nat, rg_cu u N < rg_cu v N → ∃ n, n < N ∧ v n = true ∧ u n = false := by
  intro N
  induction N with
  | zero => intro h; exact absurd h (by simp [rg_cu])
  | succ N ih =>
    intro h
    rw [rg_cu_s, rg_cu_s] at h
    by_cases e : v N = true ∧ u N = false
    · exact ⟨N, by omega, e⟩
    · have : rg_cu u N < rg_cu v N := by
        cases hu : u N <;> cases hv : v N <;> simp [hu, hv] at h e <;> omega
      obtain ⟨n, a, b⟩ := ih this
      exact ⟨n, by omega, b⟩
theorem cu_all {u v : Nat → Bool} : ∀ N : Nat, (∀ n, n < N → u n = true → v n = true) → rg_cu u N = rg_cu v N → ∀ n, n < N → v n = true → u n = true := by
  intro N
  induction N with
  | zero => intro _ _ n hn; omega
  | succ N ih =>
    intro h he n hn hv
    rw [rg_cu_s, rg_cu_s] at he
    have a := cu_mono N (fun n hn => h n (by omega))
    have b := h N (by omega)
    have c : rg_cu u N = rg_cu v N ∧ u N = v N := by
      cases hu : u N <;> cases hw : v N <;> simp [hu, hw] at he b ⊢ <;> omega
    by_cases e : n = N
    · rw [e, c.2, ← e]; exact hv
    · exact ih (fun n hn => h n (by omega)) c.1 n (by omega) hv
theorem cu_pos {u : Nat → Bool} {m : Nat} : ∀ N : Nat, m < N → u m = true → 1 ≤ rg_cu u N := by
  intro N
  induction N with
  | zero => intro h; omega
  | succ N ih =>
    intro hm hu
    rw [rg_cu_s]
    by_cases e : m = N
    · subst e; rw [hu]; simp
    · have := ih (by omega) hu; omega
theorem cu_one {u : Nat → Bool} {m : Nat} {N : Nat} (hm : m < N) (hu : u m = true) (h : ∀ n, n < N → n ≠ m → u n = false) : rg_cu u N = 1 := by
  have e0 : ∀ M, rg_cu (fun _ => false) M = 0 := by
    intro M
    induction M with
    | zero => rfl
    | succ M ih => rw [rg_cu_s, ih]; rfl
  have := cu_ins (u := fun _ => false) (v := u) N hm rfl hu (fun n hn hne => (h n hn hne).symm)
  rw [this, e0]
/-! round and round -/
/-- the next one that is up, round the ring -/
def rg_sc (s : rg_T) (m : Nat) : Nat := rg_ff s ((rg_p s m + 1) % 4096)
def rg_cy (s : rg_T) (h : Nat) : Nat → Nat
  | 0 => h
  | k + 1 => rg_sc s (rg_cy s h k)
def rg_up (s : rg_T) : Nat := rg_cu (rg_u s) (rg_N s)
def rg_rk (s : rg_T) (h m : Nat) : Nat := rg_cu (fun x => rg_u s x && decide (pu_d (rg_p s h) (rg_p s x) ≤ pu_d (rg_p s h) (rg_p s m))) (rg_N s)
theorem rg_ff_up {s : rg_T} {q m : Nat} (O : rg_okB s) (hm : m < rg_N s) (hu : rg_u s m = true) : rg_ff s q < rg_N s ∧ rg_u s (rg_ff s q) = true ∧ ∀ n, n < rg_N s → rg_u s n = true → pu_d q (rg_p s (rg_ff s q)) ≤ pu_d q (rg_p s n) := by
  rcases am_cases (D := fun n => pu_d q (rg_p s n)) (u := rg_u s) (rg_N s) O.1 with ⟨_, h⟩ | h
  · rw [h m hm] at hu; exact absurd hu (by decide)
  · exact h
theorem rg_lb_up {s : rg_T} {q m : Nat} (O : rg_okB s) (hm : m < rg_N s) (hu : rg_u s m = true) : rg_lb s q < rg_N s ∧ rg_u s (rg_lb s q) = true ∧ ∀ n, n < rg_N s → rg_u s n = true → pu_d (rg_p s (rg_lb s q)) q ≤ pu_d (rg_p s n) q := by
  rcases am_cases (D := fun n => pu_d (rg_p s n) q) (u := rg_u s) (rg_N s) O.1 with ⟨_, h⟩ | h
  · rw [h m hm] at hu; exact absurd hu (by decide)
  · exact h
theorem pu_d_on {h m x : Nat} (hh : h < 4096) (hm : m < 4096) (hx : x < 4096) : pu_d ((m + 1) % 4096) x + pu_d h m + 1 = pu_d h x + if pu_d h x ≤ pu_d h m then 4096 else 0 := by
  unfold pu_d
  split <;> omega
theorem pu_d_0 {a b : Nat} (ha : a < 4096) (hb : b < 4096) : pu_d a b = 0 ↔ a = b := by
  unfold pu_d; omega
theorem pu_d_inj {h a b : Nat} (hh : h < 4096) (ha : a < 4096) (hb : b < 4096) : pu_d h a = pu_d h b ↔ a = b := by
  unfold pu_d; omega
theorem rg_step {s : rg_T} {h m : Nat} (O : rg_okB s) (hh : h < rg_N s) (hm : m < rg_N s) (hu : rg_u s m = true) (hx : rg_rk s h m < rg_up s) : rg_rk s h (rg_sc s m) = rg_rk s h m + 1 := by
  obtain ⟨x, x1, x2, x3⟩ := cu_ex _ hx
  rw [x2, Bool.true_and, decide_eq_false_iff_not] at x3
  obtain ⟨a1, a2, a3⟩ := rg_ff_up (q := (rg_p s m + 1) % 4096) O hm hu
  obtain ⟨hN, _, _, hp, hd, _⟩ := O
  have ph := hp h hh
  have pm := hp m hm
  have px := hp x x1
  have pa := hp _ a1
  have e1 := pu_d_on ph pm px
  have e2 := pu_d_on ph pm pa
  have e3 := a3 x x1 x2
  rw [if_neg x3] at e1
  have l1 := pu_d_lt (rg_p s h) (rg_p s m)
  have l2 := pu_d_lt (rg_p s h) (rg_p s x)
  have k1 : ¬ pu_d (rg_p s h) (rg_p s (rg_ff s ((rg_p s m + 1) % 4096))) ≤ pu_d (rg_p s h) (rg_p s m) := by
    intro q
    rw [if_pos q] at e2
    omega
  refine cu_ins (m := rg_sc s m) _ a1 ?_ ?_ ?_
  · show (rg_u s (rg_ff s ((rg_p s m + 1) % 4096)) && decide _) = false
    rw [a2, Bool.true_and, decide_eq_false_iff_not]
    exact k1
  · show (rg_u s (rg_ff s ((rg_p s m + 1) % 4096)) && decide _) = true
    rw [a2, Bool.true_and, decide_eq_true_eq]
    exact Nat.le_refl _
  · intro n hn hne
    cases hun : rg_u s n with
    | false => simp
    | true =>
      have pn := hp n hn
      have e4 := pu_d_on ph pm pn
      have e5 := a3 n hn hun
      have e6 := pu_d_inj ph pn pa
      have e7 : pu_d (rg_p s h) (rg_p s n) ≠ pu_d (rg_p s h) (rg_p s (rg_ff s ((rg_p s m + 1) % 4096))) := fun q => hne (hd n _ hn a1 (e6.mp q))
      simp only [Bool.true_and]
      rw [decide_eq_decide]
      show _ ↔ pu_d (rg_p s h) (rg_p s n) ≤ pu_d (rg_p s h) (rg_p s (rg_ff s ((rg_p s m + 1) % 4096)))
      rw [if_neg k1] at e2
      by_cases q : pu_d (rg_p s h) (rg_p s n) ≤ pu_d (rg_p s h) (rg_p s m)
      · exact ⟨fun _ => by omega, fun _ => q⟩
      · rw [if_neg q] at e4
        exact ⟨fun q' => absurd q' q, fun q' => by omega⟩
theorem rg_back {s : rg_T} {h m : Nat} (O : rg_okB s) (hh : h < rg_N s) (huh : rg_u s h = true) (hm : m < rg_N s) (hu : rg_u s m = true) (hx : rg_rk s h m = rg_up s) : rg_sc s m = h := by
  have hall : ∀ n, n < rg_N s → rg_u s n = true → pu_d (rg_p s h) (rg_p s n) ≤ pu_d (rg_p s h) (rg_p s m) := by
    intro n hn hun
    have := cu_all (u := fun x => rg_u s x && decide (pu_d (rg_p s h) (rg_p s x) ≤ pu_d (rg_p s h) (rg_p s m))) (v := rg_u s) (rg_N s) (fun k _ q => by simp only [Bool.and_eq_true] at q; exact q.1) hx n hn hun
    simp only [Bool.and_eq_true, decide_eq_true_eq] at this
    exact this.2
  obtain ⟨hN, _, _, hp, hd, _⟩ := O
  refine am_eq hN hh huh (fun n hn hun hne => ?_)
  have ph := hp h hh
  have pm := hp m hm
  have pn := hp n hn
  have e1 := pu_d_on ph pm ph
  have e2 := pu_d_on ph pm pn
  rw [if_pos (hall h hh huh)] at e1
  rw [if_pos (hall n hn hun)] at e2
  have e3 := (pu_d_0 ph ph).mpr rfl
  have e4 : pu_d (rg_p s h) (rg_p s n) ≠ 0 := fun q => hne (hd n h hn hh ((pu_d_0 ph pn).mp q).symm)
  show pu_d ((rg_p s m + 1) % 4096) (rg_p s h) < pu_d ((rg_p s m + 1) % 4096) (rg_p s n)
  omega
theorem rg_cyc {s : rg_T} {h : Nat} (O : rg_okB s) (hh : h < rg_N s) (hu : rg_u s h = true) : ∀ k, k < rg_up s → rg_cy s h k < rg_N s ∧ rg_u s (rg_cy s h k) = true ∧ rg_rk s h (rg_cy s h k) = k + 1 := by
  intro k
  induction k with
  | zero =>
    intro _
    refine ⟨hh, hu, cu_one (m := h) hh (by simp [rg_cy, hu]) (fun n hn hne => ?_)⟩
    have ph := O.2.2.2.1 h hh
    have pn := O.2.2.2.1 n hn
    have e3 := (pu_d_0 ph ph).mpr rfl
    have e4 : pu_d (rg_p s h) (rg_p s n) ≠ 0 := fun q => hne (O.2.2.2.2.1 n h hn hh ((pu_d_0 ph pn).mp q).symm)
    have : ¬ pu_d (rg_p s h) (rg_p s n) ≤ pu_d (rg_p s h) (rg_p s (rg_cy s h 0)) := by
      show ¬ pu_d (rg_p s h) (rg_p s n) ≤ pu_d (rg_p s h) (rg_p s h)
      omega
    simp [this]
  | succ k ih =>
    intro hk
    obtain ⟨a, b, c⟩ := ih (by omega)
    have d := rg_ff_up (q := (rg_p s (rg_cy s h k) + 1) % 4096) O a b
    exact ⟨d.1, d.2.1, (rg_step O hh a b (by rw [c]; omega)).trans (by rw [c])⟩
theorem rg_up1 {s : rg_T} {h : Nat} (hh : h < rg_N s) (hu : rg_u s h = true) : 1 ≤ rg_up s := cu_pos _ hh hu
theorem rg_cyU {s : rg_T} {h : Nat} (O : rg_okB s) (hh : h < rg_N s) (hu : rg_u s h = true) : rg_cy s h (rg_up s) = h := by
  have h1 := rg_up1 hh hu
  obtain ⟨k, hk⟩ : ∃ k, rg_up s = k + 1 := ⟨rg_up s - 1, by omega⟩
  obtain ⟨a, b, c⟩ := rg_cyc O hh hu k (by omega)
  rw [hk]
  exact rg_back O hh hu a b (by rw [c, hk])
theorem rg_cyI {s : rg_T} {h : Nat} (O : rg_okB s) (hh : h < rg_N s) (hu : rg_u s h = true) {i j : Nat} (hi : i < rg_up s) (hj : j < rg_up s) : rg_cy s h i = rg_cy s h j ↔ i = j := by
  constructor
  · intro e
    have a := (rg_cyc O hh hu i hi).2.2
    have b := (rg_cyc O hh hu j hj).2.2
    rw [e, b] at a
    omega
  · intro e; rw [e]
theorem rg_upN {s : rg_T} : rg_up s ≤ rg_N s := rg_cu_le _ _
/-- the reference's next one: none where it is alone -/
theorem rg_fb_sc {s : rg_T} {m : Nat} (O : rg_okB s) (hm : m < rg_N s) (hu : rg_u s m = true) : rg_fb s (rg_p s m) = if rg_up s = 1 then 24 else rg_sc s m := by
  by_cases h1 : rg_up s = 1
  · rw [if_pos h1]
    refine am_none O.1 (fun n hn => ?_)
    by_cases hne : n = m
    · subst hne; simp
    · cases hun : rg_u s n with
      | false => simp
      | true =>
        exfalso
        have : rg_cu (rg_u s) (rg_N s) ≥ 2 := by
          have a := cu_ins (u := fun x => rg_u s x && x != m) (v := rg_u s) (m := m) (rg_N s) hm (by simp) hu (fun k _ hk => by simp [hk])
          have b := cu_pos (u := fun x => rg_u s x && x != m) (m := n) (rg_N s) hn (by simp [hun, hne])
          omega
        unfold rg_up at h1
        omega
  · rw [if_neg h1]
    have h2 := rg_up1 hm hu
    have a := rg_cyc O hm hu 1 (by omega)
    have b := (rg_cyI O hm hu (i := 1) (j := 0) (by omega) (by omega)).mp
    have c : rg_sc s m ≠ m := fun e => absurd (b e) (by decide)
    have d := rg_ff_up (q := (rg_p s m + 1) % 4096) O hm hu
    obtain ⟨hN, _, _, hp, hd, _⟩ := O
    have a1 : rg_sc s m < rg_N s := a.1
    have a2 : rg_u s (rg_sc s m) = true := a.2.1
    have c2 : rg_p s (rg_sc s m) ≠ rg_p s m := fun e => c (hd _ _ a1 hm e)
    refine am_eq hN a1 (by simp [a2, c2]) (fun n hn hun hne => ?_)
    simp only [Bool.and_eq_true, bne_iff_ne, ne_eq] at hun
    have pm := hp m hm
    have pn := hp n hn
    have pc := hp _ a1
    have e1 := pu_d_on pm pm pn
    have e2 := pu_d_on pm pm pc
    have e3 := (pu_d_0 pm pm).mpr rfl
    have e4 := d.2.2 n hn hun.1
    have e5 : pu_d (rg_p s m) (rg_p s n) ≠ 0 := fun q => hun.2 ((pu_d_0 pm pn).mp q).symm
    have e6 : pu_d (rg_p s m) (rg_p s (rg_sc s m)) ≠ 0 := fun q => c2 ((pu_d_0 pm pc).mp q).symm
    have e7 : pu_d (rg_p s m) (rg_p s n) ≠ pu_d (rg_p s m) (rg_p s (rg_sc s m)) := fun q => hne (hd n _ hn a1 ((pu_d_inj pm pn pc).mp q))
    rw [if_neg (by omega)] at e1 e2
    have e8 : pu_d ((rg_p s m + 1) % 4096) (rg_p s (rg_sc s m)) ≤ pu_d ((rg_p s m + 1) % 4096) (rg_p s n) := e4
    omega
end
