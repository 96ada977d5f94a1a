/-! a ring as a picture of numbers, and the nearest of those that are up -/
theorem pu_bR {α : Type} {kf cnt i : Nat} {t : α} {k : Nat → α → Option (sr_O × α)} (h : i < cnt) : sr_bR kf cnt (some (.inl (some (sr_r kf i)), t)) k = k i t := pu_dR h
theorem pu_bI {α : Type} {a : Int32} {t : α} {k : Int32 → α → Option (sr_O × α)} : sr_bI (some (.inl (some (sr_i a)), t)) k = k a t := rfl
theorem pu_bL {α : Type} {a : Int64} {t : α} {k : Int64 → α → Option (sr_O × α)} : sr_bL (some (.inl (some (sr_l a)), t)) k = k a t := rfl
theorem pu_bV {α : Type} {t : α} {k : α → Option (sr_O × α)} : sr_bV (some (.inl none, t)) k = k t := rfl
/-- (how many, bits of a letter, degree), places, who is up, spots, tables as rows of fourteen -/
abbrev rg_T : Type := (Nat × Nat × Nat) × (Nat → Nat) × (Nat → Bool) × (Nat → Nat) × (Nat → Nat → Nat)
def rg_N (s : rg_T) : Nat := s.1.1
def rg_b (s : rg_T) : Nat := s.1.2.1
def rg_d (s : rg_T) : Nat := s.1.2.2
def rg_p (s : rg_T) : Nat → Nat := s.2.1
def rg_u (s : rg_T) : Nat → Bool := s.2.2.1
def rg_s (s : rg_T) : Nat → Nat := s.2.2.2.1
def rg_t (s : rg_T) : Nat → Nat → Nat := s.2.2.2.2
def bI (b : Bool) : Int32 := if b then 1 else 0
def nu (k : Nat) : Int32 := if k = 24 then -1 else nI k
theorem bI_t : bI true = 1 := rfl
theorem bI_f : bI false = 0 := rfl
theorem bI_0 {b : Bool} : bI b = 0 ↔ b = false := by cases b <;> decide
theorem bI_1 {b : Bool} : bI b = 1 ↔ b = true := by cases b <;> decide
theorem nu_lt {k : Nat} (h : k < 24) : nu k = nI k := if_neg (by omega)
theorem nu_24 : nu 24 = -1 := rfl
theorem nI_m1 {n : Nat} (h : n < 2 ^ 31) : ¬ nI n = -1 := by
  intro e
  have := nI_pos h
  rw [e] at this
  exact this (by decide)
theorem nu_m1 {k : Nat} (h : k ≤ 24) : nu k = -1 ↔ k = 24 := by
  unfold nu
  by_cases hk : k = 24
  · simp [hk]
  · rw [if_neg hk]
    exact ⟨fun e => absurd e (nI_m1 (by omega)), fun e => absurd e hk⟩
/-- what a ring's tables keep to -/
def rg_tok (N : Nat) (T : Nat → Nat) : Prop := T 0 ≤ 16 ∧ T 1 ≤ 3 ∧ (∀ k, k < T 1 → T (2 + k) < N) ∧ 1 ≤ T 5 ∧ T 5 ≤ 8 ∧ (∀ k, k < T 5 → T (6 + k) < N)
def rg_okB (s : rg_T) : Prop := rg_N s ≤ 24 ∧ (1 ≤ rg_b s ∧ rg_b s ≤ 4) ∧ (1 ≤ rg_d s ∧ rg_d s ≤ 8) ∧ (∀ n, n < rg_N s → rg_p s n < 4096) ∧ (∀ n m, n < rg_N s → m < rg_N s → rg_p s n = rg_p s m → n = m) ∧ (∀ n, n < rg_N s → rg_s s n ≤ 99)
def rg_ok (s : rg_T) : Prop := rg_okB s ∧ ∀ n, n < rg_N s → rg_tok (rg_N s) (rg_t s n)
/-- a row of the class holds these numbers -/
def rg_row (t : sr_t) (i : Nat) (m : Nat) (f : Nat → Nat) : Prop := t.1 4 i 1 = nI m ∧ ∀ k, k < m → t.1 12 i k = nI (f k)
/-- a table of the class holds this row of fourteen -/
def rg_tab (t : sr_t) (i : Nat) (T : Nat → Nat) : Prop := t.1 7 i 0 = nI (T 0) ∧ rg_row t (2 * i) (T 1) (fun k => T (2 + k)) ∧ rg_row t (2 * i + 1) (T 5) (fun k => T (6 + k))
def rg_head (t : sr_t) (r : Nat) (s : rg_T) : Prop := t.1 3 r 3 = nI (rg_N s) ∧ t.1 3 r 5 = nI (2 ^ rg_b s) ∧ t.1 3 r 6 = nI (rg_b s) ∧ t.1 3 r 7 = nI (12 / rg_b s) ∧ t.1 3 r 8 = nI (rg_d s)
def rg_nob (t : sr_t) (r : Nat) : Prop := (∀ n, n ≤ 24 → t.1 2 (25 * r + n) 0 = nu n) ∧ t.1 2 (25 * r + 24) 2 = 0 ∧ t.1 2 (25 * r + 24) 7 = 0
def rg_nod (t : sr_t) (r : Nat) (s : rg_T) : Prop := ∀ n, n < rg_N s → t.1 2 (25 * r + n) 1 = nI (rg_p s n) ∧ t.1 2 (25 * r + n) 2 = bI (rg_u s n) ∧ t.1 2 (25 * r + n) 3 = nI (rg_s s n)
/-- ring r of the class is this picture (what is kept beside apart) -/
def rg_B (t : sr_t) (r : Nat) (s : rg_T) : Prop := rg_head t r s ∧ rg_nob t r ∧ rg_nod t r s
def rg_C (t : sr_t) (r : Nat) (s : rg_T) : Prop := rg_B t r s ∧ ∀ n, n < rg_N s → rg_tab t (25 * r + n) (rg_t s n)
/-- the reference's nodes and tables are this picture -/
def rg_RB (t : sr_t) (s : rg_T) : Prop := (t.1 11 0 1 = nI (rg_N s) ∧ t.1 11 0 7 = nI (2 ^ rg_b s) ∧ t.1 11 0 8 = nI (rg_d s)) ∧ (∀ n, n < rg_N s → t.1 24 0 n = nI (rg_p s n) ∧ t.1 25 0 n = bI (rg_u s n) ∧ t.1 26 0 n = nI (rg_s s n))
/-- fourteen numbers from a place on hold this row (what lies beyond its many apart) -/
def rg_rt (t : sr_t) (k a : Nat) (T : Nat → Nat) : Prop := t.1 k 0 a = nI (T 0) ∧ t.1 k 0 (a + 1) = nI (T 1) ∧ t.1 k 0 (a + 5) = nI (T 5) ∧ (∀ j, j < T 1 → t.1 k 0 (a + 2 + j) = nI (T (2 + j))) ∧ ∀ j, j < T 5 → t.1 k 0 (a + 6 + j) = nI (T (6 + j))
def rg_R (t : sr_t) (s : rg_T) : Prop := rg_RB t s ∧ ∀ n, n < rg_N s → rg_rt t 27 (14 * n) (rg_t s n)
/-- which of the first n has the least, of those that count; 24 for none -/
def am (D : Nat → Nat) (u : Nat → Bool) : Nat → Nat
  | 0 => 24
  | n + 1 => if u n = true ∧ (am D u n = 24 ∨ D n < D (am D u n)) then n else am D u n
theorem am_cases {D : Nat → Nat} {u : Nat → Bool} : ∀ N : Nat, N ≤ 24 → (am D u N = 24 ∧ ∀ n, n < N → u n = false) ∨ (am D u N < N ∧ u (am D u N) = true ∧ ∀ n, n < N → u n = true → D (am D u N) ≤ D n) := by
  intro N
  induction N with
  | zero => intro _; exact Or.inl ⟨rfl, fun n h => absurd h (by omega)⟩
  | succ N ih =>
    intro hN
    unfold am
    rcases ih (by omega) with ⟨h1, h2⟩ | ⟨h1, h2, h3⟩
    · by_cases hu : u N = true
      · rw [if_pos ⟨hu, Or.inl h1⟩]
        refine Or.inr ⟨by omega, hu, fun n hn hun => ?_⟩
        by_cases e : n = N
        · rw [e]; exact Nat.le_refl _
        · have := h2 n (by omega); rw [this] at hun; exact absurd hun (by decide)
      · rw [if_neg (fun h => hu h.1)]
        refine Or.inl ⟨h1, fun n hn => ?_⟩
        by_cases e : n = N
        · rw [e]; simpa using hu
        · exact h2 n (by omega)
    · by_cases hc : u N = true ∧ (am D u N = 24 ∨ D N < D (am D u N))
      · rw [if_pos hc]
        refine Or.inr ⟨by omega, hc.1, fun n hn hun => ?_⟩
        have hlt : D N < D (am D u N) := hc.2.elim (fun h => absurd h (by omega)) id
        by_cases e : n = N
        · rw [e]; exact Nat.le_refl _
        · have := h3 n (by omega) hun; omega
      · rw [if_neg hc]
        refine Or.inr ⟨by omega, h2, fun n hn hun => ?_⟩
        by_cases e : n = N
        · subst e
          have : ¬ D n < D (am D u n) := fun h => hc ⟨hun, Or.inr h⟩
          omega
        · exact h3 n (by omega) hun
theorem am_le {D : Nat → Nat} {u : Nat → Bool} {N : Nat} (h : N ≤ 24) : am D u N ≤ 24 := by
  rcases am_cases (D := D) (u := u) N h with h | h <;> omega
/-- one that counts and than which none is less is the one -/
theorem am_eq {D : Nat → Nat} {u : Nat → Bool} {N k : Nat} (hN : N ≤ 24) (hk : k < N) (hu : u k = true) (hl : ∀ n, n < N → u n = true → n ≠ k → D k < D n) : am D u N = k := by
  rcases am_cases (D := D) (u := u) N hN with ⟨_, h⟩ | ⟨h1, h2, h3⟩
  · rw [h k hk] at hu; exact absurd hu (by decide)
  · apply Decidable.byContradiction
    intro hne
    have a := hl _ h1 h2 hne
    have b := h3 k hk hu
    omega
theorem am_none {D : Nat → Nat} {u : Nat → Bool} {N : Nat} (hN : N ≤ 24) (hl : ∀ n, n < N → u n = false) : am D u N = 24 := by
  rcases am_cases (D := D) (u := u) N hN with ⟨h, _⟩ | ⟨h1, h2, h3⟩
  · exact h
  · rw [hl _ h1] at h2; exact absurd h2 (by decide)
theorem am_congr {D E : Nat → Nat} {u v : Nat → Bool} : ∀ N : Nat, N ≤ 24 → (∀ n, n < N → u n = v n) → (∀ n, n < N → u n = true → D n = E n) → am D u N = am E v N := by
  intro N
  induction N with
  | zero => intro _ _ _; rfl
  | succ N ih =>
    intro hN h1 h2
    have e := ih (by omega) (fun n hn => h1 n (by omega)) (fun n hn => h2 n (by omega))
    unfold am
    rw [← e, ← h1 N (by omega)]
    by_cases hu : u N = true
    · rcases am_cases (D := D) (u := u) N (by omega) with ⟨g1, _⟩ | ⟨g1, g2, _⟩
      · simp [hu, g1]
      · rw [h2 N (by omega) hu, h2 _ (by omega) g2]
    · simp [hu]
/-- the reference's loops look for the least so -/
def am_lt (D : Nat → Nat) (u : Nat → Bool) (n : Nat) : Nat := if am D u n = 24 then 4096 else D (am D u n)
theorem am_stepY {D : Nat → Nat} {u : Nat → Bool} {n : Nat} (hu : u n = true) (h : am D u n = 24 ∨ D n < D (am D u n)) : am D u (n + 1) = n := if_pos ⟨hu, h⟩
theorem am_stepN {D : Nat → Nat} {u : Nat → Bool} {n : Nat} (h : ¬ (u n = true ∧ (am D u n = 24 ∨ D n < D (am D u n)))) : am D u (n + 1) = am D u n := if_neg h
