/-! loops by a rule; hostOf, loadOf, ups -/
theorem pu_for {N : Nat} {L : Nat → Nat → sr_Rs} {R : sr_Rs} (h1 : ∀ n g, n < N → L (g + 1) n = L g (n + 1)) (h2 : ∀ g, L (g + 1) N = R) {f : Nat} (hf : N < f) : L f 0 = R := by
  have key : ∀ c n f, n + c = N → c < f → L f n = R := by
    intro c
    induction c with
    | zero =>
      intro n f hc hf
      obtain ⟨g, rfl⟩ : ∃ g, f = g + 1 := ⟨f - 1, by omega⟩
      have e : n = N := by omega
      rw [e]
      exact h2 g
    | succ c ih =>
      intro n f hc hf
      obtain ⟨g, rfl⟩ : ∃ g, f = g + 1 := ⟨f - 1, by omega⟩
      rw [h1 n g (by omega)]
      exact ih (n + 1) g (by omega) (by omega)
  exact key N 0 f (by omega) hf
/-- a loop over a state of which something is known at each round -/
theorem pu_forR {α : Type} {N : Nat} {L : Nat → Nat → α → sr_Rs} {fin : α → sr_Rs} {P : Nat → α → Prop} (h1 : ∀ n g a, n < N → P n a → ∃ a', P (n + 1) a' ∧ L (g + 1) n a = L g (n + 1) a') (h2 : ∀ g a, P N a → L (g + 1) N a = fin a) {f : Nat} {a : α} (hf : N < f) (h0 : P 0 a) : ∃ a', P N a' ∧ L f 0 a = fin a' := by
  have key : ∀ c n f a, n + c = N → c < f → P n a → ∃ a', P N a' ∧ L f n a = fin a' := by
    intro c
    induction c with
    | zero =>
      intro n f a hc hf hp
      obtain ⟨g, rfl⟩ : ∃ g, f = g + 1 := ⟨f - 1, by omega⟩
      have e : n = N := by omega
      subst e
      exact ⟨a, hp, h2 g a hp⟩
    | succ c ih =>
      intro n f a hc hf hp
      obtain ⟨g, rfl⟩ : ∃ g, f = g + 1 := ⟨f - 1, by omega⟩
      obtain ⟨a1, q1, e1⟩ := h1 n g a (by omega) hp
      obtain ⟨a2, q2, e2⟩ := ih (n + 1) g a1 (by omega) (by omega) q1
      exact ⟨a2, q2, e1.trans e2⟩
  exact key N 0 f a (by omega) hf h0
/-- a loop that may end before its time, always with the same -/
theorem pu_forX {N : Nat} {L : Nat → Nat → sr_Rs} {R : sr_Rs} {Q : Nat → Prop} (h1 : ∀ n g, n < N → Q n → (L (g + 1) n = L g (n + 1) ∧ Q (n + 1)) ∨ L (g + 1) n = R) (h2 : ∀ g, Q N → L (g + 1) N = R) {f : Nat} (hf : N < f) (h0 : Q 0) : L f 0 = R := by
  have key : ∀ c n f, n + c = N → c < f → Q n → L f n = R := by
    intro c
    induction c with
    | zero =>
      intro n f hc hf q
      obtain ⟨g, rfl⟩ : ∃ g, f = g + 1 := ⟨f - 1, by omega⟩
      have e : n = N := by omega
      subst e
      exact h2 g q
    | succ c ih =>
      intro n f hc hf q
      obtain ⟨g, rfl⟩ : ∃ g, f = g + 1 := ⟨f - 1, by omega⟩
      rcases h1 n g (by omega) q with ⟨e, q1⟩ | e
      · rw [e]
        exact ih (n + 1) g (by omega) (by omega) q1
      · exact e
  exact key N 0 f (by omega) hf h0
theorem am_s {D : Nat → Nat} {u : Nat → Bool} {n : Nat} : am D u (n + 1) = if u n = true ∧ (am D u n = 24 ∨ D n < D (am D u n)) then n else am D u n := rfl
theorem pu_fu {N : Nat} (h : N < 100000) : N < sr_fu := by unfold sr_fu; omega
theorem pu_ambr {D : Nat → Nat} {u : Nat → Bool} {n : Nat} {A B : sr_Rs} {V : Nat → Int32} (hn : n < 24) (hV : ∀ m, m < n → u m = true → V m = nI (D m)) (hD : ∀ m, D m < 4096) : (if nu (am D u n) = -1 then A else if nu (am D u n) < 0 ∨ 24 ≤ (nu (am D u n)).toNatClampNeg then none else if V (nu (am D u n)).toNatClampNeg ≤ nI (D n) then B else A) = if am D u n = 24 ∨ D n < D (am D u n) then A else B := by
  rcases am_cases (D := D) (u := u) n (by omega) with ⟨h1, h2⟩ | ⟨h1, h2, h3⟩
  · rw [h1, nu_24, if_pos rfl, if_pos (Or.inl rfl)]
  · have a := hD n
    have b := hD (am D u n)
    rw [nu_lt (by omega), if_neg (nI_m1 (by omega)), if_neg (nI_in (by omega) (by omega)), nI_clamp (by omega), hV _ h1 h2]
    simp (disch := omega) only [nI_leI]
    by_cases hd : D (am D u n) ≤ D n
    · rw [if_pos hd, if_neg (by omega)]
    · rw [if_neg hd, if_pos (by omega)]
theorem pu_hostOf {t : sr_t} {s : rg_T} {q : Nat} {a0 : Int32} (R : rg_RB t s) (O : rg_okB s) (ha : a0.toBitVec.toNat % 4096 = q) : F11_hostOf a0 t = some (.inl (some (sr_i (nu (rg_lb s q)))), t) := by
  obtain ⟨⟨hN, _⟩, hn⟩ := R
  obtain ⟨hN24, _, _, hp, _⟩ := O
  refine pu_for (N := rg_N s) (L := fun f n => f11_hostOf_4 a0 (f11_hostOf_58 a0) f (nu (am (fun n => pu_d (rg_p s n) q) (rg_u s) n)) (nI n) t) ?_ ?_ (pu_fu (by omega))
  · intro n g hlt
    obtain ⟨n1, n2, _⟩ := hn n hlt
    have p1 := hp n hlt
    have hcl : (nI n).toNatClampNeg = n := nI_clamp (by omega)
    have hK := pu_ambr (D := fun n => pu_d (rg_p s n) q) (u := rg_u s) (n := n) (V := fun m => (a0 - t.1 24 0 m) &&& 4095) (A := f11_hostOf_4 a0 (f11_hostOf_58 a0) g (nI n) (nI (n + 1)) t) (B := f11_hostOf_4 a0 (f11_hostOf_58 a0) g (nu (am (fun n => pu_d (rg_p s n) q) (rg_u s) n)) (nI (n + 1)) t) (by omega) (fun m hm _ => by
      show (a0 - t.1 24 0 m) &&& 4095 = _
      rw [(hn m (by omega)).1, pu_onr ha (hp m (by omega))]) (fun m => pu_d_lt _ _)
    show f11_hostOf_4 a0 (f11_hostOf_58 a0) (g + 1) _ _ _ = f11_hostOf_4 a0 (f11_hostOf_58 a0) g _ _ _
    conv => lhs; unfold f11_hostOf_4
    simp (disch := omega) only [f11_hostOf_52, f11_hostOf_50, hN, nI_leI, if_neg (show ¬ rg_N s ≤ n by omega), pu_n0, false_or, hcl, if_neg (show ¬ 24 ≤ n by omega), n1, n2, nI_1, pu_frq, pu_bI, pu_onr ha p1, bI_1]
    rw [am_s]
    by_cases hu : rg_u s n = true
    · rw [if_pos hu]
      refine hK.trans ?_
      by_cases hc : am (fun n => pu_d (rg_p s n) q) (rg_u s) n = 24 ∨ pu_d (rg_p s n) q < pu_d (rg_p s (am (fun n => pu_d (rg_p s n) q) (rg_u s) n)) q
      · rw [if_pos hc, if_pos ⟨hu, hc⟩, nu_lt (by omega)]
      · rw [if_neg hc, if_neg (fun h => hc h.2)]
    · rw [if_neg hu, if_neg (fun h => hu h.1)]
  · intro g
    show f11_hostOf_4 a0 (f11_hostOf_58 a0) (g + 1) _ _ _ = _
    unfold f11_hostOf_4
    rw [hN, if_pos (nI_le (Nat.le_refl _) (by omega))]
    rfl
/-- how many are up among the first n -/
def rg_cu (u : Nat → Bool) : Nat → Nat
  | 0 => 0
  | n + 1 => rg_cu u n + if u n then 1 else 0
theorem rg_cu_s {u : Nat → Bool} {n : Nat} : rg_cu u (n + 1) = rg_cu u n + if u n then 1 else 0 := rfl
theorem rg_cu_le (u : Nat → Bool) : ∀ n, rg_cu u n ≤ n := by
  intro n
  induction n with
  | zero => exact Nat.le_refl _
  | succ n ih => unfold rg_cu; split <;> omega
theorem pu_ups {t : sr_t} {s : rg_T} (R : rg_RB t s) (O : rg_okB s) : F11_ups t = some (.inl (some (sr_i (nI (rg_cu (rg_u s) (rg_N s))))), t) := by
  obtain ⟨⟨hN, _⟩, hn⟩ := R
  have hN24 := O.1
  refine pu_for (N := rg_N s) (L := fun f n => f11_ups_4 f11_ups_27 f (nI (rg_cu (rg_u s) n)) (nI n) t) ?_ ?_ (pu_fu (by omega))
  · intro n g hlt
    obtain ⟨n1, n2, _⟩ := hn n hlt
    have hcl : (nI n).toNatClampNeg = n := nI_clamp (by omega)
    show f11_ups_4 f11_ups_27 (g + 1) _ _ _ = f11_ups_4 f11_ups_27 g _ _ _
    conv => lhs; unfold f11_ups_4
    simp (disch := omega) only [hN, nI_leI, if_neg (show ¬ rg_N s ≤ n by omega), pu_n0, false_or, hcl, if_neg (show ¬ 24 ≤ n by omega), n2, nI_1]
    rw [rg_cu_s]
    cases rg_u s n with
    | true => rw [bI_t, nI_1]; rfl
    | false => rw [bI_f, ← nI_0, nI_add]; rfl
  · intro g
    show f11_ups_4 f11_ups_27 (g + 1) _ _ _ = _
    unfold f11_ups_4
    rw [hN, if_pos (nI_le (Nat.le_refl _) (by omega))]
    rfl
def rg_ldR (s : rg_T) (m : Nat) : Nat := if rg_bk s m = 24 then 4096 else pu_d (rg_p s (rg_bk s m)) (rg_p s m)
theorem pu_loadOf {t : sr_t} {s : rg_T} {m : Nat} (R : rg_RB t s) (O : rg_okB s) (hm : m < rg_N s) : F11_loadOf (nI m) t = some (.inl (some (sr_i (nI (rg_ldR s m)))), t) := by
  obtain ⟨⟨hN, _⟩, hn⟩ := R
  obtain ⟨hN24, _, _, hp, _⟩ := O
  have hmc : (nI m).toNatClampNeg = m := nI_clamp (by omega)
  have m1 := (hn m hm).1
  refine pu_for (N := rg_N s) (L := fun f n => f11_loadOf_4 (nI m) (f11_loadOf_73 (nI m)) f (nu (am (fun n => pu_d (rg_p s n) (rg_p s m)) (fun n => rg_u s n && n != m) n)) (nI n) t) ?_ ?_ (pu_fu (by omega))
  · intro n g hlt
    obtain ⟨n1, n2, _⟩ := hn n hlt
    have p1 := hp n hlt
    have pm := hp m hm
    have hcl : (nI n).toNatClampNeg = n := nI_clamp (by omega)
    have ha : (nI (rg_p s m)).toBitVec.toNat % 4096 = rg_p s m := by rw [pu_qn (by omega), Nat.mod_eq_of_lt pm]
    have hK := pu_ambr (D := fun n => pu_d (rg_p s n) (rg_p s m)) (u := fun n => rg_u s n && n != m) (n := n) (V := fun k => (nI (rg_p s m) - t.1 24 0 k) &&& 4095) (A := f11_loadOf_4 (nI m) (f11_loadOf_73 (nI m)) g (nI n) (nI (n + 1)) t) (B := f11_loadOf_4 (nI m) (f11_loadOf_73 (nI m)) g (nu (am (fun n => pu_d (rg_p s n) (rg_p s m)) (fun n => rg_u s n && n != m) n)) (nI (n + 1)) t) (by omega) (fun k hk _ => by
      show (nI (rg_p s m) - t.1 24 0 k) &&& 4095 = _
      rw [(hn k (by omega)).1, pu_onr ha (hp k (by omega))]) (fun k => pu_d_lt _ _)
    show f11_loadOf_4 (nI m) (f11_loadOf_73 (nI m)) (g + 1) _ _ _ = f11_loadOf_4 (nI m) (f11_loadOf_73 (nI m)) g _ _ _
    conv => lhs; unfold f11_loadOf_4
    simp (disch := omega) only [f11_loadOf_67, f11_loadOf_65, hN, nI_leI, nI_eq, if_neg (show ¬ rg_N s ≤ n by omega), pu_n0, false_or, hcl, hmc, m1, if_neg (show ¬ 24 ≤ n by omega), if_neg (show ¬ 24 ≤ m by omega), n1, n2, nI_1, pu_frq, pu_bI, pu_onr ha p1, bI_1]
    rw [am_s]
    by_cases hu : rg_u s n = true ∧ n ≠ m
    · have hu' : (rg_u s n && n != m) = true := by simp [hu.1, hu.2]
      rw [if_neg hu.2, if_pos hu.1]
      refine hK.trans ?_
      by_cases hc : am (fun n => pu_d (rg_p s n) (rg_p s m)) (fun n => rg_u s n && n != m) n = 24 ∨ pu_d (rg_p s n) (rg_p s m) < pu_d (rg_p s (am (fun n => pu_d (rg_p s n) (rg_p s m)) (fun n => rg_u s n && n != m) n)) (rg_p s m)
      · rw [if_pos hc, if_pos ⟨hu', hc⟩, nu_lt (by omega)]
      · rw [if_neg hc, if_neg (fun h => hc h.2)]
    · have hu' : ¬ (rg_u s n && n != m) = true := fun h => hu (by simpa using h)
      by_cases h1 : n = m
      · rw [if_pos h1, if_neg (fun h => hu' h.1)]
      · rw [if_neg h1, if_neg (show ¬ rg_u s n = true from fun h => hu ⟨h, h1⟩), if_neg (fun h => hu' h.1)]
  · intro g
    show f11_loadOf_4 (nI m) (f11_loadOf_73 (nI m)) (g + 1) _ _ _ = _
    unfold f11_loadOf_4
    rw [hN, if_pos (nI_le (Nat.le_refl _) (by omega))]
    have pm := hp m hm
    have ha : (nI (rg_p s m)).toBitVec.toNat % 4096 = rg_p s m := by rw [pu_qn (by omega), Nat.mod_eq_of_lt pm]
    have hle := am_cases (D := fun n => pu_d (rg_p s n) (rg_p s m)) (u := fun n => rg_u s n && n != m) (rg_N s) hN24
    show f11_loadOf_73 (nI m) (nu (rg_bk s m)) t = _
    unfold f11_loadOf_73 rg_ldR
    rcases hle with ⟨h1, _⟩ | ⟨h1, _⟩
    · have h1 : rg_bk s m = 24 := h1
      rw [h1, nu_24, if_pos rfl, if_pos rfl]
      rfl
    · have h1 : rg_bk s m < rg_N s := h1
      rw [nu_lt (by omega), if_neg (nI_m1 (by omega)), if_neg (nI_in (by omega) (by omega)), if_neg (nI_in (by omega) (by omega)), nI_clamp (by omega), (hn _ h1).1, hmc, m1, if_neg (by omega), pu_frq, pu_bI, pu_onr ha (hp _ h1)]
      rfl
