/-! the loops that look for the nearest, in closed form -/
theorem pu_onq {a : Int32} {q b : Nat} (ha : a.toBitVec.toNat % 4096 = q) (hb : b < 4096) : (nI b - a) &&& 4095 = nI (pu_d q b) := by
  rw [pk_and _ 12 (by decide)]
  congr 1
  have h0 : (nI b - a).toBitVec = BitVec.ofNat 32 b - a.toBitVec := rfl
  have hlt := a.toBitVec.isLt
  rw [h0]
  simp only [BitVec.toNat_sub, BitVec.toNat_ofNat, pu_d]
  omega
theorem pu_onr {a : Int32} {q b : Nat} (ha : a.toBitVec.toNat % 4096 = q) (hb : b < 4096) : (a - nI b) &&& 4095 = nI (pu_d b q) := by
  rw [pk_and _ 12 (by decide)]
  congr 1
  have h0 : (a - nI b).toBitVec = a.toBitVec - BitVec.ofNat 32 b := rfl
  have hlt := a.toBitVec.isLt
  rw [h0]
  simp only [BitVec.toNat_sub, BitVec.toNat_ofNat, pu_d]
  omega
theorem pu_pl (x : Int32) : (x + 4096) &&& 4095 = x &&& 4095 := by
  rw [pk_and _ 12 (by decide), pk_and _ 12 (by decide)]
  have h0 : (x + 4096).toBitVec = x.toBitVec + (4096 : Int32).toBitVec := rfl
  have h2 : (4096 : Int32).toBitVec = BitVec.ofNat 32 4096 := by decide
  have e : (x + 4096).toBitVec.toNat % 2 ^ 12 = x.toBitVec.toNat % 2 ^ 12 := by
    rw [h0, h2]
    simp only [BitVec.toNat_add, BitVec.toNat_ofNat]
    omega
  rw [e]
theorem pu_n0 {c : Nat} (h : c < 2 ^ 31) : (nI c < 0) = False := eq_false (nI_pos h)
theorem pu_frq {a b : Int32} {t : sr_t} : F11_from a b t = some (.inl (some (sr_i ((b - a) &&& 4095))), t) := by
  unfold F11_from
  rw [pu_pl]
theorem pu_qn {p : Nat} (h : p < 2 ^ 31) : (nI p).toBitVec.toNat % 4096 = p % 4096 := by rw [pk_tn (by omega)]
theorem pu_q1 {p : Nat} (h : p < 4096) : (nI p - 1).toBitVec.toNat % 4096 = (p + 4095) % 4096 := by
  have h0 : (nI p - 1).toBitVec = BitVec.ofNat 32 p - BitVec.ofNat 32 1 := rfl
  rw [h0]
  simp only [BitVec.toNat_sub, BitVec.toNat_ofNat]
  omega
def rg_ff (s : rg_T) (q : Nat) : Nat := am (fun n => pu_d q (rg_p s n)) (rg_u s) (rg_N s)
def rg_lb (s : rg_T) (q : Nat) : Nat := am (fun n => pu_d (rg_p s n) q) (rg_u s) (rg_N s)
/-- the first behind a place -/
def rg_fb (s : rg_T) (q : Nat) : Nat := am (fun n => pu_d q (rg_p s n)) (fun n => rg_u s n && rg_p s n != q) (rg_N s)
/-- the last of the others before a node -/
def rg_bk (s : rg_T) (m : Nat) : Nat := am (fun n => pu_d (rg_p s n) (rg_p s m)) (fun n => rg_u s n && n != m) (rg_N s)
theorem pu_of24 {i0 : Nat} {t : sr_t} {n : Nat} (hn : n ≤ 24) : F3_of i0 (nu n) t = some (.inl (some (sr_r 2 (25 * i0 + n))), t) := by
  by_cases h : n = 24
  · subst h
    rfl
  · rw [nu_lt (by omega)]
    exact pu_of (by omega)
theorem pu_ffLoop {t : sr_t} {s : rg_T} {r q : Nat} {a0 : Int32} {k69 : Nat → sr_t → sr_Rs} (C : rg_B t r s) (O : rg_okB s) (hr : r < 2) (ha : a0.toBitVec.toNat % 4096 = q) : ∀ (c n f : Nat), n + c = rg_N s → c < f → f3_firstFrom_12 r a0 k69 f (25 * r + am (fun n => pu_d q (rg_p s n)) (rg_u s) n) (nI (am_lt (fun n => pu_d q (rg_p s n)) (rg_u s) n)) (nI n) t = k69 (25 * r + rg_ff s q) t := by
  obtain ⟨⟨hN, _⟩, _, hn⟩ := C
  obtain ⟨hN24, _, _, hp, _⟩ := O
  intro c
  induction c with
  | zero =>
    intro n f hc hf
    obtain ⟨g, rfl⟩ : ∃ g, f = g + 1 := ⟨f - 1, by omega⟩
    have e : n = rg_N s := by omega
    subst e
    unfold f3_firstFrom_12
    rw [hN, if_pos (nI_le (Nat.le_refl _) (by omega))]
    rfl
  | succ c ih =>
    intro n f hc hf
    obtain ⟨g, rfl⟩ : ∃ g, f = g + 1 := ⟨f - 1, by omega⟩
    have ih := ih (n + 1) g (by omega) (by omega)
    have hlt : ¬ nI (rg_N s) ≤ nI n := nI_ge (by omega) (by omega)
    obtain ⟨n1, n2, _⟩ := hn n (by omega)
    have p1 := hp n (by omega)
    unfold f3_firstFrom_12
    rw [hN, if_neg hlt, pu_of (by omega), pu_bR (by omega)]
    simp only [f3_firstFrom_63, nI_1, n2, n1, pu_onward, pu_nt, pu_bI, pu_onq ha p1, bI_0]
    have d1 := pu_d_lt q (rg_p s n)
    have hle := am_le (D := fun n => pu_d q (rg_p s n)) (u := rg_u s) (N := n) (by omega)
    have hl4 : am_lt (fun n => pu_d q (rg_p s n)) (rg_u s) n ≤ 4096 := by
      unfold am_lt
      split
      · omega
      · exact Nat.le_of_lt (pu_d_lt _ _)
    simp (disch := omega) only [nI_leI]
    by_cases hu : rg_u s n = true
    · rw [if_neg (by rw [hu]; decide)]
      by_cases hd : am_lt (fun n => pu_d q (rg_p s n)) (rg_u s) n ≤ pu_d q (rg_p s n)
      · rw [if_pos hd]
        have e := am_stepN (D := fun n => pu_d q (rg_p s n)) (u := rg_u s) (n := n) (by
          unfold am_lt at hd
          split at hd
          · omega
          · rintro ⟨_, h | h⟩
            · contradiction
            · exact absurd h (Nat.not_lt.mpr hd))
        have e2 : am_lt (fun n => pu_d q (rg_p s n)) (rg_u s) (n + 1) = am_lt (fun n => pu_d q (rg_p s n)) (rg_u s) n := by unfold am_lt; rw [e]
        rw [e, e2] at ih
        exact ih
      · rw [if_neg hd]
        have e := am_stepY (D := fun n => pu_d q (rg_p s n)) (u := rg_u s) (n := n) hu (by
          unfold am_lt at hd
          split at hd
          · left; assumption
          · right; exact Nat.lt_of_not_le hd)
        have e2 : am_lt (fun n => pu_d q (rg_p s n)) (rg_u s) (n + 1) = pu_d q (rg_p s n) := by unfold am_lt; rw [e, if_neg (by omega)]
        rw [e, e2] at ih
        exact ih
    · rw [if_pos (by simpa using hu)]
      have e := am_stepN (D := fun n => pu_d q (rg_p s n)) (u := rg_u s) (n := n) (fun h => hu h.1)
      have e2 : am_lt (fun n => pu_d q (rg_p s n)) (rg_u s) (n + 1) = am_lt (fun n => pu_d q (rg_p s n)) (rg_u s) n := by unfold am_lt; rw [e]
      rw [e, e2] at ih
      exact ih
theorem pu_firstFrom {t : sr_t} {s : rg_T} {r q : Nat} {a0 : Int32} (C : rg_B t r s) (O : rg_okB s) (hr : r < 2) (ha : a0.toBitVec.toNat % 4096 = q) : F3_firstFrom r a0 t = some (.inl (some (sr_r 2 (25 * r + rg_ff s q))), t) :=
  pu_ffLoop C O hr ha (rg_N s) 0 sr_fu (by omega) (by unfold sr_fu; have := O.1; omega)
theorem pu_lbLoop {t : sr_t} {s : rg_T} {r q : Nat} {a0 : Int32} {k69 : Nat → sr_t → sr_Rs} (C : rg_B t r s) (O : rg_okB s) (hr : r < 2) (ha : a0.toBitVec.toNat % 4096 = q) : ∀ (c n f : Nat), n + c = rg_N s → c < f → f3_lastBackFrom_12 r a0 k69 f (25 * r + am (fun n => pu_d (rg_p s n) q) (rg_u s) n) (nI (am_lt (fun n => pu_d (rg_p s n) q) (rg_u s) n)) (nI n) t = k69 (25 * r + rg_lb s q) t := by
  obtain ⟨⟨hN, _⟩, _, hn⟩ := C
  obtain ⟨hN24, _, _, hp, _⟩ := O
  intro c
  induction c with
  | zero =>
    intro n f hc hf
    obtain ⟨g, rfl⟩ : ∃ g, f = g + 1 := ⟨f - 1, by omega⟩
    have e : n = rg_N s := by omega
    subst e
    unfold f3_lastBackFrom_12
    rw [hN, if_pos (nI_le (Nat.le_refl _) (by omega))]
    rfl
  | succ c ih =>
    intro n f hc hf
    obtain ⟨g, rfl⟩ : ∃ g, f = g + 1 := ⟨f - 1, by omega⟩
    have ih := ih (n + 1) g (by omega) (by omega)
    have hlt : ¬ nI (rg_N s) ≤ nI n := nI_ge (by omega) (by omega)
    obtain ⟨n1, n2, _⟩ := hn n (by omega)
    have p1 := hp n (by omega)
    unfold f3_lastBackFrom_12
    rw [hN, if_neg hlt, pu_of (by omega), pu_bR (by omega)]
    simp only [f3_lastBackFrom_63, nI_1, n2, n1, pu_onward, pu_nt, pu_bI, pu_onr ha p1, bI_0]
    have d1 := pu_d_lt (rg_p s n) q
    have hle := am_le (D := fun n => pu_d (rg_p s n) q) (u := rg_u s) (N := n) (by omega)
    have hl4 : am_lt (fun n => pu_d (rg_p s n) q) (rg_u s) n ≤ 4096 := by
      unfold am_lt
      split
      · omega
      · exact Nat.le_of_lt (pu_d_lt _ _)
    simp (disch := omega) only [nI_leI]
    by_cases hu : rg_u s n = true
    · rw [if_neg (by rw [hu]; decide)]
      by_cases hd : am_lt (fun n => pu_d (rg_p s n) q) (rg_u s) n ≤ pu_d (rg_p s n) q
      · rw [if_pos hd]
        have e := am_stepN (D := fun n => pu_d (rg_p s n) q) (u := rg_u s) (n := n) (by
          unfold am_lt at hd
          split at hd
          · omega
          · rintro ⟨_, h | h⟩
            · contradiction
            · exact absurd h (Nat.not_lt.mpr hd))
        have e2 : am_lt (fun n => pu_d (rg_p s n) q) (rg_u s) (n + 1) = am_lt (fun n => pu_d (rg_p s n) q) (rg_u s) n := by unfold am_lt; rw [e]
        rw [e, e2] at ih
        exact ih
      · rw [if_neg hd]
        have e := am_stepY (D := fun n => pu_d (rg_p s n) q) (u := rg_u s) (n := n) hu (by
          unfold am_lt at hd
          split at hd
          · left; assumption
          · right; exact Nat.lt_of_not_le hd)
        have e2 : am_lt (fun n => pu_d (rg_p s n) q) (rg_u s) (n + 1) = pu_d (rg_p s n) q := by unfold am_lt; rw [e, if_neg (by omega)]
        rw [e, e2] at ih
        exact ih
    · rw [if_pos (by simpa using hu)]
      have e := am_stepN (D := fun n => pu_d (rg_p s n) q) (u := rg_u s) (n := n) (fun h => hu h.1)
      have e2 : am_lt (fun n => pu_d (rg_p s n) q) (rg_u s) (n + 1) = am_lt (fun n => pu_d (rg_p s n) q) (rg_u s) n := by unfold am_lt; rw [e]
      rw [e, e2] at ih
      exact ih
theorem pu_lastBack {t : sr_t} {s : rg_T} {r q : Nat} {a0 : Int32} (C : rg_B t r s) (O : rg_okB s) (hr : r < 2) (ha : a0.toBitVec.toNat % 4096 = q) : F3_lastBackFrom r a0 t = some (.inl (some (sr_r 2 (25 * r + rg_lb s q))), t) :=
  pu_lbLoop C O hr ha (rg_N s) 0 sr_fu (by omega) (by unfold sr_fu; have := O.1; omega)
theorem pu_upLoop {t : sr_t} {s : rg_T} {q : Nat} {w : Bool} {k80 : Int32 → sr_t → sr_Rs} (R : rg_RB t s) (O : rg_okB s) (hq : q < 4096) : ∀ (c n f : Nat), n + c = rg_N s → c < f → f11_upFrom_5 (nI q) (bI w) k80 f (nu (am (fun n => pu_d q (rg_p s n)) (fun n => rg_u s n && (w || rg_p s n != q)) n)) (nI n) t = k80 (nu (am (fun n => pu_d q (rg_p s n)) (fun n => rg_u s n && (w || rg_p s n != q)) (rg_N s))) t := by
  obtain ⟨⟨hN, _⟩, hn⟩ := R
  obtain ⟨hN24, _, _, hp, _⟩ := O
  intro c
  induction c with
  | zero =>
    intro n f hc hf
    obtain ⟨g, rfl⟩ : ∃ g, f = g + 1 := ⟨f - 1, by omega⟩
    have e : n = rg_N s := by omega
    subst e
    unfold f11_upFrom_5
    rw [hN, if_pos (nI_le (Nat.le_refl _) (by omega))]
  | succ c ih =>
    intro n f hc hf
    obtain ⟨g, rfl⟩ : ∃ g, f = g + 1 := ⟨f - 1, by omega⟩
    have ih := ih (n + 1) g (by omega) (by omega)
    have hlt : ¬ nI (rg_N s) ≤ nI n := nI_ge (by omega) (by omega)
    obtain ⟨n1, n2, _⟩ := hn n (by omega)
    have p1 := hp n (by omega)
    have hin : ¬ (24 ≤ n) := by omega
    have h0 := pu_n0 (c := n) (by omega)
    have hcl : (nI n).toNatClampNeg = n := nI_clamp (by omega)
    unfold f11_upFrom_5
    simp only [f11_upFrom_74, f11_upFrom_71, f11_upFrom_42, hN, if_neg hlt, h0, false_or, if_neg hin, nI_1, hcl, n1, n2, pu_frq, pu_bI, pu_onq (pu_qn (show q < 2 ^ 31 by omega)) p1, bI_0, nI_eq (show rg_p s n < 2 ^ 31 by omega) (show q < 2 ^ 31 by omega)]
    rw [Nat.mod_eq_of_lt hq]
    have d1 := pu_d_lt q (rg_p s n)
    by_cases hu : rg_u s n = true ∧ (w = true ∨ rg_p s n ≠ q)
    · have hu' : (fun n => rg_u s n && (w || rg_p s n != q)) n = true := by
        rcases hu with ⟨h1, h2 | h2⟩
        · simp [h1, h2]
        · simp [h1, h2]
      rw [if_neg (by rw [hu.1]; decide)]
      have key : ∀ z : sr_Rs, (if nu (am (fun n => pu_d q (rg_p s n)) (fun n => rg_u s n && (w || rg_p s n != q)) n) = -1 then f11_upFrom_5 (nI q) (bI w) k80 g (nI n) (nI (n + 1)) t else if nu (am (fun n => pu_d q (rg_p s n)) (fun n => rg_u s n && (w || rg_p s n != q)) n) < 0 ∨ 24 ≤ (nu (am (fun n => pu_d q (rg_p s n)) (fun n => rg_u s n && (w || rg_p s n != q)) n)).toNatClampNeg then none else if ((t.1 24 0 (nu (am (fun n => pu_d q (rg_p s n)) (fun n => rg_u s n && (w || rg_p s n != q)) n)).toNatClampNeg - nI q) &&& 4095) ≤ nI (pu_d q (rg_p s n)) then f11_upFrom_5 (nI q) (bI w) k80 g (nu (am (fun n => pu_d q (rg_p s n)) (fun n => rg_u s n && (w || rg_p s n != q)) n)) (nI (n + 1)) t else f11_upFrom_5 (nI q) (bI w) k80 g (nI n) (nI (n + 1)) t) = k80 (nu (am (fun n => pu_d q (rg_p s n)) (fun n => rg_u s n && (w || rg_p s n != q)) (rg_N s))) t := by
        intro z
        rcases am_cases (D := fun n => pu_d q (rg_p s n)) (u := fun n => rg_u s n && (w || rg_p s n != q)) n (by omega) with ⟨h1, h2⟩ | ⟨h1, h2, h3⟩
        · rw [h1, nu_24, if_pos rfl]
          rw [am_stepY hu' (Or.inl h1), nu_lt (by omega)] at ih
          exact ih
        · rw [nu_lt (by omega), if_neg (nI_m1 (by omega)), if_neg (nI_in (by omega) (by omega)), nI_clamp (by omega), (hn _ (by omega)).1, pu_onq (pu_qn (show q < 2 ^ 31 by omega)) (hp _ (by omega)), Nat.mod_eq_of_lt hq]
          have d2 := pu_d_lt q (rg_p s (am (fun n => pu_d q (rg_p s n)) (fun n => rg_u s n && (w || rg_p s n != q)) n))
          simp (disch := omega) only [nI_leI]
          by_cases hd : pu_d q (rg_p s (am (fun n => pu_d q (rg_p s n)) (fun n => rg_u s n && (w || rg_p s n != q)) n)) ≤ pu_d q (rg_p s n)
          · rw [if_pos hd]
            rw [am_stepN (by rintro ⟨_, h | h⟩ <;> omega), nu_lt (by omega)] at ih
            exact ih
          · rw [if_neg hd]
            rw [am_stepY hu' (Or.inr (by omega)), nu_lt (by omega)] at ih
            exact ih
      cases w with
      | true => rw [if_neg (by decide)]; exact key none
      | false =>
        rw [if_pos rfl, if_neg (hu.2.elim (fun h => absurd h (by decide)) id)]
        exact key none
    · have hu' : ¬ ((fun n => rg_u s n && (w || rg_p s n != q)) n = true) := by
        intro h
        apply hu
        simpa using h
      rw [am_stepN (fun h => hu' h.1)] at ih
      by_cases h1 : rg_u s n = true
      · rw [if_neg (by rw [h1]; decide)]
        have h2 : w = false ∧ rg_p s n = q := by
          constructor
          · cases w with
            | true => exact absurd ⟨h1, Or.inl rfl⟩ hu
            | false => rfl
          · apply Decidable.byContradiction
            intro h
            exact hu ⟨h1, Or.inr h⟩
        rw [if_pos h2.1, if_pos h2.2]
        exact ih
      · rw [if_pos (by simpa using h1)]
        exact ih
theorem pu_upFrom1 {t : sr_t} {s : rg_T} {q : Nat} (R : rg_RB t s) (O : rg_okB s) (hq : q < 4096) : F11_upFrom (nI q) 1 t = some (.inl (some (sr_i (nu (rg_ff s q)))), t) := by
  have h := pu_upLoop (w := true) (k80 := f11_upFrom_80 (nI q) 1) R O hq (rg_N s) 0 sr_fu (by omega) (by unfold sr_fu; have := O.1; omega)
  have e : rg_ff s q = am (fun n => pu_d q (rg_p s n)) (fun n => rg_u s n && (true || rg_p s n != q)) (rg_N s) := am_congr _ O.1 (fun n _ => by simp) (fun _ _ _ => rfl)
  rw [e]
  exact h
theorem pu_upFrom0 {t : sr_t} {s : rg_T} {q : Nat} (R : rg_RB t s) (O : rg_okB s) (hq : q < 4096) : F11_upFrom (nI q) 0 t = some (.inl (some (sr_i (nu (rg_fb s q)))), t) := by
  have h := pu_upLoop (w := false) (k80 := f11_upFrom_80 (nI q) 0) R O hq (rg_N s) 0 sr_fu (by omega) (by unfold sr_fu; have := O.1; omega)
  have e : rg_fb s q = am (fun n => pu_d q (rg_p s n)) (fun n => rg_u s n && (false || rg_p s n != q)) (rg_N s) := am_congr _ O.1 (fun n _ => by simp) (fun _ _ _ => rfl)
  rw [e]
  exact h
