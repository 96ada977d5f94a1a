/-! fewer locals; the field words of the classes -/
def sr_le : List (Option sr_V) → List (Option sr_V) → Prop
  | [], _ => True
  | none :: a, _ :: b => sr_le a b
  | some v :: a, o :: b => o = some v ∧ sr_le a b
  | _ :: _, [] => False
theorem sr_le_at : ∀ (L' L : List (Option sr_V)), sr_le L' L → ∀ (j : Nat) (v : sr_V), L'[j]? = some (some v) → L[j]? = some (some v)
  | [], _, _, j, v, h => by simp at h
  | none :: a, [], hl, j, v, h => by simp [sr_le] at hl
  | some w :: a, [], hl, j, v, h => by simp [sr_le] at hl
  | none :: a, o :: b, hl, j, v, h => by
    cases j with
    | zero => simp at h
    | succ j => simpa using sr_le_at a b hl j v (by simpa using h)
  | some w :: a, o :: b, hl, j, v, h => by
    obtain ⟨h1, h2⟩ := hl
    cases j with
    | zero => simp at h; subst h; simp [h1]
    | succ j => simpa using sr_le_at a b h2 j v (by simpa using h)
theorem sr_wk {α : Type} {em : α → sr_H} {l : Launch} {M : sr_M} {pc : Nat} {L L' : List (Option sr_V)} {S : List sr_V} {t : α} {x : Option (sr_O × α)} {mc ms : Nat} (kk : sr_G em l M pc L' S t x mc ms) (h : sr_le L' L) : sr_G em l M pc L S t x mc ms := by
  intro r t' hx p e R s m args below meth c D dA b H locs ls cells slots C Wd hL h1 h2 h3 h4 h5
  refine kk r t' hx p e R s m args below meth c D dA b H locs ls cells slots C Wd ⟨hL.1, hL.2.1, fun q hq => ?_⟩ h1 h2 h3 h4 h5
  obtain ⟨j, v, e1, e2⟩ := (sr_lv_mem _ 0 q).mp hq
  exact hL.2.2 q ((sr_lv_mem _ 0 q).mpr ⟨j, v, sr_le_at _ _ h j v e1, e2⟩)
theorem uw_0 : ∀ w ∈ u_ws RX0 TX0 4, w ∈ sr_TB := by decide +kernel
theorem uw_1 : ∀ w ∈ u_ws RX1 TX1 2, w ∈ sr_TB := by decide +kernel
theorem uw_2 : ∀ w ∈ u_ws RX2 TX2 8, w ∈ sr_TB := by decide +kernel
theorem uw_3 : ∀ w ∈ u_ws RX3 TX3 9, w ∈ sr_TB := by decide +kernel
theorem uw_4 : ∀ w ∈ u_ws RX4 TX4 2, w ∈ sr_TB := by decide +kernel
theorem uw_5 : ∀ w ∈ u_ws RX5 TX5 11, w ∈ sr_TB := by decide +kernel
theorem uw_6 : ∀ w ∈ u_ws RX6 TX6 5, w ∈ sr_TB := by decide +kernel
theorem uw_7 : ∀ w ∈ u_ws RX7 TX7 3, w ∈ sr_TB := by decide +kernel
theorem uw_8 : ∀ w ∈ u_ws RX8 TX8 17, w ∈ sr_TB := by decide +kernel
theorem uw_9 : ∀ w ∈ u_ws RX9 TX9 3, w ∈ sr_TB := by decide +kernel
theorem uw_10 : ∀ w ∈ u_ws RX10 TX10 7, w ∈ sr_TB := by decide +kernel
theorem uw_11 : ∀ w ∈ u_ws RX11 TX11 53, w ∈ sr_TB := by decide +kernel
