/-! values, heaps by families, worlds -/
abbrev sr_V : Type := Int32 ⊕ (Int64 ⊕ Option (Nat × Nat))
abbrev sr_i (x : Int32) : sr_V := .inl x
abbrev sr_l (x : Int64) : sr_V := .inr (.inl x)
abbrev sr_r (k i : Nat) : sr_V := .inr (.inr (some (k, i)))
abbrev sr_n : sr_V := .inr (.inr none)
def sr_cv (ad : Nat → Nat → Nat) (v : sr_V) : Value := match v with
  | .inl x => .int x
  | .inr (.inl x) => .long x
  | .inr (.inr none) => .null
  | .inr (.inr (some q)) => .ref (ad q.1 q.2)
def sr_I (v : sr_V) : Int32 := match v with
  | .inl x => x
  | _ => 0
def sr_L (v : sr_V) : Int64 := match v with
  | .inr (.inl x) => x
  | _ => 0
def sr_R (ad : Nat → Nat → Nat) (v : sr_V) : Option Nat := match v with
  | .inr (.inr (some q)) => some (ad q.1 q.2)
  | _ => none
def sr_kds : List (Nat ⊕ (Nat × Nat)) := [.inl 4, .inl 2, .inl 8, .inl 9, .inl 2, .inl 11, .inl 5, .inl 3, .inl 17, .inl 3, .inl 7, .inl 53,
  .inr (0, 8), .inr (2, 24), .inr (0, 800), .inr (0, 24), .inr (0, 576), .inr (0, 24), .inr (1, 48), .inr (0, 48), .inr (0, 24), .inr (0, 24), .inr (3, 32), .inr (1, 1),
  .inr (0, 24), .inr (0, 24), .inr (0, 24), .inr (0, 336), .inr (0, 336), .inr (0, 200), .inr (0, 200), .inr (0, 200), .inr (0, 200), .inr (0, 9), .inr (0, 4), .inr (0, 24), .inr (0, 576), .inr (0, 32), .inr (0, 32), .inr (0, 768), .inr (0, 768), .inr (0, 14), .inr (0, 24), .inr (0, 24), .inr (0, 48), .inr (0, 2304), .inr (0, 48)]
def sr_kd (k : Nat) : Nat ⊕ (Nat × Nat) := sr_kds.getD k (.inl 0)
abbrev sr_S : Type := Nat → Nat → Nat → sr_V
/-- names that are there, whether things are still being made, contents -/
abbrev sr_H : Type := List (Nat × Nat) × Bool × sr_S
def sr_up (s : sr_S) (k i j : Nat) (v : sr_V) : sr_S := fun k' i' j' => if k' = k ∧ i' = i ∧ j' = j then v else s k' i' j'
def sr_ct (ad : Nat → Nat → Nat) (ty : Nat) (f : Nat → sr_V) : (Nat → Int32) ⊕ (Nat → Int64) ⊕ (Nat → UInt32) ⊕ (Nat → UInt64) ⊕ (Nat → Option Nat) := match ty with
  | 0 => .inl (fun j => sr_I (f j))
  | 1 => .inr (.inl (fun j => sr_L (f j)))
  | _ => .inr (.inr (.inr (.inr (fun j => sr_R ad (f j)))))
def sr_cE (ad : Nat → Nat → Nat) (dA : Nat → ClassId) (s : sr_S) (k i : Nat) : va_E := match sr_kd k with
  | .inl n => .inr (k, (List.range n).map (fun j => sr_cv ad (s k i j)))
  | .inr (ty, n) => .inl (dA ty, n, sr_ct ad ty (s k i))
def sr_cs (ad : Nat → Nat → Nat) (dA : Nat → ClassId) (h : sr_H) : va_W := h.1.map (fun q => (ad q.1 q.2, sr_cE ad dA h.2.2 q.1 q.2))
def sr_ft (t : Nat) : FieldType := match t with
  | 0 => .int
  | 1 => .long
  | 2 => .object RX2
  | _ => .object RX0
def sr_tys (dA : Nat → ClassId) : List (ClassId × FieldType) := [(dA 0, .int), (dA 1, .long), (dA 2, .object RX2), (dA 3, .object RX0)]
theorem sr_at {ad : Nat → Nat → Nat} {dA : Nat → ClassId} {h : sr_H} {k i : Nat} (hm : (k, i) ∈ h.1) : ∃ q0 : Nat, h.1[q0]? = some (k, i) ∧ (sr_cs ad dA h)[q0]? = some (ad k i, sr_cE ad dA h.2.2 k i) := by
  obtain ⟨q0, hq⟩ := List.getElem?_of_mem hm
  exact ⟨q0, hq, by simp [sr_cs, hq]⟩
theorem sr_cE_up_ne {ad : Nat → Nat → Nat} {dA : Nat → ClassId} {s : sr_S} {k i j : Nat} {v : sr_V} {k' i' : Nat} (h : ¬ (k' = k ∧ i' = i)) : sr_cE ad dA (sr_up s k i j v) k' i' = sr_cE ad dA s k' i' := by
  have h1 : (sr_up s k i j v) k' i' = s k' i' := by
    funext j'
    simp only [sr_up]
    rw [if_neg]
    intro ⟨a, b, _⟩
    exact h ⟨a, b⟩
  simp only [sr_cE, h1]
/-- one cell's new content, seen from the whole -/
theorem sr_set {ad : Nat → Nat → Nat} {dA : Nat → ClassId} {A : Nat → Prop} {h : sr_H} {k i j q0 : Nat} {v : sr_V} {E : va_E} (hD : va_D A (sr_cs ad dA h)) (hq : h.1[q0]? = some (k, i)) (hE : sr_cE ad dA (sr_up h.2.2 k i j v) k i = E) :
    (sr_cs ad dA h).set q0 (ad k i, E) = sr_cs ad dA (h.1, h.2.1, sr_up h.2.2 k i j v) := by
  apply List.ext_getElem?
  intro t
  rw [List.getElem?_set]
  by_cases ht : q0 = t
  · subst ht
    rw [if_pos rfl, if_pos (by simp only [sr_cs, List.length_map]; exact (List.getElem?_eq_some_iff.mp hq).1)]
    simp [sr_cs, hq, hE]
  · rw [if_neg ht]
    simp only [sr_cs, List.getElem?_map]
    cases hx : h.1[t]? with
    | none => rfl
    | some q =>
      obtain ⟨k', i'⟩ := q
      simp only [Option.map_some, Option.some.injEq, Prod.mk.injEq, true_and]
      refine (sr_cE_up_ne ?_).symm
      intro ⟨a, b⟩
      subst a; subst b
      exact ht (hD.1 q0 t (ad k' i', sr_cE ad dA h.2.2 k' i') (ad k' i', sr_cE ad dA h.2.2 k' i') (by simp [sr_cs, hq]) (by simp [sr_cs, hx]) rfl)
theorem sr_obj {ad : Nat → Nat → Nat} {dA : Nat → ClassId} {s : sr_S} {k i n : Nat} (h : sr_kd k = .inl n) : sr_cE ad dA s k i = .inr (k, (List.range n).map (fun j => sr_cv ad (s k i j))) := by simp [sr_cE, h]
theorem sr_arr {ad : Nat → Nat → Nat} {dA : Nat → ClassId} {s : sr_S} {k i ty n : Nat} (h : sr_kd k = .inr (ty, n)) : sr_cE ad dA s k i = .inl (dA ty, n, sr_ct ad ty (s k i)) := by simp [sr_cE, h]
theorem sr_objset {ad : Nat → Nat → Nat} {s : sr_S} {k i j n : Nat} {v : sr_V} (hj : j < n) : ((List.range n).map (fun j => sr_cv ad (s k i j))).set j (sr_cv ad v) = (List.range n).map (fun j' => sr_cv ad (sr_up s k i j v k i j')) := by
  apply List.ext_getElem?
  intro t
  rw [List.getElem?_set]
  by_cases ht : j = t
  · subst ht
    simp [sr_up, hj]
  · rw [if_neg ht]
    by_cases hn : t < n
    · simp [hn, sr_up, Ne.symm ht]
    · simp [hn]
theorem sr_intset {s : sr_S} {k i j : Nat} {x : Int32} : (fun t => sr_I (sr_up s k i j (sr_i x) k i t)) = upd (fun t => sr_I (s k i t)) j x := by
  funext t
  by_cases ht : t = j
  · subst ht; simp [sr_up, upd, sr_I]
  · simp [sr_up, upd, ht]
theorem sr_lngset {s : sr_S} {k i j : Nat} {x : Int64} : (fun t => sr_L (sr_up s k i j (sr_l x) k i t)) = vp_updL (fun t => sr_L (s k i t)) j x := by
  funext t
  by_cases ht : t = j
  · subst ht; simp [sr_up, vp_updL, sr_L]
  · simp [sr_up, vp_updL, ht]
theorem sr_refset {ad : Nat → Nat → Nat} {s : sr_S} {k i j k' i' : Nat} : (fun t => sr_R ad (sr_up s k i j (sr_r k' i') k i t)) = va_up (fun t => sr_R ad (s k i t)) j (some (ad k' i')) := by
  funext t
  by_cases ht : t = j
  · subst ht; simp [sr_up, va_up, sr_R]
  · simp [sr_up, va_up, ht]
/-! locals -/
def sr_lv (ad : Nat → Nat → Nat) : Nat → List (Option sr_V) → List (Nat × Value)
  | _, [] => []
  | i, none :: L => sr_lv ad (i + 1) L
  | i, some v :: L => (i, sr_cv ad v) :: sr_lv ad (i + 1) L
theorem sr_lv_mem {ad : Nat → Nat → Nat} : ∀ (L : List (Option sr_V)) (i : Nat) (q : Nat × Value), q ∈ sr_lv ad i L ↔ ∃ (j : Nat) (v : sr_V), L[j]? = some (some v) ∧ q = (i + j, sr_cv ad v) := by
  intro L
  induction L with
  | nil => intro i q; simp [sr_lv]
  | cons o L ih =>
    intro i q
    cases o with
    | none =>
      rw [show sr_lv ad i (none :: L) = sr_lv ad (i + 1) L from rfl, ih]
      constructor
      · rintro ⟨j, v, h1, h2⟩
        exact ⟨j + 1, v, by simpa using h1, by rw [h2]; congr 1; omega⟩
      · rintro ⟨j, v, h1, h2⟩
        cases j with
        | zero => simp at h1
        | succ j => exact ⟨j, v, by simpa using h1, by rw [h2]; congr 1; omega⟩
    | some w =>
      rw [show sr_lv ad i (some w :: L) = (i, sr_cv ad w) :: sr_lv ad (i + 1) L from rfl, List.mem_cons, ih]
      constructor
      · rintro (h | ⟨j, v, h1, h2⟩)
        · exact ⟨0, w, rfl, by simpa using h⟩
        · exact ⟨j + 1, v, by simpa using h1, by rw [h2]; congr 1; omega⟩
      · rintro ⟨j, v, h1, h2⟩
        cases j with
        | zero => simp at h1; subst h1; exact Or.inl (by simpa using h2)
        | succ j => exact Or.inr ⟨j, v, by simpa using h1, by rw [h2]; congr 1; omega⟩
theorem sr_lget {ad : Nat → Nat → Nat} {ls : Array Slot} {n i : Nat} {L : List (Option sr_V)} {v : sr_V} (h : lv_has ls n (sr_lv ad 0 L)) (hi : L[i]? = some (some v)) : ls[i]? = some (.val (sr_cv ad v)) :=
  h.2.2 (i, sr_cv ad v) ((sr_lv_mem L 0 _).mpr ⟨i, v, hi, by simp⟩)
/-- no long ends at place i -/
def sr_nl (L : List (Option sr_V)) (i : Nat) : Bool := match i with
  | 0 => true
  | j + 1 => match L[j]? with
    | some (some (.inr (.inl _))) => false
    | _ => true
theorem sr_cat (ad : Nat → Nat → Nat) (v : sr_V) : (sr_cv ad v).category = match v with
  | .inr (.inl _) => 2
  | _ => 1 := by
  rcases v with x | x | x
  · rfl
  · rfl
  · cases x <;> rfl
theorem sr_lset {ad : Nat → Nat → Nat} {ls : Array Slot} {n i : Nat} {L L' : List (Option sr_V)} {v : sr_V} (hn : sr_nl L i = true) (hL : L.set i (some v) = L')
    (h : lv_has ls n ((i, sr_cv ad v) :: (sr_lv ad 0 L).filter (fun q => !(q.1 == i) && !(q.1 + 1 == i && q.2.category == 2)))) : lv_has ls n (sr_lv ad 0 L') := by
  refine ⟨h.1, h.2.1, fun q hq => ?_⟩
  subst hL
  obtain ⟨j, w, h1, h2⟩ := (sr_lv_mem _ 0 q).mp hq
  rw [Nat.zero_add] at h2
  rw [List.getElem?_set] at h1
  by_cases hij : i = j
  · subst hij
    rw [if_pos rfl] at h1
    split at h1
    · cases h1
      rw [h2]
      exact h.2.2 _ List.mem_cons_self
    · cases h1
  · rw [if_neg hij] at h1
    refine h.2.2 q (List.mem_cons_of_mem _ (List.mem_filter.mpr ⟨(sr_lv_mem L 0 q).mpr ⟨j, w, h1, by rw [h2, Nat.zero_add]⟩, ?_⟩))
    rw [h2]
    simp only [Bool.and_eq_true, Bool.not_eq_true', beq_eq_false_iff_ne, Bool.and_eq_false_imp, beq_iff_eq]
    refine ⟨fun e => hij e.symm, fun e => ?_⟩
    subst e
    simp only [sr_nl, h1] at hn
    rw [sr_cat]
    rcases w with x | x | x
    · simp
    · simp at hn
    · simp
theorem sr_lsetL {ad : Nat → Nat → Nat} {ls : Array Slot} {n i : Nat} {L L' : List (Option sr_V)} {x : Int64} (hn : sr_nl L i = true) (hL : (L.set i (some (sr_l x))).set (i + 1) none = L')
    (h : lv_has ls n ((i, Value.long x) :: (sr_lv ad 0 L).filter (fun q => !(q.1 == i) && (!(q.1 == i + 1) && !(q.1 + 1 == i && q.2.category == 2))))) : lv_has ls n (sr_lv ad 0 L') := by
  refine ⟨h.1, h.2.1, fun q hq => ?_⟩
  subst hL
  obtain ⟨j, w, h1, h2⟩ := (sr_lv_mem _ 0 q).mp hq
  rw [Nat.zero_add] at h2
  rw [List.getElem?_set] at h1
  by_cases hij1 : i + 1 = j
  · subst hij1
    rw [if_pos rfl] at h1
    split at h1 <;> simp at h1
  · rw [if_neg hij1, List.getElem?_set] at h1
    by_cases hij : i = j
    · subst hij
      rw [if_pos rfl] at h1
      split at h1
      · cases h1
        rw [h2]
        exact h.2.2 _ List.mem_cons_self
      · cases h1
    · rw [if_neg hij] at h1
      refine h.2.2 q (List.mem_cons_of_mem _ (List.mem_filter.mpr ⟨(sr_lv_mem L 0 q).mpr ⟨j, w, h1, by rw [h2, Nat.zero_add]⟩, ?_⟩))
      rw [h2]
      simp only [Bool.and_eq_true, Bool.not_eq_true', beq_eq_false_iff_ne, Bool.and_eq_false_imp, beq_iff_eq]
      refine ⟨fun e => hij e.symm, fun e => hij1 e.symm, fun e => ?_⟩
      subst e
      simp only [sr_nl, h1] at hn
      rw [sr_cat]
      rcases w with x | x | x
      · simp
      · simp at hn
      · simp
