/-! from the heap as it was made to the typed one -/
theorem sr_fv_int {t : sr_t} {k i j n : Nat} (h : sr_kd k = .inr (0, n)) : sr_fv t k i j = sr_i (t.1 k i j) := by
  unfold sr_fv
  split <;> first | rfl | (exfalso; simp [sr_kd, sr_kds] at h)
def sr_isL (k : Nat) : Bool := match sr_kd k with
  | .inr (1, _) => true
  | _ => false
theorem sr_isL_ok : ∀ k, k < 47 → (!sr_isL k || (Nat.beq k 18 || Nat.beq k 23)) = true := by decide +kernel
theorem sr_fv_lng {t : sr_t} {k i j n : Nat} (h : sr_kd k = .inr (1, n)) (hk : k < 47) : sr_fv t k i j = sr_l (t.2 k i j) := by
  have h3 := sr_isL_ok k hk
  have h4 : sr_isL k = true := by simp only [sr_isL, h]
  rw [h4] at h3
  have h5 : k = 18 ∨ k = 23 := by
    rcases (Bool.or_eq_true _ _).mp h3 with h6 | h6
    · cases h6
    · rcases (Bool.or_eq_true _ _).mp h6 with h7 | h7
      · exact Or.inl (Nat.eq_of_beq_eq_true h7)
      · exact Or.inr (Nat.eq_of_beq_eq_true h7)
  rcases h5 with rfl | rfl
  · rfl
  · rfl
theorem sr_t0_int {k i j : Nat} (h : ¬ k = 8) : sr_t0.1 k i j = sr_I (sr_lk sr_lg k i j) := by
  rw [sr_lkb_eq]
  show cond (Nat.beq k 8 && (Nat.beq j 0 || Nat.beq j 3)) _ _ = _
  rw [sr_nbq h]
  rfl
theorem sr_nms_fam : ∀ q ∈ sr_nms, q.1 < 47 := by decide +kernel
theorem sr_arrV_congr {cA : ClassId} {n : Nat} {f g : Nat → Value} (h : ∀ j, j < n → f j = g j) : arrV cA n f = arrV cA n g := by
  have e : (fun j : Fin n => f j) = fun j : Fin n => g j := funext fun j => h j.1 j.2
  simp only [arrV, e]
theorem sr_typed {D : va_G} {dA : Nat → ClassId} {b : Nat} {s : State} {H : Heap} {locs : List Loc} (h : sr_W D dA b (sr_e2 (461, sr_lg)) s H locs) : sr_W D dA b (sr_em sr_t0) s H locs := by
  obtain ⟨hP, hD, hS⟩ := h
  have hn : sr_nms.take 461 = sr_nms := by decide +kernel
  refine ⟨?_, ?_, hS⟩
  · intro k q hq
    cases hx : sr_nms[k]? with
    | none => simp [sr_cs, sr_em, hx] at hq
    | some nm =>
      obtain ⟨kk, ii⟩ := nm
      have e1 : q = (sr_ad b kk ii, sr_cE (sr_ad b) dA (sr_em sr_t0).2.2 kk ii) := by
        have e0 : (sr_cs (sr_ad b) dA (sr_em sr_t0))[k]? = some (sr_ad b kk ii, sr_cE (sr_ad b) dA (sr_em sr_t0).2.2 kk ii) := by
          show (sr_nms.map _)[k]? = _
          rw [List.getElem?_map, hx]
          rfl
        exact Option.some.inj (hq.symm.trans e0)
      have old := hP k (sr_ad b kk ii, sr_cE (sr_ad b) dA (sr_lk sr_lg) kk ii) (by
        show ((sr_nms.take 461).map _)[k]? = _
        rw [hn, List.getElem?_map, hx]
        rfl)
      have hm : (kk, ii) ∈ sr_nms := List.mem_of_getElem? hx
      have hck : sr_ckq (kk, ii) = true := List.all_eq_true.mp sr_ckq_all _ hm
      have hf : kk < 47 := sr_nms_fam _ hm
      subst e1
      have pw : ∀ n : Nat, (List.range n).all (fun j => decide (sr_lkb sr_lg kk ii j = sr_fv sr_t0 kk ii j)) = true → ∀ j, j < n → sr_lk sr_lg kk ii j = sr_fv sr_t0 kk ii j := by
        intro n h9 j hj
        rw [sr_lkb_eq]
        exact of_decide_eq_true (List.all_eq_true.mp h9 j (List.mem_range.mpr hj))
      cases hkd : sr_kd kk with
      | inl n =>
        have h9 : (List.range n).all (fun j => decide (sr_lkb sr_lg kk ii j = sr_fv sr_t0 kk ii j)) = true := by
          simpa only [sr_ckq, hkd] using hck
        rw [sr_obj hkd] at old
        rw [sr_obj hkd]
        have e2 : (List.range n).map (fun j => sr_cv (sr_ad b) (sr_lk sr_lg kk ii j)) = (List.range n).map (fun j => sr_cv (sr_ad b) ((sr_em sr_t0).2.2 kk ii j)) := by
          apply List.map_congr_left
          intro j hj
          rw [pw n h9 j (List.mem_range.mp hj)]
          rfl
        rw [← e2]
        exact old
      | inr z =>
        obtain ⟨ty, n⟩ := z
        rw [sr_arr hkd] at old
        rw [sr_arr hkd]
        have old' : H[sr_ad b kk ii]? = some (vp_cell (dA ty) (n, sr_ct (sr_ad b) ty (sr_lk sr_lg kk ii))) := old
        show H[sr_ad b kk ii]? = some (vp_cell (dA ty) (n, sr_ct (sr_ad b) ty ((sr_em sr_t0).2.2 kk ii)))
        rw [old']
        congr 1
        match ty, hkd with
        | 0, hkd =>
          have hk8 : ¬ kk = 8 := by
            rintro rfl
            cases hkd
          have e3 : (fun j => sr_I (sr_lk sr_lg kk ii j)) = fun j => sr_I ((sr_em sr_t0).2.2 kk ii j) := by
            funext j
            show _ = sr_I (sr_fv sr_t0 kk ii j)
            rw [sr_fv_int hkd, sr_t0_int hk8]
            rfl
          show vp_cell (dA 0) (n, .inl (fun j => sr_I (sr_lk sr_lg kk ii j))) = vp_cell (dA 0) (n, .inl (fun j => sr_I ((sr_em sr_t0).2.2 kk ii j)))
          rw [e3]
        | 1, hkd =>
          have e3 : (fun j => sr_L (sr_lk sr_lg kk ii j)) = fun j => sr_L ((sr_em sr_t0).2.2 kk ii j) := by
            funext j
            show _ = sr_L (sr_fv sr_t0 kk ii j)
            rw [sr_fv_lng hkd hf, sr_lkb_eq]
            rfl
          show vp_cell (dA 1) (n, .inr (.inl (fun j => sr_L (sr_lk sr_lg kk ii j)))) = vp_cell (dA 1) (n, .inr (.inl (fun j => sr_L ((sr_em sr_t0).2.2 kk ii j))))
          rw [e3]
        | t2 + 2, hkd =>
          have h9 : (List.range n).all (fun j => decide (sr_lkb sr_lg kk ii j = sr_fv sr_t0 kk ii j)) = true := by
            simpa only [sr_ckq, hkd] using hck
          show arrV (dA (t2 + 2)) n (fun j => va_rf (sr_R (sr_ad b) (sr_lk sr_lg kk ii j))) = arrV (dA (t2 + 2)) n (fun j => va_rf (sr_R (sr_ad b) ((sr_em sr_t0).2.2 kk ii j)))
          apply sr_arrV_congr
          intro j hj
          rw [pw n h9 j hj]
          rfl
  · have e4 : (sr_cs (sr_ad b) dA (sr_em sr_t0)).map (·.1) = (sr_cs (sr_ad b) dA (sr_e2 (461, sr_lg))).map (·.1) := by
      show (sr_nms.map _).map _ = ((sr_nms.take 461).map _).map _
      rw [hn, List.map_map, List.map_map]
      rfl
    have at' : ∀ (k : Nat) (q : Nat × va_E), (sr_cs (sr_ad b) dA (sr_em sr_t0))[k]? = some q → ∃ q', (sr_cs (sr_ad b) dA (sr_e2 (461, sr_lg)))[k]? = some q' ∧ q'.1 = q.1 := by
      intro k q hq
      have e5 : ((sr_cs (sr_ad b) dA (sr_em sr_t0)).map (·.1))[k]? = some q.1 := by rw [List.getElem?_map, hq]; rfl
      rw [e4, List.getElem?_map] at e5
      cases hz : (sr_cs (sr_ad b) dA (sr_e2 (461, sr_lg)))[k]? with
      | none => rw [hz] at e5; cases e5
      | some q' => rw [hz] at e5; exact ⟨q', rfl, Option.some.inj e5⟩
    refine ⟨fun i j p q h1 h2 h3 => ?_, fun k q h1 => ?_⟩
    · obtain ⟨p', a1, a2⟩ := at' i p h1
      obtain ⟨q', b1, b2⟩ := at' j q h2
      exact hD.1 i j p' q' a1 b1 (by rw [a2, b2]; exact h3)
    · obtain ⟨q', b1, b2⟩ := at' k q h1
      have := hD.2 k q' b1
      rw [b2] at this
      exact this
