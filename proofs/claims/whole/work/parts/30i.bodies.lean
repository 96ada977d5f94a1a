def F11_busiest  (t : sr_t) : sr_Rs := (sr_bV (F11_samples 1 t) (fun t1 => (sr_bI (F11_mostOf 3 t1) (fun v2 t2 => (some (.inl (some (sr_i v2)), t2))))))
theorem C11_busiest (l : Launch)   (t : sr_t) : sr_ct' l sr_m11_busiest [sr_r 11 0] t (F11_busiest  t) 0 0 := by
  refine sr_T_of (L0 := [some (sr_r 11 0)]) rfl (by decide +kernel) (fun _ => rfl) (fun _ => Nat.le_of_ble_eq_true rfl) ?_
  unfold F11_busiest
  refine sr_aloadn (pc := 0) (n := 0) (by decide +kernel) rfl ?_
  refine sr_iconst (pc := 1) (n := 1) (v := 1) (by decide +kernel) rfl ?_
  refine sr_cV (pc := 2) (As := [sr_i 1]) (mc1 := 0) (ms1 := 0) (mc2 := 0) (ms2 := 0) fm_11_268 fl_11_268 (by decide +kernel) (sr_in11 _ (by omega)) (rm_11_busiest_11_samples) rfl rfl rfl (C11_samples l 1 t) ?_
  refine sr_kV (fun t1 => ?_)
  refine sr_aloadn (pc := 5) (n := 0) (by decide +kernel) rfl ?_
  refine sr_iconst (pc := 6) (n := 3) (v := 3) (by decide +kernel) rfl ?_
  refine sr_cV (pc := 7) (As := [sr_i 3]) (mc1 := 0) (ms1 := 0) (mc2 := 0) (ms2 := 0) fm_11_352 fl_11_352 (by decide +kernel) (sr_in11 _ (by omega)) (rm_11_busiest_11_mostOf) rfl rfl rfl (C11_mostOf l 3 t1) ?_
  refine sr_kI (fun v2 t2 => ?_)
  exact sr_iret (pc := 10) (by decide +kernel) rfl
def F11_count (a0 : Int32) (t : sr_t) : sr_Rs := (sr_lt (sr_u t 11 0 0 0) (fun t1 => (sr_sw 0 16 a0 ((some (.inl (some (sr_i ((-1)))), t1))) (fun j => match j with | 0 => (some (.inl (some (sr_i (t1.1 11 0 1))), t1)) | 1 => (sr_bI (F11_ups t1) (fun v2 t2 => (some (.inl (some (sr_i v2)), t2)))) | 2 => (some (.inl (some (sr_i (t1.1 11 0 7))), t1)) | 3 => (some (.inl (some (sr_i (t1.1 11 0 8))), t1)) | 4 => (sr_bI (F11_letters t1) (fun v3 t3 => (some (.inl (some (sr_i v3)), t3)))) | 5 => (sr_bI (F11_width t1) (fun v4 t4 => (some (.inl (some (sr_i v4)), t4)))) | 6 => (sr_bI (F11_staleAll t1) (fun v5 t5 => (some (.inl (some (sr_i v5)), t5)))) | 7 => (sr_bI (F11_mostOf 0 t1) (fun v6 t6 => (some (.inl (some (sr_i v6)), t6)))) | 8 => (sr_bI (F11_mostOf 1 t1) (fun v7 t7 => (some (.inl (some (sr_i v7)), t7)))) | 9 => (sr_bI (F11_mostLinks t1) (fun v8 t8 => (some (.inl (some (sr_i v8)), t8)))) | 10 => (sr_bI (F11_firstToMend t1) (fun v9 t9 => (some (.inl (some (sr_i v9)), t9)))) | 11 => (some (.inl (some (sr_i (t1.1 11 0 33))), t1)) | 12 => (sr_bI (F11_lostKeys t1) (fun v10 t10 => (some (.inl (some (sr_i v10)), t10)))) | 13 => (some (.inl (some (sr_i (t1.1 11 0 34))), t1)) | 14 => (sr_bI (F11_gap t1) (fun v11 t11 => (some (.inl (some (sr_i v11)), t11)))) | 15 => (sr_bI (F11_split t1) (fun v12 t12 => (some (.inl (some (sr_i v12)), t12)))) | 16 => (sr_bI (F11_busiest t1) (fun v13 t13 => (some (.inl (some (sr_i v13)), t13)))) | _ => none))))
theorem C11_count (l : Launch) (a0 : Int32)  (t : sr_t) : sr_ct' l sr_m11_count [sr_r 11 0, sr_i a0] t (F11_count a0 t) 0 0 := by
  refine sr_T_of (L0 := [some (sr_r 11 0), some (sr_i a0)]) rfl (by decide +kernel) (fun _ => rfl) (fun _ => Nat.le_of_ble_eq_true rfl) ?_
  unfold F11_count
  refine sr_aloadn (pc := 0) (n := 0) (by decide +kernel) rfl ?_
  refine sr_iconst (pc := 1) (n := 0) (v := 0) (by decide +kernel) rfl ?_
  refine sr_pI (pc := 2) fg_11_93 ft_11_0 (by decide +kernel) (sr_in11 _ (by omega)) (fun _ => rfl) (fun t1 => ?_)
  refine sr_iloadn (pc := 5) (n := 1) (by decide +kernel) rfl ?_
  refine sr_tsw2 (pc := 6) (u := a0) (dflt := 169) (lo := 0) (hi := 16) (offs := #[82, 87, 92, 97, 102, 107, 112, 117, 123, 129, 134, 139, 144, 149, 154, 159, 164]) (len := 82) (tg := 175) (by decide +kernel) (by decide) (by decide) (fun _ => ?_) (fun j off ho _ => ?_)
  · refine sr_iconst (pc := 175) (n := (-1)) (v := (-1)) (by decide +kernel) rfl ?_
    exact sr_iret (pc := 176) (by decide +kernel) rfl
  · rcases j with _ | _ | _ | _ | _ | _ | _ | _ | _ | _ | _ | _ | _ | _ | _ | _ | _ | j
    · cases ho
      refine ⟨88, by decide, ?_⟩
      refine sr_aloadn (pc := 88) (n := 0) (by decide +kernel) rfl ?_
      refine sr_gI (pc := 89) fg_11_100 (by decide +kernel) (sr_in11 _ (by omega)) (fun _ => rfl) ?_
      exact sr_iret (pc := 92) (by decide +kernel) rfl
    · cases ho
      refine ⟨93, by decide, ?_⟩
      refine sr_aloadn (pc := 93) (n := 0) (by decide +kernel) rfl ?_
      refine sr_cV (pc := 94) (As := []) (mc1 := 0) (ms1 := 0) (mc2 := 0) (ms2 := 0) fm_11_115 fl_11_115 (by decide +kernel) (sr_in11 _ (by omega)) (rm_11_count_11_ups) rfl rfl rfl (C11_ups l t1) ?_
      refine sr_kI (fun v2 t2 => ?_)
      exact sr_iret (pc := 97) (by decide +kernel) rfl
    · cases ho
      refine ⟨98, by decide, ?_⟩
      refine sr_aloadn (pc := 98) (n := 0) (by decide +kernel) rfl ?_
      refine sr_gI (pc := 99) fg_11_25 (by decide +kernel) (sr_in11 _ (by omega)) (fun _ => rfl) ?_
      exact sr_iret (pc := 102) (by decide +kernel) rfl
    · cases ho
      refine ⟨103, by decide, ?_⟩
      refine sr_aloadn (pc := 103) (n := 0) (by decide +kernel) rfl ?_
      refine sr_gI (pc := 104) fg_11_29 (by decide +kernel) (sr_in11 _ (by omega)) (fun _ => rfl) ?_
      exact sr_iret (pc := 107) (by decide +kernel) rfl
    · cases ho
      refine ⟨108, by decide, ?_⟩
      refine sr_aloadn (pc := 108) (n := 0) (by decide +kernel) rfl ?_
      refine sr_cV (pc := 109) (As := []) (mc1 := 0) (ms1 := 0) (mc2 := 0) (ms2 := 0) fm_11_153 fl_11_153 (by decide +kernel) (sr_in11 _ (by omega)) (rm_11_count_11_letters) rfl rfl rfl (C11_letters l t1) ?_
      refine sr_kI (fun v3 t3 => ?_)
      exact sr_iret (pc := 112) (by decide +kernel) rfl
    · cases ho
      refine ⟨113, by decide, ?_⟩
      refine sr_aloadn (pc := 113) (n := 0) (by decide +kernel) rfl ?_
      refine sr_cV (pc := 114) (As := []) (mc1 := 0) (ms1 := 0) (mc2 := 0) (ms2 := 0) fm_11_355 fl_11_355 (by decide +kernel) (sr_in11 _ (by omega)) (rm_11_count_11_width) rfl rfl rfl (C11_width l t1) ?_
      refine sr_kI (fun v4 t4 => ?_)
      exact sr_iret (pc := 117) (by decide +kernel) rfl
    · cases ho
      refine ⟨118, by decide, ?_⟩
      refine sr_aloadn (pc := 118) (n := 0) (by decide +kernel) rfl ?_
      refine sr_cV (pc := 119) (As := []) (mc1 := 0) (ms1 := 0) (mc2 := 0) (ms2 := 0) fm_11_147 fl_11_147 (by decide +kernel) (sr_in11 _ (by omega)) (rm_11_count_11_staleAll) rfl rfl rfl (C11_staleAll l t1) ?_
      refine sr_kI (fun v5 t5 => ?_)
      exact sr_iret (pc := 122) (by decide +kernel) rfl
    · cases ho
      refine ⟨123, by decide, ?_⟩
      refine sr_aloadn (pc := 123) (n := 0) (by decide +kernel) rfl ?_
      refine sr_iconst (pc := 124) (n := 0) (v := 0) (by decide +kernel) rfl ?_
      refine sr_cV (pc := 125) (As := [sr_i 0]) (mc1 := 0) (ms1 := 0) (mc2 := 0) (ms2 := 0) fm_11_352 fl_11_352 (by decide +kernel) (sr_in11 _ (by omega)) (rm_11_count_11_mostOf) rfl rfl rfl (C11_mostOf l 0 t1) ?_
      refine sr_kI (fun v6 t6 => ?_)
      exact sr_iret (pc := 128) (by decide +kernel) rfl
    · cases ho
      refine ⟨129, by decide, ?_⟩
      refine sr_aloadn (pc := 129) (n := 0) (by decide +kernel) rfl ?_
      refine sr_iconst (pc := 130) (n := 1) (v := 1) (by decide +kernel) rfl ?_
      refine sr_cV (pc := 131) (As := [sr_i 1]) (mc1 := 0) (ms1 := 0) (mc2 := 0) (ms2 := 0) fm_11_352 fl_11_352 (by decide +kernel) (sr_in11 _ (by omega)) (rm_11_count_11_mostOf) rfl rfl rfl (C11_mostOf l 1 t1) ?_
      refine sr_kI (fun v7 t7 => ?_)
      exact sr_iret (pc := 134) (by decide +kernel) rfl
    · cases ho
      refine ⟨135, by decide, ?_⟩
      refine sr_aloadn (pc := 135) (n := 0) (by decide +kernel) rfl ?_
      refine sr_cV (pc := 136) (As := []) (mc1 := 0) (ms1 := 0) (mc2 := 0) (ms2 := 0) fm_11_358 fl_11_358 (by decide +kernel) (sr_in11 _ (by omega)) (rm_11_count_11_mostLinks) rfl rfl rfl (C11_mostLinks l t1) ?_
      refine sr_kI (fun v8 t8 => ?_)
      exact sr_iret (pc := 139) (by decide +kernel) rfl
    · cases ho
      refine ⟨140, by decide, ?_⟩
      refine sr_aloadn (pc := 140) (n := 0) (by decide +kernel) rfl ?_
      refine sr_cV (pc := 141) (As := []) (mc1 := 0) (ms1 := 0) (mc2 := 0) (ms2 := 0) fm_11_361 fl_11_361 (by decide +kernel) (sr_in11 _ (by omega)) (rm_11_count_11_firstToMend) rfl rfl rfl (C11_firstToMend l t1) ?_
      refine sr_kI (fun v9 t9 => ?_)
      exact sr_iret (pc := 144) (by decide +kernel) rfl
    · cases ho
      refine ⟨145, by decide, ?_⟩
      refine sr_aloadn (pc := 145) (n := 0) (by decide +kernel) rfl ?_
      refine sr_gI (pc := 146) fg_11_316 (by decide +kernel) (sr_in11 _ (by omega)) (fun _ => rfl) ?_
      exact sr_iret (pc := 149) (by decide +kernel) rfl
    · cases ho
      refine ⟨150, by decide, ?_⟩
      refine sr_aloadn (pc := 150) (n := 0) (by decide +kernel) rfl ?_
      refine sr_cV (pc := 151) (As := []) (mc1 := 0) (ms1 := 0) (mc2 := 0) (ms2 := 0) fm_11_364 fl_11_364 (by decide +kernel) (sr_in11 _ (by omega)) (rm_11_count_11_lostKeys) rfl rfl rfl (C11_lostKeys l t1) ?_
      refine sr_kI (fun v10 t10 => ?_)
      exact sr_iret (pc := 154) (by decide +kernel) rfl
    · cases ho
      refine ⟨155, by decide, ?_⟩
      refine sr_aloadn (pc := 155) (n := 0) (by decide +kernel) rfl ?_
      refine sr_gI (pc := 156) fg_11_325 (by decide +kernel) (sr_in11 _ (by omega)) (fun _ => rfl) ?_
      exact sr_iret (pc := 159) (by decide +kernel) rfl
    · cases ho
      refine ⟨160, by decide, ?_⟩
      refine sr_aloadn (pc := 160) (n := 0) (by decide +kernel) rfl ?_
      refine sr_cV (pc := 161) (As := []) (mc1 := 0) (ms1 := 0) (mc2 := 0) (ms2 := 0) fm_11_367 fl_11_367 (by decide +kernel) (sr_in11 _ (by omega)) (rm_11_count_11_gap) rfl rfl rfl (C11_gap l t1) ?_
      refine sr_kI (fun v11 t11 => ?_)
      exact sr_iret (pc := 164) (by decide +kernel) rfl
    · cases ho
      refine ⟨165, by decide, ?_⟩
      refine sr_aloadn (pc := 165) (n := 0) (by decide +kernel) rfl ?_
      refine sr_cV (pc := 166) (As := []) (mc1 := 0) (ms1 := 0) (mc2 := 0) (ms2 := 0) fm_11_370 fl_11_370 (by decide +kernel) (sr_in11 _ (by omega)) (rm_11_count_11_split) rfl rfl rfl (C11_split l t1) ?_
      refine sr_kI (fun v12 t12 => ?_)
      exact sr_iret (pc := 169) (by decide +kernel) rfl
    · cases ho
      refine ⟨170, by decide, ?_⟩
      refine sr_aloadn (pc := 170) (n := 0) (by decide +kernel) rfl ?_
      refine sr_cV (pc := 171) (As := []) (mc1 := 0) (ms1 := 0) (mc2 := 0) (ms2 := 0) fm_11_373 fl_11_373 (by decide +kernel) (sr_in11 _ (by omega)) (rm_11_count_11_busiest) rfl rfl rfl (C11_busiest l t1) ?_
      refine sr_kI (fun v13 t13 => ?_)
      exact sr_iret (pc := 174) (by decide +kernel) rfl
    · simp at ho
