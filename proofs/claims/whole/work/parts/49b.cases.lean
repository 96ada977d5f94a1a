theorem lc_10 {Inv Inv' : sr_t → Prop} {p : Program} {l : Launch} {e : Env} {s : State} {m : MethodId} {below : List Frame} {meth : Method} {c : Code} {b L : Nat} {xs : Nat → Int32} {D : va_G} {dA : Nat → ClassId} {H : Heap} {locs : List Loc} {ls : Array Slot} {cells slots i : Nat} {tt : sr_t} (hL : L ≤ 2048) (C0 : lw_At p s m meth c b L xs) (C : sr_C l (sr_Ml meth c) p s m #[Value.ref b] meth c D dA s.heap.size) (hi : i + 4 ≤ L) (hstep : sr_ok3 Inv Inv' (fun t => FL_step_23 (xs (i + 1)) (xs (i + 2)) t) (fun t => F11_step (xs (i + 1)) (xs (i + 2)) t)) (hI : Inv tt) (Wd : sr_W D dA s.heap.size (sr_em tt) s H locs) (hl : lv_has ls 7 [(0, .ref b), (1, .ref (sr_ad s.heap.size 10 0)), (2, .ref (sr_ad s.heap.size 11 0)), (3, .ref (sr_ad s.heap.size 23 0)), (4, .int (nI i))]) (hc : cells + 8 ≤ 601024) (hs : slots + 48 ≤ 7293033) (kk : ∀ (tt' : sr_t) (H' : Heap) (locs' : List Loc) (ls' : Array Slot), Inv' tt' → sr_W D dA s.heap.size (sr_em tt') s H' locs' → lv_has ls' 7 [(0, .ref b), (1, .ref (sr_ad s.heap.size 10 0)), (2, .ref (sr_ad s.heap.size 11 0)), (3, .ref (sr_ad s.heap.size 23 0)), (4, .int (nI i))] → W p l e room_1 s m #[Value.ref b] below meth c H' locs' (cells + 8) (slots + 48) (lw_Z below #[Value.ref b] s) (F0 m 2743 ls' [])) : W p l e room_1 s m #[Value.ref b] below meth c H locs cells slots (lw_Z below #[Value.ref b] s) (F0 m 785 ls []) := by
  obtain ⟨hx, hb, hr, hml, hown, hts, hX, hbl, hlocks, hgv⟩ := C0
  have hbA : ¬ sr_A s.heap.size b := Nat.not_le.mpr hbl
  have Wd0 := Wd.2.2
  have hRc : room_1.cells = 601024 := rfl
  have hRs : room_1.slots = 7293033 := rfl
  obtain ⟨r1, t1, r2, t2, e1, e2, hE, hO, hI2⟩ := hstep tt hI
  refine lv_aload_n hx hb (show decode code 785 = .ok (.aload_n 1, 1) by decide +kernel) rfl (lv_at hl 1 rfl) ?_
  refine lv_aload_n hx hb (show decode code 786 = .ok (.aload_n 0, 1) by decide +kernel) rfl (lv_at hl 0 rfl) ?_
  refine lv_iload hx hb (show decode code 787 = .ok (.iload 4, 2) by decide +kernel) (lv_at hl 4 rfl) ?_
  refine lv_iconst (n := 1) (v := 1) hx hb (show decode code 789 = .ok (.iconst 1, 1) by decide +kernel) (by decide) ?_
  refine lv_iadd hx hb (show decode code 790 = .ok (.iadd, 1) by decide +kernel) ?_
  rw [show nI i + 1 = nI (i + 1) from nI_add i 1]
  refine va_sld hx hb hX hbl hbA Wd0 (vp_in_nI (show i + 1 < L by omega) (by omega)) (show decode code 791 = .ok (.iaload, 1) by decide +kernel) ?_
  rw [nI_clamp (show i + 1 < 2147483648 by omega)]
  refine lv_aload_n hx hb (show decode code 792 = .ok (.aload_n 0, 1) by decide +kernel) rfl (lv_at hl 0 rfl) ?_
  refine lv_iload hx hb (show decode code 793 = .ok (.iload 4, 2) by decide +kernel) (lv_at hl 4 rfl) ?_
  refine lv_iconst (n := 2) (v := 2) hx hb (show decode code 795 = .ok (.iconst 2, 1) by decide +kernel) (by decide) ?_
  refine lv_iadd hx hb (show decode code 796 = .ok (.iadd, 1) by decide +kernel) ?_
  rw [show nI i + 2 = nI (i + 2) from nI_add i 2]
  refine va_sld hx hb hX hbl hbA Wd0 (vp_in_nI (show i + 2 < L by omega) (by omega)) (show decode code 797 = .ok (.iaload, 1) by decide +kernel) ?_
  rw [nI_clamp (show i + 2 < 2147483648 by omega)]
  refine lv_aload_n hx hb (show decode code 798 = .ok (.aload_n 3, 1) by decide +kernel) rfl (lv_at hl 3 rfl) ?_
  refine sr_wS (As := [sr_r 10 0, sr_i (xs (i + 1)), sr_i (xs (i + 2)), sr_r 23 0]) (em := sr_em) (M := sr_Ml meth c) (v := some (sr_i (r1))) (t1 := t1) (rest := []) (mc1 := 1) (ms1 := 6) C Wd hl.1 (Nat.le_of_ble_eq_true rfl) (Nat.le_of_ble_eq_true rfl) (by omega) (by omega) (fun hq => nomatch hq) fh_180 (show decode code 799 = .ok (.invokestatic 180, 3) by decide +kernel) rm_Law_L_step rfl (Nat.le_of_ble_eq_true rfl) (e1 ▸ CL_step_23 l (xs (i + 1)) (xs (i + 2)) tt) (fun H1 locs1 Wd1 => ?_)
  have Wd0 := Wd1.2.2
  refine W.eq (g2 := F0 m 802 ls [.int r1]) rfl ?_
  refine lv_istore (lv' := [(5, .int r1), (0, .ref b), (1, .ref (sr_ad s.heap.size 10 0)), (2, .ref (sr_ad s.heap.size 11 0)), (3, .ref (sr_ad s.heap.size 23 0)), (4, .int (nI i))]) hx hb (show decode code 802 = .ok (.istore 5, 2) by decide +kernel) hl (by decide) rfl (fun ls hl => ?_)
  refine lv_aload_n hx hb (show decode code 804 = .ok (.aload_n 2, 1) by decide +kernel) rfl (lv_at hl 3 rfl) ?_
  refine lv_aload_n hx hb (show decode code 805 = .ok (.aload_n 0, 1) by decide +kernel) rfl (lv_at hl 1 rfl) ?_
  refine lv_iload hx hb (show decode code 806 = .ok (.iload 4, 2) by decide +kernel) (lv_at hl 5 rfl) ?_
  refine lv_iconst (n := 1) (v := 1) hx hb (show decode code 808 = .ok (.iconst 1, 1) by decide +kernel) (by decide) ?_
  refine lv_iadd hx hb (show decode code 809 = .ok (.iadd, 1) by decide +kernel) ?_
  rw [show nI i + 1 = nI (i + 1) from nI_add i 1]
  refine va_sld hx hb hX hbl hbA Wd0 (vp_in_nI (show i + 1 < L by omega) (by omega)) (show decode code 810 = .ok (.iaload, 1) by decide +kernel) ?_
  rw [nI_clamp (show i + 1 < 2147483648 by omega)]
  refine lv_aload_n hx hb (show decode code 811 = .ok (.aload_n 0, 1) by decide +kernel) rfl (lv_at hl 1 rfl) ?_
  refine lv_iload hx hb (show decode code 812 = .ok (.iload 4, 2) by decide +kernel) (lv_at hl 5 rfl) ?_
  refine lv_iconst (n := 2) (v := 2) hx hb (show decode code 814 = .ok (.iconst 2, 1) by decide +kernel) (by decide) ?_
  refine lv_iadd hx hb (show decode code 815 = .ok (.iadd, 1) by decide +kernel) ?_
  rw [show nI i + 2 = nI (i + 2) from nI_add i 2]
  refine va_sld hx hb hX hbl hbA Wd0 (vp_in_nI (show i + 2 < L by omega) (by omega)) (show decode code 816 = .ok (.iaload, 1) by decide +kernel) ?_
  rw [nI_clamp (show i + 2 < 2147483648 by omega)]
  refine sr_wV (k := 11) (i := 0) (As := [sr_i (xs (i + 1)), sr_i (xs (i + 2))]) (em := sr_em) (M := sr_Ml meth c) (v := some (sr_i (r2))) (t1 := t2) (rest := []) (mc1 := 0) (ms1 := 0) C Wd1 hl.1 (Nat.le_of_ble_eq_true rfl) (Nat.le_of_ble_eq_true rfl) (by omega) (by omega) (fun hq => nomatch hq) fm_L_182 fl_L_182 (show decode code 817 = .ok (.invokevirtual 182, 3) by decide +kernel) (sr_in11 0 (by decide)) rm_Law_11_step rfl (Nat.le_of_ble_eq_true rfl) (e2 ▸ C11_step l (xs (i + 1)) (xs (i + 2)) t1) (fun H2 locs2 Wd2 => ?_)
  have Wd0 := Wd2.2.2
  refine W.eq (g2 := F0 m 820 ls [.int r2]) rfl ?_
  refine lv_istore (lv' := [(6, .int r2), (5, .int r1), (0, .ref b), (1, .ref (sr_ad s.heap.size 10 0)), (2, .ref (sr_ad s.heap.size 11 0)), (3, .ref (sr_ad s.heap.size 23 0)), (4, .int (nI i))]) hx hb (show decode code 820 = .ok (.istore 6, 2) by decide +kernel) hl (by decide) rfl (fun ls hl => ?_)
  refine lv_aload_n hx hb (show decode code 822 = .ok (.aload_n 2, 1) by decide +kernel) rfl (lv_at hl 4 rfl) ?_
  refine sr_wV (k := 11) (i := 0) (As := []) (em := sr_em) (M := sr_Ml meth c) (v := some (sr_i (t2.1 11 0 0))) (t1 := t2) (rest := []) (mc1 := 0) (ms1 := 0) C Wd2 hl.1 (Nat.le_of_ble_eq_true rfl) (Nat.le_of_ble_eq_true rfl) (by omega) (by omega) (fun hq => nomatch hq) fm_L_146 fl_L_146 (show decode code 823 = .ok (.invokevirtual 146, 3) by decide +kernel) (sr_in11 0 (by decide)) rm_Law_11_thrown rfl (Nat.le_of_ble_eq_true rfl) ((show F11_thrown t2 = some (.inl (some (sr_i (t2.1 11 0 0))), t2) from rfl) ▸ C11_thrown l  t2) (fun H3 locs3 Wd3 => ?_)
  have Wd0 := Wd3.2.2
  refine W.eq (g2 := F0 m 826 ls [.int (t2.1 11 0 0)]) rfl ?_
  refine lv_iload hx hb (show decode code 826 = .ok (.iload 5, 2) by decide +kernel) (lv_at hl 1 rfl) ?_
  refine lv_icmp_eq (tgt := 833) hx hb (show decode code 828 = .ok (.if_icmp .eq 5, 3) by decide +kernel) (by decide) (fun _ => ?_) (fun hq => absurd hE hq)
  refine lv_iload hx hb (show decode code 833 = .ok (.iload 5, 2) by decide +kernel) (lv_at hl 1 rfl) ?_
  refine lv_if_ne (tgt := 850) hx hb (show decode code 835 = .ok (.ifCond .ne 15, 3) by decide +kernel) (by decide) (fun _ => ?_) (fun hk0 => ?_)
  · refine lv_goto (tgt := 2743) hx hb (show decode code 850 = .ok (.goto 1893, 3) by decide +kernel) (by decide) ?_
    refine W.widen (k := cells + 8) (n := slots + 48) (by omega) (by omega) ?_
    exact kk _ _ _ _ hI2 Wd3 (lv_sub hl [2, 3, 4, 5, 6] rfl)
  refine lv_aload_n hx hb (show decode code 838 = .ok (.aload_n 3, 1) by decide +kernel) rfl (lv_at hl 5 rfl) ?_
  refine lv_iconst (n := 0) (v := 0) hx hb (show decode code 839 = .ok (.iconst 0, 1) by decide +kernel) (by decide) ?_
  refine sr_wlal (M := sr_Ml meth c) (k := 23) (i := 0) (n := 1) (a := 0) C Wd3 rfl (by decide) (sr_in23 0 (by decide)) (by decide) (show decode code 840 = .ok (.laload, 1) by decide +kernel) ?_
  refine lv_iload hx hb (show decode code 841 = .ok (.iload 6, 2) by decide +kernel) (lv_at hl 0 rfl) ?_
  refine lv_i2l hx hb (show decode code 843 = .ok (.i2l, 1) by decide +kernel) rfl ?_
  refine W.lcmp hx hb (show decode code 844 = .ok (.lcmp, 1) by decide +kernel) ?_
  rw [show t2.2 23 0 (0 : Int32).toNatClampNeg = _ from hO hk0, sr_cmp0]
  refine lv_if_eq (tgt := 850) hx hb (show decode code 845 = .ok (.ifCond .eq 5, 3) by decide +kernel) (by decide) (fun _ => ?_) (fun hq => absurd rfl hq)
  refine lv_goto (tgt := 2743) hx hb (show decode code 850 = .ok (.goto 1893, 3) by decide +kernel) (by decide) ?_
  refine W.widen (k := cells + 8) (n := slots + 48) (by omega) (by omega) ?_
  exact kk _ _ _ _ hI2 Wd3 (lv_sub hl [2, 3, 4, 5, 6] rfl)
theorem lc_11 {Inv Inv' : sr_t → Prop} {p : Program} {l : Launch} {e : Env} {s : State} {m : MethodId} {below : List Frame} {meth : Method} {c : Code} {b L : Nat} {xs : Nat → Int32} {D : va_G} {dA : Nat → ClassId} {H : Heap} {locs : List Loc} {ls : Array Slot} {cells slots i : Nat} {tt : sr_t} (hL : L ≤ 2048) (C0 : lw_At p s m meth c b L xs) (C : sr_C l (sr_Ml meth c) p s m #[Value.ref b] meth c D dA s.heap.size) (hi : i + 4 ≤ L) (hstep : sr_ok2 Inv Inv' (fun t => F10_why (xs (i + 1)) t) (fun t => F11_why (xs (i + 1)) t)) (hI : Inv tt) (Wd : sr_W D dA s.heap.size (sr_em tt) s H locs) (hl : lv_has ls 7 [(0, .ref b), (1, .ref (sr_ad s.heap.size 10 0)), (2, .ref (sr_ad s.heap.size 11 0)), (3, .ref (sr_ad s.heap.size 23 0)), (4, .int (nI i))]) (hc : cells + 8 ≤ 601024) (hs : slots + 48 ≤ 7293033) (kk : ∀ (tt' : sr_t) (H' : Heap) (locs' : List Loc) (ls' : Array Slot), Inv' tt' → sr_W D dA s.heap.size (sr_em tt') s H' locs' → lv_has ls' 7 [(0, .ref b), (1, .ref (sr_ad s.heap.size 10 0)), (2, .ref (sr_ad s.heap.size 11 0)), (3, .ref (sr_ad s.heap.size 23 0)), (4, .int (nI i))] → W p l e room_1 s m #[Value.ref b] below meth c H' locs' (cells + 8) (slots + 48) (lw_Z below #[Value.ref b] s) (F0 m 2743 ls' [])) : W p l e room_1 s m #[Value.ref b] below meth c H locs cells slots (lw_Z below #[Value.ref b] s) (F0 m 853 ls []) := by
  obtain ⟨hx, hb, hr, hml, hown, hts, hX, hbl, hlocks, hgv⟩ := C0
  have hbA : ¬ sr_A s.heap.size b := Nat.not_le.mpr hbl
  have Wd0 := Wd.2.2
  have hRc : room_1.cells = 601024 := rfl
  have hRs : room_1.slots = 7293033 := rfl
  obtain ⟨r1, t1, r2, t2, e1, e2, hE, hI2⟩ := hstep tt hI
  refine lv_aload_n hx hb (show decode code 853 = .ok (.aload_n 1, 1) by decide +kernel) rfl (lv_at hl 1 rfl) ?_
  refine lv_aload_n hx hb (show decode code 854 = .ok (.aload_n 0, 1) by decide +kernel) rfl (lv_at hl 0 rfl) ?_
  refine lv_iload hx hb (show decode code 855 = .ok (.iload 4, 2) by decide +kernel) (lv_at hl 4 rfl) ?_
  refine lv_iconst (n := 1) (v := 1) hx hb (show decode code 857 = .ok (.iconst 1, 1) by decide +kernel) (by decide) ?_
  refine lv_iadd hx hb (show decode code 858 = .ok (.iadd, 1) by decide +kernel) ?_
  rw [show nI i + 1 = nI (i + 1) from nI_add i 1]
  refine va_sld hx hb hX hbl hbA Wd0 (vp_in_nI (show i + 1 < L by omega) (by omega)) (show decode code 859 = .ok (.iaload, 1) by decide +kernel) ?_
  rw [nI_clamp (show i + 1 < 2147483648 by omega)]
  refine sr_wV (k := 10) (i := 0) (As := [sr_i (xs (i + 1))]) (em := sr_em) (M := sr_Ml meth c) (v := some (sr_i (r1))) (t1 := t1) (rest := []) (mc1 := 0) (ms1 := 0) C Wd hl.1 (Nat.le_of_ble_eq_true rfl) (Nat.le_of_ble_eq_true rfl) (by omega) (by omega) (fun hq => nomatch hq) fm_L_183 fl_L_183 (show decode code 860 = .ok (.invokevirtual 183, 3) by decide +kernel) (sr_in10 0 (by decide)) rm_Law_10_why rfl (Nat.le_of_ble_eq_true rfl) (e1 ▸ C10_why l (xs (i + 1)) tt) (fun H1 locs1 Wd1 => ?_)
  have Wd0 := Wd1.2.2
  refine W.eq (g2 := F0 m 863 ls [.int r1]) rfl ?_
  refine lv_aload_n hx hb (show decode code 863 = .ok (.aload_n 2, 1) by decide +kernel) rfl (lv_at hl 2 rfl) ?_
  refine lv_aload_n hx hb (show decode code 864 = .ok (.aload_n 0, 1) by decide +kernel) rfl (lv_at hl 0 rfl) ?_
  refine lv_iload hx hb (show decode code 865 = .ok (.iload 4, 2) by decide +kernel) (lv_at hl 4 rfl) ?_
  refine lv_iconst (n := 1) (v := 1) hx hb (show decode code 867 = .ok (.iconst 1, 1) by decide +kernel) (by decide) ?_
  refine lv_iadd hx hb (show decode code 868 = .ok (.iadd, 1) by decide +kernel) ?_
  rw [show nI i + 1 = nI (i + 1) from nI_add i 1]
  refine va_sld hx hb hX hbl hbA Wd0 (vp_in_nI (show i + 1 < L by omega) (by omega)) (show decode code 869 = .ok (.iaload, 1) by decide +kernel) ?_
  rw [nI_clamp (show i + 1 < 2147483648 by omega)]
  refine sr_wV (k := 11) (i := 0) (As := [sr_i (xs (i + 1))]) (em := sr_em) (M := sr_Ml meth c) (v := some (sr_i (r2))) (t1 := t2) (rest := [.int r1]) (mc1 := 0) (ms1 := 0) C Wd1 hl.1 (Nat.le_of_ble_eq_true rfl) (Nat.le_of_ble_eq_true rfl) (by omega) (by omega) (fun hq => nomatch hq) fm_L_186 fl_L_186 (show decode code 870 = .ok (.invokevirtual 186, 3) by decide +kernel) (sr_in11 0 (by decide)) rm_Law_11_why rfl (Nat.le_of_ble_eq_true rfl) (e2 ▸ C11_why l (xs (i + 1)) t1) (fun H2 locs2 Wd2 => ?_)
  have Wd0 := Wd2.2.2
  refine W.eq (g2 := F0 m 873 ls [.int r2, .int r1]) rfl ?_
  refine lv_icmp_eq (tgt := 2743) hx hb (show decode code 873 = .ok (.if_icmp .eq 1870, 3) by decide +kernel) (by decide) (fun _ => ?_) (fun hq => absurd hE hq)
  refine W.widen (k := cells + 8) (n := slots + 48) (by omega) (by omega) ?_
  exact kk _ _ _ _ hI2 Wd2 (lv_sub hl [0, 1, 2, 3, 4] rfl)
theorem lc_12 {Inv Inv' : sr_t → Prop} {p : Program} {l : Launch} {e : Env} {s : State} {m : MethodId} {below : List Frame} {meth : Method} {c : Code} {b L : Nat} {xs : Nat → Int32} {D : va_G} {dA : Nat → ClassId} {H : Heap} {locs : List Loc} {ls : Array Slot} {cells slots i : Nat} {tt : sr_t} (hL : L ≤ 2048) (C0 : lw_At p s m meth c b L xs) (C : sr_C l (sr_Ml meth c) p s m #[Value.ref b] meth c D dA s.heap.size) (hi : i + 4 ≤ L) (hstep : sr_ok3 Inv Inv' (fun t => FL_owner_23 (xs (i + 1)) t) (fun t => F11_owner (xs (i + 1)) t)) (hI : Inv tt) (Wd : sr_W D dA s.heap.size (sr_em tt) s H locs) (hl : lv_has ls 7 [(0, .ref b), (1, .ref (sr_ad s.heap.size 10 0)), (2, .ref (sr_ad s.heap.size 11 0)), (3, .ref (sr_ad s.heap.size 23 0)), (4, .int (nI i))]) (hc : cells + 8 ≤ 601024) (hs : slots + 48 ≤ 7293033) (kk : ∀ (tt' : sr_t) (H' : Heap) (locs' : List Loc) (ls' : Array Slot), Inv' tt' → sr_W D dA s.heap.size (sr_em tt') s H' locs' → lv_has ls' 7 [(0, .ref b), (1, .ref (sr_ad s.heap.size 10 0)), (2, .ref (sr_ad s.heap.size 11 0)), (3, .ref (sr_ad s.heap.size 23 0)), (4, .int (nI i))] → W p l e room_1 s m #[Value.ref b] below meth c H' locs' (cells + 8) (slots + 48) (lw_Z below #[Value.ref b] s) (F0 m 2743 ls' [])) : W p l e room_1 s m #[Value.ref b] below meth c H locs cells slots (lw_Z below #[Value.ref b] s) (F0 m 878 ls []) := by
  obtain ⟨hx, hb, hr, hml, hown, hts, hX, hbl, hlocks, hgv⟩ := C0
  have hbA : ¬ sr_A s.heap.size b := Nat.not_le.mpr hbl
  have Wd0 := Wd.2.2
  have hRc : room_1.cells = 601024 := rfl
  have hRs : room_1.slots = 7293033 := rfl
  obtain ⟨r1, t1, r2, t2, e1, e2, hE, hO, hI2⟩ := hstep tt hI
  refine lv_aload_n hx hb (show decode code 878 = .ok (.aload_n 1, 1) by decide +kernel) rfl (lv_at hl 1 rfl) ?_
  refine lv_aload_n hx hb (show decode code 879 = .ok (.aload_n 0, 1) by decide +kernel) rfl (lv_at hl 0 rfl) ?_
  refine lv_iload hx hb (show decode code 880 = .ok (.iload 4, 2) by decide +kernel) (lv_at hl 4 rfl) ?_
  refine lv_iconst (n := 1) (v := 1) hx hb (show decode code 882 = .ok (.iconst 1, 1) by decide +kernel) (by decide) ?_
  refine lv_iadd hx hb (show decode code 883 = .ok (.iadd, 1) by decide +kernel) ?_
  rw [show nI i + 1 = nI (i + 1) from nI_add i 1]
  refine va_sld hx hb hX hbl hbA Wd0 (vp_in_nI (show i + 1 < L by omega) (by omega)) (show decode code 884 = .ok (.iaload, 1) by decide +kernel) ?_
  rw [nI_clamp (show i + 1 < 2147483648 by omega)]
  refine lv_aload_n hx hb (show decode code 885 = .ok (.aload_n 3, 1) by decide +kernel) rfl (lv_at hl 3 rfl) ?_
  refine sr_wS (As := [sr_r 10 0, sr_i (xs (i + 1)), sr_r 23 0]) (em := sr_em) (M := sr_Ml meth c) (v := some (sr_i (r1))) (t1 := t1) (rest := []) (mc1 := 1) (ms1 := 6) C Wd hl.1 (Nat.le_of_ble_eq_true rfl) (Nat.le_of_ble_eq_true rfl) (by omega) (by omega) (fun hq => nomatch hq) fh_187 (show decode code 886 = .ok (.invokestatic 187, 3) by decide +kernel) rm_Law_L_owner rfl (Nat.le_of_ble_eq_true rfl) (e1 ▸ CL_owner_23 l (xs (i + 1)) tt) (fun H1 locs1 Wd1 => ?_)
  have Wd0 := Wd1.2.2
  refine W.eq (g2 := F0 m 889 ls [.int r1]) rfl ?_
  refine lv_istore (lv' := [(5, .int r1), (0, .ref b), (1, .ref (sr_ad s.heap.size 10 0)), (2, .ref (sr_ad s.heap.size 11 0)), (3, .ref (sr_ad s.heap.size 23 0)), (4, .int (nI i))]) hx hb (show decode code 889 = .ok (.istore 5, 2) by decide +kernel) hl (by decide) rfl (fun ls hl => ?_)
  refine lv_aload_n hx hb (show decode code 891 = .ok (.aload_n 2, 1) by decide +kernel) rfl (lv_at hl 3 rfl) ?_
  refine lv_aload_n hx hb (show decode code 892 = .ok (.aload_n 0, 1) by decide +kernel) rfl (lv_at hl 1 rfl) ?_
  refine lv_iload hx hb (show decode code 893 = .ok (.iload 4, 2) by decide +kernel) (lv_at hl 5 rfl) ?_
  refine lv_iconst (n := 1) (v := 1) hx hb (show decode code 895 = .ok (.iconst 1, 1) by decide +kernel) (by decide) ?_
  refine lv_iadd hx hb (show decode code 896 = .ok (.iadd, 1) by decide +kernel) ?_
  rw [show nI i + 1 = nI (i + 1) from nI_add i 1]
  refine va_sld hx hb hX hbl hbA Wd0 (vp_in_nI (show i + 1 < L by omega) (by omega)) (show decode code 897 = .ok (.iaload, 1) by decide +kernel) ?_
  rw [nI_clamp (show i + 1 < 2147483648 by omega)]
  refine sr_wV (k := 11) (i := 0) (As := [sr_i (xs (i + 1))]) (em := sr_em) (M := sr_Ml meth c) (v := some (sr_i (r2))) (t1 := t2) (rest := []) (mc1 := 0) (ms1 := 0) C Wd1 hl.1 (Nat.le_of_ble_eq_true rfl) (Nat.le_of_ble_eq_true rfl) (by omega) (by omega) (fun hq => nomatch hq) fm_L_189 fl_L_189 (show decode code 898 = .ok (.invokevirtual 189, 3) by decide +kernel) (sr_in11 0 (by decide)) rm_Law_11_owner rfl (Nat.le_of_ble_eq_true rfl) (e2 ▸ C11_owner l (xs (i + 1)) t1) (fun H2 locs2 Wd2 => ?_)
  have Wd0 := Wd2.2.2
  refine W.eq (g2 := F0 m 901 ls [.int r2]) rfl ?_
  refine lv_istore (lv' := [(6, .int r2), (5, .int r1), (0, .ref b), (1, .ref (sr_ad s.heap.size 10 0)), (2, .ref (sr_ad s.heap.size 11 0)), (3, .ref (sr_ad s.heap.size 23 0)), (4, .int (nI i))]) hx hb (show decode code 901 = .ok (.istore 6, 2) by decide +kernel) hl (by decide) rfl (fun ls hl => ?_)
  refine lv_aload_n hx hb (show decode code 903 = .ok (.aload_n 2, 1) by decide +kernel) rfl (lv_at hl 4 rfl) ?_
  refine sr_wV (k := 11) (i := 0) (As := []) (em := sr_em) (M := sr_Ml meth c) (v := some (sr_i (t2.1 11 0 0))) (t1 := t2) (rest := []) (mc1 := 0) (ms1 := 0) C Wd2 hl.1 (Nat.le_of_ble_eq_true rfl) (Nat.le_of_ble_eq_true rfl) (by omega) (by omega) (fun hq => nomatch hq) fm_L_146 fl_L_146 (show decode code 904 = .ok (.invokevirtual 146, 3) by decide +kernel) (sr_in11 0 (by decide)) rm_Law_11_thrown rfl (Nat.le_of_ble_eq_true rfl) ((show F11_thrown t2 = some (.inl (some (sr_i (t2.1 11 0 0))), t2) from rfl) ▸ C11_thrown l  t2) (fun H3 locs3 Wd3 => ?_)
  have Wd0 := Wd3.2.2
  refine W.eq (g2 := F0 m 907 ls [.int (t2.1 11 0 0)]) rfl ?_
  refine lv_iload hx hb (show decode code 907 = .ok (.iload 5, 2) by decide +kernel) (lv_at hl 1 rfl) ?_
  refine lv_icmp_eq (tgt := 914) hx hb (show decode code 909 = .ok (.if_icmp .eq 5, 3) by decide +kernel) (by decide) (fun _ => ?_) (fun hq => absurd hE hq)
  refine lv_iload hx hb (show decode code 914 = .ok (.iload 5, 2) by decide +kernel) (lv_at hl 1 rfl) ?_
  refine lv_if_ne (tgt := 931) hx hb (show decode code 916 = .ok (.ifCond .ne 15, 3) by decide +kernel) (by decide) (fun _ => ?_) (fun hk0 => ?_)
  · refine lv_goto (tgt := 2743) hx hb (show decode code 931 = .ok (.goto 1812, 3) by decide +kernel) (by decide) ?_
    refine W.widen (k := cells + 8) (n := slots + 48) (by omega) (by omega) ?_
    exact kk _ _ _ _ hI2 Wd3 (lv_sub hl [2, 3, 4, 5, 6] rfl)
  refine lv_aload_n hx hb (show decode code 919 = .ok (.aload_n 3, 1) by decide +kernel) rfl (lv_at hl 5 rfl) ?_
  refine lv_iconst (n := 0) (v := 0) hx hb (show decode code 920 = .ok (.iconst 0, 1) by decide +kernel) (by decide) ?_
  refine sr_wlal (M := sr_Ml meth c) (k := 23) (i := 0) (n := 1) (a := 0) C Wd3 rfl (by decide) (sr_in23 0 (by decide)) (by decide) (show decode code 921 = .ok (.laload, 1) by decide +kernel) ?_
  refine lv_iload hx hb (show decode code 922 = .ok (.iload 6, 2) by decide +kernel) (lv_at hl 0 rfl) ?_
  refine lv_i2l hx hb (show decode code 924 = .ok (.i2l, 1) by decide +kernel) rfl ?_
  refine W.lcmp hx hb (show decode code 925 = .ok (.lcmp, 1) by decide +kernel) ?_
  rw [show t2.2 23 0 (0 : Int32).toNatClampNeg = _ from hO hk0, sr_cmp0]
  refine lv_if_eq (tgt := 931) hx hb (show decode code 926 = .ok (.ifCond .eq 5, 3) by decide +kernel) (by decide) (fun _ => ?_) (fun hq => absurd rfl hq)
  refine lv_goto (tgt := 2743) hx hb (show decode code 931 = .ok (.goto 1812, 3) by decide +kernel) (by decide) ?_
  refine W.widen (k := cells + 8) (n := slots + 48) (by omega) (by omega) ?_
  exact kk _ _ _ _ hI2 Wd3 (lv_sub hl [2, 3, 4, 5, 6] rfl)
theorem lc_13 {Inv Inv' : sr_t → Prop} {p : Program} {l : Launch} {e : Env} {s : State} {m : MethodId} {below : List Frame} {meth : Method} {c : Code} {b L : Nat} {xs : Nat → Int32} {D : va_G} {dA : Nat → ClassId} {H : Heap} {locs : List Loc} {ls : Array Slot} {cells slots i : Nat} {tt : sr_t} (hL : L ≤ 2048) (C0 : lw_At p s m meth c b L xs) (C : sr_C l (sr_Ml meth c) p s m #[Value.ref b] meth c D dA s.heap.size) (hi : i + 4 ≤ L) (hstep : sr_ok3 Inv Inv' (fun t => FL_node_23 (xs (i + 1)) (xs (i + 2)) t) (fun t => F11_node (xs (i + 1)) (xs (i + 2)) t)) (hI : Inv tt) (Wd : sr_W D dA s.heap.size (sr_em tt) s H locs) (hl : lv_has ls 7 [(0, .ref b), (1, .ref (sr_ad s.heap.size 10 0)), (2, .ref (sr_ad s.heap.size 11 0)), (3, .ref (sr_ad s.heap.size 23 0)), (4, .int (nI i))]) (hc : cells + 8 ≤ 601024) (hs : slots + 48 ≤ 7293033) (kk : ∀ (tt' : sr_t) (H' : Heap) (locs' : List Loc) (ls' : Array Slot), Inv' tt' → sr_W D dA s.heap.size (sr_em tt') s H' locs' → lv_has ls' 7 [(0, .ref b), (1, .ref (sr_ad s.heap.size 10 0)), (2, .ref (sr_ad s.heap.size 11 0)), (3, .ref (sr_ad s.heap.size 23 0)), (4, .int (nI i))] → W p l e room_1 s m #[Value.ref b] below meth c H' locs' (cells + 8) (slots + 48) (lw_Z below #[Value.ref b] s) (F0 m 2743 ls' [])) : W p l e room_1 s m #[Value.ref b] below meth c H locs cells slots (lw_Z below #[Value.ref b] s) (F0 m 934 ls []) := by
  obtain ⟨hx, hb, hr, hml, hown, hts, hX, hbl, hlocks, hgv⟩ := C0
  have hbA : ¬ sr_A s.heap.size b := Nat.not_le.mpr hbl
  have Wd0 := Wd.2.2
  have hRc : room_1.cells = 601024 := rfl
  have hRs : room_1.slots = 7293033 := rfl
  obtain ⟨r1, t1, r2, t2, e1, e2, hE, hO, hI2⟩ := hstep tt hI
  refine lv_aload_n hx hb (show decode code 934 = .ok (.aload_n 1, 1) by decide +kernel) rfl (lv_at hl 1 rfl) ?_
  refine lv_aload_n hx hb (show decode code 935 = .ok (.aload_n 0, 1) by decide +kernel) rfl (lv_at hl 0 rfl) ?_
  refine lv_iload hx hb (show decode code 936 = .ok (.iload 4, 2) by decide +kernel) (lv_at hl 4 rfl) ?_
  refine lv_iconst (n := 1) (v := 1) hx hb (show decode code 938 = .ok (.iconst 1, 1) by decide +kernel) (by decide) ?_
  refine lv_iadd hx hb (show decode code 939 = .ok (.iadd, 1) by decide +kernel) ?_
  rw [show nI i + 1 = nI (i + 1) from nI_add i 1]
  refine va_sld hx hb hX hbl hbA Wd0 (vp_in_nI (show i + 1 < L by omega) (by omega)) (show decode code 940 = .ok (.iaload, 1) by decide +kernel) ?_
  rw [nI_clamp (show i + 1 < 2147483648 by omega)]
  refine lv_aload_n hx hb (show decode code 941 = .ok (.aload_n 0, 1) by decide +kernel) rfl (lv_at hl 0 rfl) ?_
  refine lv_iload hx hb (show decode code 942 = .ok (.iload 4, 2) by decide +kernel) (lv_at hl 4 rfl) ?_
  refine lv_iconst (n := 2) (v := 2) hx hb (show decode code 944 = .ok (.iconst 2, 1) by decide +kernel) (by decide) ?_
  refine lv_iadd hx hb (show decode code 945 = .ok (.iadd, 1) by decide +kernel) ?_
  rw [show nI i + 2 = nI (i + 2) from nI_add i 2]
  refine va_sld hx hb hX hbl hbA Wd0 (vp_in_nI (show i + 2 < L by omega) (by omega)) (show decode code 946 = .ok (.iaload, 1) by decide +kernel) ?_
  rw [nI_clamp (show i + 2 < 2147483648 by omega)]
  refine lv_aload_n hx hb (show decode code 947 = .ok (.aload_n 3, 1) by decide +kernel) rfl (lv_at hl 3 rfl) ?_
  refine sr_wS (As := [sr_r 10 0, sr_i (xs (i + 1)), sr_i (xs (i + 2)), sr_r 23 0]) (em := sr_em) (M := sr_Ml meth c) (v := some (sr_i (r1))) (t1 := t1) (rest := []) (mc1 := 2) (ms1 := 12) C Wd hl.1 (Nat.le_of_ble_eq_true rfl) (Nat.le_of_ble_eq_true rfl) (by omega) (by omega) (fun hq => nomatch hq) fh_190 (show decode code 948 = .ok (.invokestatic 190, 3) by decide +kernel) rm_Law_L_node rfl (Nat.le_of_ble_eq_true rfl) (e1 ▸ CL_node_23 l (xs (i + 1)) (xs (i + 2)) tt) (fun H1 locs1 Wd1 => ?_)
  have Wd0 := Wd1.2.2
  refine W.eq (g2 := F0 m 951 ls [.int r1]) rfl ?_
  refine lv_istore (lv' := [(5, .int r1), (0, .ref b), (1, .ref (sr_ad s.heap.size 10 0)), (2, .ref (sr_ad s.heap.size 11 0)), (3, .ref (sr_ad s.heap.size 23 0)), (4, .int (nI i))]) hx hb (show decode code 951 = .ok (.istore 5, 2) by decide +kernel) hl (by decide) rfl (fun ls hl => ?_)
  refine lv_aload_n hx hb (show decode code 953 = .ok (.aload_n 2, 1) by decide +kernel) rfl (lv_at hl 3 rfl) ?_
  refine lv_aload_n hx hb (show decode code 954 = .ok (.aload_n 0, 1) by decide +kernel) rfl (lv_at hl 1 rfl) ?_
  refine lv_iload hx hb (show decode code 955 = .ok (.iload 4, 2) by decide +kernel) (lv_at hl 5 rfl) ?_
  refine lv_iconst (n := 1) (v := 1) hx hb (show decode code 957 = .ok (.iconst 1, 1) by decide +kernel) (by decide) ?_
  refine lv_iadd hx hb (show decode code 958 = .ok (.iadd, 1) by decide +kernel) ?_
  rw [show nI i + 1 = nI (i + 1) from nI_add i 1]
  refine va_sld hx hb hX hbl hbA Wd0 (vp_in_nI (show i + 1 < L by omega) (by omega)) (show decode code 959 = .ok (.iaload, 1) by decide +kernel) ?_
  rw [nI_clamp (show i + 1 < 2147483648 by omega)]
  refine lv_aload_n hx hb (show decode code 960 = .ok (.aload_n 0, 1) by decide +kernel) rfl (lv_at hl 1 rfl) ?_
  refine lv_iload hx hb (show decode code 961 = .ok (.iload 4, 2) by decide +kernel) (lv_at hl 5 rfl) ?_
  refine lv_iconst (n := 2) (v := 2) hx hb (show decode code 963 = .ok (.iconst 2, 1) by decide +kernel) (by decide) ?_
  refine lv_iadd hx hb (show decode code 964 = .ok (.iadd, 1) by decide +kernel) ?_
  rw [show nI i + 2 = nI (i + 2) from nI_add i 2]
  refine va_sld hx hb hX hbl hbA Wd0 (vp_in_nI (show i + 2 < L by omega) (by omega)) (show decode code 965 = .ok (.iaload, 1) by decide +kernel) ?_
  rw [nI_clamp (show i + 2 < 2147483648 by omega)]
  refine sr_wV (k := 11) (i := 0) (As := [sr_i (xs (i + 1)), sr_i (xs (i + 2))]) (em := sr_em) (M := sr_Ml meth c) (v := some (sr_i (r2))) (t1 := t2) (rest := []) (mc1 := 0) (ms1 := 0) C Wd1 hl.1 (Nat.le_of_ble_eq_true rfl) (Nat.le_of_ble_eq_true rfl) (by omega) (by omega) (fun hq => nomatch hq) fm_L_192 fl_L_192 (show decode code 966 = .ok (.invokevirtual 192, 3) by decide +kernel) (sr_in11 0 (by decide)) rm_Law_11_node rfl (Nat.le_of_ble_eq_true rfl) (e2 ▸ C11_node l (xs (i + 1)) (xs (i + 2)) t1) (fun H2 locs2 Wd2 => ?_)
  have Wd0 := Wd2.2.2
  refine W.eq (g2 := F0 m 969 ls [.int r2]) rfl ?_
  refine lv_istore (lv' := [(6, .int r2), (5, .int r1), (0, .ref b), (1, .ref (sr_ad s.heap.size 10 0)), (2, .ref (sr_ad s.heap.size 11 0)), (3, .ref (sr_ad s.heap.size 23 0)), (4, .int (nI i))]) hx hb (show decode code 969 = .ok (.istore 6, 2) by decide +kernel) hl (by decide) rfl (fun ls hl => ?_)
  refine lv_aload_n hx hb (show decode code 971 = .ok (.aload_n 2, 1) by decide +kernel) rfl (lv_at hl 4 rfl) ?_
  refine sr_wV (k := 11) (i := 0) (As := []) (em := sr_em) (M := sr_Ml meth c) (v := some (sr_i (t2.1 11 0 0))) (t1 := t2) (rest := []) (mc1 := 0) (ms1 := 0) C Wd2 hl.1 (Nat.le_of_ble_eq_true rfl) (Nat.le_of_ble_eq_true rfl) (by omega) (by omega) (fun hq => nomatch hq) fm_L_146 fl_L_146 (show decode code 972 = .ok (.invokevirtual 146, 3) by decide +kernel) (sr_in11 0 (by decide)) rm_Law_11_thrown rfl (Nat.le_of_ble_eq_true rfl) ((show F11_thrown t2 = some (.inl (some (sr_i (t2.1 11 0 0))), t2) from rfl) ▸ C11_thrown l  t2) (fun H3 locs3 Wd3 => ?_)
  have Wd0 := Wd3.2.2
  refine W.eq (g2 := F0 m 975 ls [.int (t2.1 11 0 0)]) rfl ?_
  refine lv_iload hx hb (show decode code 975 = .ok (.iload 5, 2) by decide +kernel) (lv_at hl 1 rfl) ?_
  refine lv_icmp_eq (tgt := 982) hx hb (show decode code 977 = .ok (.if_icmp .eq 5, 3) by decide +kernel) (by decide) (fun _ => ?_) (fun hq => absurd hE hq)
  refine lv_iload hx hb (show decode code 982 = .ok (.iload 5, 2) by decide +kernel) (lv_at hl 1 rfl) ?_
  refine lv_if_ne (tgt := 999) hx hb (show decode code 984 = .ok (.ifCond .ne 15, 3) by decide +kernel) (by decide) (fun _ => ?_) (fun hk0 => ?_)
  · refine lv_goto (tgt := 2743) hx hb (show decode code 999 = .ok (.goto 1744, 3) by decide +kernel) (by decide) ?_
    refine W.widen (k := cells + 8) (n := slots + 48) (by omega) (by omega) ?_
    exact kk _ _ _ _ hI2 Wd3 (lv_sub hl [2, 3, 4, 5, 6] rfl)
  refine lv_aload_n hx hb (show decode code 987 = .ok (.aload_n 3, 1) by decide +kernel) rfl (lv_at hl 5 rfl) ?_
  refine lv_iconst (n := 0) (v := 0) hx hb (show decode code 988 = .ok (.iconst 0, 1) by decide +kernel) (by decide) ?_
  refine sr_wlal (M := sr_Ml meth c) (k := 23) (i := 0) (n := 1) (a := 0) C Wd3 rfl (by decide) (sr_in23 0 (by decide)) (by decide) (show decode code 989 = .ok (.laload, 1) by decide +kernel) ?_
  refine lv_iload hx hb (show decode code 990 = .ok (.iload 6, 2) by decide +kernel) (lv_at hl 0 rfl) ?_
  refine lv_i2l hx hb (show decode code 992 = .ok (.i2l, 1) by decide +kernel) rfl ?_
  refine W.lcmp hx hb (show decode code 993 = .ok (.lcmp, 1) by decide +kernel) ?_
  rw [show t2.2 23 0 (0 : Int32).toNatClampNeg = _ from hO hk0, sr_cmp0]
  refine lv_if_eq (tgt := 999) hx hb (show decode code 994 = .ok (.ifCond .eq 5, 3) by decide +kernel) (by decide) (fun _ => ?_) (fun hq => absurd rfl hq)
  refine lv_goto (tgt := 2743) hx hb (show decode code 999 = .ok (.goto 1744, 3) by decide +kernel) (by decide) ?_
  refine W.widen (k := cells + 8) (n := slots + 48) (by omega) (by omega) ?_
  exact kk _ _ _ _ hI2 Wd3 (lv_sub hl [2, 3, 4, 5, 6] rfl)
theorem lc_14 {Inv Inv' : sr_t → Prop} {p : Program} {l : Launch} {e : Env} {s : State} {m : MethodId} {below : List Frame} {meth : Method} {c : Code} {b L : Nat} {xs : Nat → Int32} {D : va_G} {dA : Nat → ClassId} {H : Heap} {locs : List Loc} {ls : Array Slot} {cells slots i : Nat} {tt : sr_t} (hL : L ≤ 2048) (C0 : lw_At p s m meth c b L xs) (C : sr_C l (sr_Ml meth c) p s m #[Value.ref b] meth c D dA s.heap.size) (hi : i + 4 ≤ L) (hstep : sr_ok3 Inv Inv' (fun t => FL_link_23 (xs (i + 1)) (xs (i + 2)) (if (xs (i + 3)) = 0 then 0 else 1) t) (fun t => F11_link (xs (i + 1)) (xs (i + 2)) (if (xs (i + 3)) = 0 then 0 else 1) t)) (hI : Inv tt) (Wd : sr_W D dA s.heap.size (sr_em tt) s H locs) (hl : lv_has ls 7 [(0, .ref b), (1, .ref (sr_ad s.heap.size 10 0)), (2, .ref (sr_ad s.heap.size 11 0)), (3, .ref (sr_ad s.heap.size 23 0)), (4, .int (nI i))]) (hc : cells + 8 ≤ 601024) (hs : slots + 48 ≤ 7293033) (kk : ∀ (tt' : sr_t) (H' : Heap) (locs' : List Loc) (ls' : Array Slot), Inv' tt' → sr_W D dA s.heap.size (sr_em tt') s H' locs' → lv_has ls' 7 [(0, .ref b), (1, .ref (sr_ad s.heap.size 10 0)), (2, .ref (sr_ad s.heap.size 11 0)), (3, .ref (sr_ad s.heap.size 23 0)), (4, .int (nI i))] → W p l e room_1 s m #[Value.ref b] below meth c H' locs' (cells + 8) (slots + 48) (lw_Z below #[Value.ref b] s) (F0 m 2743 ls' [])) : W p l e room_1 s m #[Value.ref b] below meth c H locs cells slots (lw_Z below #[Value.ref b] s) (F0 m 1002 ls []) := by
  obtain ⟨hx, hb, hr, hml, hown, hts, hX, hbl, hlocks, hgv⟩ := C0
  have hbA : ¬ sr_A s.heap.size b := Nat.not_le.mpr hbl
  have Wd0 := Wd.2.2
  have hRc : room_1.cells = 601024 := rfl
  have hRs : room_1.slots = 7293033 := rfl
  obtain ⟨r1, t1, r2, t2, e1, e2, hE, hO, hI2⟩ := hstep tt hI
  refine lv_aload_n hx hb (show decode code 1002 = .ok (.aload_n 1, 1) by decide +kernel) rfl (lv_at hl 1 rfl) ?_
  refine lv_aload_n hx hb (show decode code 1003 = .ok (.aload_n 0, 1) by decide +kernel) rfl (lv_at hl 0 rfl) ?_
  refine lv_iload hx hb (show decode code 1004 = .ok (.iload 4, 2) by decide +kernel) (lv_at hl 4 rfl) ?_
  refine lv_iconst (n := 1) (v := 1) hx hb (show decode code 1006 = .ok (.iconst 1, 1) by decide +kernel) (by decide) ?_
  refine lv_iadd hx hb (show decode code 1007 = .ok (.iadd, 1) by decide +kernel) ?_
  rw [show nI i + 1 = nI (i + 1) from nI_add i 1]
  refine va_sld hx hb hX hbl hbA Wd0 (vp_in_nI (show i + 1 < L by omega) (by omega)) (show decode code 1008 = .ok (.iaload, 1) by decide +kernel) ?_
  rw [nI_clamp (show i + 1 < 2147483648 by omega)]
  refine lv_aload_n hx hb (show decode code 1009 = .ok (.aload_n 0, 1) by decide +kernel) rfl (lv_at hl 0 rfl) ?_
  refine lv_iload hx hb (show decode code 1010 = .ok (.iload 4, 2) by decide +kernel) (lv_at hl 4 rfl) ?_
  refine lv_iconst (n := 2) (v := 2) hx hb (show decode code 1012 = .ok (.iconst 2, 1) by decide +kernel) (by decide) ?_
  refine lv_iadd hx hb (show decode code 1013 = .ok (.iadd, 1) by decide +kernel) ?_
  rw [show nI i + 2 = nI (i + 2) from nI_add i 2]
  refine va_sld hx hb hX hbl hbA Wd0 (vp_in_nI (show i + 2 < L by omega) (by omega)) (show decode code 1014 = .ok (.iaload, 1) by decide +kernel) ?_
  rw [nI_clamp (show i + 2 < 2147483648 by omega)]
  refine lv_aload_n hx hb (show decode code 1015 = .ok (.aload_n 0, 1) by decide +kernel) rfl (lv_at hl 0 rfl) ?_
  refine lv_iload hx hb (show decode code 1016 = .ok (.iload 4, 2) by decide +kernel) (lv_at hl 4 rfl) ?_
  refine lv_iconst (n := 3) (v := 3) hx hb (show decode code 1018 = .ok (.iconst 3, 1) by decide +kernel) (by decide) ?_
  refine lv_iadd hx hb (show decode code 1019 = .ok (.iadd, 1) by decide +kernel) ?_
  rw [show nI i + 3 = nI (i + 3) from nI_add i 3]
  refine va_sld hx hb hX hbl hbA Wd0 (vp_in_nI (show i + 3 < L by omega) (by omega)) (show decode code 1020 = .ok (.iaload, 1) by decide +kernel) ?_
  rw [nI_clamp (show i + 3 < 2147483648 by omega)]
  refine sr_wbz (pc := 1021) hx hb (show decode code 1021 = .ok (.ifCond .eq 7, 3) by decide +kernel) (show decode code 1024 = .ok (.iconst 1, 1) by decide +kernel) (show decode code 1025 = .ok (.goto 4, 3) by decide +kernel) (show decode code 1028 = .ok (.iconst 0, 1) by decide +kernel) ?_
  refine lv_aload_n hx hb (show decode code 1029 = .ok (.aload_n 3, 1) by decide +kernel) rfl (lv_at hl 3 rfl) ?_
  refine sr_wS (As := [sr_r 10 0, sr_i (xs (i + 1)), sr_i (xs (i + 2)), sr_i (if (xs (i + 3)) = 0 then 0 else 1), sr_r 23 0]) (em := sr_em) (M := sr_Ml meth c) (v := some (sr_i (r1))) (t1 := t1) (rest := []) (mc1 := 1) (ms1 := 6) C Wd hl.1 (Nat.le_of_ble_eq_true rfl) (Nat.le_of_ble_eq_true rfl) (by omega) (by omega) (fun hq => nomatch hq) fh_193 (show decode code 1030 = .ok (.invokestatic 193, 3) by decide +kernel) rm_Law_L_link rfl (Nat.le_of_ble_eq_true rfl) (e1 ▸ CL_link_23 l (xs (i + 1)) (xs (i + 2)) (if (xs (i + 3)) = 0 then 0 else 1) tt) (fun H1 locs1 Wd1 => ?_)
  have Wd0 := Wd1.2.2
  refine W.eq (g2 := F0 m 1033 ls [.int r1]) rfl ?_
  refine lv_istore (lv' := [(5, .int r1), (0, .ref b), (1, .ref (sr_ad s.heap.size 10 0)), (2, .ref (sr_ad s.heap.size 11 0)), (3, .ref (sr_ad s.heap.size 23 0)), (4, .int (nI i))]) hx hb (show decode code 1033 = .ok (.istore 5, 2) by decide +kernel) hl (by decide) rfl (fun ls hl => ?_)
  refine lv_aload_n hx hb (show decode code 1035 = .ok (.aload_n 2, 1) by decide +kernel) rfl (lv_at hl 3 rfl) ?_
  refine lv_aload_n hx hb (show decode code 1036 = .ok (.aload_n 0, 1) by decide +kernel) rfl (lv_at hl 1 rfl) ?_
  refine lv_iload hx hb (show decode code 1037 = .ok (.iload 4, 2) by decide +kernel) (lv_at hl 5 rfl) ?_
  refine lv_iconst (n := 1) (v := 1) hx hb (show decode code 1039 = .ok (.iconst 1, 1) by decide +kernel) (by decide) ?_
  refine lv_iadd hx hb (show decode code 1040 = .ok (.iadd, 1) by decide +kernel) ?_
  rw [show nI i + 1 = nI (i + 1) from nI_add i 1]
  refine va_sld hx hb hX hbl hbA Wd0 (vp_in_nI (show i + 1 < L by omega) (by omega)) (show decode code 1041 = .ok (.iaload, 1) by decide +kernel) ?_
  rw [nI_clamp (show i + 1 < 2147483648 by omega)]
  refine lv_aload_n hx hb (show decode code 1042 = .ok (.aload_n 0, 1) by decide +kernel) rfl (lv_at hl 1 rfl) ?_
  refine lv_iload hx hb (show decode code 1043 = .ok (.iload 4, 2) by decide +kernel) (lv_at hl 5 rfl) ?_
  refine lv_iconst (n := 2) (v := 2) hx hb (show decode code 1045 = .ok (.iconst 2, 1) by decide +kernel) (by decide) ?_
  refine lv_iadd hx hb (show decode code 1046 = .ok (.iadd, 1) by decide +kernel) ?_
  rw [show nI i + 2 = nI (i + 2) from nI_add i 2]
  refine va_sld hx hb hX hbl hbA Wd0 (vp_in_nI (show i + 2 < L by omega) (by omega)) (show decode code 1047 = .ok (.iaload, 1) by decide +kernel) ?_
  rw [nI_clamp (show i + 2 < 2147483648 by omega)]
  refine lv_aload_n hx hb (show decode code 1048 = .ok (.aload_n 0, 1) by decide +kernel) rfl (lv_at hl 1 rfl) ?_
  refine lv_iload hx hb (show decode code 1049 = .ok (.iload 4, 2) by decide +kernel) (lv_at hl 5 rfl) ?_
  refine lv_iconst (n := 3) (v := 3) hx hb (show decode code 1051 = .ok (.iconst 3, 1) by decide +kernel) (by decide) ?_
  refine lv_iadd hx hb (show decode code 1052 = .ok (.iadd, 1) by decide +kernel) ?_
  rw [show nI i + 3 = nI (i + 3) from nI_add i 3]
  refine va_sld hx hb hX hbl hbA Wd0 (vp_in_nI (show i + 3 < L by omega) (by omega)) (show decode code 1053 = .ok (.iaload, 1) by decide +kernel) ?_
  rw [nI_clamp (show i + 3 < 2147483648 by omega)]
  refine sr_wbz (pc := 1054) hx hb (show decode code 1054 = .ok (.ifCond .eq 7, 3) by decide +kernel) (show decode code 1057 = .ok (.iconst 1, 1) by decide +kernel) (show decode code 1058 = .ok (.goto 4, 3) by decide +kernel) (show decode code 1061 = .ok (.iconst 0, 1) by decide +kernel) ?_
  refine sr_wV (k := 11) (i := 0) (As := [sr_i (xs (i + 1)), sr_i (xs (i + 2)), sr_i (if (xs (i + 3)) = 0 then 0 else 1)]) (em := sr_em) (M := sr_Ml meth c) (v := some (sr_i (r2))) (t1 := t2) (rest := []) (mc1 := 0) (ms1 := 0) C Wd1 hl.1 (Nat.le_of_ble_eq_true rfl) (Nat.le_of_ble_eq_true rfl) (by omega) (by omega) (fun hq => nomatch hq) fm_L_195 fl_L_195 (show decode code 1062 = .ok (.invokevirtual 195, 3) by decide +kernel) (sr_in11 0 (by decide)) rm_Law_11_link rfl (Nat.le_of_ble_eq_true rfl) (e2 ▸ C11_link l (xs (i + 1)) (xs (i + 2)) (if (xs (i + 3)) = 0 then 0 else 1) t1) (fun H2 locs2 Wd2 => ?_)
  have Wd0 := Wd2.2.2
  refine W.eq (g2 := F0 m 1065 ls [.int r2]) rfl ?_
  refine lv_istore (lv' := [(6, .int r2), (5, .int r1), (0, .ref b), (1, .ref (sr_ad s.heap.size 10 0)), (2, .ref (sr_ad s.heap.size 11 0)), (3, .ref (sr_ad s.heap.size 23 0)), (4, .int (nI i))]) hx hb (show decode code 1065 = .ok (.istore 6, 2) by decide +kernel) hl (by decide) rfl (fun ls hl => ?_)
  refine lv_aload_n hx hb (show decode code 1067 = .ok (.aload_n 2, 1) by decide +kernel) rfl (lv_at hl 4 rfl) ?_
  refine sr_wV (k := 11) (i := 0) (As := []) (em := sr_em) (M := sr_Ml meth c) (v := some (sr_i (t2.1 11 0 0))) (t1 := t2) (rest := []) (mc1 := 0) (ms1 := 0) C Wd2 hl.1 (Nat.le_of_ble_eq_true rfl) (Nat.le_of_ble_eq_true rfl) (by omega) (by omega) (fun hq => nomatch hq) fm_L_146 fl_L_146 (show decode code 1068 = .ok (.invokevirtual 146, 3) by decide +kernel) (sr_in11 0 (by decide)) rm_Law_11_thrown rfl (Nat.le_of_ble_eq_true rfl) ((show F11_thrown t2 = some (.inl (some (sr_i (t2.1 11 0 0))), t2) from rfl) ▸ C11_thrown l  t2) (fun H3 locs3 Wd3 => ?_)
  have Wd0 := Wd3.2.2
  refine W.eq (g2 := F0 m 1071 ls [.int (t2.1 11 0 0)]) rfl ?_
  refine lv_iload hx hb (show decode code 1071 = .ok (.iload 5, 2) by decide +kernel) (lv_at hl 1 rfl) ?_
  refine lv_icmp_eq (tgt := 1078) hx hb (show decode code 1073 = .ok (.if_icmp .eq 5, 3) by decide +kernel) (by decide) (fun _ => ?_) (fun hq => absurd hE hq)
  refine lv_iload hx hb (show decode code 1078 = .ok (.iload 5, 2) by decide +kernel) (lv_at hl 1 rfl) ?_
  refine lv_if_ne (tgt := 1095) hx hb (show decode code 1080 = .ok (.ifCond .ne 15, 3) by decide +kernel) (by decide) (fun _ => ?_) (fun hk0 => ?_)
  · refine lv_goto (tgt := 2743) hx hb (show decode code 1095 = .ok (.goto 1648, 3) by decide +kernel) (by decide) ?_
    refine W.widen (k := cells + 8) (n := slots + 48) (by omega) (by omega) ?_
    exact kk _ _ _ _ hI2 Wd3 (lv_sub hl [2, 3, 4, 5, 6] rfl)
  refine lv_aload_n hx hb (show decode code 1083 = .ok (.aload_n 3, 1) by decide +kernel) rfl (lv_at hl 5 rfl) ?_
  refine lv_iconst (n := 0) (v := 0) hx hb (show decode code 1084 = .ok (.iconst 0, 1) by decide +kernel) (by decide) ?_
  refine sr_wlal (M := sr_Ml meth c) (k := 23) (i := 0) (n := 1) (a := 0) C Wd3 rfl (by decide) (sr_in23 0 (by decide)) (by decide) (show decode code 1085 = .ok (.laload, 1) by decide +kernel) ?_
  refine lv_iload hx hb (show decode code 1086 = .ok (.iload 6, 2) by decide +kernel) (lv_at hl 0 rfl) ?_
  refine lv_i2l hx hb (show decode code 1088 = .ok (.i2l, 1) by decide +kernel) rfl ?_
  refine W.lcmp hx hb (show decode code 1089 = .ok (.lcmp, 1) by decide +kernel) ?_
  rw [show t2.2 23 0 (0 : Int32).toNatClampNeg = _ from hO hk0, sr_cmp0]
  refine lv_if_eq (tgt := 1095) hx hb (show decode code 1090 = .ok (.ifCond .eq 5, 3) by decide +kernel) (by decide) (fun _ => ?_) (fun hq => absurd rfl hq)
  refine lv_goto (tgt := 2743) hx hb (show decode code 1095 = .ok (.goto 1648, 3) by decide +kernel) (by decide) ?_
  refine W.widen (k := cells + 8) (n := slots + 48) (by omega) (by omega) ?_
  exact kk _ _ _ _ hI2 Wd3 (lv_sub hl [2, 3, 4, 5, 6] rfl)
theorem lc_15 {Inv Inv' : sr_t → Prop} {p : Program} {l : Launch} {e : Env} {s : State} {m : MethodId} {below : List Frame} {meth : Method} {c : Code} {b L : Nat} {xs : Nat → Int32} {D : va_G} {dA : Nat → ClassId} {H : Heap} {locs : List Loc} {ls : Array Slot} {cells slots i : Nat} {tt : sr_t} (hL : L ≤ 2048) (C0 : lw_At p s m meth c b L xs) (C : sr_C l (sr_Ml meth c) p s m #[Value.ref b] meth c D dA s.heap.size) (hi : i + 4 ≤ L) (hstep : sr_ok3 Inv Inv' (fun t => FL_letter_23 (xs (i + 1)) (xs (i + 2)) t) (fun t => F11_letter (xs (i + 1)) (xs (i + 2)) t)) (hI : Inv tt) (Wd : sr_W D dA s.heap.size (sr_em tt) s H locs) (hl : lv_has ls 7 [(0, .ref b), (1, .ref (sr_ad s.heap.size 10 0)), (2, .ref (sr_ad s.heap.size 11 0)), (3, .ref (sr_ad s.heap.size 23 0)), (4, .int (nI i))]) (hc : cells + 8 ≤ 601024) (hs : slots + 48 ≤ 7293033) (kk : ∀ (tt' : sr_t) (H' : Heap) (locs' : List Loc) (ls' : Array Slot), Inv' tt' → sr_W D dA s.heap.size (sr_em tt') s H' locs' → lv_has ls' 7 [(0, .ref b), (1, .ref (sr_ad s.heap.size 10 0)), (2, .ref (sr_ad s.heap.size 11 0)), (3, .ref (sr_ad s.heap.size 23 0)), (4, .int (nI i))] → W p l e room_1 s m #[Value.ref b] below meth c H' locs' (cells + 8) (slots + 48) (lw_Z below #[Value.ref b] s) (F0 m 2743 ls' [])) : W p l e room_1 s m #[Value.ref b] below meth c H locs cells slots (lw_Z below #[Value.ref b] s) (F0 m 1098 ls []) := by
  obtain ⟨hx, hb, hr, hml, hown, hts, hX, hbl, hlocks, hgv⟩ := C0
  have hbA : ¬ sr_A s.heap.size b := Nat.not_le.mpr hbl
  have Wd0 := Wd.2.2
  have hRc : room_1.cells = 601024 := rfl
  have hRs : room_1.slots = 7293033 := rfl
  obtain ⟨r1, t1, r2, t2, e1, e2, hE, hO, hI2⟩ := hstep tt hI
  refine lv_aload_n hx hb (show decode code 1098 = .ok (.aload_n 1, 1) by decide +kernel) rfl (lv_at hl 1 rfl) ?_
  refine lv_aload_n hx hb (show decode code 1099 = .ok (.aload_n 0, 1) by decide +kernel) rfl (lv_at hl 0 rfl) ?_
  refine lv_iload hx hb (show decode code 1100 = .ok (.iload 4, 2) by decide +kernel) (lv_at hl 4 rfl) ?_
  refine lv_iconst (n := 1) (v := 1) hx hb (show decode code 1102 = .ok (.iconst 1, 1) by decide +kernel) (by decide) ?_
  refine lv_iadd hx hb (show decode code 1103 = .ok (.iadd, 1) by decide +kernel) ?_
  rw [show nI i + 1 = nI (i + 1) from nI_add i 1]
  refine va_sld hx hb hX hbl hbA Wd0 (vp_in_nI (show i + 1 < L by omega) (by omega)) (show decode code 1104 = .ok (.iaload, 1) by decide +kernel) ?_
  rw [nI_clamp (show i + 1 < 2147483648 by omega)]
  refine lv_aload_n hx hb (show decode code 1105 = .ok (.aload_n 0, 1) by decide +kernel) rfl (lv_at hl 0 rfl) ?_
  refine lv_iload hx hb (show decode code 1106 = .ok (.iload 4, 2) by decide +kernel) (lv_at hl 4 rfl) ?_
  refine lv_iconst (n := 2) (v := 2) hx hb (show decode code 1108 = .ok (.iconst 2, 1) by decide +kernel) (by decide) ?_
  refine lv_iadd hx hb (show decode code 1109 = .ok (.iadd, 1) by decide +kernel) ?_
  rw [show nI i + 2 = nI (i + 2) from nI_add i 2]
  refine va_sld hx hb hX hbl hbA Wd0 (vp_in_nI (show i + 2 < L by omega) (by omega)) (show decode code 1110 = .ok (.iaload, 1) by decide +kernel) ?_
  rw [nI_clamp (show i + 2 < 2147483648 by omega)]
  refine lv_aload_n hx hb (show decode code 1111 = .ok (.aload_n 3, 1) by decide +kernel) rfl (lv_at hl 3 rfl) ?_
  refine sr_wS (As := [sr_r 10 0, sr_i (xs (i + 1)), sr_i (xs (i + 2)), sr_r 23 0]) (em := sr_em) (M := sr_Ml meth c) (v := some (sr_i (r1))) (t1 := t1) (rest := []) (mc1 := 1) (ms1 := 6) C Wd hl.1 (Nat.le_of_ble_eq_true rfl) (Nat.le_of_ble_eq_true rfl) (by omega) (by omega) (fun hq => nomatch hq) fh_196 (show decode code 1112 = .ok (.invokestatic 196, 3) by decide +kernel) rm_Law_L_letter rfl (Nat.le_of_ble_eq_true rfl) (e1 ▸ CL_letter_23 l (xs (i + 1)) (xs (i + 2)) tt) (fun H1 locs1 Wd1 => ?_)
  have Wd0 := Wd1.2.2
  refine W.eq (g2 := F0 m 1115 ls [.int r1]) rfl ?_
  refine lv_istore (lv' := [(5, .int r1), (0, .ref b), (1, .ref (sr_ad s.heap.size 10 0)), (2, .ref (sr_ad s.heap.size 11 0)), (3, .ref (sr_ad s.heap.size 23 0)), (4, .int (nI i))]) hx hb (show decode code 1115 = .ok (.istore 5, 2) by decide +kernel) hl (by decide) rfl (fun ls hl => ?_)
  refine lv_aload_n hx hb (show decode code 1117 = .ok (.aload_n 2, 1) by decide +kernel) rfl (lv_at hl 3 rfl) ?_
  refine lv_aload_n hx hb (show decode code 1118 = .ok (.aload_n 0, 1) by decide +kernel) rfl (lv_at hl 1 rfl) ?_
  refine lv_iload hx hb (show decode code 1119 = .ok (.iload 4, 2) by decide +kernel) (lv_at hl 5 rfl) ?_
  refine lv_iconst (n := 1) (v := 1) hx hb (show decode code 1121 = .ok (.iconst 1, 1) by decide +kernel) (by decide) ?_
  refine lv_iadd hx hb (show decode code 1122 = .ok (.iadd, 1) by decide +kernel) ?_
  rw [show nI i + 1 = nI (i + 1) from nI_add i 1]
  refine va_sld hx hb hX hbl hbA Wd0 (vp_in_nI (show i + 1 < L by omega) (by omega)) (show decode code 1123 = .ok (.iaload, 1) by decide +kernel) ?_
  rw [nI_clamp (show i + 1 < 2147483648 by omega)]
  refine lv_aload_n hx hb (show decode code 1124 = .ok (.aload_n 0, 1) by decide +kernel) rfl (lv_at hl 1 rfl) ?_
  refine lv_iload hx hb (show decode code 1125 = .ok (.iload 4, 2) by decide +kernel) (lv_at hl 5 rfl) ?_
  refine lv_iconst (n := 2) (v := 2) hx hb (show decode code 1127 = .ok (.iconst 2, 1) by decide +kernel) (by decide) ?_
  refine lv_iadd hx hb (show decode code 1128 = .ok (.iadd, 1) by decide +kernel) ?_
  rw [show nI i + 2 = nI (i + 2) from nI_add i 2]
  refine va_sld hx hb hX hbl hbA Wd0 (vp_in_nI (show i + 2 < L by omega) (by omega)) (show decode code 1129 = .ok (.iaload, 1) by decide +kernel) ?_
  rw [nI_clamp (show i + 2 < 2147483648 by omega)]
  refine sr_wV (k := 11) (i := 0) (As := [sr_i (xs (i + 1)), sr_i (xs (i + 2))]) (em := sr_em) (M := sr_Ml meth c) (v := some (sr_i (r2))) (t1 := t2) (rest := []) (mc1 := 0) (ms1 := 0) C Wd1 hl.1 (Nat.le_of_ble_eq_true rfl) (Nat.le_of_ble_eq_true rfl) (by omega) (by omega) (fun hq => nomatch hq) fm_L_198 fl_L_198 (show decode code 1130 = .ok (.invokevirtual 198, 3) by decide +kernel) (sr_in11 0 (by decide)) rm_Law_11_letter rfl (Nat.le_of_ble_eq_true rfl) (e2 ▸ C11_letter l (xs (i + 1)) (xs (i + 2)) t1) (fun H2 locs2 Wd2 => ?_)
  have Wd0 := Wd2.2.2
  refine W.eq (g2 := F0 m 1133 ls [.int r2]) rfl ?_
  refine lv_istore (lv' := [(6, .int r2), (5, .int r1), (0, .ref b), (1, .ref (sr_ad s.heap.size 10 0)), (2, .ref (sr_ad s.heap.size 11 0)), (3, .ref (sr_ad s.heap.size 23 0)), (4, .int (nI i))]) hx hb (show decode code 1133 = .ok (.istore 6, 2) by decide +kernel) hl (by decide) rfl (fun ls hl => ?_)
  refine lv_aload_n hx hb (show decode code 1135 = .ok (.aload_n 2, 1) by decide +kernel) rfl (lv_at hl 4 rfl) ?_
  refine sr_wV (k := 11) (i := 0) (As := []) (em := sr_em) (M := sr_Ml meth c) (v := some (sr_i (t2.1 11 0 0))) (t1 := t2) (rest := []) (mc1 := 0) (ms1 := 0) C Wd2 hl.1 (Nat.le_of_ble_eq_true rfl) (Nat.le_of_ble_eq_true rfl) (by omega) (by omega) (fun hq => nomatch hq) fm_L_146 fl_L_146 (show decode code 1136 = .ok (.invokevirtual 146, 3) by decide +kernel) (sr_in11 0 (by decide)) rm_Law_11_thrown rfl (Nat.le_of_ble_eq_true rfl) ((show F11_thrown t2 = some (.inl (some (sr_i (t2.1 11 0 0))), t2) from rfl) ▸ C11_thrown l  t2) (fun H3 locs3 Wd3 => ?_)
  have Wd0 := Wd3.2.2
  refine W.eq (g2 := F0 m 1139 ls [.int (t2.1 11 0 0)]) rfl ?_
  refine lv_iload hx hb (show decode code 1139 = .ok (.iload 5, 2) by decide +kernel) (lv_at hl 1 rfl) ?_
  refine lv_icmp_eq (tgt := 1146) hx hb (show decode code 1141 = .ok (.if_icmp .eq 5, 3) by decide +kernel) (by decide) (fun _ => ?_) (fun hq => absurd hE hq)
  refine lv_iload hx hb (show decode code 1146 = .ok (.iload 5, 2) by decide +kernel) (lv_at hl 1 rfl) ?_
  refine lv_if_ne (tgt := 1163) hx hb (show decode code 1148 = .ok (.ifCond .ne 15, 3) by decide +kernel) (by decide) (fun _ => ?_) (fun hk0 => ?_)
  · refine lv_goto (tgt := 2743) hx hb (show decode code 1163 = .ok (.goto 1580, 3) by decide +kernel) (by decide) ?_
    refine W.widen (k := cells + 8) (n := slots + 48) (by omega) (by omega) ?_
    exact kk _ _ _ _ hI2 Wd3 (lv_sub hl [2, 3, 4, 5, 6] rfl)
  refine lv_aload_n hx hb (show decode code 1151 = .ok (.aload_n 3, 1) by decide +kernel) rfl (lv_at hl 5 rfl) ?_
  refine lv_iconst (n := 0) (v := 0) hx hb (show decode code 1152 = .ok (.iconst 0, 1) by decide +kernel) (by decide) ?_
  refine sr_wlal (M := sr_Ml meth c) (k := 23) (i := 0) (n := 1) (a := 0) C Wd3 rfl (by decide) (sr_in23 0 (by decide)) (by decide) (show decode code 1153 = .ok (.laload, 1) by decide +kernel) ?_
  refine lv_iload hx hb (show decode code 1154 = .ok (.iload 6, 2) by decide +kernel) (lv_at hl 0 rfl) ?_
  refine lv_i2l hx hb (show decode code 1156 = .ok (.i2l, 1) by decide +kernel) rfl ?_
  refine W.lcmp hx hb (show decode code 1157 = .ok (.lcmp, 1) by decide +kernel) ?_
  rw [show t2.2 23 0 (0 : Int32).toNatClampNeg = _ from hO hk0, sr_cmp0]
  refine lv_if_eq (tgt := 1163) hx hb (show decode code 1158 = .ok (.ifCond .eq 5, 3) by decide +kernel) (by decide) (fun _ => ?_) (fun hq => absurd rfl hq)
  refine lv_goto (tgt := 2743) hx hb (show decode code 1163 = .ok (.goto 1580, 3) by decide +kernel) (by decide) ?_
  refine W.widen (k := cells + 8) (n := slots + 48) (by omega) (by omega) ?_
  exact kk _ _ _ _ hI2 Wd3 (lv_sub hl [2, 3, 4, 5, 6] rfl)
theorem lc_16 {Inv Inv' : sr_t → Prop} {p : Program} {l : Launch} {e : Env} {s : State} {m : MethodId} {below : List Frame} {meth : Method} {c : Code} {b L : Nat} {xs : Nat → Int32} {D : va_G} {dA : Nat → ClassId} {H : Heap} {locs : List Loc} {ls : Array Slot} {cells slots i : Nat} {tt : sr_t} (hL : L ≤ 2048) (C0 : lw_At p s m meth c b L xs) (C : sr_C l (sr_Ml meth c) p s m #[Value.ref b] meth c D dA s.heap.size) (hi : i + 4 ≤ L) (hstep : sr_ok3 Inv Inv' (fun t => FL_overlap_23 (xs (i + 1)) (xs (i + 2)) t) (fun t => F11_overlap (xs (i + 1)) (xs (i + 2)) t)) (hI : Inv tt) (Wd : sr_W D dA s.heap.size (sr_em tt) s H locs) (hl : lv_has ls 7 [(0, .ref b), (1, .ref (sr_ad s.heap.size 10 0)), (2, .ref (sr_ad s.heap.size 11 0)), (3, .ref (sr_ad s.heap.size 23 0)), (4, .int (nI i))]) (hc : cells + 8 ≤ 601024) (hs : slots + 48 ≤ 7293033) (kk : ∀ (tt' : sr_t) (H' : Heap) (locs' : List Loc) (ls' : Array Slot), Inv' tt' → sr_W D dA s.heap.size (sr_em tt') s H' locs' → lv_has ls' 7 [(0, .ref b), (1, .ref (sr_ad s.heap.size 10 0)), (2, .ref (sr_ad s.heap.size 11 0)), (3, .ref (sr_ad s.heap.size 23 0)), (4, .int (nI i))] → W p l e room_1 s m #[Value.ref b] below meth c H' locs' (cells + 8) (slots + 48) (lw_Z below #[Value.ref b] s) (F0 m 2743 ls' [])) : W p l e room_1 s m #[Value.ref b] below meth c H locs cells slots (lw_Z below #[Value.ref b] s) (F0 m 1166 ls []) := by
  obtain ⟨hx, hb, hr, hml, hown, hts, hX, hbl, hlocks, hgv⟩ := C0
  have hbA : ¬ sr_A s.heap.size b := Nat.not_le.mpr hbl
  have Wd0 := Wd.2.2
  have hRc : room_1.cells = 601024 := rfl
  have hRs : room_1.slots = 7293033 := rfl
  obtain ⟨r1, t1, r2, t2, e1, e2, hE, hO, hI2⟩ := hstep tt hI
  refine lv_aload_n hx hb (show decode code 1166 = .ok (.aload_n 1, 1) by decide +kernel) rfl (lv_at hl 1 rfl) ?_
  refine lv_aload_n hx hb (show decode code 1167 = .ok (.aload_n 0, 1) by decide +kernel) rfl (lv_at hl 0 rfl) ?_
  refine lv_iload hx hb (show decode code 1168 = .ok (.iload 4, 2) by decide +kernel) (lv_at hl 4 rfl) ?_
  refine lv_iconst (n := 1) (v := 1) hx hb (show decode code 1170 = .ok (.iconst 1, 1) by decide +kernel) (by decide) ?_
  refine lv_iadd hx hb (show decode code 1171 = .ok (.iadd, 1) by decide +kernel) ?_
  rw [show nI i + 1 = nI (i + 1) from nI_add i 1]
  refine va_sld hx hb hX hbl hbA Wd0 (vp_in_nI (show i + 1 < L by omega) (by omega)) (show decode code 1172 = .ok (.iaload, 1) by decide +kernel) ?_
  rw [nI_clamp (show i + 1 < 2147483648 by omega)]
  refine lv_aload_n hx hb (show decode code 1173 = .ok (.aload_n 0, 1) by decide +kernel) rfl (lv_at hl 0 rfl) ?_
  refine lv_iload hx hb (show decode code 1174 = .ok (.iload 4, 2) by decide +kernel) (lv_at hl 4 rfl) ?_
  refine lv_iconst (n := 2) (v := 2) hx hb (show decode code 1176 = .ok (.iconst 2, 1) by decide +kernel) (by decide) ?_
  refine lv_iadd hx hb (show decode code 1177 = .ok (.iadd, 1) by decide +kernel) ?_
  rw [show nI i + 2 = nI (i + 2) from nI_add i 2]
  refine va_sld hx hb hX hbl hbA Wd0 (vp_in_nI (show i + 2 < L by omega) (by omega)) (show decode code 1178 = .ok (.iaload, 1) by decide +kernel) ?_
  rw [nI_clamp (show i + 2 < 2147483648 by omega)]
  refine lv_aload_n hx hb (show decode code 1179 = .ok (.aload_n 3, 1) by decide +kernel) rfl (lv_at hl 3 rfl) ?_
  refine sr_wS (As := [sr_r 10 0, sr_i (xs (i + 1)), sr_i (xs (i + 2)), sr_r 23 0]) (em := sr_em) (M := sr_Ml meth c) (v := some (sr_i (r1))) (t1 := t1) (rest := []) (mc1 := 2) (ms1 := 12) C Wd hl.1 (Nat.le_of_ble_eq_true rfl) (Nat.le_of_ble_eq_true rfl) (by omega) (by omega) (fun hq => nomatch hq) fh_199 (show decode code 1180 = .ok (.invokestatic 199, 3) by decide +kernel) rm_Law_L_overlap rfl (Nat.le_of_ble_eq_true rfl) (e1 ▸ CL_overlap_23 l (xs (i + 1)) (xs (i + 2)) tt) (fun H1 locs1 Wd1 => ?_)
  have Wd0 := Wd1.2.2
  refine W.eq (g2 := F0 m 1183 ls [.int r1]) rfl ?_
  refine lv_istore (lv' := [(5, .int r1), (0, .ref b), (1, .ref (sr_ad s.heap.size 10 0)), (2, .ref (sr_ad s.heap.size 11 0)), (3, .ref (sr_ad s.heap.size 23 0)), (4, .int (nI i))]) hx hb (show decode code 1183 = .ok (.istore 5, 2) by decide +kernel) hl (by decide) rfl (fun ls hl => ?_)
  refine lv_aload_n hx hb (show decode code 1185 = .ok (.aload_n 2, 1) by decide +kernel) rfl (lv_at hl 3 rfl) ?_
  refine lv_aload_n hx hb (show decode code 1186 = .ok (.aload_n 0, 1) by decide +kernel) rfl (lv_at hl 1 rfl) ?_
  refine lv_iload hx hb (show decode code 1187 = .ok (.iload 4, 2) by decide +kernel) (lv_at hl 5 rfl) ?_
  refine lv_iconst (n := 1) (v := 1) hx hb (show decode code 1189 = .ok (.iconst 1, 1) by decide +kernel) (by decide) ?_
  refine lv_iadd hx hb (show decode code 1190 = .ok (.iadd, 1) by decide +kernel) ?_
  rw [show nI i + 1 = nI (i + 1) from nI_add i 1]
  refine va_sld hx hb hX hbl hbA Wd0 (vp_in_nI (show i + 1 < L by omega) (by omega)) (show decode code 1191 = .ok (.iaload, 1) by decide +kernel) ?_
  rw [nI_clamp (show i + 1 < 2147483648 by omega)]
  refine lv_aload_n hx hb (show decode code 1192 = .ok (.aload_n 0, 1) by decide +kernel) rfl (lv_at hl 1 rfl) ?_
  refine lv_iload hx hb (show decode code 1193 = .ok (.iload 4, 2) by decide +kernel) (lv_at hl 5 rfl) ?_
  refine lv_iconst (n := 2) (v := 2) hx hb (show decode code 1195 = .ok (.iconst 2, 1) by decide +kernel) (by decide) ?_
  refine lv_iadd hx hb (show decode code 1196 = .ok (.iadd, 1) by decide +kernel) ?_
  rw [show nI i + 2 = nI (i + 2) from nI_add i 2]
  refine va_sld hx hb hX hbl hbA Wd0 (vp_in_nI (show i + 2 < L by omega) (by omega)) (show decode code 1197 = .ok (.iaload, 1) by decide +kernel) ?_
  rw [nI_clamp (show i + 2 < 2147483648 by omega)]
  refine sr_wV (k := 11) (i := 0) (As := [sr_i (xs (i + 1)), sr_i (xs (i + 2))]) (em := sr_em) (M := sr_Ml meth c) (v := some (sr_i (r2))) (t1 := t2) (rest := []) (mc1 := 0) (ms1 := 0) C Wd1 hl.1 (Nat.le_of_ble_eq_true rfl) (Nat.le_of_ble_eq_true rfl) (by omega) (by omega) (fun hq => nomatch hq) fm_L_201 fl_L_201 (show decode code 1198 = .ok (.invokevirtual 201, 3) by decide +kernel) (sr_in11 0 (by decide)) rm_Law_11_overlap rfl (Nat.le_of_ble_eq_true rfl) (e2 ▸ C11_overlap l (xs (i + 1)) (xs (i + 2)) t1) (fun H2 locs2 Wd2 => ?_)
  have Wd0 := Wd2.2.2
  refine W.eq (g2 := F0 m 1201 ls [.int r2]) rfl ?_
  refine lv_istore (lv' := [(6, .int r2), (5, .int r1), (0, .ref b), (1, .ref (sr_ad s.heap.size 10 0)), (2, .ref (sr_ad s.heap.size 11 0)), (3, .ref (sr_ad s.heap.size 23 0)), (4, .int (nI i))]) hx hb (show decode code 1201 = .ok (.istore 6, 2) by decide +kernel) hl (by decide) rfl (fun ls hl => ?_)
  refine lv_aload_n hx hb (show decode code 1203 = .ok (.aload_n 2, 1) by decide +kernel) rfl (lv_at hl 4 rfl) ?_
  refine sr_wV (k := 11) (i := 0) (As := []) (em := sr_em) (M := sr_Ml meth c) (v := some (sr_i (t2.1 11 0 0))) (t1 := t2) (rest := []) (mc1 := 0) (ms1 := 0) C Wd2 hl.1 (Nat.le_of_ble_eq_true rfl) (Nat.le_of_ble_eq_true rfl) (by omega) (by omega) (fun hq => nomatch hq) fm_L_146 fl_L_146 (show decode code 1204 = .ok (.invokevirtual 146, 3) by decide +kernel) (sr_in11 0 (by decide)) rm_Law_11_thrown rfl (Nat.le_of_ble_eq_true rfl) ((show F11_thrown t2 = some (.inl (some (sr_i (t2.1 11 0 0))), t2) from rfl) ▸ C11_thrown l  t2) (fun H3 locs3 Wd3 => ?_)
  have Wd0 := Wd3.2.2
  refine W.eq (g2 := F0 m 1207 ls [.int (t2.1 11 0 0)]) rfl ?_
  refine lv_iload hx hb (show decode code 1207 = .ok (.iload 5, 2) by decide +kernel) (lv_at hl 1 rfl) ?_
  refine lv_icmp_eq (tgt := 1214) hx hb (show decode code 1209 = .ok (.if_icmp .eq 5, 3) by decide +kernel) (by decide) (fun _ => ?_) (fun hq => absurd hE hq)
  refine lv_iload hx hb (show decode code 1214 = .ok (.iload 5, 2) by decide +kernel) (lv_at hl 1 rfl) ?_
  refine lv_if_ne (tgt := 1231) hx hb (show decode code 1216 = .ok (.ifCond .ne 15, 3) by decide +kernel) (by decide) (fun _ => ?_) (fun hk0 => ?_)
  · refine lv_goto (tgt := 2743) hx hb (show decode code 1231 = .ok (.goto 1512, 3) by decide +kernel) (by decide) ?_
    refine W.widen (k := cells + 8) (n := slots + 48) (by omega) (by omega) ?_
    exact kk _ _ _ _ hI2 Wd3 (lv_sub hl [2, 3, 4, 5, 6] rfl)
  refine lv_aload_n hx hb (show decode code 1219 = .ok (.aload_n 3, 1) by decide +kernel) rfl (lv_at hl 5 rfl) ?_
  refine lv_iconst (n := 0) (v := 0) hx hb (show decode code 1220 = .ok (.iconst 0, 1) by decide +kernel) (by decide) ?_
  refine sr_wlal (M := sr_Ml meth c) (k := 23) (i := 0) (n := 1) (a := 0) C Wd3 rfl (by decide) (sr_in23 0 (by decide)) (by decide) (show decode code 1221 = .ok (.laload, 1) by decide +kernel) ?_
  refine lv_iload hx hb (show decode code 1222 = .ok (.iload 6, 2) by decide +kernel) (lv_at hl 0 rfl) ?_
  refine lv_i2l hx hb (show decode code 1224 = .ok (.i2l, 1) by decide +kernel) rfl ?_
  refine W.lcmp hx hb (show decode code 1225 = .ok (.lcmp, 1) by decide +kernel) ?_
  rw [show t2.2 23 0 (0 : Int32).toNatClampNeg = _ from hO hk0, sr_cmp0]
  refine lv_if_eq (tgt := 1231) hx hb (show decode code 1226 = .ok (.ifCond .eq 5, 3) by decide +kernel) (by decide) (fun _ => ?_) (fun hq => absurd rfl hq)
  refine lv_goto (tgt := 2743) hx hb (show decode code 1231 = .ok (.goto 1512, 3) by decide +kernel) (by decide) ?_
  refine W.widen (k := cells + 8) (n := slots + 48) (by omega) (by omega) ?_
  exact kk _ _ _ _ hI2 Wd3 (lv_sub hl [2, 3, 4, 5, 6] rfl)
theorem lc_17 {Inv Inv' : sr_t → Prop} {p : Program} {l : Launch} {e : Env} {s : State} {m : MethodId} {below : List Frame} {meth : Method} {c : Code} {b L : Nat} {xs : Nat → Int32} {D : va_G} {dA : Nat → ClassId} {H : Heap} {locs : List Loc} {ls : Array Slot} {cells slots i : Nat} {tt : sr_t} (hL : L ≤ 2048) (C0 : lw_At p s m meth c b L xs) (C : sr_C l (sr_Ml meth c) p s m #[Value.ref b] meth c D dA s.heap.size) (hi : i + 4 ≤ L) (hstep : sr_ok3 Inv Inv' (fun t => FL_shifted_23 (xs (i + 1)) (xs (i + 2)) (xs (i + 3)) t) (fun t => F11_shifted (xs (i + 1)) (xs (i + 2)) (xs (i + 3)) t)) (hI : Inv tt) (Wd : sr_W D dA s.heap.size (sr_em tt) s H locs) (hl : lv_has ls 7 [(0, .ref b), (1, .ref (sr_ad s.heap.size 10 0)), (2, .ref (sr_ad s.heap.size 11 0)), (3, .ref (sr_ad s.heap.size 23 0)), (4, .int (nI i))]) (hc : cells + 8 ≤ 601024) (hs : slots + 48 ≤ 7293033) (kk : ∀ (tt' : sr_t) (H' : Heap) (locs' : List Loc) (ls' : Array Slot), Inv' tt' → sr_W D dA s.heap.size (sr_em tt') s H' locs' → lv_has ls' 7 [(0, .ref b), (1, .ref (sr_ad s.heap.size 10 0)), (2, .ref (sr_ad s.heap.size 11 0)), (3, .ref (sr_ad s.heap.size 23 0)), (4, .int (nI i))] → W p l e room_1 s m #[Value.ref b] below meth c H' locs' (cells + 8) (slots + 48) (lw_Z below #[Value.ref b] s) (F0 m 2743 ls' [])) : W p l e room_1 s m #[Value.ref b] below meth c H locs cells slots (lw_Z below #[Value.ref b] s) (F0 m 1234 ls []) := by
  obtain ⟨hx, hb, hr, hml, hown, hts, hX, hbl, hlocks, hgv⟩ := C0
  have hbA : ¬ sr_A s.heap.size b := Nat.not_le.mpr hbl
  have Wd0 := Wd.2.2
  have hRc : room_1.cells = 601024 := rfl
  have hRs : room_1.slots = 7293033 := rfl
  obtain ⟨r1, t1, r2, t2, e1, e2, hE, hO, hI2⟩ := hstep tt hI
  refine lv_aload_n hx hb (show decode code 1234 = .ok (.aload_n 1, 1) by decide +kernel) rfl (lv_at hl 1 rfl) ?_
  refine lv_aload_n hx hb (show decode code 1235 = .ok (.aload_n 0, 1) by decide +kernel) rfl (lv_at hl 0 rfl) ?_
  refine lv_iload hx hb (show decode code 1236 = .ok (.iload 4, 2) by decide +kernel) (lv_at hl 4 rfl) ?_
  refine lv_iconst (n := 1) (v := 1) hx hb (show decode code 1238 = .ok (.iconst 1, 1) by decide +kernel) (by decide) ?_
  refine lv_iadd hx hb (show decode code 1239 = .ok (.iadd, 1) by decide +kernel) ?_
  rw [show nI i + 1 = nI (i + 1) from nI_add i 1]
  refine va_sld hx hb hX hbl hbA Wd0 (vp_in_nI (show i + 1 < L by omega) (by omega)) (show decode code 1240 = .ok (.iaload, 1) by decide +kernel) ?_
  rw [nI_clamp (show i + 1 < 2147483648 by omega)]
  refine lv_aload_n hx hb (show decode code 1241 = .ok (.aload_n 0, 1) by decide +kernel) rfl (lv_at hl 0 rfl) ?_
  refine lv_iload hx hb (show decode code 1242 = .ok (.iload 4, 2) by decide +kernel) (lv_at hl 4 rfl) ?_
  refine lv_iconst (n := 2) (v := 2) hx hb (show decode code 1244 = .ok (.iconst 2, 1) by decide +kernel) (by decide) ?_
  refine lv_iadd hx hb (show decode code 1245 = .ok (.iadd, 1) by decide +kernel) ?_
  rw [show nI i + 2 = nI (i + 2) from nI_add i 2]
  refine va_sld hx hb hX hbl hbA Wd0 (vp_in_nI (show i + 2 < L by omega) (by omega)) (show decode code 1246 = .ok (.iaload, 1) by decide +kernel) ?_
  rw [nI_clamp (show i + 2 < 2147483648 by omega)]
  refine lv_aload_n hx hb (show decode code 1247 = .ok (.aload_n 0, 1) by decide +kernel) rfl (lv_at hl 0 rfl) ?_
  refine lv_iload hx hb (show decode code 1248 = .ok (.iload 4, 2) by decide +kernel) (lv_at hl 4 rfl) ?_
  refine lv_iconst (n := 3) (v := 3) hx hb (show decode code 1250 = .ok (.iconst 3, 1) by decide +kernel) (by decide) ?_
  refine lv_iadd hx hb (show decode code 1251 = .ok (.iadd, 1) by decide +kernel) ?_
  rw [show nI i + 3 = nI (i + 3) from nI_add i 3]
  refine va_sld hx hb hX hbl hbA Wd0 (vp_in_nI (show i + 3 < L by omega) (by omega)) (show decode code 1252 = .ok (.iaload, 1) by decide +kernel) ?_
  rw [nI_clamp (show i + 3 < 2147483648 by omega)]
  refine lv_aload_n hx hb (show decode code 1253 = .ok (.aload_n 3, 1) by decide +kernel) rfl (lv_at hl 3 rfl) ?_
  refine sr_wS (As := [sr_r 10 0, sr_i (xs (i + 1)), sr_i (xs (i + 2)), sr_i (xs (i + 3)), sr_r 23 0]) (em := sr_em) (M := sr_Ml meth c) (v := some (sr_i (r1))) (t1 := t1) (rest := []) (mc1 := 2) (ms1 := 12) C Wd hl.1 (Nat.le_of_ble_eq_true rfl) (Nat.le_of_ble_eq_true rfl) (by omega) (by omega) (fun hq => nomatch hq) fh_202 (show decode code 1254 = .ok (.invokestatic 202, 3) by decide +kernel) rm_Law_L_shifted rfl (Nat.le_of_ble_eq_true rfl) (e1 ▸ CL_shifted_23 l (xs (i + 1)) (xs (i + 2)) (xs (i + 3)) tt) (fun H1 locs1 Wd1 => ?_)
  have Wd0 := Wd1.2.2
  refine W.eq (g2 := F0 m 1257 ls [.int r1]) rfl ?_
  refine lv_istore (lv' := [(5, .int r1), (0, .ref b), (1, .ref (sr_ad s.heap.size 10 0)), (2, .ref (sr_ad s.heap.size 11 0)), (3, .ref (sr_ad s.heap.size 23 0)), (4, .int (nI i))]) hx hb (show decode code 1257 = .ok (.istore 5, 2) by decide +kernel) hl (by decide) rfl (fun ls hl => ?_)
  refine lv_aload_n hx hb (show decode code 1259 = .ok (.aload_n 2, 1) by decide +kernel) rfl (lv_at hl 3 rfl) ?_
  refine lv_aload_n hx hb (show decode code 1260 = .ok (.aload_n 0, 1) by decide +kernel) rfl (lv_at hl 1 rfl) ?_
  refine lv_iload hx hb (show decode code 1261 = .ok (.iload 4, 2) by decide +kernel) (lv_at hl 5 rfl) ?_
  refine lv_iconst (n := 1) (v := 1) hx hb (show decode code 1263 = .ok (.iconst 1, 1) by decide +kernel) (by decide) ?_
  refine lv_iadd hx hb (show decode code 1264 = .ok (.iadd, 1) by decide +kernel) ?_
  rw [show nI i + 1 = nI (i + 1) from nI_add i 1]
  refine va_sld hx hb hX hbl hbA Wd0 (vp_in_nI (show i + 1 < L by omega) (by omega)) (show decode code 1265 = .ok (.iaload, 1) by decide +kernel) ?_
  rw [nI_clamp (show i + 1 < 2147483648 by omega)]
  refine lv_aload_n hx hb (show decode code 1266 = .ok (.aload_n 0, 1) by decide +kernel) rfl (lv_at hl 1 rfl) ?_
  refine lv_iload hx hb (show decode code 1267 = .ok (.iload 4, 2) by decide +kernel) (lv_at hl 5 rfl) ?_
  refine lv_iconst (n := 2) (v := 2) hx hb (show decode code 1269 = .ok (.iconst 2, 1) by decide +kernel) (by decide) ?_
  refine lv_iadd hx hb (show decode code 1270 = .ok (.iadd, 1) by decide +kernel) ?_
  rw [show nI i + 2 = nI (i + 2) from nI_add i 2]
  refine va_sld hx hb hX hbl hbA Wd0 (vp_in_nI (show i + 2 < L by omega) (by omega)) (show decode code 1271 = .ok (.iaload, 1) by decide +kernel) ?_
  rw [nI_clamp (show i + 2 < 2147483648 by omega)]
  refine lv_aload_n hx hb (show decode code 1272 = .ok (.aload_n 0, 1) by decide +kernel) rfl (lv_at hl 1 rfl) ?_
  refine lv_iload hx hb (show decode code 1273 = .ok (.iload 4, 2) by decide +kernel) (lv_at hl 5 rfl) ?_
  refine lv_iconst (n := 3) (v := 3) hx hb (show decode code 1275 = .ok (.iconst 3, 1) by decide +kernel) (by decide) ?_
  refine lv_iadd hx hb (show decode code 1276 = .ok (.iadd, 1) by decide +kernel) ?_
  rw [show nI i + 3 = nI (i + 3) from nI_add i 3]
  refine va_sld hx hb hX hbl hbA Wd0 (vp_in_nI (show i + 3 < L by omega) (by omega)) (show decode code 1277 = .ok (.iaload, 1) by decide +kernel) ?_
  rw [nI_clamp (show i + 3 < 2147483648 by omega)]
  refine sr_wV (k := 11) (i := 0) (As := [sr_i (xs (i + 1)), sr_i (xs (i + 2)), sr_i (xs (i + 3))]) (em := sr_em) (M := sr_Ml meth c) (v := some (sr_i (r2))) (t1 := t2) (rest := []) (mc1 := 0) (ms1 := 0) C Wd1 hl.1 (Nat.le_of_ble_eq_true rfl) (Nat.le_of_ble_eq_true rfl) (by omega) (by omega) (fun hq => nomatch hq) fm_L_205 fl_L_205 (show decode code 1278 = .ok (.invokevirtual 205, 3) by decide +kernel) (sr_in11 0 (by decide)) rm_Law_11_shifted rfl (Nat.le_of_ble_eq_true rfl) (e2 ▸ C11_shifted l (xs (i + 1)) (xs (i + 2)) (xs (i + 3)) t1) (fun H2 locs2 Wd2 => ?_)
  have Wd0 := Wd2.2.2
  refine W.eq (g2 := F0 m 1281 ls [.int r2]) rfl ?_
  refine lv_istore (lv' := [(6, .int r2), (5, .int r1), (0, .ref b), (1, .ref (sr_ad s.heap.size 10 0)), (2, .ref (sr_ad s.heap.size 11 0)), (3, .ref (sr_ad s.heap.size 23 0)), (4, .int (nI i))]) hx hb (show decode code 1281 = .ok (.istore 6, 2) by decide +kernel) hl (by decide) rfl (fun ls hl => ?_)
  refine lv_aload_n hx hb (show decode code 1283 = .ok (.aload_n 2, 1) by decide +kernel) rfl (lv_at hl 4 rfl) ?_
  refine sr_wV (k := 11) (i := 0) (As := []) (em := sr_em) (M := sr_Ml meth c) (v := some (sr_i (t2.1 11 0 0))) (t1 := t2) (rest := []) (mc1 := 0) (ms1 := 0) C Wd2 hl.1 (Nat.le_of_ble_eq_true rfl) (Nat.le_of_ble_eq_true rfl) (by omega) (by omega) (fun hq => nomatch hq) fm_L_146 fl_L_146 (show decode code 1284 = .ok (.invokevirtual 146, 3) by decide +kernel) (sr_in11 0 (by decide)) rm_Law_11_thrown rfl (Nat.le_of_ble_eq_true rfl) ((show F11_thrown t2 = some (.inl (some (sr_i (t2.1 11 0 0))), t2) from rfl) ▸ C11_thrown l  t2) (fun H3 locs3 Wd3 => ?_)
  have Wd0 := Wd3.2.2
  refine W.eq (g2 := F0 m 1287 ls [.int (t2.1 11 0 0)]) rfl ?_
  refine lv_iload hx hb (show decode code 1287 = .ok (.iload 5, 2) by decide +kernel) (lv_at hl 1 rfl) ?_
  refine lv_icmp_eq (tgt := 1294) hx hb (show decode code 1289 = .ok (.if_icmp .eq 5, 3) by decide +kernel) (by decide) (fun _ => ?_) (fun hq => absurd hE hq)
  refine lv_iload hx hb (show decode code 1294 = .ok (.iload 5, 2) by decide +kernel) (lv_at hl 1 rfl) ?_
  refine lv_if_ne (tgt := 1311) hx hb (show decode code 1296 = .ok (.ifCond .ne 15, 3) by decide +kernel) (by decide) (fun _ => ?_) (fun hk0 => ?_)
  · refine lv_goto (tgt := 2743) hx hb (show decode code 1311 = .ok (.goto 1432, 3) by decide +kernel) (by decide) ?_
    refine W.widen (k := cells + 8) (n := slots + 48) (by omega) (by omega) ?_
    exact kk _ _ _ _ hI2 Wd3 (lv_sub hl [2, 3, 4, 5, 6] rfl)
  refine lv_aload_n hx hb (show decode code 1299 = .ok (.aload_n 3, 1) by decide +kernel) rfl (lv_at hl 5 rfl) ?_
  refine lv_iconst (n := 0) (v := 0) hx hb (show decode code 1300 = .ok (.iconst 0, 1) by decide +kernel) (by decide) ?_
  refine sr_wlal (M := sr_Ml meth c) (k := 23) (i := 0) (n := 1) (a := 0) C Wd3 rfl (by decide) (sr_in23 0 (by decide)) (by decide) (show decode code 1301 = .ok (.laload, 1) by decide +kernel) ?_
  refine lv_iload hx hb (show decode code 1302 = .ok (.iload 6, 2) by decide +kernel) (lv_at hl 0 rfl) ?_
  refine lv_i2l hx hb (show decode code 1304 = .ok (.i2l, 1) by decide +kernel) rfl ?_
  refine W.lcmp hx hb (show decode code 1305 = .ok (.lcmp, 1) by decide +kernel) ?_
  rw [show t2.2 23 0 (0 : Int32).toNatClampNeg = _ from hO hk0, sr_cmp0]
  refine lv_if_eq (tgt := 1311) hx hb (show decode code 1306 = .ok (.ifCond .eq 5, 3) by decide +kernel) (by decide) (fun _ => ?_) (fun hq => absurd rfl hq)
  refine lv_goto (tgt := 2743) hx hb (show decode code 1311 = .ok (.goto 1432, 3) by decide +kernel) (by decide) ?_
  refine W.widen (k := cells + 8) (n := slots + 48) (by omega) (by omega) ?_
  exact kk _ _ _ _ hI2 Wd3 (lv_sub hl [2, 3, 4, 5, 6] rfl)
