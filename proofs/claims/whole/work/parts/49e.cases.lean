theorem lc_36 {Inv Inv' : sr_t → Prop} {p : Program} {l : Launch} {e : Env} {s : State} {m : MethodId} {below : List Frame} {meth : Method} {c : Code} {b L : Nat} {xs : Nat → Int32} {D : va_G} {dA : Nat → ClassId} {H : Heap} {locs : List Loc} {ls : Array Slot} {cells slots i : Nat} {tt : sr_t} (hL : L ≤ 2048) (C0 : lw_At p s m meth c b L xs) (C : sr_C l (sr_Ml meth c) p s m #[Value.ref b] meth c D dA s.heap.size) (hi : i + 4 ≤ L) (hstep : sr_ok3 Inv Inv' (fun t => FL_get_23 (xs (i + 1)) (xs (i + 2)) t) (fun t => F11_get (xs (i + 1)) (xs (i + 2)) t)) (hI : Inv tt) (Wd : sr_W D dA s.heap.size (sr_em tt) s H locs) (hl : lv_has ls 7 [(0, .ref b), (1, .ref (sr_ad s.heap.size 10 0)), (2, .ref (sr_ad s.heap.size 11 0)), (3, .ref (sr_ad s.heap.size 23 0)), (4, .int (nI i))]) (hc : cells + 8 ≤ 601024) (hs : slots + 48 ≤ 7293033) (kk : ∀ (tt' : sr_t) (H' : Heap) (locs' : List Loc) (ls' : Array Slot), Inv' tt' → sr_W D dA s.heap.size (sr_em tt') s H' locs' → lv_has ls' 7 [(0, .ref b), (1, .ref (sr_ad s.heap.size 10 0)), (2, .ref (sr_ad s.heap.size 11 0)), (3, .ref (sr_ad s.heap.size 23 0)), (4, .int (nI i))] → W p l e room_1 s m #[Value.ref b] below meth c H' locs' (cells + 8) (slots + 48) (lw_Z below #[Value.ref b] s) (F0 m 2743 ls' [])) : W p l e room_1 s m #[Value.ref b] below meth c H locs cells slots (lw_Z below #[Value.ref b] s) (F0 m 2446 ls []) := by
  obtain ⟨hx, hb, hr, hml, hown, hts, hX, hbl, hlocks, hgv⟩ := C0
  have hbA : ¬ sr_A s.heap.size b := Nat.not_le.mpr hbl
  have Wd0 := Wd.2.2
  have hRc : room_1.cells = 601024 := rfl
  have hRs : room_1.slots = 7293033 := rfl
  obtain ⟨r1, t1, r2, t2, e1, e2, hE, hO, hI2⟩ := hstep tt hI
  refine lv_aload_n hx hb (show decode code 2446 = .ok (.aload_n 1, 1) by decide +kernel) rfl (lv_at hl 1 rfl) ?_
  refine lv_aload_n hx hb (show decode code 2447 = .ok (.aload_n 0, 1) by decide +kernel) rfl (lv_at hl 0 rfl) ?_
  refine lv_iload hx hb (show decode code 2448 = .ok (.iload 4, 2) by decide +kernel) (lv_at hl 4 rfl) ?_
  refine lv_iconst (n := 1) (v := 1) hx hb (show decode code 2450 = .ok (.iconst 1, 1) by decide +kernel) (by decide) ?_
  refine lv_iadd hx hb (show decode code 2451 = .ok (.iadd, 1) by decide +kernel) ?_
  rw [show nI i + 1 = nI (i + 1) from nI_add i 1]
  refine va_sld hx hb hX hbl hbA Wd0 (vp_in_nI (show i + 1 < L by omega) (by omega)) (show decode code 2452 = .ok (.iaload, 1) by decide +kernel) ?_
  rw [nI_clamp (show i + 1 < 2147483648 by omega)]
  refine lv_aload_n hx hb (show decode code 2453 = .ok (.aload_n 0, 1) by decide +kernel) rfl (lv_at hl 0 rfl) ?_
  refine lv_iload hx hb (show decode code 2454 = .ok (.iload 4, 2) by decide +kernel) (lv_at hl 4 rfl) ?_
  refine lv_iconst (n := 2) (v := 2) hx hb (show decode code 2456 = .ok (.iconst 2, 1) by decide +kernel) (by decide) ?_
  refine lv_iadd hx hb (show decode code 2457 = .ok (.iadd, 1) by decide +kernel) ?_
  rw [show nI i + 2 = nI (i + 2) from nI_add i 2]
  refine va_sld hx hb hX hbl hbA Wd0 (vp_in_nI (show i + 2 < L by omega) (by omega)) (show decode code 2458 = .ok (.iaload, 1) by decide +kernel) ?_
  rw [nI_clamp (show i + 2 < 2147483648 by omega)]
  refine lv_aload_n hx hb (show decode code 2459 = .ok (.aload_n 3, 1) by decide +kernel) rfl (lv_at hl 3 rfl) ?_
  refine sr_wS (As := [sr_r 10 0, sr_i (xs (i + 1)), sr_i (xs (i + 2)), sr_r 23 0]) (em := sr_em) (M := sr_Ml meth c) (v := some (sr_i (r1))) (t1 := t1) (rest := []) (mc1 := 4) (ms1 := 24) C Wd hl.1 (Nat.le_of_ble_eq_true rfl) (Nat.le_of_ble_eq_true rfl) (by omega) (by omega) (fun hq => nomatch hq) fh_261 (show decode code 2460 = .ok (.invokestatic 261, 3) by decide +kernel) rm_Law_L_get rfl (Nat.le_of_ble_eq_true rfl) (e1 ▸ CL_get_23 l (xs (i + 1)) (xs (i + 2)) tt) (fun H1 locs1 Wd1 => ?_)
  have Wd0 := Wd1.2.2
  refine W.eq (g2 := F0 m 2463 ls [.int r1]) rfl ?_
  refine lv_istore (lv' := [(5, .int r1), (0, .ref b), (1, .ref (sr_ad s.heap.size 10 0)), (2, .ref (sr_ad s.heap.size 11 0)), (3, .ref (sr_ad s.heap.size 23 0)), (4, .int (nI i))]) hx hb (show decode code 2463 = .ok (.istore 5, 2) by decide +kernel) hl (by decide) rfl (fun ls hl => ?_)
  refine lv_aload_n hx hb (show decode code 2465 = .ok (.aload_n 2, 1) by decide +kernel) rfl (lv_at hl 3 rfl) ?_
  refine lv_aload_n hx hb (show decode code 2466 = .ok (.aload_n 0, 1) by decide +kernel) rfl (lv_at hl 1 rfl) ?_
  refine lv_iload hx hb (show decode code 2467 = .ok (.iload 4, 2) by decide +kernel) (lv_at hl 5 rfl) ?_
  refine lv_iconst (n := 1) (v := 1) hx hb (show decode code 2469 = .ok (.iconst 1, 1) by decide +kernel) (by decide) ?_
  refine lv_iadd hx hb (show decode code 2470 = .ok (.iadd, 1) by decide +kernel) ?_
  rw [show nI i + 1 = nI (i + 1) from nI_add i 1]
  refine va_sld hx hb hX hbl hbA Wd0 (vp_in_nI (show i + 1 < L by omega) (by omega)) (show decode code 2471 = .ok (.iaload, 1) by decide +kernel) ?_
  rw [nI_clamp (show i + 1 < 2147483648 by omega)]
  refine lv_aload_n hx hb (show decode code 2472 = .ok (.aload_n 0, 1) by decide +kernel) rfl (lv_at hl 1 rfl) ?_
  refine lv_iload hx hb (show decode code 2473 = .ok (.iload 4, 2) by decide +kernel) (lv_at hl 5 rfl) ?_
  refine lv_iconst (n := 2) (v := 2) hx hb (show decode code 2475 = .ok (.iconst 2, 1) by decide +kernel) (by decide) ?_
  refine lv_iadd hx hb (show decode code 2476 = .ok (.iadd, 1) by decide +kernel) ?_
  rw [show nI i + 2 = nI (i + 2) from nI_add i 2]
  refine va_sld hx hb hX hbl hbA Wd0 (vp_in_nI (show i + 2 < L by omega) (by omega)) (show decode code 2477 = .ok (.iaload, 1) by decide +kernel) ?_
  rw [nI_clamp (show i + 2 < 2147483648 by omega)]
  refine sr_wV (k := 11) (i := 0) (As := [sr_i (xs (i + 1)), sr_i (xs (i + 2))]) (em := sr_em) (M := sr_Ml meth c) (v := some (sr_i (r2))) (t1 := t2) (rest := []) (mc1 := 0) (ms1 := 0) C Wd1 hl.1 (Nat.le_of_ble_eq_true rfl) (Nat.le_of_ble_eq_true rfl) (by omega) (by omega) (fun hq => nomatch hq) fm_L_263 fl_L_263 (show decode code 2478 = .ok (.invokevirtual 263, 3) by decide +kernel) (sr_in11 0 (by decide)) rm_Law_11_get rfl (Nat.le_of_ble_eq_true rfl) (e2 ▸ C11_get l (xs (i + 1)) (xs (i + 2)) t1) (fun H2 locs2 Wd2 => ?_)
  have Wd0 := Wd2.2.2
  refine W.eq (g2 := F0 m 2481 ls [.int r2]) rfl ?_
  refine lv_istore (lv' := [(6, .int r2), (5, .int r1), (0, .ref b), (1, .ref (sr_ad s.heap.size 10 0)), (2, .ref (sr_ad s.heap.size 11 0)), (3, .ref (sr_ad s.heap.size 23 0)), (4, .int (nI i))]) hx hb (show decode code 2481 = .ok (.istore 6, 2) by decide +kernel) hl (by decide) rfl (fun ls hl => ?_)
  refine lv_aload_n hx hb (show decode code 2483 = .ok (.aload_n 2, 1) by decide +kernel) rfl (lv_at hl 4 rfl) ?_
  refine sr_wV (k := 11) (i := 0) (As := []) (em := sr_em) (M := sr_Ml meth c) (v := some (sr_i (t2.1 11 0 0))) (t1 := t2) (rest := []) (mc1 := 0) (ms1 := 0) C Wd2 hl.1 (Nat.le_of_ble_eq_true rfl) (Nat.le_of_ble_eq_true rfl) (by omega) (by omega) (fun hq => nomatch hq) fm_L_146 fl_L_146 (show decode code 2484 = .ok (.invokevirtual 146, 3) by decide +kernel) (sr_in11 0 (by decide)) rm_Law_11_thrown rfl (Nat.le_of_ble_eq_true rfl) ((show F11_thrown t2 = some (.inl (some (sr_i (t2.1 11 0 0))), t2) from rfl) ▸ C11_thrown l  t2) (fun H3 locs3 Wd3 => ?_)
  have Wd0 := Wd3.2.2
  refine W.eq (g2 := F0 m 2487 ls [.int (t2.1 11 0 0)]) rfl ?_
  refine lv_iload hx hb (show decode code 2487 = .ok (.iload 5, 2) by decide +kernel) (lv_at hl 1 rfl) ?_
  refine lv_icmp_eq (tgt := 2494) hx hb (show decode code 2489 = .ok (.if_icmp .eq 5, 3) by decide +kernel) (by decide) (fun _ => ?_) (fun hq => absurd hE hq)
  refine lv_iload hx hb (show decode code 2494 = .ok (.iload 5, 2) by decide +kernel) (lv_at hl 1 rfl) ?_
  refine lv_if_ne (tgt := 2511) hx hb (show decode code 2496 = .ok (.ifCond .ne 15, 3) by decide +kernel) (by decide) (fun _ => ?_) (fun hk0 => ?_)
  · refine lv_goto (tgt := 2743) hx hb (show decode code 2511 = .ok (.goto 232, 3) by decide +kernel) (by decide) ?_
    refine W.widen (k := cells + 8) (n := slots + 48) (by omega) (by omega) ?_
    exact kk _ _ _ _ hI2 Wd3 (lv_sub hl [2, 3, 4, 5, 6] rfl)
  refine lv_aload_n hx hb (show decode code 2499 = .ok (.aload_n 3, 1) by decide +kernel) rfl (lv_at hl 5 rfl) ?_
  refine lv_iconst (n := 0) (v := 0) hx hb (show decode code 2500 = .ok (.iconst 0, 1) by decide +kernel) (by decide) ?_
  refine sr_wlal (M := sr_Ml meth c) (k := 23) (i := 0) (n := 1) (a := 0) C Wd3 rfl (by decide) (sr_in23 0 (by decide)) (by decide) (show decode code 2501 = .ok (.laload, 1) by decide +kernel) ?_
  refine lv_iload hx hb (show decode code 2502 = .ok (.iload 6, 2) by decide +kernel) (lv_at hl 0 rfl) ?_
  refine lv_i2l hx hb (show decode code 2504 = .ok (.i2l, 1) by decide +kernel) rfl ?_
  refine W.lcmp hx hb (show decode code 2505 = .ok (.lcmp, 1) by decide +kernel) ?_
  rw [show t2.2 23 0 (0 : Int32).toNatClampNeg = _ from hO hk0, sr_cmp0]
  refine lv_if_eq (tgt := 2511) hx hb (show decode code 2506 = .ok (.ifCond .eq 5, 3) by decide +kernel) (by decide) (fun _ => ?_) (fun hq => absurd rfl hq)
  refine lv_goto (tgt := 2743) hx hb (show decode code 2511 = .ok (.goto 232, 3) by decide +kernel) (by decide) ?_
  refine W.widen (k := cells + 8) (n := slots + 48) (by omega) (by omega) ?_
  exact kk _ _ _ _ hI2 Wd3 (lv_sub hl [2, 3, 4, 5, 6] rfl)
theorem lc_37 {Inv Inv' : sr_t → Prop} {p : Program} {l : Launch} {e : Env} {s : State} {m : MethodId} {below : List Frame} {meth : Method} {c : Code} {b L : Nat} {xs : Nat → Int32} {D : va_G} {dA : Nat → ClassId} {H : Heap} {locs : List Loc} {ls : Array Slot} {cells slots i : Nat} {tt : sr_t} (hL : L ≤ 2048) (C0 : lw_At p s m meth c b L xs) (C : sr_C l (sr_Ml meth c) p s m #[Value.ref b] meth c D dA s.heap.size) (hi : i + 4 ≤ L) (hstep : sr_ok3 Inv Inv' (fun t => FL_settle_23 (xs (i + 1)) t) (fun t => F11_settle (xs (i + 1)) t)) (hI : Inv tt) (Wd : sr_W D dA s.heap.size (sr_em tt) s H locs) (hl : lv_has ls 7 [(0, .ref b), (1, .ref (sr_ad s.heap.size 10 0)), (2, .ref (sr_ad s.heap.size 11 0)), (3, .ref (sr_ad s.heap.size 23 0)), (4, .int (nI i))]) (hc : cells + 8 ≤ 601024) (hs : slots + 48 ≤ 7293033) (kk : ∀ (tt' : sr_t) (H' : Heap) (locs' : List Loc) (ls' : Array Slot), Inv' tt' → sr_W D dA s.heap.size (sr_em tt') s H' locs' → lv_has ls' 7 [(0, .ref b), (1, .ref (sr_ad s.heap.size 10 0)), (2, .ref (sr_ad s.heap.size 11 0)), (3, .ref (sr_ad s.heap.size 23 0)), (4, .int (nI i))] → W p l e room_1 s m #[Value.ref b] below meth c H' locs' (cells + 8) (slots + 48) (lw_Z below #[Value.ref b] s) (F0 m 2743 ls' [])) : W p l e room_1 s m #[Value.ref b] below meth c H locs cells slots (lw_Z below #[Value.ref b] s) (F0 m 2514 ls []) := by
  obtain ⟨hx, hb, hr, hml, hown, hts, hX, hbl, hlocks, hgv⟩ := C0
  have hbA : ¬ sr_A s.heap.size b := Nat.not_le.mpr hbl
  have Wd0 := Wd.2.2
  have hRc : room_1.cells = 601024 := rfl
  have hRs : room_1.slots = 7293033 := rfl
  obtain ⟨r1, t1, r2, t2, e1, e2, hE, hO, hI2⟩ := hstep tt hI
  refine lv_aload_n hx hb (show decode code 2514 = .ok (.aload_n 1, 1) by decide +kernel) rfl (lv_at hl 1 rfl) ?_
  refine lv_aload_n hx hb (show decode code 2515 = .ok (.aload_n 0, 1) by decide +kernel) rfl (lv_at hl 0 rfl) ?_
  refine lv_iload hx hb (show decode code 2516 = .ok (.iload 4, 2) by decide +kernel) (lv_at hl 4 rfl) ?_
  refine lv_iconst (n := 1) (v := 1) hx hb (show decode code 2518 = .ok (.iconst 1, 1) by decide +kernel) (by decide) ?_
  refine lv_iadd hx hb (show decode code 2519 = .ok (.iadd, 1) by decide +kernel) ?_
  rw [show nI i + 1 = nI (i + 1) from nI_add i 1]
  refine va_sld hx hb hX hbl hbA Wd0 (vp_in_nI (show i + 1 < L by omega) (by omega)) (show decode code 2520 = .ok (.iaload, 1) by decide +kernel) ?_
  rw [nI_clamp (show i + 1 < 2147483648 by omega)]
  refine lv_aload_n hx hb (show decode code 2521 = .ok (.aload_n 3, 1) by decide +kernel) rfl (lv_at hl 3 rfl) ?_
  refine sr_wS (As := [sr_r 10 0, sr_i (xs (i + 1)), sr_r 23 0]) (em := sr_em) (M := sr_Ml meth c) (v := some (sr_i (r1))) (t1 := t1) (rest := []) (mc1 := 2) (ms1 := 12) C Wd hl.1 (Nat.le_of_ble_eq_true rfl) (Nat.le_of_ble_eq_true rfl) (by omega) (by omega) (fun hq => nomatch hq) fh_264 (show decode code 2522 = .ok (.invokestatic 264, 3) by decide +kernel) rm_Law_L_settle rfl (Nat.le_of_ble_eq_true rfl) (e1 ▸ CL_settle_23 l (xs (i + 1)) tt) (fun H1 locs1 Wd1 => ?_)
  have Wd0 := Wd1.2.2
  refine W.eq (g2 := F0 m 2525 ls [.int r1]) rfl ?_
  refine lv_istore (lv' := [(5, .int r1), (0, .ref b), (1, .ref (sr_ad s.heap.size 10 0)), (2, .ref (sr_ad s.heap.size 11 0)), (3, .ref (sr_ad s.heap.size 23 0)), (4, .int (nI i))]) hx hb (show decode code 2525 = .ok (.istore 5, 2) by decide +kernel) hl (by decide) rfl (fun ls hl => ?_)
  refine lv_aload_n hx hb (show decode code 2527 = .ok (.aload_n 2, 1) by decide +kernel) rfl (lv_at hl 3 rfl) ?_
  refine lv_aload_n hx hb (show decode code 2528 = .ok (.aload_n 0, 1) by decide +kernel) rfl (lv_at hl 1 rfl) ?_
  refine lv_iload hx hb (show decode code 2529 = .ok (.iload 4, 2) by decide +kernel) (lv_at hl 5 rfl) ?_
  refine lv_iconst (n := 1) (v := 1) hx hb (show decode code 2531 = .ok (.iconst 1, 1) by decide +kernel) (by decide) ?_
  refine lv_iadd hx hb (show decode code 2532 = .ok (.iadd, 1) by decide +kernel) ?_
  rw [show nI i + 1 = nI (i + 1) from nI_add i 1]
  refine va_sld hx hb hX hbl hbA Wd0 (vp_in_nI (show i + 1 < L by omega) (by omega)) (show decode code 2533 = .ok (.iaload, 1) by decide +kernel) ?_
  rw [nI_clamp (show i + 1 < 2147483648 by omega)]
  refine sr_wV (k := 11) (i := 0) (As := [sr_i (xs (i + 1))]) (em := sr_em) (M := sr_Ml meth c) (v := some (sr_i (r2))) (t1 := t2) (rest := []) (mc1 := 0) (ms1 := 0) C Wd1 hl.1 (Nat.le_of_ble_eq_true rfl) (Nat.le_of_ble_eq_true rfl) (by omega) (by omega) (fun hq => nomatch hq) fm_L_266 fl_L_266 (show decode code 2534 = .ok (.invokevirtual 266, 3) by decide +kernel) (sr_in11 0 (by decide)) rm_Law_11_settle rfl (Nat.le_of_ble_eq_true rfl) (e2 ▸ C11_settle l (xs (i + 1)) t1) (fun H2 locs2 Wd2 => ?_)
  have Wd0 := Wd2.2.2
  refine W.eq (g2 := F0 m 2537 ls [.int r2]) rfl ?_
  refine lv_istore (lv' := [(6, .int r2), (5, .int r1), (0, .ref b), (1, .ref (sr_ad s.heap.size 10 0)), (2, .ref (sr_ad s.heap.size 11 0)), (3, .ref (sr_ad s.heap.size 23 0)), (4, .int (nI i))]) hx hb (show decode code 2537 = .ok (.istore 6, 2) by decide +kernel) hl (by decide) rfl (fun ls hl => ?_)
  refine lv_aload_n hx hb (show decode code 2539 = .ok (.aload_n 2, 1) by decide +kernel) rfl (lv_at hl 4 rfl) ?_
  refine sr_wV (k := 11) (i := 0) (As := []) (em := sr_em) (M := sr_Ml meth c) (v := some (sr_i (t2.1 11 0 0))) (t1 := t2) (rest := []) (mc1 := 0) (ms1 := 0) C Wd2 hl.1 (Nat.le_of_ble_eq_true rfl) (Nat.le_of_ble_eq_true rfl) (by omega) (by omega) (fun hq => nomatch hq) fm_L_146 fl_L_146 (show decode code 2540 = .ok (.invokevirtual 146, 3) by decide +kernel) (sr_in11 0 (by decide)) rm_Law_11_thrown rfl (Nat.le_of_ble_eq_true rfl) ((show F11_thrown t2 = some (.inl (some (sr_i (t2.1 11 0 0))), t2) from rfl) ▸ C11_thrown l  t2) (fun H3 locs3 Wd3 => ?_)
  have Wd0 := Wd3.2.2
  refine W.eq (g2 := F0 m 2543 ls [.int (t2.1 11 0 0)]) rfl ?_
  refine lv_iload hx hb (show decode code 2543 = .ok (.iload 5, 2) by decide +kernel) (lv_at hl 1 rfl) ?_
  refine lv_icmp_eq (tgt := 2550) hx hb (show decode code 2545 = .ok (.if_icmp .eq 5, 3) by decide +kernel) (by decide) (fun _ => ?_) (fun hq => absurd hE hq)
  refine lv_iload hx hb (show decode code 2550 = .ok (.iload 5, 2) by decide +kernel) (lv_at hl 1 rfl) ?_
  refine lv_if_ne (tgt := 2567) hx hb (show decode code 2552 = .ok (.ifCond .ne 15, 3) by decide +kernel) (by decide) (fun _ => ?_) (fun hk0 => ?_)
  · refine lv_goto (tgt := 2743) hx hb (show decode code 2567 = .ok (.goto 176, 3) by decide +kernel) (by decide) ?_
    refine W.widen (k := cells + 8) (n := slots + 48) (by omega) (by omega) ?_
    exact kk _ _ _ _ hI2 Wd3 (lv_sub hl [2, 3, 4, 5, 6] rfl)
  refine lv_aload_n hx hb (show decode code 2555 = .ok (.aload_n 3, 1) by decide +kernel) rfl (lv_at hl 5 rfl) ?_
  refine lv_iconst (n := 0) (v := 0) hx hb (show decode code 2556 = .ok (.iconst 0, 1) by decide +kernel) (by decide) ?_
  refine sr_wlal (M := sr_Ml meth c) (k := 23) (i := 0) (n := 1) (a := 0) C Wd3 rfl (by decide) (sr_in23 0 (by decide)) (by decide) (show decode code 2557 = .ok (.laload, 1) by decide +kernel) ?_
  refine lv_iload hx hb (show decode code 2558 = .ok (.iload 6, 2) by decide +kernel) (lv_at hl 0 rfl) ?_
  refine lv_i2l hx hb (show decode code 2560 = .ok (.i2l, 1) by decide +kernel) rfl ?_
  refine W.lcmp hx hb (show decode code 2561 = .ok (.lcmp, 1) by decide +kernel) ?_
  rw [show t2.2 23 0 (0 : Int32).toNatClampNeg = _ from hO hk0, sr_cmp0]
  refine lv_if_eq (tgt := 2567) hx hb (show decode code 2562 = .ok (.ifCond .eq 5, 3) by decide +kernel) (by decide) (fun _ => ?_) (fun hq => absurd rfl hq)
  refine lv_goto (tgt := 2743) hx hb (show decode code 2567 = .ok (.goto 176, 3) by decide +kernel) (by decide) ?_
  refine W.widen (k := cells + 8) (n := slots + 48) (by omega) (by omega) ?_
  exact kk _ _ _ _ hI2 Wd3 (lv_sub hl [2, 3, 4, 5, 6] rfl)
theorem lc_38 {Inv Inv' : sr_t → Prop} {p : Program} {l : Launch} {e : Env} {s : State} {m : MethodId} {below : List Frame} {meth : Method} {c : Code} {b L : Nat} {xs : Nat → Int32} {D : va_G} {dA : Nat → ClassId} {H : Heap} {locs : List Loc} {ls : Array Slot} {cells slots i : Nat} {tt : sr_t} (hL : L ≤ 2048) (C0 : lw_At p s m meth c b L xs) (C : sr_C l (sr_Ml meth c) p s m #[Value.ref b] meth c D dA s.heap.size) (hi : i + 4 ≤ L) (hstep : sr_ok3 Inv Inv' (fun t => FL_held_23 (xs (i + 1)) (xs (i + 2)) (xs (i + 3)) t) (fun t => F11_held (xs (i + 1)) (xs (i + 2)) (xs (i + 3)) t)) (hI : Inv tt) (Wd : sr_W D dA s.heap.size (sr_em tt) s H locs) (hl : lv_has ls 7 [(0, .ref b), (1, .ref (sr_ad s.heap.size 10 0)), (2, .ref (sr_ad s.heap.size 11 0)), (3, .ref (sr_ad s.heap.size 23 0)), (4, .int (nI i))]) (hc : cells + 8 ≤ 601024) (hs : slots + 48 ≤ 7293033) (kk : ∀ (tt' : sr_t) (H' : Heap) (locs' : List Loc) (ls' : Array Slot), Inv' tt' → sr_W D dA s.heap.size (sr_em tt') s H' locs' → lv_has ls' 7 [(0, .ref b), (1, .ref (sr_ad s.heap.size 10 0)), (2, .ref (sr_ad s.heap.size 11 0)), (3, .ref (sr_ad s.heap.size 23 0)), (4, .int (nI i))] → W p l e room_1 s m #[Value.ref b] below meth c H' locs' (cells + 8) (slots + 48) (lw_Z below #[Value.ref b] s) (F0 m 2743 ls' [])) : W p l e room_1 s m #[Value.ref b] below meth c H locs cells slots (lw_Z below #[Value.ref b] s) (F0 m 2570 ls []) := by
  obtain ⟨hx, hb, hr, hml, hown, hts, hX, hbl, hlocks, hgv⟩ := C0
  have hbA : ¬ sr_A s.heap.size b := Nat.not_le.mpr hbl
  have Wd0 := Wd.2.2
  have hRc : room_1.cells = 601024 := rfl
  have hRs : room_1.slots = 7293033 := rfl
  obtain ⟨r1, t1, r2, t2, e1, e2, hE, hO, hI2⟩ := hstep tt hI
  refine lv_aload_n hx hb (show decode code 2570 = .ok (.aload_n 1, 1) by decide +kernel) rfl (lv_at hl 1 rfl) ?_
  refine lv_aload_n hx hb (show decode code 2571 = .ok (.aload_n 0, 1) by decide +kernel) rfl (lv_at hl 0 rfl) ?_
  refine lv_iload hx hb (show decode code 2572 = .ok (.iload 4, 2) by decide +kernel) (lv_at hl 4 rfl) ?_
  refine lv_iconst (n := 1) (v := 1) hx hb (show decode code 2574 = .ok (.iconst 1, 1) by decide +kernel) (by decide) ?_
  refine lv_iadd hx hb (show decode code 2575 = .ok (.iadd, 1) by decide +kernel) ?_
  rw [show nI i + 1 = nI (i + 1) from nI_add i 1]
  refine va_sld hx hb hX hbl hbA Wd0 (vp_in_nI (show i + 1 < L by omega) (by omega)) (show decode code 2576 = .ok (.iaload, 1) by decide +kernel) ?_
  rw [nI_clamp (show i + 1 < 2147483648 by omega)]
  refine lv_aload_n hx hb (show decode code 2577 = .ok (.aload_n 0, 1) by decide +kernel) rfl (lv_at hl 0 rfl) ?_
  refine lv_iload hx hb (show decode code 2578 = .ok (.iload 4, 2) by decide +kernel) (lv_at hl 4 rfl) ?_
  refine lv_iconst (n := 2) (v := 2) hx hb (show decode code 2580 = .ok (.iconst 2, 1) by decide +kernel) (by decide) ?_
  refine lv_iadd hx hb (show decode code 2581 = .ok (.iadd, 1) by decide +kernel) ?_
  rw [show nI i + 2 = nI (i + 2) from nI_add i 2]
  refine va_sld hx hb hX hbl hbA Wd0 (vp_in_nI (show i + 2 < L by omega) (by omega)) (show decode code 2582 = .ok (.iaload, 1) by decide +kernel) ?_
  rw [nI_clamp (show i + 2 < 2147483648 by omega)]
  refine lv_aload_n hx hb (show decode code 2583 = .ok (.aload_n 0, 1) by decide +kernel) rfl (lv_at hl 0 rfl) ?_
  refine lv_iload hx hb (show decode code 2584 = .ok (.iload 4, 2) by decide +kernel) (lv_at hl 4 rfl) ?_
  refine lv_iconst (n := 3) (v := 3) hx hb (show decode code 2586 = .ok (.iconst 3, 1) by decide +kernel) (by decide) ?_
  refine lv_iadd hx hb (show decode code 2587 = .ok (.iadd, 1) by decide +kernel) ?_
  rw [show nI i + 3 = nI (i + 3) from nI_add i 3]
  refine va_sld hx hb hX hbl hbA Wd0 (vp_in_nI (show i + 3 < L by omega) (by omega)) (show decode code 2588 = .ok (.iaload, 1) by decide +kernel) ?_
  rw [nI_clamp (show i + 3 < 2147483648 by omega)]
  refine lv_aload_n hx hb (show decode code 2589 = .ok (.aload_n 3, 1) by decide +kernel) rfl (lv_at hl 3 rfl) ?_
  refine sr_wS (As := [sr_r 10 0, sr_i (xs (i + 1)), sr_i (xs (i + 2)), sr_i (xs (i + 3)), sr_r 23 0]) (em := sr_em) (M := sr_Ml meth c) (v := some (sr_i (r1))) (t1 := t1) (rest := []) (mc1 := 3) (ms1 := 18) C Wd hl.1 (Nat.le_of_ble_eq_true rfl) (Nat.le_of_ble_eq_true rfl) (by omega) (by omega) (fun hq => nomatch hq) fh_267 (show decode code 2590 = .ok (.invokestatic 267, 3) by decide +kernel) rm_Law_L_held rfl (Nat.le_of_ble_eq_true rfl) (e1 ▸ CL_held_23 l (xs (i + 1)) (xs (i + 2)) (xs (i + 3)) tt) (fun H1 locs1 Wd1 => ?_)
  have Wd0 := Wd1.2.2
  refine W.eq (g2 := F0 m 2593 ls [.int r1]) rfl ?_
  refine lv_istore (lv' := [(5, .int r1), (0, .ref b), (1, .ref (sr_ad s.heap.size 10 0)), (2, .ref (sr_ad s.heap.size 11 0)), (3, .ref (sr_ad s.heap.size 23 0)), (4, .int (nI i))]) hx hb (show decode code 2593 = .ok (.istore 5, 2) by decide +kernel) hl (by decide) rfl (fun ls hl => ?_)
  refine lv_aload_n hx hb (show decode code 2595 = .ok (.aload_n 2, 1) by decide +kernel) rfl (lv_at hl 3 rfl) ?_
  refine lv_aload_n hx hb (show decode code 2596 = .ok (.aload_n 0, 1) by decide +kernel) rfl (lv_at hl 1 rfl) ?_
  refine lv_iload hx hb (show decode code 2597 = .ok (.iload 4, 2) by decide +kernel) (lv_at hl 5 rfl) ?_
  refine lv_iconst (n := 1) (v := 1) hx hb (show decode code 2599 = .ok (.iconst 1, 1) by decide +kernel) (by decide) ?_
  refine lv_iadd hx hb (show decode code 2600 = .ok (.iadd, 1) by decide +kernel) ?_
  rw [show nI i + 1 = nI (i + 1) from nI_add i 1]
  refine va_sld hx hb hX hbl hbA Wd0 (vp_in_nI (show i + 1 < L by omega) (by omega)) (show decode code 2601 = .ok (.iaload, 1) by decide +kernel) ?_
  rw [nI_clamp (show i + 1 < 2147483648 by omega)]
  refine lv_aload_n hx hb (show decode code 2602 = .ok (.aload_n 0, 1) by decide +kernel) rfl (lv_at hl 1 rfl) ?_
  refine lv_iload hx hb (show decode code 2603 = .ok (.iload 4, 2) by decide +kernel) (lv_at hl 5 rfl) ?_
  refine lv_iconst (n := 2) (v := 2) hx hb (show decode code 2605 = .ok (.iconst 2, 1) by decide +kernel) (by decide) ?_
  refine lv_iadd hx hb (show decode code 2606 = .ok (.iadd, 1) by decide +kernel) ?_
  rw [show nI i + 2 = nI (i + 2) from nI_add i 2]
  refine va_sld hx hb hX hbl hbA Wd0 (vp_in_nI (show i + 2 < L by omega) (by omega)) (show decode code 2607 = .ok (.iaload, 1) by decide +kernel) ?_
  rw [nI_clamp (show i + 2 < 2147483648 by omega)]
  refine lv_aload_n hx hb (show decode code 2608 = .ok (.aload_n 0, 1) by decide +kernel) rfl (lv_at hl 1 rfl) ?_
  refine lv_iload hx hb (show decode code 2609 = .ok (.iload 4, 2) by decide +kernel) (lv_at hl 5 rfl) ?_
  refine lv_iconst (n := 3) (v := 3) hx hb (show decode code 2611 = .ok (.iconst 3, 1) by decide +kernel) (by decide) ?_
  refine lv_iadd hx hb (show decode code 2612 = .ok (.iadd, 1) by decide +kernel) ?_
  rw [show nI i + 3 = nI (i + 3) from nI_add i 3]
  refine va_sld hx hb hX hbl hbA Wd0 (vp_in_nI (show i + 3 < L by omega) (by omega)) (show decode code 2613 = .ok (.iaload, 1) by decide +kernel) ?_
  rw [nI_clamp (show i + 3 < 2147483648 by omega)]
  refine sr_wV (k := 11) (i := 0) (As := [sr_i (xs (i + 1)), sr_i (xs (i + 2)), sr_i (xs (i + 3))]) (em := sr_em) (M := sr_Ml meth c) (v := some (sr_i (r2))) (t1 := t2) (rest := []) (mc1 := 0) (ms1 := 0) C Wd1 hl.1 (Nat.le_of_ble_eq_true rfl) (Nat.le_of_ble_eq_true rfl) (by omega) (by omega) (fun hq => nomatch hq) fm_L_269 fl_L_269 (show decode code 2614 = .ok (.invokevirtual 269, 3) by decide +kernel) (sr_in11 0 (by decide)) rm_Law_11_held rfl (Nat.le_of_ble_eq_true rfl) (e2 ▸ C11_held l (xs (i + 1)) (xs (i + 2)) (xs (i + 3)) t1) (fun H2 locs2 Wd2 => ?_)
  have Wd0 := Wd2.2.2
  refine W.eq (g2 := F0 m 2617 ls [.int r2]) rfl ?_
  refine lv_istore (lv' := [(6, .int r2), (5, .int r1), (0, .ref b), (1, .ref (sr_ad s.heap.size 10 0)), (2, .ref (sr_ad s.heap.size 11 0)), (3, .ref (sr_ad s.heap.size 23 0)), (4, .int (nI i))]) hx hb (show decode code 2617 = .ok (.istore 6, 2) by decide +kernel) hl (by decide) rfl (fun ls hl => ?_)
  refine lv_aload_n hx hb (show decode code 2619 = .ok (.aload_n 2, 1) by decide +kernel) rfl (lv_at hl 4 rfl) ?_
  refine sr_wV (k := 11) (i := 0) (As := []) (em := sr_em) (M := sr_Ml meth c) (v := some (sr_i (t2.1 11 0 0))) (t1 := t2) (rest := []) (mc1 := 0) (ms1 := 0) C Wd2 hl.1 (Nat.le_of_ble_eq_true rfl) (Nat.le_of_ble_eq_true rfl) (by omega) (by omega) (fun hq => nomatch hq) fm_L_146 fl_L_146 (show decode code 2620 = .ok (.invokevirtual 146, 3) by decide +kernel) (sr_in11 0 (by decide)) rm_Law_11_thrown rfl (Nat.le_of_ble_eq_true rfl) ((show F11_thrown t2 = some (.inl (some (sr_i (t2.1 11 0 0))), t2) from rfl) ▸ C11_thrown l  t2) (fun H3 locs3 Wd3 => ?_)
  have Wd0 := Wd3.2.2
  refine W.eq (g2 := F0 m 2623 ls [.int (t2.1 11 0 0)]) rfl ?_
  refine lv_iload hx hb (show decode code 2623 = .ok (.iload 5, 2) by decide +kernel) (lv_at hl 1 rfl) ?_
  refine lv_icmp_eq (tgt := 2630) hx hb (show decode code 2625 = .ok (.if_icmp .eq 5, 3) by decide +kernel) (by decide) (fun _ => ?_) (fun hq => absurd hE hq)
  refine lv_iload hx hb (show decode code 2630 = .ok (.iload 5, 2) by decide +kernel) (lv_at hl 1 rfl) ?_
  refine lv_if_ne (tgt := 2647) hx hb (show decode code 2632 = .ok (.ifCond .ne 15, 3) by decide +kernel) (by decide) (fun _ => ?_) (fun hk0 => ?_)
  · refine lv_goto (tgt := 2743) hx hb (show decode code 2647 = .ok (.goto 96, 3) by decide +kernel) (by decide) ?_
    refine W.widen (k := cells + 8) (n := slots + 48) (by omega) (by omega) ?_
    exact kk _ _ _ _ hI2 Wd3 (lv_sub hl [2, 3, 4, 5, 6] rfl)
  refine lv_aload_n hx hb (show decode code 2635 = .ok (.aload_n 3, 1) by decide +kernel) rfl (lv_at hl 5 rfl) ?_
  refine lv_iconst (n := 0) (v := 0) hx hb (show decode code 2636 = .ok (.iconst 0, 1) by decide +kernel) (by decide) ?_
  refine sr_wlal (M := sr_Ml meth c) (k := 23) (i := 0) (n := 1) (a := 0) C Wd3 rfl (by decide) (sr_in23 0 (by decide)) (by decide) (show decode code 2637 = .ok (.laload, 1) by decide +kernel) ?_
  refine lv_iload hx hb (show decode code 2638 = .ok (.iload 6, 2) by decide +kernel) (lv_at hl 0 rfl) ?_
  refine lv_i2l hx hb (show decode code 2640 = .ok (.i2l, 1) by decide +kernel) rfl ?_
  refine W.lcmp hx hb (show decode code 2641 = .ok (.lcmp, 1) by decide +kernel) ?_
  rw [show t2.2 23 0 (0 : Int32).toNatClampNeg = _ from hO hk0, sr_cmp0]
  refine lv_if_eq (tgt := 2647) hx hb (show decode code 2642 = .ok (.ifCond .eq 5, 3) by decide +kernel) (by decide) (fun _ => ?_) (fun hq => absurd rfl hq)
  refine lv_goto (tgt := 2743) hx hb (show decode code 2647 = .ok (.goto 96, 3) by decide +kernel) (by decide) ?_
  refine W.widen (k := cells + 8) (n := slots + 48) (by omega) (by omega) ?_
  exact kk _ _ _ _ hI2 Wd3 (lv_sub hl [2, 3, 4, 5, 6] rfl)
theorem lc_39 {Inv Inv' : sr_t → Prop} {p : Program} {l : Launch} {e : Env} {s : State} {m : MethodId} {below : List Frame} {meth : Method} {c : Code} {b L : Nat} {xs : Nat → Int32} {D : va_G} {dA : Nat → ClassId} {H : Heap} {locs : List Loc} {ls : Array Slot} {cells slots i : Nat} {tt : sr_t} (hL : L ≤ 2048) (C0 : lw_At p s m meth c b L xs) (C : sr_C l (sr_Ml meth c) p s m #[Value.ref b] meth c D dA s.heap.size) (hi : i + 4 ≤ L) (hstep : sr_ok3 Inv Inv' (fun t => FL_about_23 (xs (i + 1)) (xs (i + 2)) t) (fun t => F11_about (xs (i + 1)) (xs (i + 2)) t)) (hI : Inv tt) (Wd : sr_W D dA s.heap.size (sr_em tt) s H locs) (hl : lv_has ls 7 [(0, .ref b), (1, .ref (sr_ad s.heap.size 10 0)), (2, .ref (sr_ad s.heap.size 11 0)), (3, .ref (sr_ad s.heap.size 23 0)), (4, .int (nI i))]) (hc : cells + 8 ≤ 601024) (hs : slots + 48 ≤ 7293033) (kk : ∀ (tt' : sr_t) (H' : Heap) (locs' : List Loc) (ls' : Array Slot), Inv' tt' → sr_W D dA s.heap.size (sr_em tt') s H' locs' → lv_has ls' 7 [(0, .ref b), (1, .ref (sr_ad s.heap.size 10 0)), (2, .ref (sr_ad s.heap.size 11 0)), (3, .ref (sr_ad s.heap.size 23 0)), (4, .int (nI i))] → W p l e room_1 s m #[Value.ref b] below meth c H' locs' (cells + 8) (slots + 48) (lw_Z below #[Value.ref b] s) (F0 m 2743 ls' [])) : W p l e room_1 s m #[Value.ref b] below meth c H locs cells slots (lw_Z below #[Value.ref b] s) (F0 m 2650 ls []) := by
  obtain ⟨hx, hb, hr, hml, hown, hts, hX, hbl, hlocks, hgv⟩ := C0
  have hbA : ¬ sr_A s.heap.size b := Nat.not_le.mpr hbl
  have Wd0 := Wd.2.2
  have hRc : room_1.cells = 601024 := rfl
  have hRs : room_1.slots = 7293033 := rfl
  obtain ⟨r1, t1, r2, t2, e1, e2, hE, hO, hI2⟩ := hstep tt hI
  refine lv_aload_n hx hb (show decode code 2650 = .ok (.aload_n 1, 1) by decide +kernel) rfl (lv_at hl 1 rfl) ?_
  refine lv_aload_n hx hb (show decode code 2651 = .ok (.aload_n 0, 1) by decide +kernel) rfl (lv_at hl 0 rfl) ?_
  refine lv_iload hx hb (show decode code 2652 = .ok (.iload 4, 2) by decide +kernel) (lv_at hl 4 rfl) ?_
  refine lv_iconst (n := 1) (v := 1) hx hb (show decode code 2654 = .ok (.iconst 1, 1) by decide +kernel) (by decide) ?_
  refine lv_iadd hx hb (show decode code 2655 = .ok (.iadd, 1) by decide +kernel) ?_
  rw [show nI i + 1 = nI (i + 1) from nI_add i 1]
  refine va_sld hx hb hX hbl hbA Wd0 (vp_in_nI (show i + 1 < L by omega) (by omega)) (show decode code 2656 = .ok (.iaload, 1) by decide +kernel) ?_
  rw [nI_clamp (show i + 1 < 2147483648 by omega)]
  refine lv_aload_n hx hb (show decode code 2657 = .ok (.aload_n 0, 1) by decide +kernel) rfl (lv_at hl 0 rfl) ?_
  refine lv_iload hx hb (show decode code 2658 = .ok (.iload 4, 2) by decide +kernel) (lv_at hl 4 rfl) ?_
  refine lv_iconst (n := 2) (v := 2) hx hb (show decode code 2660 = .ok (.iconst 2, 1) by decide +kernel) (by decide) ?_
  refine lv_iadd hx hb (show decode code 2661 = .ok (.iadd, 1) by decide +kernel) ?_
  rw [show nI i + 2 = nI (i + 2) from nI_add i 2]
  refine va_sld hx hb hX hbl hbA Wd0 (vp_in_nI (show i + 2 < L by omega) (by omega)) (show decode code 2662 = .ok (.iaload, 1) by decide +kernel) ?_
  rw [nI_clamp (show i + 2 < 2147483648 by omega)]
  refine lv_aload_n hx hb (show decode code 2663 = .ok (.aload_n 3, 1) by decide +kernel) rfl (lv_at hl 3 rfl) ?_
  refine sr_wS (As := [sr_r 10 0, sr_i (xs (i + 1)), sr_i (xs (i + 2)), sr_r 23 0]) (em := sr_em) (M := sr_Ml meth c) (v := some (sr_i (r1))) (t1 := t1) (rest := []) (mc1 := 2) (ms1 := 12) C Wd hl.1 (Nat.le_of_ble_eq_true rfl) (Nat.le_of_ble_eq_true rfl) (by omega) (by omega) (fun hq => nomatch hq) fh_270 (show decode code 2664 = .ok (.invokestatic 270, 3) by decide +kernel) rm_Law_L_about rfl (Nat.le_of_ble_eq_true rfl) (e1 ▸ CL_about_23 l (xs (i + 1)) (xs (i + 2)) tt) (fun H1 locs1 Wd1 => ?_)
  have Wd0 := Wd1.2.2
  refine W.eq (g2 := F0 m 2667 ls [.int r1]) rfl ?_
  refine lv_istore (lv' := [(5, .int r1), (0, .ref b), (1, .ref (sr_ad s.heap.size 10 0)), (2, .ref (sr_ad s.heap.size 11 0)), (3, .ref (sr_ad s.heap.size 23 0)), (4, .int (nI i))]) hx hb (show decode code 2667 = .ok (.istore 5, 2) by decide +kernel) hl (by decide) rfl (fun ls hl => ?_)
  refine lv_aload_n hx hb (show decode code 2669 = .ok (.aload_n 2, 1) by decide +kernel) rfl (lv_at hl 3 rfl) ?_
  refine lv_aload_n hx hb (show decode code 2670 = .ok (.aload_n 0, 1) by decide +kernel) rfl (lv_at hl 1 rfl) ?_
  refine lv_iload hx hb (show decode code 2671 = .ok (.iload 4, 2) by decide +kernel) (lv_at hl 5 rfl) ?_
  refine lv_iconst (n := 1) (v := 1) hx hb (show decode code 2673 = .ok (.iconst 1, 1) by decide +kernel) (by decide) ?_
  refine lv_iadd hx hb (show decode code 2674 = .ok (.iadd, 1) by decide +kernel) ?_
  rw [show nI i + 1 = nI (i + 1) from nI_add i 1]
  refine va_sld hx hb hX hbl hbA Wd0 (vp_in_nI (show i + 1 < L by omega) (by omega)) (show decode code 2675 = .ok (.iaload, 1) by decide +kernel) ?_
  rw [nI_clamp (show i + 1 < 2147483648 by omega)]
  refine lv_aload_n hx hb (show decode code 2676 = .ok (.aload_n 0, 1) by decide +kernel) rfl (lv_at hl 1 rfl) ?_
  refine lv_iload hx hb (show decode code 2677 = .ok (.iload 4, 2) by decide +kernel) (lv_at hl 5 rfl) ?_
  refine lv_iconst (n := 2) (v := 2) hx hb (show decode code 2679 = .ok (.iconst 2, 1) by decide +kernel) (by decide) ?_
  refine lv_iadd hx hb (show decode code 2680 = .ok (.iadd, 1) by decide +kernel) ?_
  rw [show nI i + 2 = nI (i + 2) from nI_add i 2]
  refine va_sld hx hb hX hbl hbA Wd0 (vp_in_nI (show i + 2 < L by omega) (by omega)) (show decode code 2681 = .ok (.iaload, 1) by decide +kernel) ?_
  rw [nI_clamp (show i + 2 < 2147483648 by omega)]
  refine sr_wV (k := 11) (i := 0) (As := [sr_i (xs (i + 1)), sr_i (xs (i + 2))]) (em := sr_em) (M := sr_Ml meth c) (v := some (sr_i (r2))) (t1 := t2) (rest := []) (mc1 := 0) (ms1 := 0) C Wd1 hl.1 (Nat.le_of_ble_eq_true rfl) (Nat.le_of_ble_eq_true rfl) (by omega) (by omega) (fun hq => nomatch hq) fm_L_272 fl_L_272 (show decode code 2682 = .ok (.invokevirtual 272, 3) by decide +kernel) (sr_in11 0 (by decide)) rm_Law_11_about rfl (Nat.le_of_ble_eq_true rfl) (e2 ▸ C11_about l (xs (i + 1)) (xs (i + 2)) t1) (fun H2 locs2 Wd2 => ?_)
  have Wd0 := Wd2.2.2
  refine W.eq (g2 := F0 m 2685 ls [.int r2]) rfl ?_
  refine lv_istore (lv' := [(6, .int r2), (5, .int r1), (0, .ref b), (1, .ref (sr_ad s.heap.size 10 0)), (2, .ref (sr_ad s.heap.size 11 0)), (3, .ref (sr_ad s.heap.size 23 0)), (4, .int (nI i))]) hx hb (show decode code 2685 = .ok (.istore 6, 2) by decide +kernel) hl (by decide) rfl (fun ls hl => ?_)
  refine lv_aload_n hx hb (show decode code 2687 = .ok (.aload_n 2, 1) by decide +kernel) rfl (lv_at hl 4 rfl) ?_
  refine sr_wV (k := 11) (i := 0) (As := []) (em := sr_em) (M := sr_Ml meth c) (v := some (sr_i (t2.1 11 0 0))) (t1 := t2) (rest := []) (mc1 := 0) (ms1 := 0) C Wd2 hl.1 (Nat.le_of_ble_eq_true rfl) (Nat.le_of_ble_eq_true rfl) (by omega) (by omega) (fun hq => nomatch hq) fm_L_146 fl_L_146 (show decode code 2688 = .ok (.invokevirtual 146, 3) by decide +kernel) (sr_in11 0 (by decide)) rm_Law_11_thrown rfl (Nat.le_of_ble_eq_true rfl) ((show F11_thrown t2 = some (.inl (some (sr_i (t2.1 11 0 0))), t2) from rfl) ▸ C11_thrown l  t2) (fun H3 locs3 Wd3 => ?_)
  have Wd0 := Wd3.2.2
  refine W.eq (g2 := F0 m 2691 ls [.int (t2.1 11 0 0)]) rfl ?_
  refine lv_iload hx hb (show decode code 2691 = .ok (.iload 5, 2) by decide +kernel) (lv_at hl 1 rfl) ?_
  refine lv_icmp_eq (tgt := 2698) hx hb (show decode code 2693 = .ok (.if_icmp .eq 5, 3) by decide +kernel) (by decide) (fun _ => ?_) (fun hq => absurd hE hq)
  refine lv_iload hx hb (show decode code 2698 = .ok (.iload 5, 2) by decide +kernel) (lv_at hl 1 rfl) ?_
  refine lv_if_ne (tgt := 2715) hx hb (show decode code 2700 = .ok (.ifCond .ne 15, 3) by decide +kernel) (by decide) (fun _ => ?_) (fun hk0 => ?_)
  · refine lv_goto (tgt := 2743) hx hb (show decode code 2715 = .ok (.goto 28, 3) by decide +kernel) (by decide) ?_
    refine W.widen (k := cells + 8) (n := slots + 48) (by omega) (by omega) ?_
    exact kk _ _ _ _ hI2 Wd3 (lv_sub hl [2, 3, 4, 5, 6] rfl)
  refine lv_aload_n hx hb (show decode code 2703 = .ok (.aload_n 3, 1) by decide +kernel) rfl (lv_at hl 5 rfl) ?_
  refine lv_iconst (n := 0) (v := 0) hx hb (show decode code 2704 = .ok (.iconst 0, 1) by decide +kernel) (by decide) ?_
  refine sr_wlal (M := sr_Ml meth c) (k := 23) (i := 0) (n := 1) (a := 0) C Wd3 rfl (by decide) (sr_in23 0 (by decide)) (by decide) (show decode code 2705 = .ok (.laload, 1) by decide +kernel) ?_
  refine lv_iload hx hb (show decode code 2706 = .ok (.iload 6, 2) by decide +kernel) (lv_at hl 0 rfl) ?_
  refine lv_i2l hx hb (show decode code 2708 = .ok (.i2l, 1) by decide +kernel) rfl ?_
  refine W.lcmp hx hb (show decode code 2709 = .ok (.lcmp, 1) by decide +kernel) ?_
  rw [show t2.2 23 0 (0 : Int32).toNatClampNeg = _ from hO hk0, sr_cmp0]
  refine lv_if_eq (tgt := 2715) hx hb (show decode code 2710 = .ok (.ifCond .eq 5, 3) by decide +kernel) (by decide) (fun _ => ?_) (fun hq => absurd rfl hq)
  refine lv_goto (tgt := 2743) hx hb (show decode code 2715 = .ok (.goto 28, 3) by decide +kernel) (by decide) ?_
  refine W.widen (k := cells + 8) (n := slots + 48) (by omega) (by omega) ?_
  exact kk _ _ _ _ hI2 Wd3 (lv_sub hl [2, 3, 4, 5, 6] rfl)
theorem lc_40 {Inv Inv' : sr_t → Prop} {p : Program} {l : Launch} {e : Env} {s : State} {m : MethodId} {below : List Frame} {meth : Method} {c : Code} {b L : Nat} {xs : Nat → Int32} {D : va_G} {dA : Nat → ClassId} {H : Heap} {locs : List Loc} {ls : Array Slot} {cells slots i : Nat} {tt : sr_t} (hL : L ≤ 2048) (C0 : lw_At p s m meth c b L xs) (C : sr_C l (sr_Ml meth c) p s m #[Value.ref b] meth c D dA s.heap.size) (hi : i + 4 ≤ L) (hstep : sr_ok2 Inv Inv' (fun t => F10_count (xs (i + 1)) t) (fun t => F11_count (xs (i + 1)) t)) (hI : Inv tt) (Wd : sr_W D dA s.heap.size (sr_em tt) s H locs) (hl : lv_has ls 7 [(0, .ref b), (1, .ref (sr_ad s.heap.size 10 0)), (2, .ref (sr_ad s.heap.size 11 0)), (3, .ref (sr_ad s.heap.size 23 0)), (4, .int (nI i))]) (hc : cells + 8 ≤ 601024) (hs : slots + 48 ≤ 7293033) (kk : ∀ (tt' : sr_t) (H' : Heap) (locs' : List Loc) (ls' : Array Slot), Inv' tt' → sr_W D dA s.heap.size (sr_em tt') s H' locs' → lv_has ls' 7 [(0, .ref b), (1, .ref (sr_ad s.heap.size 10 0)), (2, .ref (sr_ad s.heap.size 11 0)), (3, .ref (sr_ad s.heap.size 23 0)), (4, .int (nI i))] → W p l e room_1 s m #[Value.ref b] below meth c H' locs' (cells + 8) (slots + 48) (lw_Z below #[Value.ref b] s) (F0 m 2743 ls' [])) : W p l e room_1 s m #[Value.ref b] below meth c H locs cells slots (lw_Z below #[Value.ref b] s) (F0 m 2718 ls []) := by
  obtain ⟨hx, hb, hr, hml, hown, hts, hX, hbl, hlocks, hgv⟩ := C0
  have hbA : ¬ sr_A s.heap.size b := Nat.not_le.mpr hbl
  have Wd0 := Wd.2.2
  have hRc : room_1.cells = 601024 := rfl
  have hRs : room_1.slots = 7293033 := rfl
  obtain ⟨r1, t1, r2, t2, e1, e2, hE, hI2⟩ := hstep tt hI
  refine lv_aload_n hx hb (show decode code 2718 = .ok (.aload_n 1, 1) by decide +kernel) rfl (lv_at hl 1 rfl) ?_
  refine lv_aload_n hx hb (show decode code 2719 = .ok (.aload_n 0, 1) by decide +kernel) rfl (lv_at hl 0 rfl) ?_
  refine lv_iload hx hb (show decode code 2720 = .ok (.iload 4, 2) by decide +kernel) (lv_at hl 4 rfl) ?_
  refine lv_iconst (n := 1) (v := 1) hx hb (show decode code 2722 = .ok (.iconst 1, 1) by decide +kernel) (by decide) ?_
  refine lv_iadd hx hb (show decode code 2723 = .ok (.iadd, 1) by decide +kernel) ?_
  rw [show nI i + 1 = nI (i + 1) from nI_add i 1]
  refine va_sld hx hb hX hbl hbA Wd0 (vp_in_nI (show i + 1 < L by omega) (by omega)) (show decode code 2724 = .ok (.iaload, 1) by decide +kernel) ?_
  rw [nI_clamp (show i + 1 < 2147483648 by omega)]
  refine sr_wV (k := 10) (i := 0) (As := [sr_i (xs (i + 1))]) (em := sr_em) (M := sr_Ml meth c) (v := some (sr_i (r1))) (t1 := t1) (rest := []) (mc1 := 0) (ms1 := 0) C Wd hl.1 (Nat.le_of_ble_eq_true rfl) (Nat.le_of_ble_eq_true rfl) (by omega) (by omega) (fun hq => nomatch hq) fm_L_273 fl_L_273 (show decode code 2725 = .ok (.invokevirtual 273, 3) by decide +kernel) (sr_in10 0 (by decide)) rm_Law_10_count rfl (Nat.le_of_ble_eq_true rfl) (e1 ▸ C10_count l (xs (i + 1)) tt) (fun H1 locs1 Wd1 => ?_)
  have Wd0 := Wd1.2.2
  refine W.eq (g2 := F0 m 2728 ls [.int r1]) rfl ?_
  refine lv_aload_n hx hb (show decode code 2728 = .ok (.aload_n 2, 1) by decide +kernel) rfl (lv_at hl 2 rfl) ?_
  refine lv_aload_n hx hb (show decode code 2729 = .ok (.aload_n 0, 1) by decide +kernel) rfl (lv_at hl 0 rfl) ?_
  refine lv_iload hx hb (show decode code 2730 = .ok (.iload 4, 2) by decide +kernel) (lv_at hl 4 rfl) ?_
  refine lv_iconst (n := 1) (v := 1) hx hb (show decode code 2732 = .ok (.iconst 1, 1) by decide +kernel) (by decide) ?_
  refine lv_iadd hx hb (show decode code 2733 = .ok (.iadd, 1) by decide +kernel) ?_
  rw [show nI i + 1 = nI (i + 1) from nI_add i 1]
  refine va_sld hx hb hX hbl hbA Wd0 (vp_in_nI (show i + 1 < L by omega) (by omega)) (show decode code 2734 = .ok (.iaload, 1) by decide +kernel) ?_
  rw [nI_clamp (show i + 1 < 2147483648 by omega)]
  refine sr_wV (k := 11) (i := 0) (As := [sr_i (xs (i + 1))]) (em := sr_em) (M := sr_Ml meth c) (v := some (sr_i (r2))) (t1 := t2) (rest := [.int r1]) (mc1 := 0) (ms1 := 0) C Wd1 hl.1 (Nat.le_of_ble_eq_true rfl) (Nat.le_of_ble_eq_true rfl) (by omega) (by omega) (fun hq => nomatch hq) fm_L_276 fl_L_276 (show decode code 2735 = .ok (.invokevirtual 276, 3) by decide +kernel) (sr_in11 0 (by decide)) rm_Law_11_count rfl (Nat.le_of_ble_eq_true rfl) (e2 ▸ C11_count l (xs (i + 1)) t1) (fun H2 locs2 Wd2 => ?_)
  have Wd0 := Wd2.2.2
  refine W.eq (g2 := F0 m 2738 ls [.int r2, .int r1]) rfl ?_
  refine lv_icmp_eq (tgt := 2743) hx hb (show decode code 2738 = .ok (.if_icmp .eq 5, 3) by decide +kernel) (by decide) (fun _ => ?_) (fun hq => absurd hE hq)
  refine W.widen (k := cells + 8) (n := slots + 48) (by omega) (by omega) ?_
  exact kk _ _ _ _ hI2 Wd2 (lv_sub hl [0, 1, 2, 3, 4] rfl)
