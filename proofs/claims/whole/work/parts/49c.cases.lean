theorem lc_18 {Inv Inv' : sr_t → Prop} {p : Program} {l : Launch} {e : Env} {s : State} {m : MethodId} {below : List Frame} {meth : Method} {c : Code} {b L : Nat} {xs : Nat → Int32} {D : va_G} {dA : Nat → ClassId} {H : Heap} {locs : List Loc} {ls : Array Slot} {cells slots i : Nat} {tt : sr_t} (hL : L ≤ 2048) (C0 : lw_At p s m meth c b L xs) (C : sr_C l (sr_Ml meth c) p s m #[Value.ref b] meth c D dA s.heap.size) (hi : i + 4 ≤ L) (hstep : sr_ok3 Inv Inv' (fun t => FL_start_23 (xs (i + 1)) (xs (i + 2)) t) (fun t => F11_start (xs (i + 1)) (xs (i + 2)) t)) (hI : Inv tt) (Wd : sr_W D dA s.heap.size (sr_em tt) s H locs) (hl : lv_has ls 7 [(0, .ref b), (1, .ref (sr_ad s.heap.size 10 0)), (2, .ref (sr_ad s.heap.size 11 0)), (3, .ref (sr_ad s.heap.size 23 0)), (4, .int (nI i))]) (hc : cells + 8 ≤ 601024) (hs : slots + 48 ≤ 7293033) (kk : ∀ (tt' : sr_t) (H' : Heap) (locs' : List Loc) (ls' : Array Slot), Inv' tt' → sr_W D dA s.heap.size (sr_em tt') s H' locs' → lv_has ls' 7 [(0, .ref b), (1, .ref (sr_ad s.heap.size 10 0)), (2, .ref (sr_ad s.heap.size 11 0)), (3, .ref (sr_ad s.heap.size 23 0)), (4, .int (nI i))] → W p l e room_1 s m #[Value.ref b] below meth c H' locs' (cells + 8) (slots + 48) (lw_Z below #[Value.ref b] s) (F0 m 2743 ls' [])) : W p l e room_1 s m #[Value.ref b] below meth c H locs cells slots (lw_Z below #[Value.ref b] s) (F0 m 1314 ls []) := by
  obtain ⟨hx, hb, hr, hml, hown, hts, hX, hbl, hlocks, hgv⟩ := C0
  have hbA : ¬ sr_A s.heap.size b := Nat.not_le.mpr hbl
  have Wd0 := Wd.2.2
  have hRc : room_1.cells = 601024 := rfl
  have hRs : room_1.slots = 7293033 := rfl
  obtain ⟨r1, t1, r2, t2, e1, e2, hE, hO, hI2⟩ := hstep tt hI
  refine lv_aload_n hx hb (show decode code 1314 = .ok (.aload_n 1, 1) by decide +kernel) rfl (lv_at hl 1 rfl) ?_
  refine lv_aload_n hx hb (show decode code 1315 = .ok (.aload_n 0, 1) by decide +kernel) rfl (lv_at hl 0 rfl) ?_
  refine lv_iload hx hb (show decode code 1316 = .ok (.iload 4, 2) by decide +kernel) (lv_at hl 4 rfl) ?_
  refine lv_iconst (n := 1) (v := 1) hx hb (show decode code 1318 = .ok (.iconst 1, 1) by decide +kernel) (by decide) ?_
  refine lv_iadd hx hb (show decode code 1319 = .ok (.iadd, 1) by decide +kernel) ?_
  rw [show nI i + 1 = nI (i + 1) from nI_add i 1]
  refine va_sld hx hb hX hbl hbA Wd0 (vp_in_nI (show i + 1 < L by omega) (by omega)) (show decode code 1320 = .ok (.iaload, 1) by decide +kernel) ?_
  rw [nI_clamp (show i + 1 < 2147483648 by omega)]
  refine lv_aload_n hx hb (show decode code 1321 = .ok (.aload_n 0, 1) by decide +kernel) rfl (lv_at hl 0 rfl) ?_
  refine lv_iload hx hb (show decode code 1322 = .ok (.iload 4, 2) by decide +kernel) (lv_at hl 4 rfl) ?_
  refine lv_iconst (n := 2) (v := 2) hx hb (show decode code 1324 = .ok (.iconst 2, 1) by decide +kernel) (by decide) ?_
  refine lv_iadd hx hb (show decode code 1325 = .ok (.iadd, 1) by decide +kernel) ?_
  rw [show nI i + 2 = nI (i + 2) from nI_add i 2]
  refine va_sld hx hb hX hbl hbA Wd0 (vp_in_nI (show i + 2 < L by omega) (by omega)) (show decode code 1326 = .ok (.iaload, 1) by decide +kernel) ?_
  rw [nI_clamp (show i + 2 < 2147483648 by omega)]
  refine lv_aload_n hx hb (show decode code 1327 = .ok (.aload_n 3, 1) by decide +kernel) rfl (lv_at hl 3 rfl) ?_
  refine sr_wS (As := [sr_r 10 0, sr_i (xs (i + 1)), sr_i (xs (i + 2)), sr_r 23 0]) (em := sr_em) (M := sr_Ml meth c) (v := some (sr_i (r1))) (t1 := t1) (rest := []) (mc1 := 3) (ms1 := 18) C Wd hl.1 (Nat.le_of_ble_eq_true rfl) (Nat.le_of_ble_eq_true rfl) (by omega) (by omega) (fun hq => nomatch hq) fh_206 (show decode code 1328 = .ok (.invokestatic 206, 3) by decide +kernel) rm_Law_L_start rfl (Nat.le_of_ble_eq_true rfl) (e1 ▸ CL_start_23 l (xs (i + 1)) (xs (i + 2)) tt) (fun H1 locs1 Wd1 => ?_)
  have Wd0 := Wd1.2.2
  refine W.eq (g2 := F0 m 1331 ls [.int r1]) rfl ?_
  refine lv_istore (lv' := [(5, .int r1), (0, .ref b), (1, .ref (sr_ad s.heap.size 10 0)), (2, .ref (sr_ad s.heap.size 11 0)), (3, .ref (sr_ad s.heap.size 23 0)), (4, .int (nI i))]) hx hb (show decode code 1331 = .ok (.istore 5, 2) by decide +kernel) hl (by decide) rfl (fun ls hl => ?_)
  refine lv_aload_n hx hb (show decode code 1333 = .ok (.aload_n 2, 1) by decide +kernel) rfl (lv_at hl 3 rfl) ?_
  refine lv_aload_n hx hb (show decode code 1334 = .ok (.aload_n 0, 1) by decide +kernel) rfl (lv_at hl 1 rfl) ?_
  refine lv_iload hx hb (show decode code 1335 = .ok (.iload 4, 2) by decide +kernel) (lv_at hl 5 rfl) ?_
  refine lv_iconst (n := 1) (v := 1) hx hb (show decode code 1337 = .ok (.iconst 1, 1) by decide +kernel) (by decide) ?_
  refine lv_iadd hx hb (show decode code 1338 = .ok (.iadd, 1) by decide +kernel) ?_
  rw [show nI i + 1 = nI (i + 1) from nI_add i 1]
  refine va_sld hx hb hX hbl hbA Wd0 (vp_in_nI (show i + 1 < L by omega) (by omega)) (show decode code 1339 = .ok (.iaload, 1) by decide +kernel) ?_
  rw [nI_clamp (show i + 1 < 2147483648 by omega)]
  refine lv_aload_n hx hb (show decode code 1340 = .ok (.aload_n 0, 1) by decide +kernel) rfl (lv_at hl 1 rfl) ?_
  refine lv_iload hx hb (show decode code 1341 = .ok (.iload 4, 2) by decide +kernel) (lv_at hl 5 rfl) ?_
  refine lv_iconst (n := 2) (v := 2) hx hb (show decode code 1343 = .ok (.iconst 2, 1) by decide +kernel) (by decide) ?_
  refine lv_iadd hx hb (show decode code 1344 = .ok (.iadd, 1) by decide +kernel) ?_
  rw [show nI i + 2 = nI (i + 2) from nI_add i 2]
  refine va_sld hx hb hX hbl hbA Wd0 (vp_in_nI (show i + 2 < L by omega) (by omega)) (show decode code 1345 = .ok (.iaload, 1) by decide +kernel) ?_
  rw [nI_clamp (show i + 2 < 2147483648 by omega)]
  refine sr_wV (k := 11) (i := 0) (As := [sr_i (xs (i + 1)), sr_i (xs (i + 2))]) (em := sr_em) (M := sr_Ml meth c) (v := some (sr_i (r2))) (t1 := t2) (rest := []) (mc1 := 0) (ms1 := 0) C Wd1 hl.1 (Nat.le_of_ble_eq_true rfl) (Nat.le_of_ble_eq_true rfl) (by omega) (by omega) (fun hq => nomatch hq) fm_L_208 fl_L_208 (show decode code 1346 = .ok (.invokevirtual 208, 3) by decide +kernel) (sr_in11 0 (by decide)) rm_Law_11_start rfl (Nat.le_of_ble_eq_true rfl) (e2 ▸ C11_start l (xs (i + 1)) (xs (i + 2)) t1) (fun H2 locs2 Wd2 => ?_)
  have Wd0 := Wd2.2.2
  refine W.eq (g2 := F0 m 1349 ls [.int r2]) rfl ?_
  refine lv_istore (lv' := [(6, .int r2), (5, .int r1), (0, .ref b), (1, .ref (sr_ad s.heap.size 10 0)), (2, .ref (sr_ad s.heap.size 11 0)), (3, .ref (sr_ad s.heap.size 23 0)), (4, .int (nI i))]) hx hb (show decode code 1349 = .ok (.istore 6, 2) by decide +kernel) hl (by decide) rfl (fun ls hl => ?_)
  refine lv_aload_n hx hb (show decode code 1351 = .ok (.aload_n 2, 1) by decide +kernel) rfl (lv_at hl 4 rfl) ?_
  refine sr_wV (k := 11) (i := 0) (As := []) (em := sr_em) (M := sr_Ml meth c) (v := some (sr_i (t2.1 11 0 0))) (t1 := t2) (rest := []) (mc1 := 0) (ms1 := 0) C Wd2 hl.1 (Nat.le_of_ble_eq_true rfl) (Nat.le_of_ble_eq_true rfl) (by omega) (by omega) (fun hq => nomatch hq) fm_L_146 fl_L_146 (show decode code 1352 = .ok (.invokevirtual 146, 3) by decide +kernel) (sr_in11 0 (by decide)) rm_Law_11_thrown rfl (Nat.le_of_ble_eq_true rfl) ((show F11_thrown t2 = some (.inl (some (sr_i (t2.1 11 0 0))), t2) from rfl) ▸ C11_thrown l  t2) (fun H3 locs3 Wd3 => ?_)
  have Wd0 := Wd3.2.2
  refine W.eq (g2 := F0 m 1355 ls [.int (t2.1 11 0 0)]) rfl ?_
  refine lv_iload hx hb (show decode code 1355 = .ok (.iload 5, 2) by decide +kernel) (lv_at hl 1 rfl) ?_
  refine lv_icmp_eq (tgt := 1362) hx hb (show decode code 1357 = .ok (.if_icmp .eq 5, 3) by decide +kernel) (by decide) (fun _ => ?_) (fun hq => absurd hE hq)
  refine lv_iload hx hb (show decode code 1362 = .ok (.iload 5, 2) by decide +kernel) (lv_at hl 1 rfl) ?_
  refine lv_if_ne (tgt := 1379) hx hb (show decode code 1364 = .ok (.ifCond .ne 15, 3) by decide +kernel) (by decide) (fun _ => ?_) (fun hk0 => ?_)
  · refine lv_goto (tgt := 2743) hx hb (show decode code 1379 = .ok (.goto 1364, 3) by decide +kernel) (by decide) ?_
    refine W.widen (k := cells + 8) (n := slots + 48) (by omega) (by omega) ?_
    exact kk _ _ _ _ hI2 Wd3 (lv_sub hl [2, 3, 4, 5, 6] rfl)
  refine lv_aload_n hx hb (show decode code 1367 = .ok (.aload_n 3, 1) by decide +kernel) rfl (lv_at hl 5 rfl) ?_
  refine lv_iconst (n := 0) (v := 0) hx hb (show decode code 1368 = .ok (.iconst 0, 1) by decide +kernel) (by decide) ?_
  refine sr_wlal (M := sr_Ml meth c) (k := 23) (i := 0) (n := 1) (a := 0) C Wd3 rfl (by decide) (sr_in23 0 (by decide)) (by decide) (show decode code 1369 = .ok (.laload, 1) by decide +kernel) ?_
  refine lv_iload hx hb (show decode code 1370 = .ok (.iload 6, 2) by decide +kernel) (lv_at hl 0 rfl) ?_
  refine lv_i2l hx hb (show decode code 1372 = .ok (.i2l, 1) by decide +kernel) rfl ?_
  refine W.lcmp hx hb (show decode code 1373 = .ok (.lcmp, 1) by decide +kernel) ?_
  rw [show t2.2 23 0 (0 : Int32).toNatClampNeg = _ from hO hk0, sr_cmp0]
  refine lv_if_eq (tgt := 1379) hx hb (show decode code 1374 = .ok (.ifCond .eq 5, 3) by decide +kernel) (by decide) (fun _ => ?_) (fun hq => absurd rfl hq)
  refine lv_goto (tgt := 2743) hx hb (show decode code 1379 = .ok (.goto 1364, 3) by decide +kernel) (by decide) ?_
  refine W.widen (k := cells + 8) (n := slots + 48) (by omega) (by omega) ?_
  exact kk _ _ _ _ hI2 Wd3 (lv_sub hl [2, 3, 4, 5, 6] rfl)
theorem lc_19 {Inv Inv' : sr_t → Prop} {p : Program} {l : Launch} {e : Env} {s : State} {m : MethodId} {below : List Frame} {meth : Method} {c : Code} {b L : Nat} {xs : Nat → Int32} {D : va_G} {dA : Nat → ClassId} {H : Heap} {locs : List Loc} {ls : Array Slot} {cells slots i : Nat} {tt : sr_t} (hL : L ≤ 2048) (C0 : lw_At p s m meth c b L xs) (C : sr_C l (sr_Ml meth c) p s m #[Value.ref b] meth c D dA s.heap.size) (hi : i + 4 ≤ L) (hstep : sr_ok3 Inv Inv' (fun t => FL_nearest_23 (xs (i + 1)) t) (fun t => F11_nearest (xs (i + 1)) t)) (hI : Inv tt) (Wd : sr_W D dA s.heap.size (sr_em tt) s H locs) (hl : lv_has ls 7 [(0, .ref b), (1, .ref (sr_ad s.heap.size 10 0)), (2, .ref (sr_ad s.heap.size 11 0)), (3, .ref (sr_ad s.heap.size 23 0)), (4, .int (nI i))]) (hc : cells + 8 ≤ 601024) (hs : slots + 48 ≤ 7293033) (kk : ∀ (tt' : sr_t) (H' : Heap) (locs' : List Loc) (ls' : Array Slot), Inv' tt' → sr_W D dA s.heap.size (sr_em tt') s H' locs' → lv_has ls' 7 [(0, .ref b), (1, .ref (sr_ad s.heap.size 10 0)), (2, .ref (sr_ad s.heap.size 11 0)), (3, .ref (sr_ad s.heap.size 23 0)), (4, .int (nI i))] → W p l e room_1 s m #[Value.ref b] below meth c H' locs' (cells + 8) (slots + 48) (lw_Z below #[Value.ref b] s) (F0 m 2743 ls' [])) : W p l e room_1 s m #[Value.ref b] below meth c H locs cells slots (lw_Z below #[Value.ref b] s) (F0 m 1382 ls []) := by
  obtain ⟨hx, hb, hr, hml, hown, hts, hX, hbl, hlocks, hgv⟩ := C0
  have hbA : ¬ sr_A s.heap.size b := Nat.not_le.mpr hbl
  have Wd0 := Wd.2.2
  have hRc : room_1.cells = 601024 := rfl
  have hRs : room_1.slots = 7293033 := rfl
  obtain ⟨r1, t1, r2, t2, e1, e2, hE, hO, hI2⟩ := hstep tt hI
  refine lv_aload_n hx hb (show decode code 1382 = .ok (.aload_n 1, 1) by decide +kernel) rfl (lv_at hl 1 rfl) ?_
  refine lv_aload_n hx hb (show decode code 1383 = .ok (.aload_n 0, 1) by decide +kernel) rfl (lv_at hl 0 rfl) ?_
  refine lv_iload hx hb (show decode code 1384 = .ok (.iload 4, 2) by decide +kernel) (lv_at hl 4 rfl) ?_
  refine lv_iconst (n := 1) (v := 1) hx hb (show decode code 1386 = .ok (.iconst 1, 1) by decide +kernel) (by decide) ?_
  refine lv_iadd hx hb (show decode code 1387 = .ok (.iadd, 1) by decide +kernel) ?_
  rw [show nI i + 1 = nI (i + 1) from nI_add i 1]
  refine va_sld hx hb hX hbl hbA Wd0 (vp_in_nI (show i + 1 < L by omega) (by omega)) (show decode code 1388 = .ok (.iaload, 1) by decide +kernel) ?_
  rw [nI_clamp (show i + 1 < 2147483648 by omega)]
  refine lv_aload_n hx hb (show decode code 1389 = .ok (.aload_n 3, 1) by decide +kernel) rfl (lv_at hl 3 rfl) ?_
  refine sr_wS (As := [sr_r 10 0, sr_i (xs (i + 1)), sr_r 23 0]) (em := sr_em) (M := sr_Ml meth c) (v := some (sr_i (r1))) (t1 := t1) (rest := []) (mc1 := 1) (ms1 := 6) C Wd hl.1 (Nat.le_of_ble_eq_true rfl) (Nat.le_of_ble_eq_true rfl) (by omega) (by omega) (fun hq => nomatch hq) fh_209 (show decode code 1390 = .ok (.invokestatic 209, 3) by decide +kernel) rm_Law_L_nearest rfl (Nat.le_of_ble_eq_true rfl) (e1 ▸ CL_nearest_23 l (xs (i + 1)) tt) (fun H1 locs1 Wd1 => ?_)
  have Wd0 := Wd1.2.2
  refine W.eq (g2 := F0 m 1393 ls [.int r1]) rfl ?_
  refine lv_istore (lv' := [(5, .int r1), (0, .ref b), (1, .ref (sr_ad s.heap.size 10 0)), (2, .ref (sr_ad s.heap.size 11 0)), (3, .ref (sr_ad s.heap.size 23 0)), (4, .int (nI i))]) hx hb (show decode code 1393 = .ok (.istore 5, 2) by decide +kernel) hl (by decide) rfl (fun ls hl => ?_)
  refine lv_aload_n hx hb (show decode code 1395 = .ok (.aload_n 2, 1) by decide +kernel) rfl (lv_at hl 3 rfl) ?_
  refine lv_aload_n hx hb (show decode code 1396 = .ok (.aload_n 0, 1) by decide +kernel) rfl (lv_at hl 1 rfl) ?_
  refine lv_iload hx hb (show decode code 1397 = .ok (.iload 4, 2) by decide +kernel) (lv_at hl 5 rfl) ?_
  refine lv_iconst (n := 1) (v := 1) hx hb (show decode code 1399 = .ok (.iconst 1, 1) by decide +kernel) (by decide) ?_
  refine lv_iadd hx hb (show decode code 1400 = .ok (.iadd, 1) by decide +kernel) ?_
  rw [show nI i + 1 = nI (i + 1) from nI_add i 1]
  refine va_sld hx hb hX hbl hbA Wd0 (vp_in_nI (show i + 1 < L by omega) (by omega)) (show decode code 1401 = .ok (.iaload, 1) by decide +kernel) ?_
  rw [nI_clamp (show i + 1 < 2147483648 by omega)]
  refine sr_wV (k := 11) (i := 0) (As := [sr_i (xs (i + 1))]) (em := sr_em) (M := sr_Ml meth c) (v := some (sr_i (r2))) (t1 := t2) (rest := []) (mc1 := 0) (ms1 := 0) C Wd1 hl.1 (Nat.le_of_ble_eq_true rfl) (Nat.le_of_ble_eq_true rfl) (by omega) (by omega) (fun hq => nomatch hq) fm_L_211 fl_L_211 (show decode code 1402 = .ok (.invokevirtual 211, 3) by decide +kernel) (sr_in11 0 (by decide)) rm_Law_11_nearest rfl (Nat.le_of_ble_eq_true rfl) (e2 ▸ C11_nearest l (xs (i + 1)) t1) (fun H2 locs2 Wd2 => ?_)
  have Wd0 := Wd2.2.2
  refine W.eq (g2 := F0 m 1405 ls [.int r2]) rfl ?_
  refine lv_istore (lv' := [(6, .int r2), (5, .int r1), (0, .ref b), (1, .ref (sr_ad s.heap.size 10 0)), (2, .ref (sr_ad s.heap.size 11 0)), (3, .ref (sr_ad s.heap.size 23 0)), (4, .int (nI i))]) hx hb (show decode code 1405 = .ok (.istore 6, 2) by decide +kernel) hl (by decide) rfl (fun ls hl => ?_)
  refine lv_aload_n hx hb (show decode code 1407 = .ok (.aload_n 2, 1) by decide +kernel) rfl (lv_at hl 4 rfl) ?_
  refine sr_wV (k := 11) (i := 0) (As := []) (em := sr_em) (M := sr_Ml meth c) (v := some (sr_i (t2.1 11 0 0))) (t1 := t2) (rest := []) (mc1 := 0) (ms1 := 0) C Wd2 hl.1 (Nat.le_of_ble_eq_true rfl) (Nat.le_of_ble_eq_true rfl) (by omega) (by omega) (fun hq => nomatch hq) fm_L_146 fl_L_146 (show decode code 1408 = .ok (.invokevirtual 146, 3) by decide +kernel) (sr_in11 0 (by decide)) rm_Law_11_thrown rfl (Nat.le_of_ble_eq_true rfl) ((show F11_thrown t2 = some (.inl (some (sr_i (t2.1 11 0 0))), t2) from rfl) ▸ C11_thrown l  t2) (fun H3 locs3 Wd3 => ?_)
  have Wd0 := Wd3.2.2
  refine W.eq (g2 := F0 m 1411 ls [.int (t2.1 11 0 0)]) rfl ?_
  refine lv_iload hx hb (show decode code 1411 = .ok (.iload 5, 2) by decide +kernel) (lv_at hl 1 rfl) ?_
  refine lv_icmp_eq (tgt := 1418) hx hb (show decode code 1413 = .ok (.if_icmp .eq 5, 3) by decide +kernel) (by decide) (fun _ => ?_) (fun hq => absurd hE hq)
  refine lv_iload hx hb (show decode code 1418 = .ok (.iload 5, 2) by decide +kernel) (lv_at hl 1 rfl) ?_
  refine lv_if_ne (tgt := 1435) hx hb (show decode code 1420 = .ok (.ifCond .ne 15, 3) by decide +kernel) (by decide) (fun _ => ?_) (fun hk0 => ?_)
  · refine lv_goto (tgt := 2743) hx hb (show decode code 1435 = .ok (.goto 1308, 3) by decide +kernel) (by decide) ?_
    refine W.widen (k := cells + 8) (n := slots + 48) (by omega) (by omega) ?_
    exact kk _ _ _ _ hI2 Wd3 (lv_sub hl [2, 3, 4, 5, 6] rfl)
  refine lv_aload_n hx hb (show decode code 1423 = .ok (.aload_n 3, 1) by decide +kernel) rfl (lv_at hl 5 rfl) ?_
  refine lv_iconst (n := 0) (v := 0) hx hb (show decode code 1424 = .ok (.iconst 0, 1) by decide +kernel) (by decide) ?_
  refine sr_wlal (M := sr_Ml meth c) (k := 23) (i := 0) (n := 1) (a := 0) C Wd3 rfl (by decide) (sr_in23 0 (by decide)) (by decide) (show decode code 1425 = .ok (.laload, 1) by decide +kernel) ?_
  refine lv_iload hx hb (show decode code 1426 = .ok (.iload 6, 2) by decide +kernel) (lv_at hl 0 rfl) ?_
  refine lv_i2l hx hb (show decode code 1428 = .ok (.i2l, 1) by decide +kernel) rfl ?_
  refine W.lcmp hx hb (show decode code 1429 = .ok (.lcmp, 1) by decide +kernel) ?_
  rw [show t2.2 23 0 (0 : Int32).toNatClampNeg = _ from hO hk0, sr_cmp0]
  refine lv_if_eq (tgt := 1435) hx hb (show decode code 1430 = .ok (.ifCond .eq 5, 3) by decide +kernel) (by decide) (fun _ => ?_) (fun hq => absurd rfl hq)
  refine lv_goto (tgt := 2743) hx hb (show decode code 1435 = .ok (.goto 1308, 3) by decide +kernel) (by decide) ?_
  refine W.widen (k := cells + 8) (n := slots + 48) (by omega) (by omega) ?_
  exact kk _ _ _ _ hI2 Wd3 (lv_sub hl [2, 3, 4, 5, 6] rfl)
theorem lc_20 {Inv Inv' : sr_t → Prop} {p : Program} {l : Launch} {e : Env} {s : State} {m : MethodId} {below : List Frame} {meth : Method} {c : Code} {b L : Nat} {xs : Nat → Int32} {D : va_G} {dA : Nat → ClassId} {H : Heap} {locs : List Loc} {ls : Array Slot} {cells slots i : Nat} {tt : sr_t} (hL : L ≤ 2048) (C0 : lw_At p s m meth c b L xs) (C : sr_C l (sr_Ml meth c) p s m #[Value.ref b] meth c D dA s.heap.size) (hi : i + 4 ≤ L) (hstep : sr_ok3 Inv Inv' (fun t => FL_far_23 (xs (i + 1)) (xs (i + 2)) t) (fun t => F11_far (xs (i + 1)) (xs (i + 2)) t)) (hI : Inv tt) (Wd : sr_W D dA s.heap.size (sr_em tt) s H locs) (hl : lv_has ls 7 [(0, .ref b), (1, .ref (sr_ad s.heap.size 10 0)), (2, .ref (sr_ad s.heap.size 11 0)), (3, .ref (sr_ad s.heap.size 23 0)), (4, .int (nI i))]) (hc : cells + 8 ≤ 601024) (hs : slots + 48 ≤ 7293033) (kk : ∀ (tt' : sr_t) (H' : Heap) (locs' : List Loc) (ls' : Array Slot), Inv' tt' → sr_W D dA s.heap.size (sr_em tt') s H' locs' → lv_has ls' 7 [(0, .ref b), (1, .ref (sr_ad s.heap.size 10 0)), (2, .ref (sr_ad s.heap.size 11 0)), (3, .ref (sr_ad s.heap.size 23 0)), (4, .int (nI i))] → W p l e room_1 s m #[Value.ref b] below meth c H' locs' (cells + 8) (slots + 48) (lw_Z below #[Value.ref b] s) (F0 m 2743 ls' [])) : W p l e room_1 s m #[Value.ref b] below meth c H locs cells slots (lw_Z below #[Value.ref b] s) (F0 m 1438 ls []) := by
  obtain ⟨hx, hb, hr, hml, hown, hts, hX, hbl, hlocks, hgv⟩ := C0
  have hbA : ¬ sr_A s.heap.size b := Nat.not_le.mpr hbl
  have Wd0 := Wd.2.2
  have hRc : room_1.cells = 601024 := rfl
  have hRs : room_1.slots = 7293033 := rfl
  obtain ⟨r1, t1, r2, t2, e1, e2, hE, hO, hI2⟩ := hstep tt hI
  refine lv_aload_n hx hb (show decode code 1438 = .ok (.aload_n 1, 1) by decide +kernel) rfl (lv_at hl 1 rfl) ?_
  refine lv_aload_n hx hb (show decode code 1439 = .ok (.aload_n 0, 1) by decide +kernel) rfl (lv_at hl 0 rfl) ?_
  refine lv_iload hx hb (show decode code 1440 = .ok (.iload 4, 2) by decide +kernel) (lv_at hl 4 rfl) ?_
  refine lv_iconst (n := 1) (v := 1) hx hb (show decode code 1442 = .ok (.iconst 1, 1) by decide +kernel) (by decide) ?_
  refine lv_iadd hx hb (show decode code 1443 = .ok (.iadd, 1) by decide +kernel) ?_
  rw [show nI i + 1 = nI (i + 1) from nI_add i 1]
  refine va_sld hx hb hX hbl hbA Wd0 (vp_in_nI (show i + 1 < L by omega) (by omega)) (show decode code 1444 = .ok (.iaload, 1) by decide +kernel) ?_
  rw [nI_clamp (show i + 1 < 2147483648 by omega)]
  refine lv_aload_n hx hb (show decode code 1445 = .ok (.aload_n 0, 1) by decide +kernel) rfl (lv_at hl 0 rfl) ?_
  refine lv_iload hx hb (show decode code 1446 = .ok (.iload 4, 2) by decide +kernel) (lv_at hl 4 rfl) ?_
  refine lv_iconst (n := 2) (v := 2) hx hb (show decode code 1448 = .ok (.iconst 2, 1) by decide +kernel) (by decide) ?_
  refine lv_iadd hx hb (show decode code 1449 = .ok (.iadd, 1) by decide +kernel) ?_
  rw [show nI i + 2 = nI (i + 2) from nI_add i 2]
  refine va_sld hx hb hX hbl hbA Wd0 (vp_in_nI (show i + 2 < L by omega) (by omega)) (show decode code 1450 = .ok (.iaload, 1) by decide +kernel) ?_
  rw [nI_clamp (show i + 2 < 2147483648 by omega)]
  refine lv_aload_n hx hb (show decode code 1451 = .ok (.aload_n 3, 1) by decide +kernel) rfl (lv_at hl 3 rfl) ?_
  refine sr_wS (As := [sr_r 10 0, sr_i (xs (i + 1)), sr_i (xs (i + 2)), sr_r 23 0]) (em := sr_em) (M := sr_Ml meth c) (v := some (sr_i (r1))) (t1 := t1) (rest := []) (mc1 := 4) (ms1 := 24) C Wd hl.1 (Nat.le_of_ble_eq_true rfl) (Nat.le_of_ble_eq_true rfl) (by omega) (by omega) (fun hq => nomatch hq) fh_212 (show decode code 1452 = .ok (.invokestatic 212, 3) by decide +kernel) rm_Law_L_far rfl (Nat.le_of_ble_eq_true rfl) (e1 ▸ CL_far_23 l (xs (i + 1)) (xs (i + 2)) tt) (fun H1 locs1 Wd1 => ?_)
  have Wd0 := Wd1.2.2
  refine W.eq (g2 := F0 m 1455 ls [.int r1]) rfl ?_
  refine lv_istore (lv' := [(5, .int r1), (0, .ref b), (1, .ref (sr_ad s.heap.size 10 0)), (2, .ref (sr_ad s.heap.size 11 0)), (3, .ref (sr_ad s.heap.size 23 0)), (4, .int (nI i))]) hx hb (show decode code 1455 = .ok (.istore 5, 2) by decide +kernel) hl (by decide) rfl (fun ls hl => ?_)
  refine lv_aload_n hx hb (show decode code 1457 = .ok (.aload_n 2, 1) by decide +kernel) rfl (lv_at hl 3 rfl) ?_
  refine lv_aload_n hx hb (show decode code 1458 = .ok (.aload_n 0, 1) by decide +kernel) rfl (lv_at hl 1 rfl) ?_
  refine lv_iload hx hb (show decode code 1459 = .ok (.iload 4, 2) by decide +kernel) (lv_at hl 5 rfl) ?_
  refine lv_iconst (n := 1) (v := 1) hx hb (show decode code 1461 = .ok (.iconst 1, 1) by decide +kernel) (by decide) ?_
  refine lv_iadd hx hb (show decode code 1462 = .ok (.iadd, 1) by decide +kernel) ?_
  rw [show nI i + 1 = nI (i + 1) from nI_add i 1]
  refine va_sld hx hb hX hbl hbA Wd0 (vp_in_nI (show i + 1 < L by omega) (by omega)) (show decode code 1463 = .ok (.iaload, 1) by decide +kernel) ?_
  rw [nI_clamp (show i + 1 < 2147483648 by omega)]
  refine lv_aload_n hx hb (show decode code 1464 = .ok (.aload_n 0, 1) by decide +kernel) rfl (lv_at hl 1 rfl) ?_
  refine lv_iload hx hb (show decode code 1465 = .ok (.iload 4, 2) by decide +kernel) (lv_at hl 5 rfl) ?_
  refine lv_iconst (n := 2) (v := 2) hx hb (show decode code 1467 = .ok (.iconst 2, 1) by decide +kernel) (by decide) ?_
  refine lv_iadd hx hb (show decode code 1468 = .ok (.iadd, 1) by decide +kernel) ?_
  rw [show nI i + 2 = nI (i + 2) from nI_add i 2]
  refine va_sld hx hb hX hbl hbA Wd0 (vp_in_nI (show i + 2 < L by omega) (by omega)) (show decode code 1469 = .ok (.iaload, 1) by decide +kernel) ?_
  rw [nI_clamp (show i + 2 < 2147483648 by omega)]
  refine sr_wV (k := 11) (i := 0) (As := [sr_i (xs (i + 1)), sr_i (xs (i + 2))]) (em := sr_em) (M := sr_Ml meth c) (v := some (sr_i (r2))) (t1 := t2) (rest := []) (mc1 := 0) (ms1 := 0) C Wd1 hl.1 (Nat.le_of_ble_eq_true rfl) (Nat.le_of_ble_eq_true rfl) (by omega) (by omega) (fun hq => nomatch hq) fm_L_214 fl_L_214 (show decode code 1470 = .ok (.invokevirtual 214, 3) by decide +kernel) (sr_in11 0 (by decide)) rm_Law_11_far rfl (Nat.le_of_ble_eq_true rfl) (e2 ▸ C11_far l (xs (i + 1)) (xs (i + 2)) t1) (fun H2 locs2 Wd2 => ?_)
  have Wd0 := Wd2.2.2
  refine W.eq (g2 := F0 m 1473 ls [.int r2]) rfl ?_
  refine lv_istore (lv' := [(6, .int r2), (5, .int r1), (0, .ref b), (1, .ref (sr_ad s.heap.size 10 0)), (2, .ref (sr_ad s.heap.size 11 0)), (3, .ref (sr_ad s.heap.size 23 0)), (4, .int (nI i))]) hx hb (show decode code 1473 = .ok (.istore 6, 2) by decide +kernel) hl (by decide) rfl (fun ls hl => ?_)
  refine lv_aload_n hx hb (show decode code 1475 = .ok (.aload_n 2, 1) by decide +kernel) rfl (lv_at hl 4 rfl) ?_
  refine sr_wV (k := 11) (i := 0) (As := []) (em := sr_em) (M := sr_Ml meth c) (v := some (sr_i (t2.1 11 0 0))) (t1 := t2) (rest := []) (mc1 := 0) (ms1 := 0) C Wd2 hl.1 (Nat.le_of_ble_eq_true rfl) (Nat.le_of_ble_eq_true rfl) (by omega) (by omega) (fun hq => nomatch hq) fm_L_146 fl_L_146 (show decode code 1476 = .ok (.invokevirtual 146, 3) by decide +kernel) (sr_in11 0 (by decide)) rm_Law_11_thrown rfl (Nat.le_of_ble_eq_true rfl) ((show F11_thrown t2 = some (.inl (some (sr_i (t2.1 11 0 0))), t2) from rfl) ▸ C11_thrown l  t2) (fun H3 locs3 Wd3 => ?_)
  have Wd0 := Wd3.2.2
  refine W.eq (g2 := F0 m 1479 ls [.int (t2.1 11 0 0)]) rfl ?_
  refine lv_iload hx hb (show decode code 1479 = .ok (.iload 5, 2) by decide +kernel) (lv_at hl 1 rfl) ?_
  refine lv_icmp_eq (tgt := 1486) hx hb (show decode code 1481 = .ok (.if_icmp .eq 5, 3) by decide +kernel) (by decide) (fun _ => ?_) (fun hq => absurd hE hq)
  refine lv_iload hx hb (show decode code 1486 = .ok (.iload 5, 2) by decide +kernel) (lv_at hl 1 rfl) ?_
  refine lv_if_ne (tgt := 1503) hx hb (show decode code 1488 = .ok (.ifCond .ne 15, 3) by decide +kernel) (by decide) (fun _ => ?_) (fun hk0 => ?_)
  · refine lv_goto (tgt := 2743) hx hb (show decode code 1503 = .ok (.goto 1240, 3) by decide +kernel) (by decide) ?_
    refine W.widen (k := cells + 8) (n := slots + 48) (by omega) (by omega) ?_
    exact kk _ _ _ _ hI2 Wd3 (lv_sub hl [2, 3, 4, 5, 6] rfl)
  refine lv_aload_n hx hb (show decode code 1491 = .ok (.aload_n 3, 1) by decide +kernel) rfl (lv_at hl 5 rfl) ?_
  refine lv_iconst (n := 0) (v := 0) hx hb (show decode code 1492 = .ok (.iconst 0, 1) by decide +kernel) (by decide) ?_
  refine sr_wlal (M := sr_Ml meth c) (k := 23) (i := 0) (n := 1) (a := 0) C Wd3 rfl (by decide) (sr_in23 0 (by decide)) (by decide) (show decode code 1493 = .ok (.laload, 1) by decide +kernel) ?_
  refine lv_iload hx hb (show decode code 1494 = .ok (.iload 6, 2) by decide +kernel) (lv_at hl 0 rfl) ?_
  refine lv_i2l hx hb (show decode code 1496 = .ok (.i2l, 1) by decide +kernel) rfl ?_
  refine W.lcmp hx hb (show decode code 1497 = .ok (.lcmp, 1) by decide +kernel) ?_
  rw [show t2.2 23 0 (0 : Int32).toNatClampNeg = _ from hO hk0, sr_cmp0]
  refine lv_if_eq (tgt := 1503) hx hb (show decode code 1498 = .ok (.ifCond .eq 5, 3) by decide +kernel) (by decide) (fun _ => ?_) (fun hq => absurd rfl hq)
  refine lv_goto (tgt := 2743) hx hb (show decode code 1503 = .ok (.goto 1240, 3) by decide +kernel) (by decide) ?_
  refine W.widen (k := cells + 8) (n := slots + 48) (by omega) (by omega) ?_
  exact kk _ _ _ _ hI2 Wd3 (lv_sub hl [2, 3, 4, 5, 6] rfl)
theorem lc_21 {Inv Inv' : sr_t → Prop} {p : Program} {l : Launch} {e : Env} {s : State} {m : MethodId} {below : List Frame} {meth : Method} {c : Code} {b L : Nat} {xs : Nat → Int32} {D : va_G} {dA : Nat → ClassId} {H : Heap} {locs : List Loc} {ls : Array Slot} {cells slots i : Nat} {tt : sr_t} (hL : L ≤ 2048) (C0 : lw_At p s m meth c b L xs) (C : sr_C l (sr_Ml meth c) p s m #[Value.ref b] meth c D dA s.heap.size) (hi : i + 4 ≤ L) (hstep : sr_ok3 Inv Inv' (fun t => FL_apart_23 (xs (i + 1)) (xs (i + 2)) t) (fun t => F11_apart (xs (i + 1)) (xs (i + 2)) t)) (hI : Inv tt) (Wd : sr_W D dA s.heap.size (sr_em tt) s H locs) (hl : lv_has ls 7 [(0, .ref b), (1, .ref (sr_ad s.heap.size 10 0)), (2, .ref (sr_ad s.heap.size 11 0)), (3, .ref (sr_ad s.heap.size 23 0)), (4, .int (nI i))]) (hc : cells + 8 ≤ 601024) (hs : slots + 48 ≤ 7293033) (kk : ∀ (tt' : sr_t) (H' : Heap) (locs' : List Loc) (ls' : Array Slot), Inv' tt' → sr_W D dA s.heap.size (sr_em tt') s H' locs' → lv_has ls' 7 [(0, .ref b), (1, .ref (sr_ad s.heap.size 10 0)), (2, .ref (sr_ad s.heap.size 11 0)), (3, .ref (sr_ad s.heap.size 23 0)), (4, .int (nI i))] → W p l e room_1 s m #[Value.ref b] below meth c H' locs' (cells + 8) (slots + 48) (lw_Z below #[Value.ref b] s) (F0 m 2743 ls' [])) : W p l e room_1 s m #[Value.ref b] below meth c H locs cells slots (lw_Z below #[Value.ref b] s) (F0 m 1506 ls []) := by
  obtain ⟨hx, hb, hr, hml, hown, hts, hX, hbl, hlocks, hgv⟩ := C0
  have hbA : ¬ sr_A s.heap.size b := Nat.not_le.mpr hbl
  have Wd0 := Wd.2.2
  have hRc : room_1.cells = 601024 := rfl
  have hRs : room_1.slots = 7293033 := rfl
  obtain ⟨r1, t1, r2, t2, e1, e2, hE, hO, hI2⟩ := hstep tt hI
  refine lv_aload_n hx hb (show decode code 1506 = .ok (.aload_n 1, 1) by decide +kernel) rfl (lv_at hl 1 rfl) ?_
  refine lv_aload_n hx hb (show decode code 1507 = .ok (.aload_n 0, 1) by decide +kernel) rfl (lv_at hl 0 rfl) ?_
  refine lv_iload hx hb (show decode code 1508 = .ok (.iload 4, 2) by decide +kernel) (lv_at hl 4 rfl) ?_
  refine lv_iconst (n := 1) (v := 1) hx hb (show decode code 1510 = .ok (.iconst 1, 1) by decide +kernel) (by decide) ?_
  refine lv_iadd hx hb (show decode code 1511 = .ok (.iadd, 1) by decide +kernel) ?_
  rw [show nI i + 1 = nI (i + 1) from nI_add i 1]
  refine va_sld hx hb hX hbl hbA Wd0 (vp_in_nI (show i + 1 < L by omega) (by omega)) (show decode code 1512 = .ok (.iaload, 1) by decide +kernel) ?_
  rw [nI_clamp (show i + 1 < 2147483648 by omega)]
  refine lv_aload_n hx hb (show decode code 1513 = .ok (.aload_n 0, 1) by decide +kernel) rfl (lv_at hl 0 rfl) ?_
  refine lv_iload hx hb (show decode code 1514 = .ok (.iload 4, 2) by decide +kernel) (lv_at hl 4 rfl) ?_
  refine lv_iconst (n := 2) (v := 2) hx hb (show decode code 1516 = .ok (.iconst 2, 1) by decide +kernel) (by decide) ?_
  refine lv_iadd hx hb (show decode code 1517 = .ok (.iadd, 1) by decide +kernel) ?_
  rw [show nI i + 2 = nI (i + 2) from nI_add i 2]
  refine va_sld hx hb hX hbl hbA Wd0 (vp_in_nI (show i + 2 < L by omega) (by omega)) (show decode code 1518 = .ok (.iaload, 1) by decide +kernel) ?_
  rw [nI_clamp (show i + 2 < 2147483648 by omega)]
  refine lv_aload_n hx hb (show decode code 1519 = .ok (.aload_n 3, 1) by decide +kernel) rfl (lv_at hl 3 rfl) ?_
  refine sr_wS (As := [sr_r 10 0, sr_i (xs (i + 1)), sr_i (xs (i + 2)), sr_r 23 0]) (em := sr_em) (M := sr_Ml meth c) (v := some (sr_i (r1))) (t1 := t1) (rest := []) (mc1 := 4) (ms1 := 24) C Wd hl.1 (Nat.le_of_ble_eq_true rfl) (Nat.le_of_ble_eq_true rfl) (by omega) (by omega) (fun hq => nomatch hq) fh_215 (show decode code 1520 = .ok (.invokestatic 215, 3) by decide +kernel) rm_Law_L_apart rfl (Nat.le_of_ble_eq_true rfl) (e1 ▸ CL_apart_23 l (xs (i + 1)) (xs (i + 2)) tt) (fun H1 locs1 Wd1 => ?_)
  have Wd0 := Wd1.2.2
  refine W.eq (g2 := F0 m 1523 ls [.int r1]) rfl ?_
  refine lv_istore (lv' := [(5, .int r1), (0, .ref b), (1, .ref (sr_ad s.heap.size 10 0)), (2, .ref (sr_ad s.heap.size 11 0)), (3, .ref (sr_ad s.heap.size 23 0)), (4, .int (nI i))]) hx hb (show decode code 1523 = .ok (.istore 5, 2) by decide +kernel) hl (by decide) rfl (fun ls hl => ?_)
  refine lv_aload_n hx hb (show decode code 1525 = .ok (.aload_n 2, 1) by decide +kernel) rfl (lv_at hl 3 rfl) ?_
  refine lv_aload_n hx hb (show decode code 1526 = .ok (.aload_n 0, 1) by decide +kernel) rfl (lv_at hl 1 rfl) ?_
  refine lv_iload hx hb (show decode code 1527 = .ok (.iload 4, 2) by decide +kernel) (lv_at hl 5 rfl) ?_
  refine lv_iconst (n := 1) (v := 1) hx hb (show decode code 1529 = .ok (.iconst 1, 1) by decide +kernel) (by decide) ?_
  refine lv_iadd hx hb (show decode code 1530 = .ok (.iadd, 1) by decide +kernel) ?_
  rw [show nI i + 1 = nI (i + 1) from nI_add i 1]
  refine va_sld hx hb hX hbl hbA Wd0 (vp_in_nI (show i + 1 < L by omega) (by omega)) (show decode code 1531 = .ok (.iaload, 1) by decide +kernel) ?_
  rw [nI_clamp (show i + 1 < 2147483648 by omega)]
  refine lv_aload_n hx hb (show decode code 1532 = .ok (.aload_n 0, 1) by decide +kernel) rfl (lv_at hl 1 rfl) ?_
  refine lv_iload hx hb (show decode code 1533 = .ok (.iload 4, 2) by decide +kernel) (lv_at hl 5 rfl) ?_
  refine lv_iconst (n := 2) (v := 2) hx hb (show decode code 1535 = .ok (.iconst 2, 1) by decide +kernel) (by decide) ?_
  refine lv_iadd hx hb (show decode code 1536 = .ok (.iadd, 1) by decide +kernel) ?_
  rw [show nI i + 2 = nI (i + 2) from nI_add i 2]
  refine va_sld hx hb hX hbl hbA Wd0 (vp_in_nI (show i + 2 < L by omega) (by omega)) (show decode code 1537 = .ok (.iaload, 1) by decide +kernel) ?_
  rw [nI_clamp (show i + 2 < 2147483648 by omega)]
  refine sr_wV (k := 11) (i := 0) (As := [sr_i (xs (i + 1)), sr_i (xs (i + 2))]) (em := sr_em) (M := sr_Ml meth c) (v := some (sr_i (r2))) (t1 := t2) (rest := []) (mc1 := 0) (ms1 := 0) C Wd1 hl.1 (Nat.le_of_ble_eq_true rfl) (Nat.le_of_ble_eq_true rfl) (by omega) (by omega) (fun hq => nomatch hq) fm_L_217 fl_L_217 (show decode code 1538 = .ok (.invokevirtual 217, 3) by decide +kernel) (sr_in11 0 (by decide)) rm_Law_11_apart rfl (Nat.le_of_ble_eq_true rfl) (e2 ▸ C11_apart l (xs (i + 1)) (xs (i + 2)) t1) (fun H2 locs2 Wd2 => ?_)
  have Wd0 := Wd2.2.2
  refine W.eq (g2 := F0 m 1541 ls [.int r2]) rfl ?_
  refine lv_istore (lv' := [(6, .int r2), (5, .int r1), (0, .ref b), (1, .ref (sr_ad s.heap.size 10 0)), (2, .ref (sr_ad s.heap.size 11 0)), (3, .ref (sr_ad s.heap.size 23 0)), (4, .int (nI i))]) hx hb (show decode code 1541 = .ok (.istore 6, 2) by decide +kernel) hl (by decide) rfl (fun ls hl => ?_)
  refine lv_aload_n hx hb (show decode code 1543 = .ok (.aload_n 2, 1) by decide +kernel) rfl (lv_at hl 4 rfl) ?_
  refine sr_wV (k := 11) (i := 0) (As := []) (em := sr_em) (M := sr_Ml meth c) (v := some (sr_i (t2.1 11 0 0))) (t1 := t2) (rest := []) (mc1 := 0) (ms1 := 0) C Wd2 hl.1 (Nat.le_of_ble_eq_true rfl) (Nat.le_of_ble_eq_true rfl) (by omega) (by omega) (fun hq => nomatch hq) fm_L_146 fl_L_146 (show decode code 1544 = .ok (.invokevirtual 146, 3) by decide +kernel) (sr_in11 0 (by decide)) rm_Law_11_thrown rfl (Nat.le_of_ble_eq_true rfl) ((show F11_thrown t2 = some (.inl (some (sr_i (t2.1 11 0 0))), t2) from rfl) ▸ C11_thrown l  t2) (fun H3 locs3 Wd3 => ?_)
  have Wd0 := Wd3.2.2
  refine W.eq (g2 := F0 m 1547 ls [.int (t2.1 11 0 0)]) rfl ?_
  refine lv_iload hx hb (show decode code 1547 = .ok (.iload 5, 2) by decide +kernel) (lv_at hl 1 rfl) ?_
  refine lv_icmp_eq (tgt := 1554) hx hb (show decode code 1549 = .ok (.if_icmp .eq 5, 3) by decide +kernel) (by decide) (fun _ => ?_) (fun hq => absurd hE hq)
  refine lv_iload hx hb (show decode code 1554 = .ok (.iload 5, 2) by decide +kernel) (lv_at hl 1 rfl) ?_
  refine lv_if_ne (tgt := 1571) hx hb (show decode code 1556 = .ok (.ifCond .ne 15, 3) by decide +kernel) (by decide) (fun _ => ?_) (fun hk0 => ?_)
  · refine lv_goto (tgt := 2743) hx hb (show decode code 1571 = .ok (.goto 1172, 3) by decide +kernel) (by decide) ?_
    refine W.widen (k := cells + 8) (n := slots + 48) (by omega) (by omega) ?_
    exact kk _ _ _ _ hI2 Wd3 (lv_sub hl [2, 3, 4, 5, 6] rfl)
  refine lv_aload_n hx hb (show decode code 1559 = .ok (.aload_n 3, 1) by decide +kernel) rfl (lv_at hl 5 rfl) ?_
  refine lv_iconst (n := 0) (v := 0) hx hb (show decode code 1560 = .ok (.iconst 0, 1) by decide +kernel) (by decide) ?_
  refine sr_wlal (M := sr_Ml meth c) (k := 23) (i := 0) (n := 1) (a := 0) C Wd3 rfl (by decide) (sr_in23 0 (by decide)) (by decide) (show decode code 1561 = .ok (.laload, 1) by decide +kernel) ?_
  refine lv_iload hx hb (show decode code 1562 = .ok (.iload 6, 2) by decide +kernel) (lv_at hl 0 rfl) ?_
  refine lv_i2l hx hb (show decode code 1564 = .ok (.i2l, 1) by decide +kernel) rfl ?_
  refine W.lcmp hx hb (show decode code 1565 = .ok (.lcmp, 1) by decide +kernel) ?_
  rw [show t2.2 23 0 (0 : Int32).toNatClampNeg = _ from hO hk0, sr_cmp0]
  refine lv_if_eq (tgt := 1571) hx hb (show decode code 1566 = .ok (.ifCond .eq 5, 3) by decide +kernel) (by decide) (fun _ => ?_) (fun hq => absurd rfl hq)
  refine lv_goto (tgt := 2743) hx hb (show decode code 1571 = .ok (.goto 1172, 3) by decide +kernel) (by decide) ?_
  refine W.widen (k := cells + 8) (n := slots + 48) (by omega) (by omega) ?_
  exact kk _ _ _ _ hI2 Wd3 (lv_sub hl [2, 3, 4, 5, 6] rfl)
theorem lc_22 {Inv Inv' : sr_t → Prop} {p : Program} {l : Launch} {e : Env} {s : State} {m : MethodId} {below : List Frame} {meth : Method} {c : Code} {b L : Nat} {xs : Nat → Int32} {D : va_G} {dA : Nat → ClassId} {H : Heap} {locs : List Loc} {ls : Array Slot} {cells slots i : Nat} {tt : sr_t} (hL : L ≤ 2048) (C0 : lw_At p s m meth c b L xs) (C : sr_C l (sr_Ml meth c) p s m #[Value.ref b] meth c D dA s.heap.size) (hi : i + 4 ≤ L) (hstep : sr_ok3 Inv Inv' (fun t => FL_sample_23 (if (xs (i + 1)) = 0 then 0 else 1) (xs (i + 2)) t) (fun t => F11_sample (if (xs (i + 1)) = 0 then 0 else 1) (xs (i + 2)) t)) (hI : Inv tt) (Wd : sr_W D dA s.heap.size (sr_em tt) s H locs) (hl : lv_has ls 7 [(0, .ref b), (1, .ref (sr_ad s.heap.size 10 0)), (2, .ref (sr_ad s.heap.size 11 0)), (3, .ref (sr_ad s.heap.size 23 0)), (4, .int (nI i))]) (hc : cells + 8 ≤ 601024) (hs : slots + 48 ≤ 7293033) (kk : ∀ (tt' : sr_t) (H' : Heap) (locs' : List Loc) (ls' : Array Slot), Inv' tt' → sr_W D dA s.heap.size (sr_em tt') s H' locs' → lv_has ls' 7 [(0, .ref b), (1, .ref (sr_ad s.heap.size 10 0)), (2, .ref (sr_ad s.heap.size 11 0)), (3, .ref (sr_ad s.heap.size 23 0)), (4, .int (nI i))] → W p l e room_1 s m #[Value.ref b] below meth c H' locs' (cells + 8) (slots + 48) (lw_Z below #[Value.ref b] s) (F0 m 2743 ls' [])) : W p l e room_1 s m #[Value.ref b] below meth c H locs cells slots (lw_Z below #[Value.ref b] s) (F0 m 1574 ls []) := by
  obtain ⟨hx, hb, hr, hml, hown, hts, hX, hbl, hlocks, hgv⟩ := C0
  have hbA : ¬ sr_A s.heap.size b := Nat.not_le.mpr hbl
  have Wd0 := Wd.2.2
  have hRc : room_1.cells = 601024 := rfl
  have hRs : room_1.slots = 7293033 := rfl
  obtain ⟨r1, t1, r2, t2, e1, e2, hE, hO, hI2⟩ := hstep tt hI
  refine lv_aload_n hx hb (show decode code 1574 = .ok (.aload_n 1, 1) by decide +kernel) rfl (lv_at hl 1 rfl) ?_
  refine lv_aload_n hx hb (show decode code 1575 = .ok (.aload_n 0, 1) by decide +kernel) rfl (lv_at hl 0 rfl) ?_
  refine lv_iload hx hb (show decode code 1576 = .ok (.iload 4, 2) by decide +kernel) (lv_at hl 4 rfl) ?_
  refine lv_iconst (n := 1) (v := 1) hx hb (show decode code 1578 = .ok (.iconst 1, 1) by decide +kernel) (by decide) ?_
  refine lv_iadd hx hb (show decode code 1579 = .ok (.iadd, 1) by decide +kernel) ?_
  rw [show nI i + 1 = nI (i + 1) from nI_add i 1]
  refine va_sld hx hb hX hbl hbA Wd0 (vp_in_nI (show i + 1 < L by omega) (by omega)) (show decode code 1580 = .ok (.iaload, 1) by decide +kernel) ?_
  rw [nI_clamp (show i + 1 < 2147483648 by omega)]
  refine sr_wbz (pc := 1581) hx hb (show decode code 1581 = .ok (.ifCond .eq 7, 3) by decide +kernel) (show decode code 1584 = .ok (.iconst 1, 1) by decide +kernel) (show decode code 1585 = .ok (.goto 4, 3) by decide +kernel) (show decode code 1588 = .ok (.iconst 0, 1) by decide +kernel) ?_
  refine lv_aload_n hx hb (show decode code 1589 = .ok (.aload_n 0, 1) by decide +kernel) rfl (lv_at hl 0 rfl) ?_
  refine lv_iload hx hb (show decode code 1590 = .ok (.iload 4, 2) by decide +kernel) (lv_at hl 4 rfl) ?_
  refine lv_iconst (n := 2) (v := 2) hx hb (show decode code 1592 = .ok (.iconst 2, 1) by decide +kernel) (by decide) ?_
  refine lv_iadd hx hb (show decode code 1593 = .ok (.iadd, 1) by decide +kernel) ?_
  rw [show nI i + 2 = nI (i + 2) from nI_add i 2]
  refine va_sld hx hb hX hbl hbA Wd0 (vp_in_nI (show i + 2 < L by omega) (by omega)) (show decode code 1594 = .ok (.iaload, 1) by decide +kernel) ?_
  rw [nI_clamp (show i + 2 < 2147483648 by omega)]
  refine lv_aload_n hx hb (show decode code 1595 = .ok (.aload_n 3, 1) by decide +kernel) rfl (lv_at hl 3 rfl) ?_
  refine sr_wS (As := [sr_r 10 0, sr_i (if (xs (i + 1)) = 0 then 0 else 1), sr_i (xs (i + 2)), sr_r 23 0]) (em := sr_em) (M := sr_Ml meth c) (v := some (sr_i (r1))) (t1 := t1) (rest := []) (mc1 := 1) (ms1 := 6) C Wd hl.1 (Nat.le_of_ble_eq_true rfl) (Nat.le_of_ble_eq_true rfl) (by omega) (by omega) (fun hq => nomatch hq) fh_218 (show decode code 1596 = .ok (.invokestatic 218, 3) by decide +kernel) rm_Law_L_sample rfl (Nat.le_of_ble_eq_true rfl) (e1 ▸ CL_sample_23 l (if (xs (i + 1)) = 0 then 0 else 1) (xs (i + 2)) tt) (fun H1 locs1 Wd1 => ?_)
  have Wd0 := Wd1.2.2
  refine W.eq (g2 := F0 m 1599 ls [.int r1]) rfl ?_
  refine lv_istore (lv' := [(5, .int r1), (0, .ref b), (1, .ref (sr_ad s.heap.size 10 0)), (2, .ref (sr_ad s.heap.size 11 0)), (3, .ref (sr_ad s.heap.size 23 0)), (4, .int (nI i))]) hx hb (show decode code 1599 = .ok (.istore 5, 2) by decide +kernel) hl (by decide) rfl (fun ls hl => ?_)
  refine lv_aload_n hx hb (show decode code 1601 = .ok (.aload_n 2, 1) by decide +kernel) rfl (lv_at hl 3 rfl) ?_
  refine lv_aload_n hx hb (show decode code 1602 = .ok (.aload_n 0, 1) by decide +kernel) rfl (lv_at hl 1 rfl) ?_
  refine lv_iload hx hb (show decode code 1603 = .ok (.iload 4, 2) by decide +kernel) (lv_at hl 5 rfl) ?_
  refine lv_iconst (n := 1) (v := 1) hx hb (show decode code 1605 = .ok (.iconst 1, 1) by decide +kernel) (by decide) ?_
  refine lv_iadd hx hb (show decode code 1606 = .ok (.iadd, 1) by decide +kernel) ?_
  rw [show nI i + 1 = nI (i + 1) from nI_add i 1]
  refine va_sld hx hb hX hbl hbA Wd0 (vp_in_nI (show i + 1 < L by omega) (by omega)) (show decode code 1607 = .ok (.iaload, 1) by decide +kernel) ?_
  rw [nI_clamp (show i + 1 < 2147483648 by omega)]
  refine sr_wbz (pc := 1608) hx hb (show decode code 1608 = .ok (.ifCond .eq 7, 3) by decide +kernel) (show decode code 1611 = .ok (.iconst 1, 1) by decide +kernel) (show decode code 1612 = .ok (.goto 4, 3) by decide +kernel) (show decode code 1615 = .ok (.iconst 0, 1) by decide +kernel) ?_
  refine lv_aload_n hx hb (show decode code 1616 = .ok (.aload_n 0, 1) by decide +kernel) rfl (lv_at hl 1 rfl) ?_
  refine lv_iload hx hb (show decode code 1617 = .ok (.iload 4, 2) by decide +kernel) (lv_at hl 5 rfl) ?_
  refine lv_iconst (n := 2) (v := 2) hx hb (show decode code 1619 = .ok (.iconst 2, 1) by decide +kernel) (by decide) ?_
  refine lv_iadd hx hb (show decode code 1620 = .ok (.iadd, 1) by decide +kernel) ?_
  rw [show nI i + 2 = nI (i + 2) from nI_add i 2]
  refine va_sld hx hb hX hbl hbA Wd0 (vp_in_nI (show i + 2 < L by omega) (by omega)) (show decode code 1621 = .ok (.iaload, 1) by decide +kernel) ?_
  rw [nI_clamp (show i + 2 < 2147483648 by omega)]
  refine sr_wV (k := 11) (i := 0) (As := [sr_i (if (xs (i + 1)) = 0 then 0 else 1), sr_i (xs (i + 2))]) (em := sr_em) (M := sr_Ml meth c) (v := some (sr_i (r2))) (t1 := t2) (rest := []) (mc1 := 0) (ms1 := 0) C Wd1 hl.1 (Nat.le_of_ble_eq_true rfl) (Nat.le_of_ble_eq_true rfl) (by omega) (by omega) (fun hq => nomatch hq) fm_L_221 fl_L_221 (show decode code 1622 = .ok (.invokevirtual 221, 3) by decide +kernel) (sr_in11 0 (by decide)) rm_Law_11_sample rfl (Nat.le_of_ble_eq_true rfl) (e2 ▸ C11_sample l (if (xs (i + 1)) = 0 then 0 else 1) (xs (i + 2)) t1) (fun H2 locs2 Wd2 => ?_)
  have Wd0 := Wd2.2.2
  refine W.eq (g2 := F0 m 1625 ls [.int r2]) rfl ?_
  refine lv_istore (lv' := [(6, .int r2), (5, .int r1), (0, .ref b), (1, .ref (sr_ad s.heap.size 10 0)), (2, .ref (sr_ad s.heap.size 11 0)), (3, .ref (sr_ad s.heap.size 23 0)), (4, .int (nI i))]) hx hb (show decode code 1625 = .ok (.istore 6, 2) by decide +kernel) hl (by decide) rfl (fun ls hl => ?_)
  refine lv_aload_n hx hb (show decode code 1627 = .ok (.aload_n 2, 1) by decide +kernel) rfl (lv_at hl 4 rfl) ?_
  refine sr_wV (k := 11) (i := 0) (As := []) (em := sr_em) (M := sr_Ml meth c) (v := some (sr_i (t2.1 11 0 0))) (t1 := t2) (rest := []) (mc1 := 0) (ms1 := 0) C Wd2 hl.1 (Nat.le_of_ble_eq_true rfl) (Nat.le_of_ble_eq_true rfl) (by omega) (by omega) (fun hq => nomatch hq) fm_L_146 fl_L_146 (show decode code 1628 = .ok (.invokevirtual 146, 3) by decide +kernel) (sr_in11 0 (by decide)) rm_Law_11_thrown rfl (Nat.le_of_ble_eq_true rfl) ((show F11_thrown t2 = some (.inl (some (sr_i (t2.1 11 0 0))), t2) from rfl) ▸ C11_thrown l  t2) (fun H3 locs3 Wd3 => ?_)
  have Wd0 := Wd3.2.2
  refine W.eq (g2 := F0 m 1631 ls [.int (t2.1 11 0 0)]) rfl ?_
  refine lv_iload hx hb (show decode code 1631 = .ok (.iload 5, 2) by decide +kernel) (lv_at hl 1 rfl) ?_
  refine lv_icmp_eq (tgt := 1638) hx hb (show decode code 1633 = .ok (.if_icmp .eq 5, 3) by decide +kernel) (by decide) (fun _ => ?_) (fun hq => absurd hE hq)
  refine lv_iload hx hb (show decode code 1638 = .ok (.iload 5, 2) by decide +kernel) (lv_at hl 1 rfl) ?_
  refine lv_if_ne (tgt := 1655) hx hb (show decode code 1640 = .ok (.ifCond .ne 15, 3) by decide +kernel) (by decide) (fun _ => ?_) (fun hk0 => ?_)
  · refine lv_goto (tgt := 2743) hx hb (show decode code 1655 = .ok (.goto 1088, 3) by decide +kernel) (by decide) ?_
    refine W.widen (k := cells + 8) (n := slots + 48) (by omega) (by omega) ?_
    exact kk _ _ _ _ hI2 Wd3 (lv_sub hl [2, 3, 4, 5, 6] rfl)
  refine lv_aload_n hx hb (show decode code 1643 = .ok (.aload_n 3, 1) by decide +kernel) rfl (lv_at hl 5 rfl) ?_
  refine lv_iconst (n := 0) (v := 0) hx hb (show decode code 1644 = .ok (.iconst 0, 1) by decide +kernel) (by decide) ?_
  refine sr_wlal (M := sr_Ml meth c) (k := 23) (i := 0) (n := 1) (a := 0) C Wd3 rfl (by decide) (sr_in23 0 (by decide)) (by decide) (show decode code 1645 = .ok (.laload, 1) by decide +kernel) ?_
  refine lv_iload hx hb (show decode code 1646 = .ok (.iload 6, 2) by decide +kernel) (lv_at hl 0 rfl) ?_
  refine lv_i2l hx hb (show decode code 1648 = .ok (.i2l, 1) by decide +kernel) rfl ?_
  refine W.lcmp hx hb (show decode code 1649 = .ok (.lcmp, 1) by decide +kernel) ?_
  rw [show t2.2 23 0 (0 : Int32).toNatClampNeg = _ from hO hk0, sr_cmp0]
  refine lv_if_eq (tgt := 1655) hx hb (show decode code 1650 = .ok (.ifCond .eq 5, 3) by decide +kernel) (by decide) (fun _ => ?_) (fun hq => absurd rfl hq)
  refine lv_goto (tgt := 2743) hx hb (show decode code 1655 = .ok (.goto 1088, 3) by decide +kernel) (by decide) ?_
  refine W.widen (k := cells + 8) (n := slots + 48) (by omega) (by omega) ?_
  exact kk _ _ _ _ hI2 Wd3 (lv_sub hl [2, 3, 4, 5, 6] rfl)
theorem lc_23 {Inv Inv' : sr_t → Prop} {p : Program} {l : Launch} {e : Env} {s : State} {m : MethodId} {below : List Frame} {meth : Method} {c : Code} {b L : Nat} {xs : Nat → Int32} {D : va_G} {dA : Nat → ClassId} {H : Heap} {locs : List Loc} {ls : Array Slot} {cells slots i : Nat} {tt : sr_t} (hL : L ≤ 2048) (C0 : lw_At p s m meth c b L xs) (C : sr_C l (sr_Ml meth c) p s m #[Value.ref b] meth c D dA s.heap.size) (hi : i + 4 ≤ L) (hstep : sr_ok3 Inv Inv' (fun t => FL_cost_23 (xs (i + 1)) (xs (i + 2)) t) (fun t => F11_cost (xs (i + 1)) (xs (i + 2)) t)) (hI : Inv tt) (Wd : sr_W D dA s.heap.size (sr_em tt) s H locs) (hl : lv_has ls 7 [(0, .ref b), (1, .ref (sr_ad s.heap.size 10 0)), (2, .ref (sr_ad s.heap.size 11 0)), (3, .ref (sr_ad s.heap.size 23 0)), (4, .int (nI i))]) (hc : cells + 8 ≤ 601024) (hs : slots + 48 ≤ 7293033) (kk : ∀ (tt' : sr_t) (H' : Heap) (locs' : List Loc) (ls' : Array Slot), Inv' tt' → sr_W D dA s.heap.size (sr_em tt') s H' locs' → lv_has ls' 7 [(0, .ref b), (1, .ref (sr_ad s.heap.size 10 0)), (2, .ref (sr_ad s.heap.size 11 0)), (3, .ref (sr_ad s.heap.size 23 0)), (4, .int (nI i))] → W p l e room_1 s m #[Value.ref b] below meth c H' locs' (cells + 8) (slots + 48) (lw_Z below #[Value.ref b] s) (F0 m 2743 ls' [])) : W p l e room_1 s m #[Value.ref b] below meth c H locs cells slots (lw_Z below #[Value.ref b] s) (F0 m 1658 ls []) := by
  obtain ⟨hx, hb, hr, hml, hown, hts, hX, hbl, hlocks, hgv⟩ := C0
  have hbA : ¬ sr_A s.heap.size b := Nat.not_le.mpr hbl
  have Wd0 := Wd.2.2
  have hRc : room_1.cells = 601024 := rfl
  have hRs : room_1.slots = 7293033 := rfl
  obtain ⟨r1, t1, r2, t2, e1, e2, hE, hO, hI2⟩ := hstep tt hI
  refine lv_aload_n hx hb (show decode code 1658 = .ok (.aload_n 1, 1) by decide +kernel) rfl (lv_at hl 1 rfl) ?_
  refine lv_aload_n hx hb (show decode code 1659 = .ok (.aload_n 0, 1) by decide +kernel) rfl (lv_at hl 0 rfl) ?_
  refine lv_iload hx hb (show decode code 1660 = .ok (.iload 4, 2) by decide +kernel) (lv_at hl 4 rfl) ?_
  refine lv_iconst (n := 1) (v := 1) hx hb (show decode code 1662 = .ok (.iconst 1, 1) by decide +kernel) (by decide) ?_
  refine lv_iadd hx hb (show decode code 1663 = .ok (.iadd, 1) by decide +kernel) ?_
  rw [show nI i + 1 = nI (i + 1) from nI_add i 1]
  refine va_sld hx hb hX hbl hbA Wd0 (vp_in_nI (show i + 1 < L by omega) (by omega)) (show decode code 1664 = .ok (.iaload, 1) by decide +kernel) ?_
  rw [nI_clamp (show i + 1 < 2147483648 by omega)]
  refine lv_aload_n hx hb (show decode code 1665 = .ok (.aload_n 0, 1) by decide +kernel) rfl (lv_at hl 0 rfl) ?_
  refine lv_iload hx hb (show decode code 1666 = .ok (.iload 4, 2) by decide +kernel) (lv_at hl 4 rfl) ?_
  refine lv_iconst (n := 2) (v := 2) hx hb (show decode code 1668 = .ok (.iconst 2, 1) by decide +kernel) (by decide) ?_
  refine lv_iadd hx hb (show decode code 1669 = .ok (.iadd, 1) by decide +kernel) ?_
  rw [show nI i + 2 = nI (i + 2) from nI_add i 2]
  refine va_sld hx hb hX hbl hbA Wd0 (vp_in_nI (show i + 2 < L by omega) (by omega)) (show decode code 1670 = .ok (.iaload, 1) by decide +kernel) ?_
  rw [nI_clamp (show i + 2 < 2147483648 by omega)]
  refine lv_aload_n hx hb (show decode code 1671 = .ok (.aload_n 3, 1) by decide +kernel) rfl (lv_at hl 3 rfl) ?_
  refine sr_wS (As := [sr_r 10 0, sr_i (xs (i + 1)), sr_i (xs (i + 2)), sr_r 23 0]) (em := sr_em) (M := sr_Ml meth c) (v := some (sr_i (r1))) (t1 := t1) (rest := []) (mc1 := 2) (ms1 := 12) C Wd hl.1 (Nat.le_of_ble_eq_true rfl) (Nat.le_of_ble_eq_true rfl) (by omega) (by omega) (fun hq => nomatch hq) fh_222 (show decode code 1672 = .ok (.invokestatic 222, 3) by decide +kernel) rm_Law_L_cost rfl (Nat.le_of_ble_eq_true rfl) (e1 ▸ CL_cost_23 l (xs (i + 1)) (xs (i + 2)) tt) (fun H1 locs1 Wd1 => ?_)
  have Wd0 := Wd1.2.2
  refine W.eq (g2 := F0 m 1675 ls [.int r1]) rfl ?_
  refine lv_istore (lv' := [(5, .int r1), (0, .ref b), (1, .ref (sr_ad s.heap.size 10 0)), (2, .ref (sr_ad s.heap.size 11 0)), (3, .ref (sr_ad s.heap.size 23 0)), (4, .int (nI i))]) hx hb (show decode code 1675 = .ok (.istore 5, 2) by decide +kernel) hl (by decide) rfl (fun ls hl => ?_)
  refine lv_aload_n hx hb (show decode code 1677 = .ok (.aload_n 2, 1) by decide +kernel) rfl (lv_at hl 3 rfl) ?_
  refine lv_aload_n hx hb (show decode code 1678 = .ok (.aload_n 0, 1) by decide +kernel) rfl (lv_at hl 1 rfl) ?_
  refine lv_iload hx hb (show decode code 1679 = .ok (.iload 4, 2) by decide +kernel) (lv_at hl 5 rfl) ?_
  refine lv_iconst (n := 1) (v := 1) hx hb (show decode code 1681 = .ok (.iconst 1, 1) by decide +kernel) (by decide) ?_
  refine lv_iadd hx hb (show decode code 1682 = .ok (.iadd, 1) by decide +kernel) ?_
  rw [show nI i + 1 = nI (i + 1) from nI_add i 1]
  refine va_sld hx hb hX hbl hbA Wd0 (vp_in_nI (show i + 1 < L by omega) (by omega)) (show decode code 1683 = .ok (.iaload, 1) by decide +kernel) ?_
  rw [nI_clamp (show i + 1 < 2147483648 by omega)]
  refine lv_aload_n hx hb (show decode code 1684 = .ok (.aload_n 0, 1) by decide +kernel) rfl (lv_at hl 1 rfl) ?_
  refine lv_iload hx hb (show decode code 1685 = .ok (.iload 4, 2) by decide +kernel) (lv_at hl 5 rfl) ?_
  refine lv_iconst (n := 2) (v := 2) hx hb (show decode code 1687 = .ok (.iconst 2, 1) by decide +kernel) (by decide) ?_
  refine lv_iadd hx hb (show decode code 1688 = .ok (.iadd, 1) by decide +kernel) ?_
  rw [show nI i + 2 = nI (i + 2) from nI_add i 2]
  refine va_sld hx hb hX hbl hbA Wd0 (vp_in_nI (show i + 2 < L by omega) (by omega)) (show decode code 1689 = .ok (.iaload, 1) by decide +kernel) ?_
  rw [nI_clamp (show i + 2 < 2147483648 by omega)]
  refine sr_wV (k := 11) (i := 0) (As := [sr_i (xs (i + 1)), sr_i (xs (i + 2))]) (em := sr_em) (M := sr_Ml meth c) (v := some (sr_i (r2))) (t1 := t2) (rest := []) (mc1 := 0) (ms1 := 0) C Wd1 hl.1 (Nat.le_of_ble_eq_true rfl) (Nat.le_of_ble_eq_true rfl) (by omega) (by omega) (fun hq => nomatch hq) fm_L_224 fl_L_224 (show decode code 1690 = .ok (.invokevirtual 224, 3) by decide +kernel) (sr_in11 0 (by decide)) rm_Law_11_cost rfl (Nat.le_of_ble_eq_true rfl) (e2 ▸ C11_cost l (xs (i + 1)) (xs (i + 2)) t1) (fun H2 locs2 Wd2 => ?_)
  have Wd0 := Wd2.2.2
  refine W.eq (g2 := F0 m 1693 ls [.int r2]) rfl ?_
  refine lv_istore (lv' := [(6, .int r2), (5, .int r1), (0, .ref b), (1, .ref (sr_ad s.heap.size 10 0)), (2, .ref (sr_ad s.heap.size 11 0)), (3, .ref (sr_ad s.heap.size 23 0)), (4, .int (nI i))]) hx hb (show decode code 1693 = .ok (.istore 6, 2) by decide +kernel) hl (by decide) rfl (fun ls hl => ?_)
  refine lv_aload_n hx hb (show decode code 1695 = .ok (.aload_n 2, 1) by decide +kernel) rfl (lv_at hl 4 rfl) ?_
  refine sr_wV (k := 11) (i := 0) (As := []) (em := sr_em) (M := sr_Ml meth c) (v := some (sr_i (t2.1 11 0 0))) (t1 := t2) (rest := []) (mc1 := 0) (ms1 := 0) C Wd2 hl.1 (Nat.le_of_ble_eq_true rfl) (Nat.le_of_ble_eq_true rfl) (by omega) (by omega) (fun hq => nomatch hq) fm_L_146 fl_L_146 (show decode code 1696 = .ok (.invokevirtual 146, 3) by decide +kernel) (sr_in11 0 (by decide)) rm_Law_11_thrown rfl (Nat.le_of_ble_eq_true rfl) ((show F11_thrown t2 = some (.inl (some (sr_i (t2.1 11 0 0))), t2) from rfl) ▸ C11_thrown l  t2) (fun H3 locs3 Wd3 => ?_)
  have Wd0 := Wd3.2.2
  refine W.eq (g2 := F0 m 1699 ls [.int (t2.1 11 0 0)]) rfl ?_
  refine lv_iload hx hb (show decode code 1699 = .ok (.iload 5, 2) by decide +kernel) (lv_at hl 1 rfl) ?_
  refine lv_icmp_eq (tgt := 1706) hx hb (show decode code 1701 = .ok (.if_icmp .eq 5, 3) by decide +kernel) (by decide) (fun _ => ?_) (fun hq => absurd hE hq)
  refine lv_iload hx hb (show decode code 1706 = .ok (.iload 5, 2) by decide +kernel) (lv_at hl 1 rfl) ?_
  refine lv_if_ne (tgt := 1723) hx hb (show decode code 1708 = .ok (.ifCond .ne 15, 3) by decide +kernel) (by decide) (fun _ => ?_) (fun hk0 => ?_)
  · refine lv_goto (tgt := 2743) hx hb (show decode code 1723 = .ok (.goto 1020, 3) by decide +kernel) (by decide) ?_
    refine W.widen (k := cells + 8) (n := slots + 48) (by omega) (by omega) ?_
    exact kk _ _ _ _ hI2 Wd3 (lv_sub hl [2, 3, 4, 5, 6] rfl)
  refine lv_aload_n hx hb (show decode code 1711 = .ok (.aload_n 3, 1) by decide +kernel) rfl (lv_at hl 5 rfl) ?_
  refine lv_iconst (n := 0) (v := 0) hx hb (show decode code 1712 = .ok (.iconst 0, 1) by decide +kernel) (by decide) ?_
  refine sr_wlal (M := sr_Ml meth c) (k := 23) (i := 0) (n := 1) (a := 0) C Wd3 rfl (by decide) (sr_in23 0 (by decide)) (by decide) (show decode code 1713 = .ok (.laload, 1) by decide +kernel) ?_
  refine lv_iload hx hb (show decode code 1714 = .ok (.iload 6, 2) by decide +kernel) (lv_at hl 0 rfl) ?_
  refine lv_i2l hx hb (show decode code 1716 = .ok (.i2l, 1) by decide +kernel) rfl ?_
  refine W.lcmp hx hb (show decode code 1717 = .ok (.lcmp, 1) by decide +kernel) ?_
  rw [show t2.2 23 0 (0 : Int32).toNatClampNeg = _ from hO hk0, sr_cmp0]
  refine lv_if_eq (tgt := 1723) hx hb (show decode code 1718 = .ok (.ifCond .eq 5, 3) by decide +kernel) (by decide) (fun _ => ?_) (fun hq => absurd rfl hq)
  refine lv_goto (tgt := 2743) hx hb (show decode code 1723 = .ok (.goto 1020, 3) by decide +kernel) (by decide) ?_
  refine W.widen (k := cells + 8) (n := slots + 48) (by omega) (by omega) ?_
  exact kk _ _ _ _ hI2 Wd3 (lv_sub hl [2, 3, 4, 5, 6] rfl)
theorem lc_24 {Inv Inv' : sr_t → Prop} {p : Program} {l : Launch} {e : Env} {s : State} {m : MethodId} {below : List Frame} {meth : Method} {c : Code} {b L : Nat} {xs : Nat → Int32} {D : va_G} {dA : Nat → ClassId} {H : Heap} {locs : List Loc} {ls : Array Slot} {cells slots i : Nat} {tt : sr_t} (hL : L ≤ 2048) (C0 : lw_At p s m meth c b L xs) (C : sr_C l (sr_Ml meth c) p s m #[Value.ref b] meth c D dA s.heap.size) (hi : i + 4 ≤ L) (hstep : sr_ok3 Inv Inv' (fun t => FL_choice_23 (xs (i + 1)) t) (fun t => F11_choice (xs (i + 1)) t)) (hI : Inv tt) (Wd : sr_W D dA s.heap.size (sr_em tt) s H locs) (hl : lv_has ls 7 [(0, .ref b), (1, .ref (sr_ad s.heap.size 10 0)), (2, .ref (sr_ad s.heap.size 11 0)), (3, .ref (sr_ad s.heap.size 23 0)), (4, .int (nI i))]) (hc : cells + 8 ≤ 601024) (hs : slots + 48 ≤ 7293033) (kk : ∀ (tt' : sr_t) (H' : Heap) (locs' : List Loc) (ls' : Array Slot), Inv' tt' → sr_W D dA s.heap.size (sr_em tt') s H' locs' → lv_has ls' 7 [(0, .ref b), (1, .ref (sr_ad s.heap.size 10 0)), (2, .ref (sr_ad s.heap.size 11 0)), (3, .ref (sr_ad s.heap.size 23 0)), (4, .int (nI i))] → W p l e room_1 s m #[Value.ref b] below meth c H' locs' (cells + 8) (slots + 48) (lw_Z below #[Value.ref b] s) (F0 m 2743 ls' [])) : W p l e room_1 s m #[Value.ref b] below meth c H locs cells slots (lw_Z below #[Value.ref b] s) (F0 m 1726 ls []) := by
  obtain ⟨hx, hb, hr, hml, hown, hts, hX, hbl, hlocks, hgv⟩ := C0
  have hbA : ¬ sr_A s.heap.size b := Nat.not_le.mpr hbl
  have Wd0 := Wd.2.2
  have hRc : room_1.cells = 601024 := rfl
  have hRs : room_1.slots = 7293033 := rfl
  obtain ⟨r1, t1, r2, t2, e1, e2, hE, hO, hI2⟩ := hstep tt hI
  refine lv_aload_n hx hb (show decode code 1726 = .ok (.aload_n 1, 1) by decide +kernel) rfl (lv_at hl 1 rfl) ?_
  refine lv_aload_n hx hb (show decode code 1727 = .ok (.aload_n 0, 1) by decide +kernel) rfl (lv_at hl 0 rfl) ?_
  refine lv_iload hx hb (show decode code 1728 = .ok (.iload 4, 2) by decide +kernel) (lv_at hl 4 rfl) ?_
  refine lv_iconst (n := 1) (v := 1) hx hb (show decode code 1730 = .ok (.iconst 1, 1) by decide +kernel) (by decide) ?_
  refine lv_iadd hx hb (show decode code 1731 = .ok (.iadd, 1) by decide +kernel) ?_
  rw [show nI i + 1 = nI (i + 1) from nI_add i 1]
  refine va_sld hx hb hX hbl hbA Wd0 (vp_in_nI (show i + 1 < L by omega) (by omega)) (show decode code 1732 = .ok (.iaload, 1) by decide +kernel) ?_
  rw [nI_clamp (show i + 1 < 2147483648 by omega)]
  refine lv_aload_n hx hb (show decode code 1733 = .ok (.aload_n 3, 1) by decide +kernel) rfl (lv_at hl 3 rfl) ?_
  refine sr_wS (As := [sr_r 10 0, sr_i (xs (i + 1)), sr_r 23 0]) (em := sr_em) (M := sr_Ml meth c) (v := some (sr_i (r1))) (t1 := t1) (rest := []) (mc1 := 1) (ms1 := 6) C Wd hl.1 (Nat.le_of_ble_eq_true rfl) (Nat.le_of_ble_eq_true rfl) (by omega) (by omega) (fun hq => nomatch hq) fh_225 (show decode code 1734 = .ok (.invokestatic 225, 3) by decide +kernel) rm_Law_L_choice rfl (Nat.le_of_ble_eq_true rfl) (e1 ▸ CL_choice_23 l (xs (i + 1)) tt) (fun H1 locs1 Wd1 => ?_)
  have Wd0 := Wd1.2.2
  refine W.eq (g2 := F0 m 1737 ls [.int r1]) rfl ?_
  refine lv_istore (lv' := [(5, .int r1), (0, .ref b), (1, .ref (sr_ad s.heap.size 10 0)), (2, .ref (sr_ad s.heap.size 11 0)), (3, .ref (sr_ad s.heap.size 23 0)), (4, .int (nI i))]) hx hb (show decode code 1737 = .ok (.istore 5, 2) by decide +kernel) hl (by decide) rfl (fun ls hl => ?_)
  refine lv_aload_n hx hb (show decode code 1739 = .ok (.aload_n 2, 1) by decide +kernel) rfl (lv_at hl 3 rfl) ?_
  refine lv_aload_n hx hb (show decode code 1740 = .ok (.aload_n 0, 1) by decide +kernel) rfl (lv_at hl 1 rfl) ?_
  refine lv_iload hx hb (show decode code 1741 = .ok (.iload 4, 2) by decide +kernel) (lv_at hl 5 rfl) ?_
  refine lv_iconst (n := 1) (v := 1) hx hb (show decode code 1743 = .ok (.iconst 1, 1) by decide +kernel) (by decide) ?_
  refine lv_iadd hx hb (show decode code 1744 = .ok (.iadd, 1) by decide +kernel) ?_
  rw [show nI i + 1 = nI (i + 1) from nI_add i 1]
  refine va_sld hx hb hX hbl hbA Wd0 (vp_in_nI (show i + 1 < L by omega) (by omega)) (show decode code 1745 = .ok (.iaload, 1) by decide +kernel) ?_
  rw [nI_clamp (show i + 1 < 2147483648 by omega)]
  refine sr_wV (k := 11) (i := 0) (As := [sr_i (xs (i + 1))]) (em := sr_em) (M := sr_Ml meth c) (v := some (sr_i (r2))) (t1 := t2) (rest := []) (mc1 := 0) (ms1 := 0) C Wd1 hl.1 (Nat.le_of_ble_eq_true rfl) (Nat.le_of_ble_eq_true rfl) (by omega) (by omega) (fun hq => nomatch hq) fm_L_227 fl_L_227 (show decode code 1746 = .ok (.invokevirtual 227, 3) by decide +kernel) (sr_in11 0 (by decide)) rm_Law_11_choice rfl (Nat.le_of_ble_eq_true rfl) (e2 ▸ C11_choice l (xs (i + 1)) t1) (fun H2 locs2 Wd2 => ?_)
  have Wd0 := Wd2.2.2
  refine W.eq (g2 := F0 m 1749 ls [.int r2]) rfl ?_
  refine lv_istore (lv' := [(6, .int r2), (5, .int r1), (0, .ref b), (1, .ref (sr_ad s.heap.size 10 0)), (2, .ref (sr_ad s.heap.size 11 0)), (3, .ref (sr_ad s.heap.size 23 0)), (4, .int (nI i))]) hx hb (show decode code 1749 = .ok (.istore 6, 2) by decide +kernel) hl (by decide) rfl (fun ls hl => ?_)
  refine lv_aload_n hx hb (show decode code 1751 = .ok (.aload_n 2, 1) by decide +kernel) rfl (lv_at hl 4 rfl) ?_
  refine sr_wV (k := 11) (i := 0) (As := []) (em := sr_em) (M := sr_Ml meth c) (v := some (sr_i (t2.1 11 0 0))) (t1 := t2) (rest := []) (mc1 := 0) (ms1 := 0) C Wd2 hl.1 (Nat.le_of_ble_eq_true rfl) (Nat.le_of_ble_eq_true rfl) (by omega) (by omega) (fun hq => nomatch hq) fm_L_146 fl_L_146 (show decode code 1752 = .ok (.invokevirtual 146, 3) by decide +kernel) (sr_in11 0 (by decide)) rm_Law_11_thrown rfl (Nat.le_of_ble_eq_true rfl) ((show F11_thrown t2 = some (.inl (some (sr_i (t2.1 11 0 0))), t2) from rfl) ▸ C11_thrown l  t2) (fun H3 locs3 Wd3 => ?_)
  have Wd0 := Wd3.2.2
  refine W.eq (g2 := F0 m 1755 ls [.int (t2.1 11 0 0)]) rfl ?_
  refine lv_iload hx hb (show decode code 1755 = .ok (.iload 5, 2) by decide +kernel) (lv_at hl 1 rfl) ?_
  refine lv_icmp_eq (tgt := 1762) hx hb (show decode code 1757 = .ok (.if_icmp .eq 5, 3) by decide +kernel) (by decide) (fun _ => ?_) (fun hq => absurd hE hq)
  refine lv_iload hx hb (show decode code 1762 = .ok (.iload 5, 2) by decide +kernel) (lv_at hl 1 rfl) ?_
  refine lv_if_ne (tgt := 1779) hx hb (show decode code 1764 = .ok (.ifCond .ne 15, 3) by decide +kernel) (by decide) (fun _ => ?_) (fun hk0 => ?_)
  · refine lv_goto (tgt := 2743) hx hb (show decode code 1779 = .ok (.goto 964, 3) by decide +kernel) (by decide) ?_
    refine W.widen (k := cells + 8) (n := slots + 48) (by omega) (by omega) ?_
    exact kk _ _ _ _ hI2 Wd3 (lv_sub hl [2, 3, 4, 5, 6] rfl)
  refine lv_aload_n hx hb (show decode code 1767 = .ok (.aload_n 3, 1) by decide +kernel) rfl (lv_at hl 5 rfl) ?_
  refine lv_iconst (n := 0) (v := 0) hx hb (show decode code 1768 = .ok (.iconst 0, 1) by decide +kernel) (by decide) ?_
  refine sr_wlal (M := sr_Ml meth c) (k := 23) (i := 0) (n := 1) (a := 0) C Wd3 rfl (by decide) (sr_in23 0 (by decide)) (by decide) (show decode code 1769 = .ok (.laload, 1) by decide +kernel) ?_
  refine lv_iload hx hb (show decode code 1770 = .ok (.iload 6, 2) by decide +kernel) (lv_at hl 0 rfl) ?_
  refine lv_i2l hx hb (show decode code 1772 = .ok (.i2l, 1) by decide +kernel) rfl ?_
  refine W.lcmp hx hb (show decode code 1773 = .ok (.lcmp, 1) by decide +kernel) ?_
  rw [show t2.2 23 0 (0 : Int32).toNatClampNeg = _ from hO hk0, sr_cmp0]
  refine lv_if_eq (tgt := 1779) hx hb (show decode code 1774 = .ok (.ifCond .eq 5, 3) by decide +kernel) (by decide) (fun _ => ?_) (fun hq => absurd rfl hq)
  refine lv_goto (tgt := 2743) hx hb (show decode code 1779 = .ok (.goto 964, 3) by decide +kernel) (by decide) ?_
  refine W.widen (k := cells + 8) (n := slots + 48) (by omega) (by omega) ?_
  exact kk _ _ _ _ hI2 Wd3 (lv_sub hl [2, 3, 4, 5, 6] rfl)
theorem lc_25 {Inv Inv' : sr_t → Prop} {p : Program} {l : Launch} {e : Env} {s : State} {m : MethodId} {below : List Frame} {meth : Method} {c : Code} {b L : Nat} {xs : Nat → Int32} {D : va_G} {dA : Nat → ClassId} {H : Heap} {locs : List Loc} {ls : Array Slot} {cells slots i : Nat} {tt : sr_t} (hL : L ≤ 2048) (C0 : lw_At p s m meth c b L xs) (C : sr_C l (sr_Ml meth c) p s m #[Value.ref b] meth c D dA s.heap.size) (hi : i + 4 ≤ L) (hstep : sr_ok3 Inv Inv' (fun t => FL_takes_23 (xs (i + 1)) (xs (i + 2)) t) (fun t => F11_takes (xs (i + 1)) (xs (i + 2)) t)) (hI : Inv tt) (Wd : sr_W D dA s.heap.size (sr_em tt) s H locs) (hl : lv_has ls 7 [(0, .ref b), (1, .ref (sr_ad s.heap.size 10 0)), (2, .ref (sr_ad s.heap.size 11 0)), (3, .ref (sr_ad s.heap.size 23 0)), (4, .int (nI i))]) (hc : cells + 8 ≤ 601024) (hs : slots + 48 ≤ 7293033) (kk : ∀ (tt' : sr_t) (H' : Heap) (locs' : List Loc) (ls' : Array Slot), Inv' tt' → sr_W D dA s.heap.size (sr_em tt') s H' locs' → lv_has ls' 7 [(0, .ref b), (1, .ref (sr_ad s.heap.size 10 0)), (2, .ref (sr_ad s.heap.size 11 0)), (3, .ref (sr_ad s.heap.size 23 0)), (4, .int (nI i))] → W p l e room_1 s m #[Value.ref b] below meth c H' locs' (cells + 8) (slots + 48) (lw_Z below #[Value.ref b] s) (F0 m 2743 ls' [])) : W p l e room_1 s m #[Value.ref b] below meth c H locs cells slots (lw_Z below #[Value.ref b] s) (F0 m 1782 ls []) := by
  obtain ⟨hx, hb, hr, hml, hown, hts, hX, hbl, hlocks, hgv⟩ := C0
  have hbA : ¬ sr_A s.heap.size b := Nat.not_le.mpr hbl
  have Wd0 := Wd.2.2
  have hRc : room_1.cells = 601024 := rfl
  have hRs : room_1.slots = 7293033 := rfl
  obtain ⟨r1, t1, r2, t2, e1, e2, hE, hO, hI2⟩ := hstep tt hI
  refine lv_aload_n hx hb (show decode code 1782 = .ok (.aload_n 1, 1) by decide +kernel) rfl (lv_at hl 1 rfl) ?_
  refine lv_aload_n hx hb (show decode code 1783 = .ok (.aload_n 0, 1) by decide +kernel) rfl (lv_at hl 0 rfl) ?_
  refine lv_iload hx hb (show decode code 1784 = .ok (.iload 4, 2) by decide +kernel) (lv_at hl 4 rfl) ?_
  refine lv_iconst (n := 1) (v := 1) hx hb (show decode code 1786 = .ok (.iconst 1, 1) by decide +kernel) (by decide) ?_
  refine lv_iadd hx hb (show decode code 1787 = .ok (.iadd, 1) by decide +kernel) ?_
  rw [show nI i + 1 = nI (i + 1) from nI_add i 1]
  refine va_sld hx hb hX hbl hbA Wd0 (vp_in_nI (show i + 1 < L by omega) (by omega)) (show decode code 1788 = .ok (.iaload, 1) by decide +kernel) ?_
  rw [nI_clamp (show i + 1 < 2147483648 by omega)]
  refine lv_aload_n hx hb (show decode code 1789 = .ok (.aload_n 0, 1) by decide +kernel) rfl (lv_at hl 0 rfl) ?_
  refine lv_iload hx hb (show decode code 1790 = .ok (.iload 4, 2) by decide +kernel) (lv_at hl 4 rfl) ?_
  refine lv_iconst (n := 2) (v := 2) hx hb (show decode code 1792 = .ok (.iconst 2, 1) by decide +kernel) (by decide) ?_
  refine lv_iadd hx hb (show decode code 1793 = .ok (.iadd, 1) by decide +kernel) ?_
  rw [show nI i + 2 = nI (i + 2) from nI_add i 2]
  refine va_sld hx hb hX hbl hbA Wd0 (vp_in_nI (show i + 2 < L by omega) (by omega)) (show decode code 1794 = .ok (.iaload, 1) by decide +kernel) ?_
  rw [nI_clamp (show i + 2 < 2147483648 by omega)]
  refine lv_aload_n hx hb (show decode code 1795 = .ok (.aload_n 3, 1) by decide +kernel) rfl (lv_at hl 3 rfl) ?_
  refine sr_wS (As := [sr_r 10 0, sr_i (xs (i + 1)), sr_i (xs (i + 2)), sr_r 23 0]) (em := sr_em) (M := sr_Ml meth c) (v := some (sr_i (r1))) (t1 := t1) (rest := []) (mc1 := 3) (ms1 := 18) C Wd hl.1 (Nat.le_of_ble_eq_true rfl) (Nat.le_of_ble_eq_true rfl) (by omega) (by omega) (fun hq => nomatch hq) fh_228 (show decode code 1796 = .ok (.invokestatic 228, 3) by decide +kernel) rm_Law_L_takes rfl (Nat.le_of_ble_eq_true rfl) (e1 ▸ CL_takes_23 l (xs (i + 1)) (xs (i + 2)) tt) (fun H1 locs1 Wd1 => ?_)
  have Wd0 := Wd1.2.2
  refine W.eq (g2 := F0 m 1799 ls [.int r1]) rfl ?_
  refine lv_istore (lv' := [(5, .int r1), (0, .ref b), (1, .ref (sr_ad s.heap.size 10 0)), (2, .ref (sr_ad s.heap.size 11 0)), (3, .ref (sr_ad s.heap.size 23 0)), (4, .int (nI i))]) hx hb (show decode code 1799 = .ok (.istore 5, 2) by decide +kernel) hl (by decide) rfl (fun ls hl => ?_)
  refine lv_aload_n hx hb (show decode code 1801 = .ok (.aload_n 2, 1) by decide +kernel) rfl (lv_at hl 3 rfl) ?_
  refine lv_aload_n hx hb (show decode code 1802 = .ok (.aload_n 0, 1) by decide +kernel) rfl (lv_at hl 1 rfl) ?_
  refine lv_iload hx hb (show decode code 1803 = .ok (.iload 4, 2) by decide +kernel) (lv_at hl 5 rfl) ?_
  refine lv_iconst (n := 1) (v := 1) hx hb (show decode code 1805 = .ok (.iconst 1, 1) by decide +kernel) (by decide) ?_
  refine lv_iadd hx hb (show decode code 1806 = .ok (.iadd, 1) by decide +kernel) ?_
  rw [show nI i + 1 = nI (i + 1) from nI_add i 1]
  refine va_sld hx hb hX hbl hbA Wd0 (vp_in_nI (show i + 1 < L by omega) (by omega)) (show decode code 1807 = .ok (.iaload, 1) by decide +kernel) ?_
  rw [nI_clamp (show i + 1 < 2147483648 by omega)]
  refine lv_aload_n hx hb (show decode code 1808 = .ok (.aload_n 0, 1) by decide +kernel) rfl (lv_at hl 1 rfl) ?_
  refine lv_iload hx hb (show decode code 1809 = .ok (.iload 4, 2) by decide +kernel) (lv_at hl 5 rfl) ?_
  refine lv_iconst (n := 2) (v := 2) hx hb (show decode code 1811 = .ok (.iconst 2, 1) by decide +kernel) (by decide) ?_
  refine lv_iadd hx hb (show decode code 1812 = .ok (.iadd, 1) by decide +kernel) ?_
  rw [show nI i + 2 = nI (i + 2) from nI_add i 2]
  refine va_sld hx hb hX hbl hbA Wd0 (vp_in_nI (show i + 2 < L by omega) (by omega)) (show decode code 1813 = .ok (.iaload, 1) by decide +kernel) ?_
  rw [nI_clamp (show i + 2 < 2147483648 by omega)]
  refine sr_wV (k := 11) (i := 0) (As := [sr_i (xs (i + 1)), sr_i (xs (i + 2))]) (em := sr_em) (M := sr_Ml meth c) (v := some (sr_i (r2))) (t1 := t2) (rest := []) (mc1 := 0) (ms1 := 0) C Wd1 hl.1 (Nat.le_of_ble_eq_true rfl) (Nat.le_of_ble_eq_true rfl) (by omega) (by omega) (fun hq => nomatch hq) fm_L_230 fl_L_230 (show decode code 1814 = .ok (.invokevirtual 230, 3) by decide +kernel) (sr_in11 0 (by decide)) rm_Law_11_takes rfl (Nat.le_of_ble_eq_true rfl) (e2 ▸ C11_takes l (xs (i + 1)) (xs (i + 2)) t1) (fun H2 locs2 Wd2 => ?_)
  have Wd0 := Wd2.2.2
  refine W.eq (g2 := F0 m 1817 ls [.int r2]) rfl ?_
  refine lv_istore (lv' := [(6, .int r2), (5, .int r1), (0, .ref b), (1, .ref (sr_ad s.heap.size 10 0)), (2, .ref (sr_ad s.heap.size 11 0)), (3, .ref (sr_ad s.heap.size 23 0)), (4, .int (nI i))]) hx hb (show decode code 1817 = .ok (.istore 6, 2) by decide +kernel) hl (by decide) rfl (fun ls hl => ?_)
  refine lv_aload_n hx hb (show decode code 1819 = .ok (.aload_n 2, 1) by decide +kernel) rfl (lv_at hl 4 rfl) ?_
  refine sr_wV (k := 11) (i := 0) (As := []) (em := sr_em) (M := sr_Ml meth c) (v := some (sr_i (t2.1 11 0 0))) (t1 := t2) (rest := []) (mc1 := 0) (ms1 := 0) C Wd2 hl.1 (Nat.le_of_ble_eq_true rfl) (Nat.le_of_ble_eq_true rfl) (by omega) (by omega) (fun hq => nomatch hq) fm_L_146 fl_L_146 (show decode code 1820 = .ok (.invokevirtual 146, 3) by decide +kernel) (sr_in11 0 (by decide)) rm_Law_11_thrown rfl (Nat.le_of_ble_eq_true rfl) ((show F11_thrown t2 = some (.inl (some (sr_i (t2.1 11 0 0))), t2) from rfl) ▸ C11_thrown l  t2) (fun H3 locs3 Wd3 => ?_)
  have Wd0 := Wd3.2.2
  refine W.eq (g2 := F0 m 1823 ls [.int (t2.1 11 0 0)]) rfl ?_
  refine lv_iload hx hb (show decode code 1823 = .ok (.iload 5, 2) by decide +kernel) (lv_at hl 1 rfl) ?_
  refine lv_icmp_eq (tgt := 1830) hx hb (show decode code 1825 = .ok (.if_icmp .eq 5, 3) by decide +kernel) (by decide) (fun _ => ?_) (fun hq => absurd hE hq)
  refine lv_iload hx hb (show decode code 1830 = .ok (.iload 5, 2) by decide +kernel) (lv_at hl 1 rfl) ?_
  refine lv_if_ne (tgt := 1847) hx hb (show decode code 1832 = .ok (.ifCond .ne 15, 3) by decide +kernel) (by decide) (fun _ => ?_) (fun hk0 => ?_)
  · refine lv_goto (tgt := 2743) hx hb (show decode code 1847 = .ok (.goto 896, 3) by decide +kernel) (by decide) ?_
    refine W.widen (k := cells + 8) (n := slots + 48) (by omega) (by omega) ?_
    exact kk _ _ _ _ hI2 Wd3 (lv_sub hl [2, 3, 4, 5, 6] rfl)
  refine lv_aload_n hx hb (show decode code 1835 = .ok (.aload_n 3, 1) by decide +kernel) rfl (lv_at hl 5 rfl) ?_
  refine lv_iconst (n := 0) (v := 0) hx hb (show decode code 1836 = .ok (.iconst 0, 1) by decide +kernel) (by decide) ?_
  refine sr_wlal (M := sr_Ml meth c) (k := 23) (i := 0) (n := 1) (a := 0) C Wd3 rfl (by decide) (sr_in23 0 (by decide)) (by decide) (show decode code 1837 = .ok (.laload, 1) by decide +kernel) ?_
  refine lv_iload hx hb (show decode code 1838 = .ok (.iload 6, 2) by decide +kernel) (lv_at hl 0 rfl) ?_
  refine lv_i2l hx hb (show decode code 1840 = .ok (.i2l, 1) by decide +kernel) rfl ?_
  refine W.lcmp hx hb (show decode code 1841 = .ok (.lcmp, 1) by decide +kernel) ?_
  rw [show t2.2 23 0 (0 : Int32).toNatClampNeg = _ from hO hk0, sr_cmp0]
  refine lv_if_eq (tgt := 1847) hx hb (show decode code 1842 = .ok (.ifCond .eq 5, 3) by decide +kernel) (by decide) (fun _ => ?_) (fun hq => absurd rfl hq)
  refine lv_goto (tgt := 2743) hx hb (show decode code 1847 = .ok (.goto 896, 3) by decide +kernel) (by decide) ?_
  refine W.widen (k := cells + 8) (n := slots + 48) (by omega) (by omega) ?_
  exact kk _ _ _ _ hI2 Wd3 (lv_sub hl [2, 3, 4, 5, 6] rfl)
