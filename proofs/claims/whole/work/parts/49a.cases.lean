theorem lc_0 {Inv Inv' : sr_t → Prop} {p : Program} {l : Launch} {e : Env} {s : State} {m : MethodId} {below : List Frame} {meth : Method} {c : Code} {b L : Nat} {xs : Nat → Int32} {D : va_G} {dA : Nat → ClassId} {H : Heap} {locs : List Loc} {ls : Array Slot} {cells slots i : Nat} {tt : sr_t} (hL : L ≤ 2048) (C0 : lw_At p s m meth c b L xs) (C : sr_C l (sr_Ml meth c) p s m #[Value.ref b] meth c D dA s.heap.size) (hi : i + 4 ≤ L) (hstep : sr_ok3 Inv Inv' (fun t => FL_join_23 (xs (i + 1)) t) (fun t => F11_join (xs (i + 1)) t)) (hI : Inv tt) (Wd : sr_W D dA s.heap.size (sr_em tt) s H locs) (hl : lv_has ls 7 [(0, .ref b), (1, .ref (sr_ad s.heap.size 10 0)), (2, .ref (sr_ad s.heap.size 11 0)), (3, .ref (sr_ad s.heap.size 23 0)), (4, .int (nI i))]) (hc : cells + 8 ≤ 601024) (hs : slots + 48 ≤ 7293033) (kk : ∀ (tt' : sr_t) (H' : Heap) (locs' : List Loc) (ls' : Array Slot), Inv' tt' → sr_W D dA s.heap.size (sr_em tt') s H' locs' → lv_has ls' 7 [(0, .ref b), (1, .ref (sr_ad s.heap.size 10 0)), (2, .ref (sr_ad s.heap.size 11 0)), (3, .ref (sr_ad s.heap.size 23 0)), (4, .int (nI i))] → W p l e room_1 s m #[Value.ref b] below meth c H' locs' (cells + 8) (slots + 48) (lw_Z below #[Value.ref b] s) (F0 m 2743 ls' [])) : W p l e room_1 s m #[Value.ref b] below meth c H locs cells slots (lw_Z below #[Value.ref b] s) (F0 m 216 ls []) := by
  obtain ⟨hx, hb, hr, hml, hown, hts, hX, hbl, hlocks, hgv⟩ := C0
  have hbA : ¬ sr_A s.heap.size b := Nat.not_le.mpr hbl
  have Wd0 := Wd.2.2
  have hRc : room_1.cells = 601024 := rfl
  have hRs : room_1.slots = 7293033 := rfl
  obtain ⟨r1, t1, r2, t2, e1, e2, hE, hO, hI2⟩ := hstep tt hI
  refine lv_aload_n hx hb (show decode code 216 = .ok (.aload_n 1, 1) by decide +kernel) rfl (lv_at hl 1 rfl) ?_
  refine lv_aload_n hx hb (show decode code 217 = .ok (.aload_n 0, 1) by decide +kernel) rfl (lv_at hl 0 rfl) ?_
  refine lv_iload hx hb (show decode code 218 = .ok (.iload 4, 2) by decide +kernel) (lv_at hl 4 rfl) ?_
  refine lv_iconst (n := 1) (v := 1) hx hb (show decode code 220 = .ok (.iconst 1, 1) by decide +kernel) (by decide) ?_
  refine lv_iadd hx hb (show decode code 221 = .ok (.iadd, 1) by decide +kernel) ?_
  rw [show nI i + 1 = nI (i + 1) from nI_add i 1]
  refine va_sld hx hb hX hbl hbA Wd0 (vp_in_nI (show i + 1 < L by omega) (by omega)) (show decode code 222 = .ok (.iaload, 1) by decide +kernel) ?_
  rw [nI_clamp (show i + 1 < 2147483648 by omega)]
  refine lv_aload_n hx hb (show decode code 223 = .ok (.aload_n 3, 1) by decide +kernel) rfl (lv_at hl 3 rfl) ?_
  refine sr_wS (As := [sr_r 10 0, sr_i (xs (i + 1)), sr_r 23 0]) (em := sr_em) (M := sr_Ml meth c) (v := some (sr_i (r1))) (t1 := t1) (rest := []) (mc1 := 2) (ms1 := 12) C Wd hl.1 (Nat.le_of_ble_eq_true rfl) (Nat.le_of_ble_eq_true rfl) (by omega) (by omega) (fun hq => nomatch hq) fh_140 (show decode code 224 = .ok (.invokestatic 140, 3) by decide +kernel) rm_Law_L_join rfl (Nat.le_of_ble_eq_true rfl) (e1 ▸ CL_join_23 l (xs (i + 1)) tt) (fun H1 locs1 Wd1 => ?_)
  have Wd0 := Wd1.2.2
  refine W.eq (g2 := F0 m 227 ls [.int r1]) rfl ?_
  refine lv_istore (lv' := [(5, .int r1), (0, .ref b), (1, .ref (sr_ad s.heap.size 10 0)), (2, .ref (sr_ad s.heap.size 11 0)), (3, .ref (sr_ad s.heap.size 23 0)), (4, .int (nI i))]) hx hb (show decode code 227 = .ok (.istore 5, 2) by decide +kernel) hl (by decide) rfl (fun ls hl => ?_)
  refine lv_aload_n hx hb (show decode code 229 = .ok (.aload_n 2, 1) by decide +kernel) rfl (lv_at hl 3 rfl) ?_
  refine lv_aload_n hx hb (show decode code 230 = .ok (.aload_n 0, 1) by decide +kernel) rfl (lv_at hl 1 rfl) ?_
  refine lv_iload hx hb (show decode code 231 = .ok (.iload 4, 2) by decide +kernel) (lv_at hl 5 rfl) ?_
  refine lv_iconst (n := 1) (v := 1) hx hb (show decode code 233 = .ok (.iconst 1, 1) by decide +kernel) (by decide) ?_
  refine lv_iadd hx hb (show decode code 234 = .ok (.iadd, 1) by decide +kernel) ?_
  rw [show nI i + 1 = nI (i + 1) from nI_add i 1]
  refine va_sld hx hb hX hbl hbA Wd0 (vp_in_nI (show i + 1 < L by omega) (by omega)) (show decode code 235 = .ok (.iaload, 1) by decide +kernel) ?_
  rw [nI_clamp (show i + 1 < 2147483648 by omega)]
  refine sr_wV (k := 11) (i := 0) (As := [sr_i (xs (i + 1))]) (em := sr_em) (M := sr_Ml meth c) (v := some (sr_i (r2))) (t1 := t2) (rest := []) (mc1 := 0) (ms1 := 0) C Wd1 hl.1 (Nat.le_of_ble_eq_true rfl) (Nat.le_of_ble_eq_true rfl) (by omega) (by omega) (fun hq => nomatch hq) fm_L_145 fl_L_145 (show decode code 236 = .ok (.invokevirtual 145, 3) by decide +kernel) (sr_in11 0 (by decide)) rm_Law_11_join rfl (Nat.le_of_ble_eq_true rfl) (e2 ▸ C11_join l (xs (i + 1)) t1) (fun H2 locs2 Wd2 => ?_)
  have Wd0 := Wd2.2.2
  refine W.eq (g2 := F0 m 239 ls [.int r2]) rfl ?_
  refine lv_istore (lv' := [(6, .int r2), (5, .int r1), (0, .ref b), (1, .ref (sr_ad s.heap.size 10 0)), (2, .ref (sr_ad s.heap.size 11 0)), (3, .ref (sr_ad s.heap.size 23 0)), (4, .int (nI i))]) hx hb (show decode code 239 = .ok (.istore 6, 2) by decide +kernel) hl (by decide) rfl (fun ls hl => ?_)
  refine lv_aload_n hx hb (show decode code 241 = .ok (.aload_n 2, 1) by decide +kernel) rfl (lv_at hl 4 rfl) ?_
  refine sr_wV (k := 11) (i := 0) (As := []) (em := sr_em) (M := sr_Ml meth c) (v := some (sr_i (t2.1 11 0 0))) (t1 := t2) (rest := []) (mc1 := 0) (ms1 := 0) C Wd2 hl.1 (Nat.le_of_ble_eq_true rfl) (Nat.le_of_ble_eq_true rfl) (by omega) (by omega) (fun hq => nomatch hq) fm_L_146 fl_L_146 (show decode code 242 = .ok (.invokevirtual 146, 3) by decide +kernel) (sr_in11 0 (by decide)) rm_Law_11_thrown rfl (Nat.le_of_ble_eq_true rfl) ((show F11_thrown t2 = some (.inl (some (sr_i (t2.1 11 0 0))), t2) from rfl) ▸ C11_thrown l  t2) (fun H3 locs3 Wd3 => ?_)
  have Wd0 := Wd3.2.2
  refine W.eq (g2 := F0 m 245 ls [.int (t2.1 11 0 0)]) rfl ?_
  refine lv_iload hx hb (show decode code 245 = .ok (.iload 5, 2) by decide +kernel) (lv_at hl 1 rfl) ?_
  refine lv_icmp_eq (tgt := 252) hx hb (show decode code 247 = .ok (.if_icmp .eq 5, 3) by decide +kernel) (by decide) (fun _ => ?_) (fun hq => absurd hE hq)
  refine lv_iload hx hb (show decode code 252 = .ok (.iload 5, 2) by decide +kernel) (lv_at hl 1 rfl) ?_
  refine lv_if_ne (tgt := 269) hx hb (show decode code 254 = .ok (.ifCond .ne 15, 3) by decide +kernel) (by decide) (fun _ => ?_) (fun hk0 => ?_)
  · refine lv_goto (tgt := 2743) hx hb (show decode code 269 = .ok (.goto 2474, 3) by decide +kernel) (by decide) ?_
    refine W.widen (k := cells + 8) (n := slots + 48) (by omega) (by omega) ?_
    exact kk _ _ _ _ hI2 Wd3 (lv_sub hl [2, 3, 4, 5, 6] rfl)
  refine lv_aload_n hx hb (show decode code 257 = .ok (.aload_n 3, 1) by decide +kernel) rfl (lv_at hl 5 rfl) ?_
  refine lv_iconst (n := 0) (v := 0) hx hb (show decode code 258 = .ok (.iconst 0, 1) by decide +kernel) (by decide) ?_
  refine sr_wlal (M := sr_Ml meth c) (k := 23) (i := 0) (n := 1) (a := 0) C Wd3 rfl (by decide) (sr_in23 0 (by decide)) (by decide) (show decode code 259 = .ok (.laload, 1) by decide +kernel) ?_
  refine lv_iload hx hb (show decode code 260 = .ok (.iload 6, 2) by decide +kernel) (lv_at hl 0 rfl) ?_
  refine lv_i2l hx hb (show decode code 262 = .ok (.i2l, 1) by decide +kernel) rfl ?_
  refine W.lcmp hx hb (show decode code 263 = .ok (.lcmp, 1) by decide +kernel) ?_
  rw [show t2.2 23 0 (0 : Int32).toNatClampNeg = _ from hO hk0, sr_cmp0]
  refine lv_if_eq (tgt := 269) hx hb (show decode code 264 = .ok (.ifCond .eq 5, 3) by decide +kernel) (by decide) (fun _ => ?_) (fun hq => absurd rfl hq)
  refine lv_goto (tgt := 2743) hx hb (show decode code 269 = .ok (.goto 2474, 3) by decide +kernel) (by decide) ?_
  refine W.widen (k := cells + 8) (n := slots + 48) (by omega) (by omega) ?_
  exact kk _ _ _ _ hI2 Wd3 (lv_sub hl [2, 3, 4, 5, 6] rfl)
theorem lc_1 {Inv Inv' : sr_t → Prop} {p : Program} {l : Launch} {e : Env} {s : State} {m : MethodId} {below : List Frame} {meth : Method} {c : Code} {b L : Nat} {xs : Nat → Int32} {D : va_G} {dA : Nat → ClassId} {H : Heap} {locs : List Loc} {ls : Array Slot} {cells slots i : Nat} {tt : sr_t} (hL : L ≤ 2048) (C0 : lw_At p s m meth c b L xs) (C : sr_C l (sr_Ml meth c) p s m #[Value.ref b] meth c D dA s.heap.size) (hi : i + 4 ≤ L) (hstep : sr_ok3 Inv Inv' (fun t => FL_down_23 (xs (i + 1)) t) (fun t => F11_down (xs (i + 1)) t)) (hI : Inv tt) (Wd : sr_W D dA s.heap.size (sr_em tt) s H locs) (hl : lv_has ls 7 [(0, .ref b), (1, .ref (sr_ad s.heap.size 10 0)), (2, .ref (sr_ad s.heap.size 11 0)), (3, .ref (sr_ad s.heap.size 23 0)), (4, .int (nI i))]) (hc : cells + 8 ≤ 601024) (hs : slots + 48 ≤ 7293033) (kk : ∀ (tt' : sr_t) (H' : Heap) (locs' : List Loc) (ls' : Array Slot), Inv' tt' → sr_W D dA s.heap.size (sr_em tt') s H' locs' → lv_has ls' 7 [(0, .ref b), (1, .ref (sr_ad s.heap.size 10 0)), (2, .ref (sr_ad s.heap.size 11 0)), (3, .ref (sr_ad s.heap.size 23 0)), (4, .int (nI i))] → W p l e room_1 s m #[Value.ref b] below meth c H' locs' (cells + 8) (slots + 48) (lw_Z below #[Value.ref b] s) (F0 m 2743 ls' [])) : W p l e room_1 s m #[Value.ref b] below meth c H locs cells slots (lw_Z below #[Value.ref b] s) (F0 m 272 ls []) := by
  obtain ⟨hx, hb, hr, hml, hown, hts, hX, hbl, hlocks, hgv⟩ := C0
  have hbA : ¬ sr_A s.heap.size b := Nat.not_le.mpr hbl
  have Wd0 := Wd.2.2
  have hRc : room_1.cells = 601024 := rfl
  have hRs : room_1.slots = 7293033 := rfl
  obtain ⟨r1, t1, r2, t2, e1, e2, hE, hO, hI2⟩ := hstep tt hI
  refine lv_aload_n hx hb (show decode code 272 = .ok (.aload_n 1, 1) by decide +kernel) rfl (lv_at hl 1 rfl) ?_
  refine lv_aload_n hx hb (show decode code 273 = .ok (.aload_n 0, 1) by decide +kernel) rfl (lv_at hl 0 rfl) ?_
  refine lv_iload hx hb (show decode code 274 = .ok (.iload 4, 2) by decide +kernel) (lv_at hl 4 rfl) ?_
  refine lv_iconst (n := 1) (v := 1) hx hb (show decode code 276 = .ok (.iconst 1, 1) by decide +kernel) (by decide) ?_
  refine lv_iadd hx hb (show decode code 277 = .ok (.iadd, 1) by decide +kernel) ?_
  rw [show nI i + 1 = nI (i + 1) from nI_add i 1]
  refine va_sld hx hb hX hbl hbA Wd0 (vp_in_nI (show i + 1 < L by omega) (by omega)) (show decode code 278 = .ok (.iaload, 1) by decide +kernel) ?_
  rw [nI_clamp (show i + 1 < 2147483648 by omega)]
  refine lv_aload_n hx hb (show decode code 279 = .ok (.aload_n 3, 1) by decide +kernel) rfl (lv_at hl 3 rfl) ?_
  refine sr_wS (As := [sr_r 10 0, sr_i (xs (i + 1)), sr_r 23 0]) (em := sr_em) (M := sr_Ml meth c) (v := some (sr_i (r1))) (t1 := t1) (rest := []) (mc1 := 2) (ms1 := 12) C Wd hl.1 (Nat.le_of_ble_eq_true rfl) (Nat.le_of_ble_eq_true rfl) (by omega) (by omega) (fun hq => nomatch hq) fh_150 (show decode code 280 = .ok (.invokestatic 150, 3) by decide +kernel) rm_Law_L_down rfl (Nat.le_of_ble_eq_true rfl) (e1 ▸ CL_down_23 l (xs (i + 1)) tt) (fun H1 locs1 Wd1 => ?_)
  have Wd0 := Wd1.2.2
  refine W.eq (g2 := F0 m 283 ls [.int r1]) rfl ?_
  refine lv_istore (lv' := [(5, .int r1), (0, .ref b), (1, .ref (sr_ad s.heap.size 10 0)), (2, .ref (sr_ad s.heap.size 11 0)), (3, .ref (sr_ad s.heap.size 23 0)), (4, .int (nI i))]) hx hb (show decode code 283 = .ok (.istore 5, 2) by decide +kernel) hl (by decide) rfl (fun ls hl => ?_)
  refine lv_aload_n hx hb (show decode code 285 = .ok (.aload_n 2, 1) by decide +kernel) rfl (lv_at hl 3 rfl) ?_
  refine lv_aload_n hx hb (show decode code 286 = .ok (.aload_n 0, 1) by decide +kernel) rfl (lv_at hl 1 rfl) ?_
  refine lv_iload hx hb (show decode code 287 = .ok (.iload 4, 2) by decide +kernel) (lv_at hl 5 rfl) ?_
  refine lv_iconst (n := 1) (v := 1) hx hb (show decode code 289 = .ok (.iconst 1, 1) by decide +kernel) (by decide) ?_
  refine lv_iadd hx hb (show decode code 290 = .ok (.iadd, 1) by decide +kernel) ?_
  rw [show nI i + 1 = nI (i + 1) from nI_add i 1]
  refine va_sld hx hb hX hbl hbA Wd0 (vp_in_nI (show i + 1 < L by omega) (by omega)) (show decode code 291 = .ok (.iaload, 1) by decide +kernel) ?_
  rw [nI_clamp (show i + 1 < 2147483648 by omega)]
  refine sr_wV (k := 11) (i := 0) (As := [sr_i (xs (i + 1))]) (em := sr_em) (M := sr_Ml meth c) (v := some (sr_i (r2))) (t1 := t2) (rest := []) (mc1 := 0) (ms1 := 0) C Wd1 hl.1 (Nat.le_of_ble_eq_true rfl) (Nat.le_of_ble_eq_true rfl) (by omega) (by omega) (fun hq => nomatch hq) fm_L_152 fl_L_152 (show decode code 292 = .ok (.invokevirtual 152, 3) by decide +kernel) (sr_in11 0 (by decide)) rm_Law_11_down rfl (Nat.le_of_ble_eq_true rfl) (e2 ▸ C11_down l (xs (i + 1)) t1) (fun H2 locs2 Wd2 => ?_)
  have Wd0 := Wd2.2.2
  refine W.eq (g2 := F0 m 295 ls [.int r2]) rfl ?_
  refine lv_istore (lv' := [(6, .int r2), (5, .int r1), (0, .ref b), (1, .ref (sr_ad s.heap.size 10 0)), (2, .ref (sr_ad s.heap.size 11 0)), (3, .ref (sr_ad s.heap.size 23 0)), (4, .int (nI i))]) hx hb (show decode code 295 = .ok (.istore 6, 2) by decide +kernel) hl (by decide) rfl (fun ls hl => ?_)
  refine lv_aload_n hx hb (show decode code 297 = .ok (.aload_n 2, 1) by decide +kernel) rfl (lv_at hl 4 rfl) ?_
  refine sr_wV (k := 11) (i := 0) (As := []) (em := sr_em) (M := sr_Ml meth c) (v := some (sr_i (t2.1 11 0 0))) (t1 := t2) (rest := []) (mc1 := 0) (ms1 := 0) C Wd2 hl.1 (Nat.le_of_ble_eq_true rfl) (Nat.le_of_ble_eq_true rfl) (by omega) (by omega) (fun hq => nomatch hq) fm_L_146 fl_L_146 (show decode code 298 = .ok (.invokevirtual 146, 3) by decide +kernel) (sr_in11 0 (by decide)) rm_Law_11_thrown rfl (Nat.le_of_ble_eq_true rfl) ((show F11_thrown t2 = some (.inl (some (sr_i (t2.1 11 0 0))), t2) from rfl) ▸ C11_thrown l  t2) (fun H3 locs3 Wd3 => ?_)
  have Wd0 := Wd3.2.2
  refine W.eq (g2 := F0 m 301 ls [.int (t2.1 11 0 0)]) rfl ?_
  refine lv_iload hx hb (show decode code 301 = .ok (.iload 5, 2) by decide +kernel) (lv_at hl 1 rfl) ?_
  refine lv_icmp_eq (tgt := 308) hx hb (show decode code 303 = .ok (.if_icmp .eq 5, 3) by decide +kernel) (by decide) (fun _ => ?_) (fun hq => absurd hE hq)
  refine lv_iload hx hb (show decode code 308 = .ok (.iload 5, 2) by decide +kernel) (lv_at hl 1 rfl) ?_
  refine lv_if_ne (tgt := 325) hx hb (show decode code 310 = .ok (.ifCond .ne 15, 3) by decide +kernel) (by decide) (fun _ => ?_) (fun hk0 => ?_)
  · refine lv_goto (tgt := 2743) hx hb (show decode code 325 = .ok (.goto 2418, 3) by decide +kernel) (by decide) ?_
    refine W.widen (k := cells + 8) (n := slots + 48) (by omega) (by omega) ?_
    exact kk _ _ _ _ hI2 Wd3 (lv_sub hl [2, 3, 4, 5, 6] rfl)
  refine lv_aload_n hx hb (show decode code 313 = .ok (.aload_n 3, 1) by decide +kernel) rfl (lv_at hl 5 rfl) ?_
  refine lv_iconst (n := 0) (v := 0) hx hb (show decode code 314 = .ok (.iconst 0, 1) by decide +kernel) (by decide) ?_
  refine sr_wlal (M := sr_Ml meth c) (k := 23) (i := 0) (n := 1) (a := 0) C Wd3 rfl (by decide) (sr_in23 0 (by decide)) (by decide) (show decode code 315 = .ok (.laload, 1) by decide +kernel) ?_
  refine lv_iload hx hb (show decode code 316 = .ok (.iload 6, 2) by decide +kernel) (lv_at hl 0 rfl) ?_
  refine lv_i2l hx hb (show decode code 318 = .ok (.i2l, 1) by decide +kernel) rfl ?_
  refine W.lcmp hx hb (show decode code 319 = .ok (.lcmp, 1) by decide +kernel) ?_
  rw [show t2.2 23 0 (0 : Int32).toNatClampNeg = _ from hO hk0, sr_cmp0]
  refine lv_if_eq (tgt := 325) hx hb (show decode code 320 = .ok (.ifCond .eq 5, 3) by decide +kernel) (by decide) (fun _ => ?_) (fun hq => absurd rfl hq)
  refine lv_goto (tgt := 2743) hx hb (show decode code 325 = .ok (.goto 2418, 3) by decide +kernel) (by decide) ?_
  refine W.widen (k := cells + 8) (n := slots + 48) (by omega) (by omega) ?_
  exact kk _ _ _ _ hI2 Wd3 (lv_sub hl [2, 3, 4, 5, 6] rfl)
theorem lc_2 {Inv Inv' : sr_t → Prop} {p : Program} {l : Launch} {e : Env} {s : State} {m : MethodId} {below : List Frame} {meth : Method} {c : Code} {b L : Nat} {xs : Nat → Int32} {D : va_G} {dA : Nat → ClassId} {H : Heap} {locs : List Loc} {ls : Array Slot} {cells slots i : Nat} {tt : sr_t} (hL : L ≤ 2048) (C0 : lw_At p s m meth c b L xs) (C : sr_C l (sr_Ml meth c) p s m #[Value.ref b] meth c D dA s.heap.size) (hi : i + 4 ≤ L) (hstep : sr_ok3 Inv Inv' (fun t => FL_up_23 (xs (i + 1)) t) (fun t => F11_up (xs (i + 1)) t)) (hI : Inv tt) (Wd : sr_W D dA s.heap.size (sr_em tt) s H locs) (hl : lv_has ls 7 [(0, .ref b), (1, .ref (sr_ad s.heap.size 10 0)), (2, .ref (sr_ad s.heap.size 11 0)), (3, .ref (sr_ad s.heap.size 23 0)), (4, .int (nI i))]) (hc : cells + 8 ≤ 601024) (hs : slots + 48 ≤ 7293033) (kk : ∀ (tt' : sr_t) (H' : Heap) (locs' : List Loc) (ls' : Array Slot), Inv' tt' → sr_W D dA s.heap.size (sr_em tt') s H' locs' → lv_has ls' 7 [(0, .ref b), (1, .ref (sr_ad s.heap.size 10 0)), (2, .ref (sr_ad s.heap.size 11 0)), (3, .ref (sr_ad s.heap.size 23 0)), (4, .int (nI i))] → W p l e room_1 s m #[Value.ref b] below meth c H' locs' (cells + 8) (slots + 48) (lw_Z below #[Value.ref b] s) (F0 m 2743 ls' [])) : W p l e room_1 s m #[Value.ref b] below meth c H locs cells slots (lw_Z below #[Value.ref b] s) (F0 m 328 ls []) := by
  obtain ⟨hx, hb, hr, hml, hown, hts, hX, hbl, hlocks, hgv⟩ := C0
  have hbA : ¬ sr_A s.heap.size b := Nat.not_le.mpr hbl
  have Wd0 := Wd.2.2
  have hRc : room_1.cells = 601024 := rfl
  have hRs : room_1.slots = 7293033 := rfl
  obtain ⟨r1, t1, r2, t2, e1, e2, hE, hO, hI2⟩ := hstep tt hI
  refine lv_aload_n hx hb (show decode code 328 = .ok (.aload_n 1, 1) by decide +kernel) rfl (lv_at hl 1 rfl) ?_
  refine lv_aload_n hx hb (show decode code 329 = .ok (.aload_n 0, 1) by decide +kernel) rfl (lv_at hl 0 rfl) ?_
  refine lv_iload hx hb (show decode code 330 = .ok (.iload 4, 2) by decide +kernel) (lv_at hl 4 rfl) ?_
  refine lv_iconst (n := 1) (v := 1) hx hb (show decode code 332 = .ok (.iconst 1, 1) by decide +kernel) (by decide) ?_
  refine lv_iadd hx hb (show decode code 333 = .ok (.iadd, 1) by decide +kernel) ?_
  rw [show nI i + 1 = nI (i + 1) from nI_add i 1]
  refine va_sld hx hb hX hbl hbA Wd0 (vp_in_nI (show i + 1 < L by omega) (by omega)) (show decode code 334 = .ok (.iaload, 1) by decide +kernel) ?_
  rw [nI_clamp (show i + 1 < 2147483648 by omega)]
  refine lv_aload_n hx hb (show decode code 335 = .ok (.aload_n 3, 1) by decide +kernel) rfl (lv_at hl 3 rfl) ?_
  refine sr_wS (As := [sr_r 10 0, sr_i (xs (i + 1)), sr_r 23 0]) (em := sr_em) (M := sr_Ml meth c) (v := some (sr_i (r1))) (t1 := t1) (rest := []) (mc1 := 2) (ms1 := 12) C Wd hl.1 (Nat.le_of_ble_eq_true rfl) (Nat.le_of_ble_eq_true rfl) (by omega) (by omega) (fun hq => nomatch hq) fh_153 (show decode code 336 = .ok (.invokestatic 153, 3) by decide +kernel) rm_Law_L_up rfl (Nat.le_of_ble_eq_true rfl) (e1 ▸ CL_up_23 l (xs (i + 1)) tt) (fun H1 locs1 Wd1 => ?_)
  have Wd0 := Wd1.2.2
  refine W.eq (g2 := F0 m 339 ls [.int r1]) rfl ?_
  refine lv_istore (lv' := [(5, .int r1), (0, .ref b), (1, .ref (sr_ad s.heap.size 10 0)), (2, .ref (sr_ad s.heap.size 11 0)), (3, .ref (sr_ad s.heap.size 23 0)), (4, .int (nI i))]) hx hb (show decode code 339 = .ok (.istore 5, 2) by decide +kernel) hl (by decide) rfl (fun ls hl => ?_)
  refine lv_aload_n hx hb (show decode code 341 = .ok (.aload_n 2, 1) by decide +kernel) rfl (lv_at hl 3 rfl) ?_
  refine lv_aload_n hx hb (show decode code 342 = .ok (.aload_n 0, 1) by decide +kernel) rfl (lv_at hl 1 rfl) ?_
  refine lv_iload hx hb (show decode code 343 = .ok (.iload 4, 2) by decide +kernel) (lv_at hl 5 rfl) ?_
  refine lv_iconst (n := 1) (v := 1) hx hb (show decode code 345 = .ok (.iconst 1, 1) by decide +kernel) (by decide) ?_
  refine lv_iadd hx hb (show decode code 346 = .ok (.iadd, 1) by decide +kernel) ?_
  rw [show nI i + 1 = nI (i + 1) from nI_add i 1]
  refine va_sld hx hb hX hbl hbA Wd0 (vp_in_nI (show i + 1 < L by omega) (by omega)) (show decode code 347 = .ok (.iaload, 1) by decide +kernel) ?_
  rw [nI_clamp (show i + 1 < 2147483648 by omega)]
  refine sr_wV (k := 11) (i := 0) (As := [sr_i (xs (i + 1))]) (em := sr_em) (M := sr_Ml meth c) (v := some (sr_i (r2))) (t1 := t2) (rest := []) (mc1 := 0) (ms1 := 0) C Wd1 hl.1 (Nat.le_of_ble_eq_true rfl) (Nat.le_of_ble_eq_true rfl) (by omega) (by omega) (fun hq => nomatch hq) fm_L_155 fl_L_155 (show decode code 348 = .ok (.invokevirtual 155, 3) by decide +kernel) (sr_in11 0 (by decide)) rm_Law_11_up rfl (Nat.le_of_ble_eq_true rfl) (e2 ▸ C11_up l (xs (i + 1)) t1) (fun H2 locs2 Wd2 => ?_)
  have Wd0 := Wd2.2.2
  refine W.eq (g2 := F0 m 351 ls [.int r2]) rfl ?_
  refine lv_istore (lv' := [(6, .int r2), (5, .int r1), (0, .ref b), (1, .ref (sr_ad s.heap.size 10 0)), (2, .ref (sr_ad s.heap.size 11 0)), (3, .ref (sr_ad s.heap.size 23 0)), (4, .int (nI i))]) hx hb (show decode code 351 = .ok (.istore 6, 2) by decide +kernel) hl (by decide) rfl (fun ls hl => ?_)
  refine lv_aload_n hx hb (show decode code 353 = .ok (.aload_n 2, 1) by decide +kernel) rfl (lv_at hl 4 rfl) ?_
  refine sr_wV (k := 11) (i := 0) (As := []) (em := sr_em) (M := sr_Ml meth c) (v := some (sr_i (t2.1 11 0 0))) (t1 := t2) (rest := []) (mc1 := 0) (ms1 := 0) C Wd2 hl.1 (Nat.le_of_ble_eq_true rfl) (Nat.le_of_ble_eq_true rfl) (by omega) (by omega) (fun hq => nomatch hq) fm_L_146 fl_L_146 (show decode code 354 = .ok (.invokevirtual 146, 3) by decide +kernel) (sr_in11 0 (by decide)) rm_Law_11_thrown rfl (Nat.le_of_ble_eq_true rfl) ((show F11_thrown t2 = some (.inl (some (sr_i (t2.1 11 0 0))), t2) from rfl) ▸ C11_thrown l  t2) (fun H3 locs3 Wd3 => ?_)
  have Wd0 := Wd3.2.2
  refine W.eq (g2 := F0 m 357 ls [.int (t2.1 11 0 0)]) rfl ?_
  refine lv_iload hx hb (show decode code 357 = .ok (.iload 5, 2) by decide +kernel) (lv_at hl 1 rfl) ?_
  refine lv_icmp_eq (tgt := 364) hx hb (show decode code 359 = .ok (.if_icmp .eq 5, 3) by decide +kernel) (by decide) (fun _ => ?_) (fun hq => absurd hE hq)
  refine lv_iload hx hb (show decode code 364 = .ok (.iload 5, 2) by decide +kernel) (lv_at hl 1 rfl) ?_
  refine lv_if_ne (tgt := 381) hx hb (show decode code 366 = .ok (.ifCond .ne 15, 3) by decide +kernel) (by decide) (fun _ => ?_) (fun hk0 => ?_)
  · refine lv_goto (tgt := 2743) hx hb (show decode code 381 = .ok (.goto 2362, 3) by decide +kernel) (by decide) ?_
    refine W.widen (k := cells + 8) (n := slots + 48) (by omega) (by omega) ?_
    exact kk _ _ _ _ hI2 Wd3 (lv_sub hl [2, 3, 4, 5, 6] rfl)
  refine lv_aload_n hx hb (show decode code 369 = .ok (.aload_n 3, 1) by decide +kernel) rfl (lv_at hl 5 rfl) ?_
  refine lv_iconst (n := 0) (v := 0) hx hb (show decode code 370 = .ok (.iconst 0, 1) by decide +kernel) (by decide) ?_
  refine sr_wlal (M := sr_Ml meth c) (k := 23) (i := 0) (n := 1) (a := 0) C Wd3 rfl (by decide) (sr_in23 0 (by decide)) (by decide) (show decode code 371 = .ok (.laload, 1) by decide +kernel) ?_
  refine lv_iload hx hb (show decode code 372 = .ok (.iload 6, 2) by decide +kernel) (lv_at hl 0 rfl) ?_
  refine lv_i2l hx hb (show decode code 374 = .ok (.i2l, 1) by decide +kernel) rfl ?_
  refine W.lcmp hx hb (show decode code 375 = .ok (.lcmp, 1) by decide +kernel) ?_
  rw [show t2.2 23 0 (0 : Int32).toNatClampNeg = _ from hO hk0, sr_cmp0]
  refine lv_if_eq (tgt := 381) hx hb (show decode code 376 = .ok (.ifCond .eq 5, 3) by decide +kernel) (by decide) (fun _ => ?_) (fun hq => absurd rfl hq)
  refine lv_goto (tgt := 2743) hx hb (show decode code 381 = .ok (.goto 2362, 3) by decide +kernel) (by decide) ?_
  refine W.widen (k := cells + 8) (n := slots + 48) (by omega) (by omega) ?_
  exact kk _ _ _ _ hI2 Wd3 (lv_sub hl [2, 3, 4, 5, 6] rfl)
theorem lc_3 {Inv Inv' : sr_t → Prop} {p : Program} {l : Launch} {e : Env} {s : State} {m : MethodId} {below : List Frame} {meth : Method} {c : Code} {b L : Nat} {xs : Nat → Int32} {D : va_G} {dA : Nat → ClassId} {H : Heap} {locs : List Loc} {ls : Array Slot} {cells slots i : Nat} {tt : sr_t} (hL : L ≤ 2048) (C0 : lw_At p s m meth c b L xs) (C : sr_C l (sr_Ml meth c) p s m #[Value.ref b] meth c D dA s.heap.size) (hi : i + 4 ≤ L) (hstep : sr_ok3 Inv Inv' (fun t => FL_mend_23 (xs (i + 1)) t) (fun t => F11_mend (xs (i + 1)) t)) (hI : Inv tt) (Wd : sr_W D dA s.heap.size (sr_em tt) s H locs) (hl : lv_has ls 7 [(0, .ref b), (1, .ref (sr_ad s.heap.size 10 0)), (2, .ref (sr_ad s.heap.size 11 0)), (3, .ref (sr_ad s.heap.size 23 0)), (4, .int (nI i))]) (hc : cells + 8 ≤ 601024) (hs : slots + 48 ≤ 7293033) (kk : ∀ (tt' : sr_t) (H' : Heap) (locs' : List Loc) (ls' : Array Slot), Inv' tt' → sr_W D dA s.heap.size (sr_em tt') s H' locs' → lv_has ls' 7 [(0, .ref b), (1, .ref (sr_ad s.heap.size 10 0)), (2, .ref (sr_ad s.heap.size 11 0)), (3, .ref (sr_ad s.heap.size 23 0)), (4, .int (nI i))] → W p l e room_1 s m #[Value.ref b] below meth c H' locs' (cells + 8) (slots + 48) (lw_Z below #[Value.ref b] s) (F0 m 2743 ls' [])) : W p l e room_1 s m #[Value.ref b] below meth c H locs cells slots (lw_Z below #[Value.ref b] s) (F0 m 384 ls []) := by
  obtain ⟨hx, hb, hr, hml, hown, hts, hX, hbl, hlocks, hgv⟩ := C0
  have hbA : ¬ sr_A s.heap.size b := Nat.not_le.mpr hbl
  have Wd0 := Wd.2.2
  have hRc : room_1.cells = 601024 := rfl
  have hRs : room_1.slots = 7293033 := rfl
  obtain ⟨r1, t1, r2, t2, e1, e2, hE, hO, hI2⟩ := hstep tt hI
  refine lv_aload_n hx hb (show decode code 384 = .ok (.aload_n 1, 1) by decide +kernel) rfl (lv_at hl 1 rfl) ?_
  refine lv_aload_n hx hb (show decode code 385 = .ok (.aload_n 0, 1) by decide +kernel) rfl (lv_at hl 0 rfl) ?_
  refine lv_iload hx hb (show decode code 386 = .ok (.iload 4, 2) by decide +kernel) (lv_at hl 4 rfl) ?_
  refine lv_iconst (n := 1) (v := 1) hx hb (show decode code 388 = .ok (.iconst 1, 1) by decide +kernel) (by decide) ?_
  refine lv_iadd hx hb (show decode code 389 = .ok (.iadd, 1) by decide +kernel) ?_
  rw [show nI i + 1 = nI (i + 1) from nI_add i 1]
  refine va_sld hx hb hX hbl hbA Wd0 (vp_in_nI (show i + 1 < L by omega) (by omega)) (show decode code 390 = .ok (.iaload, 1) by decide +kernel) ?_
  rw [nI_clamp (show i + 1 < 2147483648 by omega)]
  refine lv_aload_n hx hb (show decode code 391 = .ok (.aload_n 3, 1) by decide +kernel) rfl (lv_at hl 3 rfl) ?_
  refine sr_wS (As := [sr_r 10 0, sr_i (xs (i + 1)), sr_r 23 0]) (em := sr_em) (M := sr_Ml meth c) (v := some (sr_i (r1))) (t1 := t1) (rest := []) (mc1 := 2) (ms1 := 12) C Wd hl.1 (Nat.le_of_ble_eq_true rfl) (Nat.le_of_ble_eq_true rfl) (by omega) (by omega) (fun hq => nomatch hq) fh_156 (show decode code 392 = .ok (.invokestatic 156, 3) by decide +kernel) rm_Law_L_mend rfl (Nat.le_of_ble_eq_true rfl) (e1 ▸ CL_mend_23 l (xs (i + 1)) tt) (fun H1 locs1 Wd1 => ?_)
  have Wd0 := Wd1.2.2
  refine W.eq (g2 := F0 m 395 ls [.int r1]) rfl ?_
  refine lv_istore (lv' := [(5, .int r1), (0, .ref b), (1, .ref (sr_ad s.heap.size 10 0)), (2, .ref (sr_ad s.heap.size 11 0)), (3, .ref (sr_ad s.heap.size 23 0)), (4, .int (nI i))]) hx hb (show decode code 395 = .ok (.istore 5, 2) by decide +kernel) hl (by decide) rfl (fun ls hl => ?_)
  refine lv_aload_n hx hb (show decode code 397 = .ok (.aload_n 2, 1) by decide +kernel) rfl (lv_at hl 3 rfl) ?_
  refine lv_aload_n hx hb (show decode code 398 = .ok (.aload_n 0, 1) by decide +kernel) rfl (lv_at hl 1 rfl) ?_
  refine lv_iload hx hb (show decode code 399 = .ok (.iload 4, 2) by decide +kernel) (lv_at hl 5 rfl) ?_
  refine lv_iconst (n := 1) (v := 1) hx hb (show decode code 401 = .ok (.iconst 1, 1) by decide +kernel) (by decide) ?_
  refine lv_iadd hx hb (show decode code 402 = .ok (.iadd, 1) by decide +kernel) ?_
  rw [show nI i + 1 = nI (i + 1) from nI_add i 1]
  refine va_sld hx hb hX hbl hbA Wd0 (vp_in_nI (show i + 1 < L by omega) (by omega)) (show decode code 403 = .ok (.iaload, 1) by decide +kernel) ?_
  rw [nI_clamp (show i + 1 < 2147483648 by omega)]
  refine sr_wV (k := 11) (i := 0) (As := [sr_i (xs (i + 1))]) (em := sr_em) (M := sr_Ml meth c) (v := some (sr_i (r2))) (t1 := t2) (rest := []) (mc1 := 0) (ms1 := 0) C Wd1 hl.1 (Nat.le_of_ble_eq_true rfl) (Nat.le_of_ble_eq_true rfl) (by omega) (by omega) (fun hq => nomatch hq) fm_L_158 fl_L_158 (show decode code 404 = .ok (.invokevirtual 158, 3) by decide +kernel) (sr_in11 0 (by decide)) rm_Law_11_mend rfl (Nat.le_of_ble_eq_true rfl) (e2 ▸ C11_mend l (xs (i + 1)) t1) (fun H2 locs2 Wd2 => ?_)
  have Wd0 := Wd2.2.2
  refine W.eq (g2 := F0 m 407 ls [.int r2]) rfl ?_
  refine lv_istore (lv' := [(6, .int r2), (5, .int r1), (0, .ref b), (1, .ref (sr_ad s.heap.size 10 0)), (2, .ref (sr_ad s.heap.size 11 0)), (3, .ref (sr_ad s.heap.size 23 0)), (4, .int (nI i))]) hx hb (show decode code 407 = .ok (.istore 6, 2) by decide +kernel) hl (by decide) rfl (fun ls hl => ?_)
  refine lv_aload_n hx hb (show decode code 409 = .ok (.aload_n 2, 1) by decide +kernel) rfl (lv_at hl 4 rfl) ?_
  refine sr_wV (k := 11) (i := 0) (As := []) (em := sr_em) (M := sr_Ml meth c) (v := some (sr_i (t2.1 11 0 0))) (t1 := t2) (rest := []) (mc1 := 0) (ms1 := 0) C Wd2 hl.1 (Nat.le_of_ble_eq_true rfl) (Nat.le_of_ble_eq_true rfl) (by omega) (by omega) (fun hq => nomatch hq) fm_L_146 fl_L_146 (show decode code 410 = .ok (.invokevirtual 146, 3) by decide +kernel) (sr_in11 0 (by decide)) rm_Law_11_thrown rfl (Nat.le_of_ble_eq_true rfl) ((show F11_thrown t2 = some (.inl (some (sr_i (t2.1 11 0 0))), t2) from rfl) ▸ C11_thrown l  t2) (fun H3 locs3 Wd3 => ?_)
  have Wd0 := Wd3.2.2
  refine W.eq (g2 := F0 m 413 ls [.int (t2.1 11 0 0)]) rfl ?_
  refine lv_iload hx hb (show decode code 413 = .ok (.iload 5, 2) by decide +kernel) (lv_at hl 1 rfl) ?_
  refine lv_icmp_eq (tgt := 420) hx hb (show decode code 415 = .ok (.if_icmp .eq 5, 3) by decide +kernel) (by decide) (fun _ => ?_) (fun hq => absurd hE hq)
  refine lv_iload hx hb (show decode code 420 = .ok (.iload 5, 2) by decide +kernel) (lv_at hl 1 rfl) ?_
  refine lv_if_ne (tgt := 437) hx hb (show decode code 422 = .ok (.ifCond .ne 15, 3) by decide +kernel) (by decide) (fun _ => ?_) (fun hk0 => ?_)
  · refine lv_goto (tgt := 2743) hx hb (show decode code 437 = .ok (.goto 2306, 3) by decide +kernel) (by decide) ?_
    refine W.widen (k := cells + 8) (n := slots + 48) (by omega) (by omega) ?_
    exact kk _ _ _ _ hI2 Wd3 (lv_sub hl [2, 3, 4, 5, 6] rfl)
  refine lv_aload_n hx hb (show decode code 425 = .ok (.aload_n 3, 1) by decide +kernel) rfl (lv_at hl 5 rfl) ?_
  refine lv_iconst (n := 0) (v := 0) hx hb (show decode code 426 = .ok (.iconst 0, 1) by decide +kernel) (by decide) ?_
  refine sr_wlal (M := sr_Ml meth c) (k := 23) (i := 0) (n := 1) (a := 0) C Wd3 rfl (by decide) (sr_in23 0 (by decide)) (by decide) (show decode code 427 = .ok (.laload, 1) by decide +kernel) ?_
  refine lv_iload hx hb (show decode code 428 = .ok (.iload 6, 2) by decide +kernel) (lv_at hl 0 rfl) ?_
  refine lv_i2l hx hb (show decode code 430 = .ok (.i2l, 1) by decide +kernel) rfl ?_
  refine W.lcmp hx hb (show decode code 431 = .ok (.lcmp, 1) by decide +kernel) ?_
  rw [show t2.2 23 0 (0 : Int32).toNatClampNeg = _ from hO hk0, sr_cmp0]
  refine lv_if_eq (tgt := 437) hx hb (show decode code 432 = .ok (.ifCond .eq 5, 3) by decide +kernel) (by decide) (fun _ => ?_) (fun hq => absurd rfl hq)
  refine lv_goto (tgt := 2743) hx hb (show decode code 437 = .ok (.goto 2306, 3) by decide +kernel) (by decide) ?_
  refine W.widen (k := cells + 8) (n := slots + 48) (by omega) (by omega) ?_
  exact kk _ _ _ _ hI2 Wd3 (lv_sub hl [2, 3, 4, 5, 6] rfl)
theorem lc_4 {Inv Inv' : sr_t → Prop} {p : Program} {l : Launch} {e : Env} {s : State} {m : MethodId} {below : List Frame} {meth : Method} {c : Code} {b L : Nat} {xs : Nat → Int32} {D : va_G} {dA : Nat → ClassId} {H : Heap} {locs : List Loc} {ls : Array Slot} {cells slots i : Nat} {tt : sr_t} (hL : L ≤ 2048) (C0 : lw_At p s m meth c b L xs) (C : sr_C l (sr_Ml meth c) p s m #[Value.ref b] meth c D dA s.heap.size) (hi : i + 4 ≤ L) (hstep : sr_ok2 Inv Inv' (fun t => F10_mendAll  t) (fun t => F11_mendAll  t)) (hI : Inv tt) (Wd : sr_W D dA s.heap.size (sr_em tt) s H locs) (hl : lv_has ls 7 [(0, .ref b), (1, .ref (sr_ad s.heap.size 10 0)), (2, .ref (sr_ad s.heap.size 11 0)), (3, .ref (sr_ad s.heap.size 23 0)), (4, .int (nI i))]) (hc : cells + 8 ≤ 601024) (hs : slots + 48 ≤ 7293033) (kk : ∀ (tt' : sr_t) (H' : Heap) (locs' : List Loc) (ls' : Array Slot), Inv' tt' → sr_W D dA s.heap.size (sr_em tt') s H' locs' → lv_has ls' 7 [(0, .ref b), (1, .ref (sr_ad s.heap.size 10 0)), (2, .ref (sr_ad s.heap.size 11 0)), (3, .ref (sr_ad s.heap.size 23 0)), (4, .int (nI i))] → W p l e room_1 s m #[Value.ref b] below meth c H' locs' (cells + 8) (slots + 48) (lw_Z below #[Value.ref b] s) (F0 m 2743 ls' [])) : W p l e room_1 s m #[Value.ref b] below meth c H locs cells slots (lw_Z below #[Value.ref b] s) (F0 m 440 ls []) := by
  obtain ⟨hx, hb, hr, hml, hown, hts, hX, hbl, hlocks, hgv⟩ := C0
  have hbA : ¬ sr_A s.heap.size b := Nat.not_le.mpr hbl
  have Wd0 := Wd.2.2
  have hRc : room_1.cells = 601024 := rfl
  have hRs : room_1.slots = 7293033 := rfl
  obtain ⟨r1, t1, r2, t2, e1, e2, hE, hI2⟩ := hstep tt hI
  refine lv_aload_n hx hb (show decode code 440 = .ok (.aload_n 1, 1) by decide +kernel) rfl (lv_at hl 1 rfl) ?_
  refine sr_wV (k := 10) (i := 0) (As := []) (em := sr_em) (M := sr_Ml meth c) (v := some (sr_i (r1))) (t1 := t1) (rest := []) (mc1 := 0) (ms1 := 0) C Wd hl.1 (Nat.le_of_ble_eq_true rfl) (Nat.le_of_ble_eq_true rfl) (by omega) (by omega) (fun hq => nomatch hq) fm_L_159 fl_L_159 (show decode code 441 = .ok (.invokevirtual 159, 3) by decide +kernel) (sr_in10 0 (by decide)) rm_Law_10_mendAll rfl (Nat.le_of_ble_eq_true rfl) (e1 ▸ C10_mendAll l  tt) (fun H1 locs1 Wd1 => ?_)
  have Wd0 := Wd1.2.2
  refine W.eq (g2 := F0 m 444 ls [.int r1]) rfl ?_
  refine lv_aload_n hx hb (show decode code 444 = .ok (.aload_n 2, 1) by decide +kernel) rfl (lv_at hl 2 rfl) ?_
  refine sr_wV (k := 11) (i := 0) (As := []) (em := sr_em) (M := sr_Ml meth c) (v := some (sr_i (r2))) (t1 := t2) (rest := [.int r1]) (mc1 := 0) (ms1 := 0) C Wd1 hl.1 (Nat.le_of_ble_eq_true rfl) (Nat.le_of_ble_eq_true rfl) (by omega) (by omega) (fun hq => nomatch hq) fm_L_162 fl_L_162 (show decode code 445 = .ok (.invokevirtual 162, 3) by decide +kernel) (sr_in11 0 (by decide)) rm_Law_11_mendAll rfl (Nat.le_of_ble_eq_true rfl) (e2 ▸ C11_mendAll l  t1) (fun H2 locs2 Wd2 => ?_)
  have Wd0 := Wd2.2.2
  refine W.eq (g2 := F0 m 448 ls [.int r2, .int r1]) rfl ?_
  refine lv_icmp_eq (tgt := 2743) hx hb (show decode code 448 = .ok (.if_icmp .eq 2295, 3) by decide +kernel) (by decide) (fun _ => ?_) (fun hq => absurd hE hq)
  refine W.widen (k := cells + 8) (n := slots + 48) (by omega) (by omega) ?_
  exact kk _ _ _ _ hI2 Wd2 (lv_sub hl [0, 1, 2, 3, 4] rfl)
theorem lc_5 {Inv Inv' : sr_t → Prop} {p : Program} {l : Launch} {e : Env} {s : State} {m : MethodId} {below : List Frame} {meth : Method} {c : Code} {b L : Nat} {xs : Nat → Int32} {D : va_G} {dA : Nat → ClassId} {H : Heap} {locs : List Loc} {ls : Array Slot} {cells slots i : Nat} {tt : sr_t} (hL : L ≤ 2048) (C0 : lw_At p s m meth c b L xs) (C : sr_C l (sr_Ml meth c) p s m #[Value.ref b] meth c D dA s.heap.size) (hi : i + 4 ≤ L) (hstep : sr_ok3 Inv Inv' (fun t => FL_turn_23 (xs (i + 1)) t) (fun t => F11_turn (xs (i + 1)) t)) (hI : Inv tt) (Wd : sr_W D dA s.heap.size (sr_em tt) s H locs) (hl : lv_has ls 7 [(0, .ref b), (1, .ref (sr_ad s.heap.size 10 0)), (2, .ref (sr_ad s.heap.size 11 0)), (3, .ref (sr_ad s.heap.size 23 0)), (4, .int (nI i))]) (hc : cells + 8 ≤ 601024) (hs : slots + 48 ≤ 7293033) (kk : ∀ (tt' : sr_t) (H' : Heap) (locs' : List Loc) (ls' : Array Slot), Inv' tt' → sr_W D dA s.heap.size (sr_em tt') s H' locs' → lv_has ls' 7 [(0, .ref b), (1, .ref (sr_ad s.heap.size 10 0)), (2, .ref (sr_ad s.heap.size 11 0)), (3, .ref (sr_ad s.heap.size 23 0)), (4, .int (nI i))] → W p l e room_1 s m #[Value.ref b] below meth c H' locs' (cells + 8) (slots + 48) (lw_Z below #[Value.ref b] s) (F0 m 2743 ls' [])) : W p l e room_1 s m #[Value.ref b] below meth c H locs cells slots (lw_Z below #[Value.ref b] s) (F0 m 453 ls []) := by
  obtain ⟨hx, hb, hr, hml, hown, hts, hX, hbl, hlocks, hgv⟩ := C0
  have hbA : ¬ sr_A s.heap.size b := Nat.not_le.mpr hbl
  have Wd0 := Wd.2.2
  have hRc : room_1.cells = 601024 := rfl
  have hRs : room_1.slots = 7293033 := rfl
  obtain ⟨r1, t1, r2, t2, e1, e2, hE, hO, hI2⟩ := hstep tt hI
  refine lv_aload_n hx hb (show decode code 453 = .ok (.aload_n 1, 1) by decide +kernel) rfl (lv_at hl 1 rfl) ?_
  refine lv_aload_n hx hb (show decode code 454 = .ok (.aload_n 0, 1) by decide +kernel) rfl (lv_at hl 0 rfl) ?_
  refine lv_iload hx hb (show decode code 455 = .ok (.iload 4, 2) by decide +kernel) (lv_at hl 4 rfl) ?_
  refine lv_iconst (n := 1) (v := 1) hx hb (show decode code 457 = .ok (.iconst 1, 1) by decide +kernel) (by decide) ?_
  refine lv_iadd hx hb (show decode code 458 = .ok (.iadd, 1) by decide +kernel) ?_
  rw [show nI i + 1 = nI (i + 1) from nI_add i 1]
  refine va_sld hx hb hX hbl hbA Wd0 (vp_in_nI (show i + 1 < L by omega) (by omega)) (show decode code 459 = .ok (.iaload, 1) by decide +kernel) ?_
  rw [nI_clamp (show i + 1 < 2147483648 by omega)]
  refine lv_aload_n hx hb (show decode code 460 = .ok (.aload_n 3, 1) by decide +kernel) rfl (lv_at hl 3 rfl) ?_
  refine sr_wS (As := [sr_r 10 0, sr_i (xs (i + 1)), sr_r 23 0]) (em := sr_em) (M := sr_Ml meth c) (v := some (sr_i (r1))) (t1 := t1) (rest := []) (mc1 := 1) (ms1 := 6) C Wd hl.1 (Nat.le_of_ble_eq_true rfl) (Nat.le_of_ble_eq_true rfl) (by omega) (by omega) (fun hq => nomatch hq) fh_163 (show decode code 461 = .ok (.invokestatic 163, 3) by decide +kernel) rm_Law_L_turn rfl (Nat.le_of_ble_eq_true rfl) (e1 ▸ CL_turn_23 l (xs (i + 1)) tt) (fun H1 locs1 Wd1 => ?_)
  have Wd0 := Wd1.2.2
  refine W.eq (g2 := F0 m 464 ls [.int r1]) rfl ?_
  refine lv_istore (lv' := [(5, .int r1), (0, .ref b), (1, .ref (sr_ad s.heap.size 10 0)), (2, .ref (sr_ad s.heap.size 11 0)), (3, .ref (sr_ad s.heap.size 23 0)), (4, .int (nI i))]) hx hb (show decode code 464 = .ok (.istore 5, 2) by decide +kernel) hl (by decide) rfl (fun ls hl => ?_)
  refine lv_aload_n hx hb (show decode code 466 = .ok (.aload_n 2, 1) by decide +kernel) rfl (lv_at hl 3 rfl) ?_
  refine lv_aload_n hx hb (show decode code 467 = .ok (.aload_n 0, 1) by decide +kernel) rfl (lv_at hl 1 rfl) ?_
  refine lv_iload hx hb (show decode code 468 = .ok (.iload 4, 2) by decide +kernel) (lv_at hl 5 rfl) ?_
  refine lv_iconst (n := 1) (v := 1) hx hb (show decode code 470 = .ok (.iconst 1, 1) by decide +kernel) (by decide) ?_
  refine lv_iadd hx hb (show decode code 471 = .ok (.iadd, 1) by decide +kernel) ?_
  rw [show nI i + 1 = nI (i + 1) from nI_add i 1]
  refine va_sld hx hb hX hbl hbA Wd0 (vp_in_nI (show i + 1 < L by omega) (by omega)) (show decode code 472 = .ok (.iaload, 1) by decide +kernel) ?_
  rw [nI_clamp (show i + 1 < 2147483648 by omega)]
  refine sr_wV (k := 11) (i := 0) (As := [sr_i (xs (i + 1))]) (em := sr_em) (M := sr_Ml meth c) (v := some (sr_i (r2))) (t1 := t2) (rest := []) (mc1 := 0) (ms1 := 0) C Wd1 hl.1 (Nat.le_of_ble_eq_true rfl) (Nat.le_of_ble_eq_true rfl) (by omega) (by omega) (fun hq => nomatch hq) fm_L_165 fl_L_165 (show decode code 473 = .ok (.invokevirtual 165, 3) by decide +kernel) (sr_in11 0 (by decide)) rm_Law_11_turn rfl (Nat.le_of_ble_eq_true rfl) (e2 ▸ C11_turn l (xs (i + 1)) t1) (fun H2 locs2 Wd2 => ?_)
  have Wd0 := Wd2.2.2
  refine W.eq (g2 := F0 m 476 ls [.int r2]) rfl ?_
  refine lv_istore (lv' := [(6, .int r2), (5, .int r1), (0, .ref b), (1, .ref (sr_ad s.heap.size 10 0)), (2, .ref (sr_ad s.heap.size 11 0)), (3, .ref (sr_ad s.heap.size 23 0)), (4, .int (nI i))]) hx hb (show decode code 476 = .ok (.istore 6, 2) by decide +kernel) hl (by decide) rfl (fun ls hl => ?_)
  refine lv_aload_n hx hb (show decode code 478 = .ok (.aload_n 2, 1) by decide +kernel) rfl (lv_at hl 4 rfl) ?_
  refine sr_wV (k := 11) (i := 0) (As := []) (em := sr_em) (M := sr_Ml meth c) (v := some (sr_i (t2.1 11 0 0))) (t1 := t2) (rest := []) (mc1 := 0) (ms1 := 0) C Wd2 hl.1 (Nat.le_of_ble_eq_true rfl) (Nat.le_of_ble_eq_true rfl) (by omega) (by omega) (fun hq => nomatch hq) fm_L_146 fl_L_146 (show decode code 479 = .ok (.invokevirtual 146, 3) by decide +kernel) (sr_in11 0 (by decide)) rm_Law_11_thrown rfl (Nat.le_of_ble_eq_true rfl) ((show F11_thrown t2 = some (.inl (some (sr_i (t2.1 11 0 0))), t2) from rfl) ▸ C11_thrown l  t2) (fun H3 locs3 Wd3 => ?_)
  have Wd0 := Wd3.2.2
  refine W.eq (g2 := F0 m 482 ls [.int (t2.1 11 0 0)]) rfl ?_
  refine lv_iload hx hb (show decode code 482 = .ok (.iload 5, 2) by decide +kernel) (lv_at hl 1 rfl) ?_
  refine lv_icmp_eq (tgt := 489) hx hb (show decode code 484 = .ok (.if_icmp .eq 5, 3) by decide +kernel) (by decide) (fun _ => ?_) (fun hq => absurd hE hq)
  refine lv_iload hx hb (show decode code 489 = .ok (.iload 5, 2) by decide +kernel) (lv_at hl 1 rfl) ?_
  refine lv_if_ne (tgt := 506) hx hb (show decode code 491 = .ok (.ifCond .ne 15, 3) by decide +kernel) (by decide) (fun _ => ?_) (fun hk0 => ?_)
  · refine lv_goto (tgt := 2743) hx hb (show decode code 506 = .ok (.goto 2237, 3) by decide +kernel) (by decide) ?_
    refine W.widen (k := cells + 8) (n := slots + 48) (by omega) (by omega) ?_
    exact kk _ _ _ _ hI2 Wd3 (lv_sub hl [2, 3, 4, 5, 6] rfl)
  refine lv_aload_n hx hb (show decode code 494 = .ok (.aload_n 3, 1) by decide +kernel) rfl (lv_at hl 5 rfl) ?_
  refine lv_iconst (n := 0) (v := 0) hx hb (show decode code 495 = .ok (.iconst 0, 1) by decide +kernel) (by decide) ?_
  refine sr_wlal (M := sr_Ml meth c) (k := 23) (i := 0) (n := 1) (a := 0) C Wd3 rfl (by decide) (sr_in23 0 (by decide)) (by decide) (show decode code 496 = .ok (.laload, 1) by decide +kernel) ?_
  refine lv_iload hx hb (show decode code 497 = .ok (.iload 6, 2) by decide +kernel) (lv_at hl 0 rfl) ?_
  refine lv_i2l hx hb (show decode code 499 = .ok (.i2l, 1) by decide +kernel) rfl ?_
  refine W.lcmp hx hb (show decode code 500 = .ok (.lcmp, 1) by decide +kernel) ?_
  rw [show t2.2 23 0 (0 : Int32).toNatClampNeg = _ from hO hk0, sr_cmp0]
  refine lv_if_eq (tgt := 506) hx hb (show decode code 501 = .ok (.ifCond .eq 5, 3) by decide +kernel) (by decide) (fun _ => ?_) (fun hq => absurd rfl hq)
  refine lv_goto (tgt := 2743) hx hb (show decode code 506 = .ok (.goto 2237, 3) by decide +kernel) (by decide) ?_
  refine W.widen (k := cells + 8) (n := slots + 48) (by omega) (by omega) ?_
  exact kk _ _ _ _ hI2 Wd3 (lv_sub hl [2, 3, 4, 5, 6] rfl)
theorem lc_6 {Inv Inv' : sr_t → Prop} {p : Program} {l : Launch} {e : Env} {s : State} {m : MethodId} {below : List Frame} {meth : Method} {c : Code} {b L : Nat} {xs : Nat → Int32} {D : va_G} {dA : Nat → ClassId} {H : Heap} {locs : List Loc} {ls : Array Slot} {cells slots i : Nat} {tt : sr_t} (hL : L ≤ 2048) (C0 : lw_At p s m meth c b L xs) (C : sr_C l (sr_Ml meth c) p s m #[Value.ref b] meth c D dA s.heap.size) (hi : i + 4 ≤ L) (hstep : sr_ok3 Inv Inv' (fun t => FL_degree_23 (xs (i + 1)) t) (fun t => F11_degree (xs (i + 1)) t)) (hI : Inv tt) (Wd : sr_W D dA s.heap.size (sr_em tt) s H locs) (hl : lv_has ls 7 [(0, .ref b), (1, .ref (sr_ad s.heap.size 10 0)), (2, .ref (sr_ad s.heap.size 11 0)), (3, .ref (sr_ad s.heap.size 23 0)), (4, .int (nI i))]) (hc : cells + 8 ≤ 601024) (hs : slots + 48 ≤ 7293033) (kk : ∀ (tt' : sr_t) (H' : Heap) (locs' : List Loc) (ls' : Array Slot), Inv' tt' → sr_W D dA s.heap.size (sr_em tt') s H' locs' → lv_has ls' 7 [(0, .ref b), (1, .ref (sr_ad s.heap.size 10 0)), (2, .ref (sr_ad s.heap.size 11 0)), (3, .ref (sr_ad s.heap.size 23 0)), (4, .int (nI i))] → W p l e room_1 s m #[Value.ref b] below meth c H' locs' (cells + 8) (slots + 48) (lw_Z below #[Value.ref b] s) (F0 m 2743 ls' [])) : W p l e room_1 s m #[Value.ref b] below meth c H locs cells slots (lw_Z below #[Value.ref b] s) (F0 m 509 ls []) := by
  obtain ⟨hx, hb, hr, hml, hown, hts, hX, hbl, hlocks, hgv⟩ := C0
  have hbA : ¬ sr_A s.heap.size b := Nat.not_le.mpr hbl
  have Wd0 := Wd.2.2
  have hRc : room_1.cells = 601024 := rfl
  have hRs : room_1.slots = 7293033 := rfl
  obtain ⟨r1, t1, r2, t2, e1, e2, hE, hO, hI2⟩ := hstep tt hI
  refine lv_aload_n hx hb (show decode code 509 = .ok (.aload_n 1, 1) by decide +kernel) rfl (lv_at hl 1 rfl) ?_
  refine lv_aload_n hx hb (show decode code 510 = .ok (.aload_n 0, 1) by decide +kernel) rfl (lv_at hl 0 rfl) ?_
  refine lv_iload hx hb (show decode code 511 = .ok (.iload 4, 2) by decide +kernel) (lv_at hl 4 rfl) ?_
  refine lv_iconst (n := 1) (v := 1) hx hb (show decode code 513 = .ok (.iconst 1, 1) by decide +kernel) (by decide) ?_
  refine lv_iadd hx hb (show decode code 514 = .ok (.iadd, 1) by decide +kernel) ?_
  rw [show nI i + 1 = nI (i + 1) from nI_add i 1]
  refine va_sld hx hb hX hbl hbA Wd0 (vp_in_nI (show i + 1 < L by omega) (by omega)) (show decode code 515 = .ok (.iaload, 1) by decide +kernel) ?_
  rw [nI_clamp (show i + 1 < 2147483648 by omega)]
  refine lv_aload_n hx hb (show decode code 516 = .ok (.aload_n 3, 1) by decide +kernel) rfl (lv_at hl 3 rfl) ?_
  refine sr_wS (As := [sr_r 10 0, sr_i (xs (i + 1)), sr_r 23 0]) (em := sr_em) (M := sr_Ml meth c) (v := some (sr_i (r1))) (t1 := t1) (rest := []) (mc1 := 1) (ms1 := 6) C Wd hl.1 (Nat.le_of_ble_eq_true rfl) (Nat.le_of_ble_eq_true rfl) (by omega) (by omega) (fun hq => nomatch hq) fh_166 (show decode code 517 = .ok (.invokestatic 166, 3) by decide +kernel) rm_Law_L_degree rfl (Nat.le_of_ble_eq_true rfl) (e1 ▸ CL_degree_23 l (xs (i + 1)) tt) (fun H1 locs1 Wd1 => ?_)
  have Wd0 := Wd1.2.2
  refine W.eq (g2 := F0 m 520 ls [.int r1]) rfl ?_
  refine lv_istore (lv' := [(5, .int r1), (0, .ref b), (1, .ref (sr_ad s.heap.size 10 0)), (2, .ref (sr_ad s.heap.size 11 0)), (3, .ref (sr_ad s.heap.size 23 0)), (4, .int (nI i))]) hx hb (show decode code 520 = .ok (.istore 5, 2) by decide +kernel) hl (by decide) rfl (fun ls hl => ?_)
  refine lv_aload_n hx hb (show decode code 522 = .ok (.aload_n 2, 1) by decide +kernel) rfl (lv_at hl 3 rfl) ?_
  refine lv_aload_n hx hb (show decode code 523 = .ok (.aload_n 0, 1) by decide +kernel) rfl (lv_at hl 1 rfl) ?_
  refine lv_iload hx hb (show decode code 524 = .ok (.iload 4, 2) by decide +kernel) (lv_at hl 5 rfl) ?_
  refine lv_iconst (n := 1) (v := 1) hx hb (show decode code 526 = .ok (.iconst 1, 1) by decide +kernel) (by decide) ?_
  refine lv_iadd hx hb (show decode code 527 = .ok (.iadd, 1) by decide +kernel) ?_
  rw [show nI i + 1 = nI (i + 1) from nI_add i 1]
  refine va_sld hx hb hX hbl hbA Wd0 (vp_in_nI (show i + 1 < L by omega) (by omega)) (show decode code 528 = .ok (.iaload, 1) by decide +kernel) ?_
  rw [nI_clamp (show i + 1 < 2147483648 by omega)]
  refine sr_wV (k := 11) (i := 0) (As := [sr_i (xs (i + 1))]) (em := sr_em) (M := sr_Ml meth c) (v := some (sr_i (r2))) (t1 := t2) (rest := []) (mc1 := 0) (ms1 := 0) C Wd1 hl.1 (Nat.le_of_ble_eq_true rfl) (Nat.le_of_ble_eq_true rfl) (by omega) (by omega) (fun hq => nomatch hq) fm_L_168 fl_L_168 (show decode code 529 = .ok (.invokevirtual 168, 3) by decide +kernel) (sr_in11 0 (by decide)) rm_Law_11_degree rfl (Nat.le_of_ble_eq_true rfl) (e2 ▸ C11_degree l (xs (i + 1)) t1) (fun H2 locs2 Wd2 => ?_)
  have Wd0 := Wd2.2.2
  refine W.eq (g2 := F0 m 532 ls [.int r2]) rfl ?_
  refine lv_istore (lv' := [(6, .int r2), (5, .int r1), (0, .ref b), (1, .ref (sr_ad s.heap.size 10 0)), (2, .ref (sr_ad s.heap.size 11 0)), (3, .ref (sr_ad s.heap.size 23 0)), (4, .int (nI i))]) hx hb (show decode code 532 = .ok (.istore 6, 2) by decide +kernel) hl (by decide) rfl (fun ls hl => ?_)
  refine lv_aload_n hx hb (show decode code 534 = .ok (.aload_n 2, 1) by decide +kernel) rfl (lv_at hl 4 rfl) ?_
  refine sr_wV (k := 11) (i := 0) (As := []) (em := sr_em) (M := sr_Ml meth c) (v := some (sr_i (t2.1 11 0 0))) (t1 := t2) (rest := []) (mc1 := 0) (ms1 := 0) C Wd2 hl.1 (Nat.le_of_ble_eq_true rfl) (Nat.le_of_ble_eq_true rfl) (by omega) (by omega) (fun hq => nomatch hq) fm_L_146 fl_L_146 (show decode code 535 = .ok (.invokevirtual 146, 3) by decide +kernel) (sr_in11 0 (by decide)) rm_Law_11_thrown rfl (Nat.le_of_ble_eq_true rfl) ((show F11_thrown t2 = some (.inl (some (sr_i (t2.1 11 0 0))), t2) from rfl) ▸ C11_thrown l  t2) (fun H3 locs3 Wd3 => ?_)
  have Wd0 := Wd3.2.2
  refine W.eq (g2 := F0 m 538 ls [.int (t2.1 11 0 0)]) rfl ?_
  refine lv_iload hx hb (show decode code 538 = .ok (.iload 5, 2) by decide +kernel) (lv_at hl 1 rfl) ?_
  refine lv_icmp_eq (tgt := 545) hx hb (show decode code 540 = .ok (.if_icmp .eq 5, 3) by decide +kernel) (by decide) (fun _ => ?_) (fun hq => absurd hE hq)
  refine lv_iload hx hb (show decode code 545 = .ok (.iload 5, 2) by decide +kernel) (lv_at hl 1 rfl) ?_
  refine lv_if_ne (tgt := 562) hx hb (show decode code 547 = .ok (.ifCond .ne 15, 3) by decide +kernel) (by decide) (fun _ => ?_) (fun hk0 => ?_)
  · refine lv_goto (tgt := 2743) hx hb (show decode code 562 = .ok (.goto 2181, 3) by decide +kernel) (by decide) ?_
    refine W.widen (k := cells + 8) (n := slots + 48) (by omega) (by omega) ?_
    exact kk _ _ _ _ hI2 Wd3 (lv_sub hl [2, 3, 4, 5, 6] rfl)
  refine lv_aload_n hx hb (show decode code 550 = .ok (.aload_n 3, 1) by decide +kernel) rfl (lv_at hl 5 rfl) ?_
  refine lv_iconst (n := 0) (v := 0) hx hb (show decode code 551 = .ok (.iconst 0, 1) by decide +kernel) (by decide) ?_
  refine sr_wlal (M := sr_Ml meth c) (k := 23) (i := 0) (n := 1) (a := 0) C Wd3 rfl (by decide) (sr_in23 0 (by decide)) (by decide) (show decode code 552 = .ok (.laload, 1) by decide +kernel) ?_
  refine lv_iload hx hb (show decode code 553 = .ok (.iload 6, 2) by decide +kernel) (lv_at hl 0 rfl) ?_
  refine lv_i2l hx hb (show decode code 555 = .ok (.i2l, 1) by decide +kernel) rfl ?_
  refine W.lcmp hx hb (show decode code 556 = .ok (.lcmp, 1) by decide +kernel) ?_
  rw [show t2.2 23 0 (0 : Int32).toNatClampNeg = _ from hO hk0, sr_cmp0]
  refine lv_if_eq (tgt := 562) hx hb (show decode code 557 = .ok (.ifCond .eq 5, 3) by decide +kernel) (by decide) (fun _ => ?_) (fun hq => absurd rfl hq)
  refine lv_goto (tgt := 2743) hx hb (show decode code 562 = .ok (.goto 2181, 3) by decide +kernel) (by decide) ?_
  refine W.widen (k := cells + 8) (n := slots + 48) (by omega) (by omega) ?_
  exact kk _ _ _ _ hI2 Wd3 (lv_sub hl [2, 3, 4, 5, 6] rfl)
theorem lc_7 {Inv Inv' : sr_t → Prop} {p : Program} {l : Launch} {e : Env} {s : State} {m : MethodId} {below : List Frame} {meth : Method} {c : Code} {b L : Nat} {xs : Nat → Int32} {D : va_G} {dA : Nat → ClassId} {H : Heap} {locs : List Loc} {ls : Array Slot} {cells slots i : Nat} {tt : sr_t} (hL : L ≤ 2048) (C0 : lw_At p s m meth c b L xs) (C : sr_C l (sr_Ml meth c) p s m #[Value.ref b] meth c D dA s.heap.size) (hi : i + 4 ≤ L) (hstep : sr_ok3 Inv Inv' (fun t => FL_spot_23 (xs (i + 1)) (xs (i + 2)) t) (fun t => F11_spot (xs (i + 1)) (xs (i + 2)) t)) (hI : Inv tt) (Wd : sr_W D dA s.heap.size (sr_em tt) s H locs) (hl : lv_has ls 7 [(0, .ref b), (1, .ref (sr_ad s.heap.size 10 0)), (2, .ref (sr_ad s.heap.size 11 0)), (3, .ref (sr_ad s.heap.size 23 0)), (4, .int (nI i))]) (hc : cells + 8 ≤ 601024) (hs : slots + 48 ≤ 7293033) (kk : ∀ (tt' : sr_t) (H' : Heap) (locs' : List Loc) (ls' : Array Slot), Inv' tt' → sr_W D dA s.heap.size (sr_em tt') s H' locs' → lv_has ls' 7 [(0, .ref b), (1, .ref (sr_ad s.heap.size 10 0)), (2, .ref (sr_ad s.heap.size 11 0)), (3, .ref (sr_ad s.heap.size 23 0)), (4, .int (nI i))] → W p l e room_1 s m #[Value.ref b] below meth c H' locs' (cells + 8) (slots + 48) (lw_Z below #[Value.ref b] s) (F0 m 2743 ls' [])) : W p l e room_1 s m #[Value.ref b] below meth c H locs cells slots (lw_Z below #[Value.ref b] s) (F0 m 565 ls []) := by
  obtain ⟨hx, hb, hr, hml, hown, hts, hX, hbl, hlocks, hgv⟩ := C0
  have hbA : ¬ sr_A s.heap.size b := Nat.not_le.mpr hbl
  have Wd0 := Wd.2.2
  have hRc : room_1.cells = 601024 := rfl
  have hRs : room_1.slots = 7293033 := rfl
  obtain ⟨r1, t1, r2, t2, e1, e2, hE, hO, hI2⟩ := hstep tt hI
  refine lv_aload_n hx hb (show decode code 565 = .ok (.aload_n 1, 1) by decide +kernel) rfl (lv_at hl 1 rfl) ?_
  refine lv_aload_n hx hb (show decode code 566 = .ok (.aload_n 0, 1) by decide +kernel) rfl (lv_at hl 0 rfl) ?_
  refine lv_iload hx hb (show decode code 567 = .ok (.iload 4, 2) by decide +kernel) (lv_at hl 4 rfl) ?_
  refine lv_iconst (n := 1) (v := 1) hx hb (show decode code 569 = .ok (.iconst 1, 1) by decide +kernel) (by decide) ?_
  refine lv_iadd hx hb (show decode code 570 = .ok (.iadd, 1) by decide +kernel) ?_
  rw [show nI i + 1 = nI (i + 1) from nI_add i 1]
  refine va_sld hx hb hX hbl hbA Wd0 (vp_in_nI (show i + 1 < L by omega) (by omega)) (show decode code 571 = .ok (.iaload, 1) by decide +kernel) ?_
  rw [nI_clamp (show i + 1 < 2147483648 by omega)]
  refine lv_aload_n hx hb (show decode code 572 = .ok (.aload_n 0, 1) by decide +kernel) rfl (lv_at hl 0 rfl) ?_
  refine lv_iload hx hb (show decode code 573 = .ok (.iload 4, 2) by decide +kernel) (lv_at hl 4 rfl) ?_
  refine lv_iconst (n := 2) (v := 2) hx hb (show decode code 575 = .ok (.iconst 2, 1) by decide +kernel) (by decide) ?_
  refine lv_iadd hx hb (show decode code 576 = .ok (.iadd, 1) by decide +kernel) ?_
  rw [show nI i + 2 = nI (i + 2) from nI_add i 2]
  refine va_sld hx hb hX hbl hbA Wd0 (vp_in_nI (show i + 2 < L by omega) (by omega)) (show decode code 577 = .ok (.iaload, 1) by decide +kernel) ?_
  rw [nI_clamp (show i + 2 < 2147483648 by omega)]
  refine lv_aload_n hx hb (show decode code 578 = .ok (.aload_n 3, 1) by decide +kernel) rfl (lv_at hl 3 rfl) ?_
  refine sr_wS (As := [sr_r 10 0, sr_i (xs (i + 1)), sr_i (xs (i + 2)), sr_r 23 0]) (em := sr_em) (M := sr_Ml meth c) (v := some (sr_i (r1))) (t1 := t1) (rest := []) (mc1 := 2) (ms1 := 12) C Wd hl.1 (Nat.le_of_ble_eq_true rfl) (Nat.le_of_ble_eq_true rfl) (by omega) (by omega) (fun hq => nomatch hq) fh_169 (show decode code 579 = .ok (.invokestatic 169, 3) by decide +kernel) rm_Law_L_spot rfl (Nat.le_of_ble_eq_true rfl) (e1 ▸ CL_spot_23 l (xs (i + 1)) (xs (i + 2)) tt) (fun H1 locs1 Wd1 => ?_)
  have Wd0 := Wd1.2.2
  refine W.eq (g2 := F0 m 582 ls [.int r1]) rfl ?_
  refine lv_istore (lv' := [(5, .int r1), (0, .ref b), (1, .ref (sr_ad s.heap.size 10 0)), (2, .ref (sr_ad s.heap.size 11 0)), (3, .ref (sr_ad s.heap.size 23 0)), (4, .int (nI i))]) hx hb (show decode code 582 = .ok (.istore 5, 2) by decide +kernel) hl (by decide) rfl (fun ls hl => ?_)
  refine lv_aload_n hx hb (show decode code 584 = .ok (.aload_n 2, 1) by decide +kernel) rfl (lv_at hl 3 rfl) ?_
  refine lv_aload_n hx hb (show decode code 585 = .ok (.aload_n 0, 1) by decide +kernel) rfl (lv_at hl 1 rfl) ?_
  refine lv_iload hx hb (show decode code 586 = .ok (.iload 4, 2) by decide +kernel) (lv_at hl 5 rfl) ?_
  refine lv_iconst (n := 1) (v := 1) hx hb (show decode code 588 = .ok (.iconst 1, 1) by decide +kernel) (by decide) ?_
  refine lv_iadd hx hb (show decode code 589 = .ok (.iadd, 1) by decide +kernel) ?_
  rw [show nI i + 1 = nI (i + 1) from nI_add i 1]
  refine va_sld hx hb hX hbl hbA Wd0 (vp_in_nI (show i + 1 < L by omega) (by omega)) (show decode code 590 = .ok (.iaload, 1) by decide +kernel) ?_
  rw [nI_clamp (show i + 1 < 2147483648 by omega)]
  refine lv_aload_n hx hb (show decode code 591 = .ok (.aload_n 0, 1) by decide +kernel) rfl (lv_at hl 1 rfl) ?_
  refine lv_iload hx hb (show decode code 592 = .ok (.iload 4, 2) by decide +kernel) (lv_at hl 5 rfl) ?_
  refine lv_iconst (n := 2) (v := 2) hx hb (show decode code 594 = .ok (.iconst 2, 1) by decide +kernel) (by decide) ?_
  refine lv_iadd hx hb (show decode code 595 = .ok (.iadd, 1) by decide +kernel) ?_
  rw [show nI i + 2 = nI (i + 2) from nI_add i 2]
  refine va_sld hx hb hX hbl hbA Wd0 (vp_in_nI (show i + 2 < L by omega) (by omega)) (show decode code 596 = .ok (.iaload, 1) by decide +kernel) ?_
  rw [nI_clamp (show i + 2 < 2147483648 by omega)]
  refine sr_wV (k := 11) (i := 0) (As := [sr_i (xs (i + 1)), sr_i (xs (i + 2))]) (em := sr_em) (M := sr_Ml meth c) (v := some (sr_i (r2))) (t1 := t2) (rest := []) (mc1 := 0) (ms1 := 0) C Wd1 hl.1 (Nat.le_of_ble_eq_true rfl) (Nat.le_of_ble_eq_true rfl) (by omega) (by omega) (fun hq => nomatch hq) fm_L_172 fl_L_172 (show decode code 597 = .ok (.invokevirtual 172, 3) by decide +kernel) (sr_in11 0 (by decide)) rm_Law_11_spot rfl (Nat.le_of_ble_eq_true rfl) (e2 ▸ C11_spot l (xs (i + 1)) (xs (i + 2)) t1) (fun H2 locs2 Wd2 => ?_)
  have Wd0 := Wd2.2.2
  refine W.eq (g2 := F0 m 600 ls [.int r2]) rfl ?_
  refine lv_istore (lv' := [(6, .int r2), (5, .int r1), (0, .ref b), (1, .ref (sr_ad s.heap.size 10 0)), (2, .ref (sr_ad s.heap.size 11 0)), (3, .ref (sr_ad s.heap.size 23 0)), (4, .int (nI i))]) hx hb (show decode code 600 = .ok (.istore 6, 2) by decide +kernel) hl (by decide) rfl (fun ls hl => ?_)
  refine lv_aload_n hx hb (show decode code 602 = .ok (.aload_n 2, 1) by decide +kernel) rfl (lv_at hl 4 rfl) ?_
  refine sr_wV (k := 11) (i := 0) (As := []) (em := sr_em) (M := sr_Ml meth c) (v := some (sr_i (t2.1 11 0 0))) (t1 := t2) (rest := []) (mc1 := 0) (ms1 := 0) C Wd2 hl.1 (Nat.le_of_ble_eq_true rfl) (Nat.le_of_ble_eq_true rfl) (by omega) (by omega) (fun hq => nomatch hq) fm_L_146 fl_L_146 (show decode code 603 = .ok (.invokevirtual 146, 3) by decide +kernel) (sr_in11 0 (by decide)) rm_Law_11_thrown rfl (Nat.le_of_ble_eq_true rfl) ((show F11_thrown t2 = some (.inl (some (sr_i (t2.1 11 0 0))), t2) from rfl) ▸ C11_thrown l  t2) (fun H3 locs3 Wd3 => ?_)
  have Wd0 := Wd3.2.2
  refine W.eq (g2 := F0 m 606 ls [.int (t2.1 11 0 0)]) rfl ?_
  refine lv_iload hx hb (show decode code 606 = .ok (.iload 5, 2) by decide +kernel) (lv_at hl 1 rfl) ?_
  refine lv_icmp_eq (tgt := 613) hx hb (show decode code 608 = .ok (.if_icmp .eq 5, 3) by decide +kernel) (by decide) (fun _ => ?_) (fun hq => absurd hE hq)
  refine lv_iload hx hb (show decode code 613 = .ok (.iload 5, 2) by decide +kernel) (lv_at hl 1 rfl) ?_
  refine lv_if_ne (tgt := 630) hx hb (show decode code 615 = .ok (.ifCond .ne 15, 3) by decide +kernel) (by decide) (fun _ => ?_) (fun hk0 => ?_)
  · refine lv_goto (tgt := 2743) hx hb (show decode code 630 = .ok (.goto 2113, 3) by decide +kernel) (by decide) ?_
    refine W.widen (k := cells + 8) (n := slots + 48) (by omega) (by omega) ?_
    exact kk _ _ _ _ hI2 Wd3 (lv_sub hl [2, 3, 4, 5, 6] rfl)
  refine lv_aload_n hx hb (show decode code 618 = .ok (.aload_n 3, 1) by decide +kernel) rfl (lv_at hl 5 rfl) ?_
  refine lv_iconst (n := 0) (v := 0) hx hb (show decode code 619 = .ok (.iconst 0, 1) by decide +kernel) (by decide) ?_
  refine sr_wlal (M := sr_Ml meth c) (k := 23) (i := 0) (n := 1) (a := 0) C Wd3 rfl (by decide) (sr_in23 0 (by decide)) (by decide) (show decode code 620 = .ok (.laload, 1) by decide +kernel) ?_
  refine lv_iload hx hb (show decode code 621 = .ok (.iload 6, 2) by decide +kernel) (lv_at hl 0 rfl) ?_
  refine lv_i2l hx hb (show decode code 623 = .ok (.i2l, 1) by decide +kernel) rfl ?_
  refine W.lcmp hx hb (show decode code 624 = .ok (.lcmp, 1) by decide +kernel) ?_
  rw [show t2.2 23 0 (0 : Int32).toNatClampNeg = _ from hO hk0, sr_cmp0]
  refine lv_if_eq (tgt := 630) hx hb (show decode code 625 = .ok (.ifCond .eq 5, 3) by decide +kernel) (by decide) (fun _ => ?_) (fun hq => absurd rfl hq)
  refine lv_goto (tgt := 2743) hx hb (show decode code 630 = .ok (.goto 2113, 3) by decide +kernel) (by decide) ?_
  refine W.widen (k := cells + 8) (n := slots + 48) (by omega) (by omega) ?_
  exact kk _ _ _ _ hI2 Wd3 (lv_sub hl [2, 3, 4, 5, 6] rfl)
theorem lc_8 {Inv Inv' : sr_t → Prop} {p : Program} {l : Launch} {e : Env} {s : State} {m : MethodId} {below : List Frame} {meth : Method} {c : Code} {b L : Nat} {xs : Nat → Int32} {D : va_G} {dA : Nat → ClassId} {H : Heap} {locs : List Loc} {ls : Array Slot} {cells slots i : Nat} {tt : sr_t} (hL : L ≤ 2048) (C0 : lw_At p s m meth c b L xs) (C : sr_C l (sr_Ml meth c) p s m #[Value.ref b] meth c D dA s.heap.size) (hi : i + 4 ≤ L) (hstep : sr_ok3 Inv Inv' (fun t => FL_lookup_23 (xs (i + 1)) (xs (i + 2)) (if (xs (i + 3)) = 0 then 0 else 1) t) (fun t => F11_lookup (xs (i + 1)) (xs (i + 2)) (if (xs (i + 3)) = 0 then 0 else 1) t)) (hI : Inv tt) (Wd : sr_W D dA s.heap.size (sr_em tt) s H locs) (hl : lv_has ls 7 [(0, .ref b), (1, .ref (sr_ad s.heap.size 10 0)), (2, .ref (sr_ad s.heap.size 11 0)), (3, .ref (sr_ad s.heap.size 23 0)), (4, .int (nI i))]) (hc : cells + 8 ≤ 601024) (hs : slots + 48 ≤ 7293033) (kk : ∀ (tt' : sr_t) (H' : Heap) (locs' : List Loc) (ls' : Array Slot), Inv' tt' → sr_W D dA s.heap.size (sr_em tt') s H' locs' → lv_has ls' 7 [(0, .ref b), (1, .ref (sr_ad s.heap.size 10 0)), (2, .ref (sr_ad s.heap.size 11 0)), (3, .ref (sr_ad s.heap.size 23 0)), (4, .int (nI i))] → W p l e room_1 s m #[Value.ref b] below meth c H' locs' (cells + 8) (slots + 48) (lw_Z below #[Value.ref b] s) (F0 m 2743 ls' [])) : W p l e room_1 s m #[Value.ref b] below meth c H locs cells slots (lw_Z below #[Value.ref b] s) (F0 m 633 ls []) := by
  obtain ⟨hx, hb, hr, hml, hown, hts, hX, hbl, hlocks, hgv⟩ := C0
  have hbA : ¬ sr_A s.heap.size b := Nat.not_le.mpr hbl
  have Wd0 := Wd.2.2
  have hRc : room_1.cells = 601024 := rfl
  have hRs : room_1.slots = 7293033 := rfl
  obtain ⟨r1, t1, r2, t2, e1, e2, hE, hO, hI2⟩ := hstep tt hI
  refine lv_aload_n hx hb (show decode code 633 = .ok (.aload_n 1, 1) by decide +kernel) rfl (lv_at hl 1 rfl) ?_
  refine lv_aload_n hx hb (show decode code 634 = .ok (.aload_n 0, 1) by decide +kernel) rfl (lv_at hl 0 rfl) ?_
  refine lv_iload hx hb (show decode code 635 = .ok (.iload 4, 2) by decide +kernel) (lv_at hl 4 rfl) ?_
  refine lv_iconst (n := 1) (v := 1) hx hb (show decode code 637 = .ok (.iconst 1, 1) by decide +kernel) (by decide) ?_
  refine lv_iadd hx hb (show decode code 638 = .ok (.iadd, 1) by decide +kernel) ?_
  rw [show nI i + 1 = nI (i + 1) from nI_add i 1]
  refine va_sld hx hb hX hbl hbA Wd0 (vp_in_nI (show i + 1 < L by omega) (by omega)) (show decode code 639 = .ok (.iaload, 1) by decide +kernel) ?_
  rw [nI_clamp (show i + 1 < 2147483648 by omega)]
  refine lv_aload_n hx hb (show decode code 640 = .ok (.aload_n 0, 1) by decide +kernel) rfl (lv_at hl 0 rfl) ?_
  refine lv_iload hx hb (show decode code 641 = .ok (.iload 4, 2) by decide +kernel) (lv_at hl 4 rfl) ?_
  refine lv_iconst (n := 2) (v := 2) hx hb (show decode code 643 = .ok (.iconst 2, 1) by decide +kernel) (by decide) ?_
  refine lv_iadd hx hb (show decode code 644 = .ok (.iadd, 1) by decide +kernel) ?_
  rw [show nI i + 2 = nI (i + 2) from nI_add i 2]
  refine va_sld hx hb hX hbl hbA Wd0 (vp_in_nI (show i + 2 < L by omega) (by omega)) (show decode code 645 = .ok (.iaload, 1) by decide +kernel) ?_
  rw [nI_clamp (show i + 2 < 2147483648 by omega)]
  refine lv_aload_n hx hb (show decode code 646 = .ok (.aload_n 0, 1) by decide +kernel) rfl (lv_at hl 0 rfl) ?_
  refine lv_iload hx hb (show decode code 647 = .ok (.iload 4, 2) by decide +kernel) (lv_at hl 4 rfl) ?_
  refine lv_iconst (n := 3) (v := 3) hx hb (show decode code 649 = .ok (.iconst 3, 1) by decide +kernel) (by decide) ?_
  refine lv_iadd hx hb (show decode code 650 = .ok (.iadd, 1) by decide +kernel) ?_
  rw [show nI i + 3 = nI (i + 3) from nI_add i 3]
  refine va_sld hx hb hX hbl hbA Wd0 (vp_in_nI (show i + 3 < L by omega) (by omega)) (show decode code 651 = .ok (.iaload, 1) by decide +kernel) ?_
  rw [nI_clamp (show i + 3 < 2147483648 by omega)]
  refine sr_wbz (pc := 652) hx hb (show decode code 652 = .ok (.ifCond .eq 7, 3) by decide +kernel) (show decode code 655 = .ok (.iconst 1, 1) by decide +kernel) (show decode code 656 = .ok (.goto 4, 3) by decide +kernel) (show decode code 659 = .ok (.iconst 0, 1) by decide +kernel) ?_
  refine lv_aload_n hx hb (show decode code 660 = .ok (.aload_n 3, 1) by decide +kernel) rfl (lv_at hl 3 rfl) ?_
  refine sr_wS (As := [sr_r 10 0, sr_i (xs (i + 1)), sr_i (xs (i + 2)), sr_i (if (xs (i + 3)) = 0 then 0 else 1), sr_r 23 0]) (em := sr_em) (M := sr_Ml meth c) (v := some (sr_i (r1))) (t1 := t1) (rest := []) (mc1 := 3) (ms1 := 18) C Wd hl.1 (Nat.le_of_ble_eq_true rfl) (Nat.le_of_ble_eq_true rfl) (by omega) (by omega) (fun hq => nomatch hq) fh_173 (show decode code 661 = .ok (.invokestatic 173, 3) by decide +kernel) rm_Law_L_lookup rfl (Nat.le_of_ble_eq_true rfl) (e1 ▸ CL_lookup_23 l (xs (i + 1)) (xs (i + 2)) (if (xs (i + 3)) = 0 then 0 else 1) tt) (fun H1 locs1 Wd1 => ?_)
  have Wd0 := Wd1.2.2
  refine W.eq (g2 := F0 m 664 ls [.int r1]) rfl ?_
  refine lv_istore (lv' := [(5, .int r1), (0, .ref b), (1, .ref (sr_ad s.heap.size 10 0)), (2, .ref (sr_ad s.heap.size 11 0)), (3, .ref (sr_ad s.heap.size 23 0)), (4, .int (nI i))]) hx hb (show decode code 664 = .ok (.istore 5, 2) by decide +kernel) hl (by decide) rfl (fun ls hl => ?_)
  refine lv_aload_n hx hb (show decode code 666 = .ok (.aload_n 2, 1) by decide +kernel) rfl (lv_at hl 3 rfl) ?_
  refine lv_aload_n hx hb (show decode code 667 = .ok (.aload_n 0, 1) by decide +kernel) rfl (lv_at hl 1 rfl) ?_
  refine lv_iload hx hb (show decode code 668 = .ok (.iload 4, 2) by decide +kernel) (lv_at hl 5 rfl) ?_
  refine lv_iconst (n := 1) (v := 1) hx hb (show decode code 670 = .ok (.iconst 1, 1) by decide +kernel) (by decide) ?_
  refine lv_iadd hx hb (show decode code 671 = .ok (.iadd, 1) by decide +kernel) ?_
  rw [show nI i + 1 = nI (i + 1) from nI_add i 1]
  refine va_sld hx hb hX hbl hbA Wd0 (vp_in_nI (show i + 1 < L by omega) (by omega)) (show decode code 672 = .ok (.iaload, 1) by decide +kernel) ?_
  rw [nI_clamp (show i + 1 < 2147483648 by omega)]
  refine lv_aload_n hx hb (show decode code 673 = .ok (.aload_n 0, 1) by decide +kernel) rfl (lv_at hl 1 rfl) ?_
  refine lv_iload hx hb (show decode code 674 = .ok (.iload 4, 2) by decide +kernel) (lv_at hl 5 rfl) ?_
  refine lv_iconst (n := 2) (v := 2) hx hb (show decode code 676 = .ok (.iconst 2, 1) by decide +kernel) (by decide) ?_
  refine lv_iadd hx hb (show decode code 677 = .ok (.iadd, 1) by decide +kernel) ?_
  rw [show nI i + 2 = nI (i + 2) from nI_add i 2]
  refine va_sld hx hb hX hbl hbA Wd0 (vp_in_nI (show i + 2 < L by omega) (by omega)) (show decode code 678 = .ok (.iaload, 1) by decide +kernel) ?_
  rw [nI_clamp (show i + 2 < 2147483648 by omega)]
  refine lv_aload_n hx hb (show decode code 679 = .ok (.aload_n 0, 1) by decide +kernel) rfl (lv_at hl 1 rfl) ?_
  refine lv_iload hx hb (show decode code 680 = .ok (.iload 4, 2) by decide +kernel) (lv_at hl 5 rfl) ?_
  refine lv_iconst (n := 3) (v := 3) hx hb (show decode code 682 = .ok (.iconst 3, 1) by decide +kernel) (by decide) ?_
  refine lv_iadd hx hb (show decode code 683 = .ok (.iadd, 1) by decide +kernel) ?_
  rw [show nI i + 3 = nI (i + 3) from nI_add i 3]
  refine va_sld hx hb hX hbl hbA Wd0 (vp_in_nI (show i + 3 < L by omega) (by omega)) (show decode code 684 = .ok (.iaload, 1) by decide +kernel) ?_
  rw [nI_clamp (show i + 3 < 2147483648 by omega)]
  refine sr_wbz (pc := 685) hx hb (show decode code 685 = .ok (.ifCond .eq 7, 3) by decide +kernel) (show decode code 688 = .ok (.iconst 1, 1) by decide +kernel) (show decode code 689 = .ok (.goto 4, 3) by decide +kernel) (show decode code 692 = .ok (.iconst 0, 1) by decide +kernel) ?_
  refine sr_wV (k := 11) (i := 0) (As := [sr_i (xs (i + 1)), sr_i (xs (i + 2)), sr_i (if (xs (i + 3)) = 0 then 0 else 1)]) (em := sr_em) (M := sr_Ml meth c) (v := some (sr_i (r2))) (t1 := t2) (rest := []) (mc1 := 0) (ms1 := 0) C Wd1 hl.1 (Nat.le_of_ble_eq_true rfl) (Nat.le_of_ble_eq_true rfl) (by omega) (by omega) (fun hq => nomatch hq) fm_L_176 fl_L_176 (show decode code 693 = .ok (.invokevirtual 176, 3) by decide +kernel) (sr_in11 0 (by decide)) rm_Law_11_lookup rfl (Nat.le_of_ble_eq_true rfl) (e2 ▸ C11_lookup l (xs (i + 1)) (xs (i + 2)) (if (xs (i + 3)) = 0 then 0 else 1) t1) (fun H2 locs2 Wd2 => ?_)
  have Wd0 := Wd2.2.2
  refine W.eq (g2 := F0 m 696 ls [.int r2]) rfl ?_
  refine lv_istore (lv' := [(6, .int r2), (5, .int r1), (0, .ref b), (1, .ref (sr_ad s.heap.size 10 0)), (2, .ref (sr_ad s.heap.size 11 0)), (3, .ref (sr_ad s.heap.size 23 0)), (4, .int (nI i))]) hx hb (show decode code 696 = .ok (.istore 6, 2) by decide +kernel) hl (by decide) rfl (fun ls hl => ?_)
  refine lv_aload_n hx hb (show decode code 698 = .ok (.aload_n 2, 1) by decide +kernel) rfl (lv_at hl 4 rfl) ?_
  refine sr_wV (k := 11) (i := 0) (As := []) (em := sr_em) (M := sr_Ml meth c) (v := some (sr_i (t2.1 11 0 0))) (t1 := t2) (rest := []) (mc1 := 0) (ms1 := 0) C Wd2 hl.1 (Nat.le_of_ble_eq_true rfl) (Nat.le_of_ble_eq_true rfl) (by omega) (by omega) (fun hq => nomatch hq) fm_L_146 fl_L_146 (show decode code 699 = .ok (.invokevirtual 146, 3) by decide +kernel) (sr_in11 0 (by decide)) rm_Law_11_thrown rfl (Nat.le_of_ble_eq_true rfl) ((show F11_thrown t2 = some (.inl (some (sr_i (t2.1 11 0 0))), t2) from rfl) ▸ C11_thrown l  t2) (fun H3 locs3 Wd3 => ?_)
  have Wd0 := Wd3.2.2
  refine W.eq (g2 := F0 m 702 ls [.int (t2.1 11 0 0)]) rfl ?_
  refine lv_iload hx hb (show decode code 702 = .ok (.iload 5, 2) by decide +kernel) (lv_at hl 1 rfl) ?_
  refine lv_icmp_eq (tgt := 709) hx hb (show decode code 704 = .ok (.if_icmp .eq 5, 3) by decide +kernel) (by decide) (fun _ => ?_) (fun hq => absurd hE hq)
  refine lv_iload hx hb (show decode code 709 = .ok (.iload 5, 2) by decide +kernel) (lv_at hl 1 rfl) ?_
  refine lv_if_ne (tgt := 726) hx hb (show decode code 711 = .ok (.ifCond .ne 15, 3) by decide +kernel) (by decide) (fun _ => ?_) (fun hk0 => ?_)
  · refine lv_goto (tgt := 2743) hx hb (show decode code 726 = .ok (.goto 2017, 3) by decide +kernel) (by decide) ?_
    refine W.widen (k := cells + 8) (n := slots + 48) (by omega) (by omega) ?_
    exact kk _ _ _ _ hI2 Wd3 (lv_sub hl [2, 3, 4, 5, 6] rfl)
  refine lv_aload_n hx hb (show decode code 714 = .ok (.aload_n 3, 1) by decide +kernel) rfl (lv_at hl 5 rfl) ?_
  refine lv_iconst (n := 0) (v := 0) hx hb (show decode code 715 = .ok (.iconst 0, 1) by decide +kernel) (by decide) ?_
  refine sr_wlal (M := sr_Ml meth c) (k := 23) (i := 0) (n := 1) (a := 0) C Wd3 rfl (by decide) (sr_in23 0 (by decide)) (by decide) (show decode code 716 = .ok (.laload, 1) by decide +kernel) ?_
  refine lv_iload hx hb (show decode code 717 = .ok (.iload 6, 2) by decide +kernel) (lv_at hl 0 rfl) ?_
  refine lv_i2l hx hb (show decode code 719 = .ok (.i2l, 1) by decide +kernel) rfl ?_
  refine W.lcmp hx hb (show decode code 720 = .ok (.lcmp, 1) by decide +kernel) ?_
  rw [show t2.2 23 0 (0 : Int32).toNatClampNeg = _ from hO hk0, sr_cmp0]
  refine lv_if_eq (tgt := 726) hx hb (show decode code 721 = .ok (.ifCond .eq 5, 3) by decide +kernel) (by decide) (fun _ => ?_) (fun hq => absurd rfl hq)
  refine lv_goto (tgt := 2743) hx hb (show decode code 726 = .ok (.goto 2017, 3) by decide +kernel) (by decide) ?_
  refine W.widen (k := cells + 8) (n := slots + 48) (by omega) (by omega) ?_
  exact kk _ _ _ _ hI2 Wd3 (lv_sub hl [2, 3, 4, 5, 6] rfl)
theorem lc_9 {Inv Inv' : sr_t → Prop} {p : Program} {l : Launch} {e : Env} {s : State} {m : MethodId} {below : List Frame} {meth : Method} {c : Code} {b L : Nat} {xs : Nat → Int32} {D : va_G} {dA : Nat → ClassId} {H : Heap} {locs : List Loc} {ls : Array Slot} {cells slots i : Nat} {tt : sr_t} (hL : L ≤ 2048) (C0 : lw_At p s m meth c b L xs) (C : sr_C l (sr_Ml meth c) p s m #[Value.ref b] meth c D dA s.heap.size) (hi : i + 4 ≤ L) (hstep : sr_ok3 Inv Inv' (fun t => FL_latest_23 (xs (i + 1)) t) (fun t => F11_latest (xs (i + 1)) t)) (hI : Inv tt) (Wd : sr_W D dA s.heap.size (sr_em tt) s H locs) (hl : lv_has ls 7 [(0, .ref b), (1, .ref (sr_ad s.heap.size 10 0)), (2, .ref (sr_ad s.heap.size 11 0)), (3, .ref (sr_ad s.heap.size 23 0)), (4, .int (nI i))]) (hc : cells + 8 ≤ 601024) (hs : slots + 48 ≤ 7293033) (kk : ∀ (tt' : sr_t) (H' : Heap) (locs' : List Loc) (ls' : Array Slot), Inv' tt' → sr_W D dA s.heap.size (sr_em tt') s H' locs' → lv_has ls' 7 [(0, .ref b), (1, .ref (sr_ad s.heap.size 10 0)), (2, .ref (sr_ad s.heap.size 11 0)), (3, .ref (sr_ad s.heap.size 23 0)), (4, .int (nI i))] → W p l e room_1 s m #[Value.ref b] below meth c H' locs' (cells + 8) (slots + 48) (lw_Z below #[Value.ref b] s) (F0 m 2743 ls' [])) : W p l e room_1 s m #[Value.ref b] below meth c H locs cells slots (lw_Z below #[Value.ref b] s) (F0 m 729 ls []) := by
  obtain ⟨hx, hb, hr, hml, hown, hts, hX, hbl, hlocks, hgv⟩ := C0
  have hbA : ¬ sr_A s.heap.size b := Nat.not_le.mpr hbl
  have Wd0 := Wd.2.2
  have hRc : room_1.cells = 601024 := rfl
  have hRs : room_1.slots = 7293033 := rfl
  obtain ⟨r1, t1, r2, t2, e1, e2, hE, hO, hI2⟩ := hstep tt hI
  refine lv_aload_n hx hb (show decode code 729 = .ok (.aload_n 1, 1) by decide +kernel) rfl (lv_at hl 1 rfl) ?_
  refine lv_aload_n hx hb (show decode code 730 = .ok (.aload_n 0, 1) by decide +kernel) rfl (lv_at hl 0 rfl) ?_
  refine lv_iload hx hb (show decode code 731 = .ok (.iload 4, 2) by decide +kernel) (lv_at hl 4 rfl) ?_
  refine lv_iconst (n := 1) (v := 1) hx hb (show decode code 733 = .ok (.iconst 1, 1) by decide +kernel) (by decide) ?_
  refine lv_iadd hx hb (show decode code 734 = .ok (.iadd, 1) by decide +kernel) ?_
  rw [show nI i + 1 = nI (i + 1) from nI_add i 1]
  refine va_sld hx hb hX hbl hbA Wd0 (vp_in_nI (show i + 1 < L by omega) (by omega)) (show decode code 735 = .ok (.iaload, 1) by decide +kernel) ?_
  rw [nI_clamp (show i + 1 < 2147483648 by omega)]
  refine lv_aload_n hx hb (show decode code 736 = .ok (.aload_n 3, 1) by decide +kernel) rfl (lv_at hl 3 rfl) ?_
  refine sr_wS (As := [sr_r 10 0, sr_i (xs (i + 1)), sr_r 23 0]) (em := sr_em) (M := sr_Ml meth c) (v := some (sr_i (r1))) (t1 := t1) (rest := []) (mc1 := 1) (ms1 := 6) C Wd hl.1 (Nat.le_of_ble_eq_true rfl) (Nat.le_of_ble_eq_true rfl) (by omega) (by omega) (fun hq => nomatch hq) fh_177 (show decode code 737 = .ok (.invokestatic 177, 3) by decide +kernel) rm_Law_L_latest rfl (Nat.le_of_ble_eq_true rfl) (e1 ▸ CL_latest_23 l (xs (i + 1)) tt) (fun H1 locs1 Wd1 => ?_)
  have Wd0 := Wd1.2.2
  refine W.eq (g2 := F0 m 740 ls [.int r1]) rfl ?_
  refine lv_istore (lv' := [(5, .int r1), (0, .ref b), (1, .ref (sr_ad s.heap.size 10 0)), (2, .ref (sr_ad s.heap.size 11 0)), (3, .ref (sr_ad s.heap.size 23 0)), (4, .int (nI i))]) hx hb (show decode code 740 = .ok (.istore 5, 2) by decide +kernel) hl (by decide) rfl (fun ls hl => ?_)
  refine lv_aload_n hx hb (show decode code 742 = .ok (.aload_n 2, 1) by decide +kernel) rfl (lv_at hl 3 rfl) ?_
  refine lv_aload_n hx hb (show decode code 743 = .ok (.aload_n 0, 1) by decide +kernel) rfl (lv_at hl 1 rfl) ?_
  refine lv_iload hx hb (show decode code 744 = .ok (.iload 4, 2) by decide +kernel) (lv_at hl 5 rfl) ?_
  refine lv_iconst (n := 1) (v := 1) hx hb (show decode code 746 = .ok (.iconst 1, 1) by decide +kernel) (by decide) ?_
  refine lv_iadd hx hb (show decode code 747 = .ok (.iadd, 1) by decide +kernel) ?_
  rw [show nI i + 1 = nI (i + 1) from nI_add i 1]
  refine va_sld hx hb hX hbl hbA Wd0 (vp_in_nI (show i + 1 < L by omega) (by omega)) (show decode code 748 = .ok (.iaload, 1) by decide +kernel) ?_
  rw [nI_clamp (show i + 1 < 2147483648 by omega)]
  refine sr_wV (k := 11) (i := 0) (As := [sr_i (xs (i + 1))]) (em := sr_em) (M := sr_Ml meth c) (v := some (sr_i (r2))) (t1 := t2) (rest := []) (mc1 := 0) (ms1 := 0) C Wd1 hl.1 (Nat.le_of_ble_eq_true rfl) (Nat.le_of_ble_eq_true rfl) (by omega) (by omega) (fun hq => nomatch hq) fm_L_179 fl_L_179 (show decode code 749 = .ok (.invokevirtual 179, 3) by decide +kernel) (sr_in11 0 (by decide)) rm_Law_11_latest rfl (Nat.le_of_ble_eq_true rfl) (e2 ▸ C11_latest l (xs (i + 1)) t1) (fun H2 locs2 Wd2 => ?_)
  have Wd0 := Wd2.2.2
  refine W.eq (g2 := F0 m 752 ls [.int r2]) rfl ?_
  refine lv_istore (lv' := [(6, .int r2), (5, .int r1), (0, .ref b), (1, .ref (sr_ad s.heap.size 10 0)), (2, .ref (sr_ad s.heap.size 11 0)), (3, .ref (sr_ad s.heap.size 23 0)), (4, .int (nI i))]) hx hb (show decode code 752 = .ok (.istore 6, 2) by decide +kernel) hl (by decide) rfl (fun ls hl => ?_)
  refine lv_aload_n hx hb (show decode code 754 = .ok (.aload_n 2, 1) by decide +kernel) rfl (lv_at hl 4 rfl) ?_
  refine sr_wV (k := 11) (i := 0) (As := []) (em := sr_em) (M := sr_Ml meth c) (v := some (sr_i (t2.1 11 0 0))) (t1 := t2) (rest := []) (mc1 := 0) (ms1 := 0) C Wd2 hl.1 (Nat.le_of_ble_eq_true rfl) (Nat.le_of_ble_eq_true rfl) (by omega) (by omega) (fun hq => nomatch hq) fm_L_146 fl_L_146 (show decode code 755 = .ok (.invokevirtual 146, 3) by decide +kernel) (sr_in11 0 (by decide)) rm_Law_11_thrown rfl (Nat.le_of_ble_eq_true rfl) ((show F11_thrown t2 = some (.inl (some (sr_i (t2.1 11 0 0))), t2) from rfl) ▸ C11_thrown l  t2) (fun H3 locs3 Wd3 => ?_)
  have Wd0 := Wd3.2.2
  refine W.eq (g2 := F0 m 758 ls [.int (t2.1 11 0 0)]) rfl ?_
  refine lv_iload hx hb (show decode code 758 = .ok (.iload 5, 2) by decide +kernel) (lv_at hl 1 rfl) ?_
  refine lv_icmp_eq (tgt := 765) hx hb (show decode code 760 = .ok (.if_icmp .eq 5, 3) by decide +kernel) (by decide) (fun _ => ?_) (fun hq => absurd hE hq)
  refine lv_iload hx hb (show decode code 765 = .ok (.iload 5, 2) by decide +kernel) (lv_at hl 1 rfl) ?_
  refine lv_if_ne (tgt := 782) hx hb (show decode code 767 = .ok (.ifCond .ne 15, 3) by decide +kernel) (by decide) (fun _ => ?_) (fun hk0 => ?_)
  · refine lv_goto (tgt := 2743) hx hb (show decode code 782 = .ok (.goto 1961, 3) by decide +kernel) (by decide) ?_
    refine W.widen (k := cells + 8) (n := slots + 48) (by omega) (by omega) ?_
    exact kk _ _ _ _ hI2 Wd3 (lv_sub hl [2, 3, 4, 5, 6] rfl)
  refine lv_aload_n hx hb (show decode code 770 = .ok (.aload_n 3, 1) by decide +kernel) rfl (lv_at hl 5 rfl) ?_
  refine lv_iconst (n := 0) (v := 0) hx hb (show decode code 771 = .ok (.iconst 0, 1) by decide +kernel) (by decide) ?_
  refine sr_wlal (M := sr_Ml meth c) (k := 23) (i := 0) (n := 1) (a := 0) C Wd3 rfl (by decide) (sr_in23 0 (by decide)) (by decide) (show decode code 772 = .ok (.laload, 1) by decide +kernel) ?_
  refine lv_iload hx hb (show decode code 773 = .ok (.iload 6, 2) by decide +kernel) (lv_at hl 0 rfl) ?_
  refine lv_i2l hx hb (show decode code 775 = .ok (.i2l, 1) by decide +kernel) rfl ?_
  refine W.lcmp hx hb (show decode code 776 = .ok (.lcmp, 1) by decide +kernel) ?_
  rw [show t2.2 23 0 (0 : Int32).toNatClampNeg = _ from hO hk0, sr_cmp0]
  refine lv_if_eq (tgt := 782) hx hb (show decode code 777 = .ok (.ifCond .eq 5, 3) by decide +kernel) (by decide) (fun _ => ?_) (fun hq => absurd rfl hq)
  refine lv_goto (tgt := 2743) hx hb (show decode code 782 = .ok (.goto 1961, 3) by decide +kernel) (by decide) ?_
  refine W.widen (k := cells + 8) (n := slots + 48) (by omega) (by omega) ?_
  exact kk _ _ _ _ hI2 Wd3 (lv_sub hl [2, 3, 4, 5, 6] rfl)
