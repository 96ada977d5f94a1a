theorem lc_26 {Inv Inv' : sr_t → Prop} {p : Program} {l : Launch} {e : Env} {s : State} {m : MethodId} {below : List Frame} {meth : Method} {c : Code} {b L : Nat} {xs : Nat → Int32} {D : va_G} {dA : Nat → ClassId} {H : Heap} {locs : List Loc} {ls : Array Slot} {cells slots i : Nat} {tt : sr_t} (hL : L ≤ 2048) (C0 : lw_At p s m meth c b L xs) (C : sr_C l (sr_Ml meth c) p s m #[Value.ref b] meth c D dA s.heap.size) (hi : i + 4 ≤ L) (hstep : sr_ok3 Inv Inv' (fun t => FL_worst_23 (xs (i + 1)) t) (fun t => F11_worst (xs (i + 1)) t)) (hI : Inv tt) (Wd : sr_W D dA s.heap.size (sr_em tt) s H locs) (hl : lv_has ls 7 [(0, .ref b), (1, .ref (sr_ad s.heap.size 10 0)), (2, .ref (sr_ad s.heap.size 11 0)), (3, .ref (sr_ad s.heap.size 23 0)), (4, .int (nI i))]) (hc : cells + 8 ≤ 601024) (hs : slots + 48 ≤ 7293033) (kk : ∀ (tt' : sr_t) (H' : Heap) (locs' : List Loc) (ls' : Array Slot), Inv' tt' → sr_W D dA s.heap.size (sr_em tt') s H' locs' → lv_has ls' 7 [(0, .ref b), (1, .ref (sr_ad s.heap.size 10 0)), (2, .ref (sr_ad s.heap.size 11 0)), (3, .ref (sr_ad s.heap.size 23 0)), (4, .int (nI i))] → W p l e room_1 s m #[Value.ref b] below meth c H' locs' (cells + 8) (slots + 48) (lw_Z below #[Value.ref b] s) (F0 m 2743 ls' [])) : W p l e room_1 s m #[Value.ref b] below meth c H locs cells slots (lw_Z below #[Value.ref b] s) (F0 m 1850 ls []) := by
  obtain ⟨hx, hb, hr, hml, hown, hts, hX, hbl, hlocks, hgv⟩ := C0
  have hbA : ¬ sr_A s.heap.size b := Nat.not_le.mpr hbl
  have Wd0 := Wd.2.2
  have hRc : room_1.cells = 601024 := rfl
  have hRs : room_1.slots = 7293033 := rfl
  obtain ⟨r1, t1, r2, t2, e1, e2, hE, hO, hI2⟩ := hstep tt hI
  refine lv_aload_n hx hb (show decode code 1850 = .ok (.aload_n 1, 1) by decide +kernel) rfl (lv_at hl 1 rfl) ?_
  refine lv_aload_n hx hb (show decode code 1851 = .ok (.aload_n 0, 1) by decide +kernel) rfl (lv_at hl 0 rfl) ?_
  refine lv_iload hx hb (show decode code 1852 = .ok (.iload 4, 2) by decide +kernel) (lv_at hl 4 rfl) ?_
  refine lv_iconst (n := 1) (v := 1) hx hb (show decode code 1854 = .ok (.iconst 1, 1) by decide +kernel) (by decide) ?_
  refine lv_iadd hx hb (show decode code 1855 = .ok (.iadd, 1) by decide +kernel) ?_
  rw [show nI i + 1 = nI (i + 1) from nI_add i 1]
  refine va_sld hx hb hX hbl hbA Wd0 (vp_in_nI (show i + 1 < L by omega) (by omega)) (show decode code 1856 = .ok (.iaload, 1) by decide +kernel) ?_
  rw [nI_clamp (show i + 1 < 2147483648 by omega)]
  refine lv_aload_n hx hb (show decode code 1857 = .ok (.aload_n 3, 1) by decide +kernel) rfl (lv_at hl 3 rfl) ?_
  refine sr_wS (As := [sr_r 10 0, sr_i (xs (i + 1)), sr_r 23 0]) (em := sr_em) (M := sr_Ml meth c) (v := some (sr_i (r1))) (t1 := t1) (rest := []) (mc1 := 2) (ms1 := 12) C Wd hl.1 (Nat.le_of_ble_eq_true rfl) (Nat.le_of_ble_eq_true rfl) (by omega) (by omega) (fun hq => nomatch hq) fh_231 (show decode code 1858 = .ok (.invokestatic 231, 3) by decide +kernel) rm_Law_L_worst rfl (Nat.le_of_ble_eq_true rfl) (e1 ▸ CL_worst_23 l (xs (i + 1)) tt) (fun H1 locs1 Wd1 => ?_)
  have Wd0 := Wd1.2.2
  refine W.eq (g2 := F0 m 1861 ls [.int r1]) rfl ?_
  refine lv_istore (lv' := [(5, .int r1), (0, .ref b), (1, .ref (sr_ad s.heap.size 10 0)), (2, .ref (sr_ad s.heap.size 11 0)), (3, .ref (sr_ad s.heap.size 23 0)), (4, .int (nI i))]) hx hb (show decode code 1861 = .ok (.istore 5, 2) by decide +kernel) hl (by decide) rfl (fun ls hl => ?_)
  refine lv_aload_n hx hb (show decode code 1863 = .ok (.aload_n 2, 1) by decide +kernel) rfl (lv_at hl 3 rfl) ?_
  refine lv_aload_n hx hb (show decode code 1864 = .ok (.aload_n 0, 1) by decide +kernel) rfl (lv_at hl 1 rfl) ?_
  refine lv_iload hx hb (show decode code 1865 = .ok (.iload 4, 2) by decide +kernel) (lv_at hl 5 rfl) ?_
  refine lv_iconst (n := 1) (v := 1) hx hb (show decode code 1867 = .ok (.iconst 1, 1) by decide +kernel) (by decide) ?_
  refine lv_iadd hx hb (show decode code 1868 = .ok (.iadd, 1) by decide +kernel) ?_
  rw [show nI i + 1 = nI (i + 1) from nI_add i 1]
  refine va_sld hx hb hX hbl hbA Wd0 (vp_in_nI (show i + 1 < L by omega) (by omega)) (show decode code 1869 = .ok (.iaload, 1) by decide +kernel) ?_
  rw [nI_clamp (show i + 1 < 2147483648 by omega)]
  refine sr_wV (k := 11) (i := 0) (As := [sr_i (xs (i + 1))]) (em := sr_em) (M := sr_Ml meth c) (v := some (sr_i (r2))) (t1 := t2) (rest := []) (mc1 := 0) (ms1 := 0) C Wd1 hl.1 (Nat.le_of_ble_eq_true rfl) (Nat.le_of_ble_eq_true rfl) (by omega) (by omega) (fun hq => nomatch hq) fm_L_233 fl_L_233 (show decode code 1870 = .ok (.invokevirtual 233, 3) by decide +kernel) (sr_in11 0 (by decide)) rm_Law_11_worst rfl (Nat.le_of_ble_eq_true rfl) (e2 ▸ C11_worst l (xs (i + 1)) t1) (fun H2 locs2 Wd2 => ?_)
  have Wd0 := Wd2.2.2
  refine W.eq (g2 := F0 m 1873 ls [.int r2]) rfl ?_
  refine lv_istore (lv' := [(6, .int r2), (5, .int r1), (0, .ref b), (1, .ref (sr_ad s.heap.size 10 0)), (2, .ref (sr_ad s.heap.size 11 0)), (3, .ref (sr_ad s.heap.size 23 0)), (4, .int (nI i))]) hx hb (show decode code 1873 = .ok (.istore 6, 2) by decide +kernel) hl (by decide) rfl (fun ls hl => ?_)
  refine lv_aload_n hx hb (show decode code 1875 = .ok (.aload_n 2, 1) by decide +kernel) rfl (lv_at hl 4 rfl) ?_
  refine sr_wV (k := 11) (i := 0) (As := []) (em := sr_em) (M := sr_Ml meth c) (v := some (sr_i (t2.1 11 0 0))) (t1 := t2) (rest := []) (mc1 := 0) (ms1 := 0) C Wd2 hl.1 (Nat.le_of_ble_eq_true rfl) (Nat.le_of_ble_eq_true rfl) (by omega) (by omega) (fun hq => nomatch hq) fm_L_146 fl_L_146 (show decode code 1876 = .ok (.invokevirtual 146, 3) by decide +kernel) (sr_in11 0 (by decide)) rm_Law_11_thrown rfl (Nat.le_of_ble_eq_true rfl) ((show F11_thrown t2 = some (.inl (some (sr_i (t2.1 11 0 0))), t2) from rfl) ▸ C11_thrown l  t2) (fun H3 locs3 Wd3 => ?_)
  have Wd0 := Wd3.2.2
  refine W.eq (g2 := F0 m 1879 ls [.int (t2.1 11 0 0)]) rfl ?_
  refine lv_iload hx hb (show decode code 1879 = .ok (.iload 5, 2) by decide +kernel) (lv_at hl 1 rfl) ?_
  refine lv_icmp_eq (tgt := 1886) hx hb (show decode code 1881 = .ok (.if_icmp .eq 5, 3) by decide +kernel) (by decide) (fun _ => ?_) (fun hq => absurd hE hq)
  refine lv_iload hx hb (show decode code 1886 = .ok (.iload 5, 2) by decide +kernel) (lv_at hl 1 rfl) ?_
  refine lv_if_ne (tgt := 1903) hx hb (show decode code 1888 = .ok (.ifCond .ne 15, 3) by decide +kernel) (by decide) (fun _ => ?_) (fun hk0 => ?_)
  · refine lv_goto (tgt := 2743) hx hb (show decode code 1903 = .ok (.goto 840, 3) by decide +kernel) (by decide) ?_
    refine W.widen (k := cells + 8) (n := slots + 48) (by omega) (by omega) ?_
    exact kk _ _ _ _ hI2 Wd3 (lv_sub hl [2, 3, 4, 5, 6] rfl)
  refine lv_aload_n hx hb (show decode code 1891 = .ok (.aload_n 3, 1) by decide +kernel) rfl (lv_at hl 5 rfl) ?_
  refine lv_iconst (n := 0) (v := 0) hx hb (show decode code 1892 = .ok (.iconst 0, 1) by decide +kernel) (by decide) ?_
  refine sr_wlal (M := sr_Ml meth c) (k := 23) (i := 0) (n := 1) (a := 0) C Wd3 rfl (by decide) (sr_in23 0 (by decide)) (by decide) (show decode code 1893 = .ok (.laload, 1) by decide +kernel) ?_
  refine lv_iload hx hb (show decode code 1894 = .ok (.iload 6, 2) by decide +kernel) (lv_at hl 0 rfl) ?_
  refine lv_i2l hx hb (show decode code 1896 = .ok (.i2l, 1) by decide +kernel) rfl ?_
  refine W.lcmp hx hb (show decode code 1897 = .ok (.lcmp, 1) by decide +kernel) ?_
  rw [show t2.2 23 0 (0 : Int32).toNatClampNeg = _ from hO hk0, sr_cmp0]
  refine lv_if_eq (tgt := 1903) hx hb (show decode code 1898 = .ok (.ifCond .eq 5, 3) by decide +kernel) (by decide) (fun _ => ?_) (fun hq => absurd rfl hq)
  refine lv_goto (tgt := 2743) hx hb (show decode code 1903 = .ok (.goto 840, 3) by decide +kernel) (by decide) ?_
  refine W.widen (k := cells + 8) (n := slots + 48) (by omega) (by omega) ?_
  exact kk _ _ _ _ hI2 Wd3 (lv_sub hl [2, 3, 4, 5, 6] rfl)
theorem lc_27 {Inv Inv' : sr_t → Prop} {p : Program} {l : Launch} {e : Env} {s : State} {m : MethodId} {below : List Frame} {meth : Method} {c : Code} {b L : Nat} {xs : Nat → Int32} {D : va_G} {dA : Nat → ClassId} {H : Heap} {locs : List Loc} {ls : Array Slot} {cells slots i : Nat} {tt : sr_t} (hL : L ≤ 2048) (C0 : lw_At p s m meth c b L xs) (C : sr_C l (sr_Ml meth c) p s m #[Value.ref b] meth c D dA s.heap.size) (hi : i + 4 ≤ L) (hstep : sr_ok3 Inv Inv' (fun t => FL_traffic_23 (xs (i + 1)) t) (fun t => F11_traffic (xs (i + 1)) t)) (hI : Inv tt) (Wd : sr_W D dA s.heap.size (sr_em tt) s H locs) (hl : lv_has ls 7 [(0, .ref b), (1, .ref (sr_ad s.heap.size 10 0)), (2, .ref (sr_ad s.heap.size 11 0)), (3, .ref (sr_ad s.heap.size 23 0)), (4, .int (nI i))]) (hc : cells + 8 ≤ 601024) (hs : slots + 48 ≤ 7293033) (kk : ∀ (tt' : sr_t) (H' : Heap) (locs' : List Loc) (ls' : Array Slot), Inv' tt' → sr_W D dA s.heap.size (sr_em tt') s H' locs' → lv_has ls' 7 [(0, .ref b), (1, .ref (sr_ad s.heap.size 10 0)), (2, .ref (sr_ad s.heap.size 11 0)), (3, .ref (sr_ad s.heap.size 23 0)), (4, .int (nI i))] → W p l e room_1 s m #[Value.ref b] below meth c H' locs' (cells + 8) (slots + 48) (lw_Z below #[Value.ref b] s) (F0 m 2743 ls' [])) : W p l e room_1 s m #[Value.ref b] below meth c H locs cells slots (lw_Z below #[Value.ref b] s) (F0 m 1906 ls []) := by
  obtain ⟨hx, hb, hr, hml, hown, hts, hX, hbl, hlocks, hgv⟩ := C0
  have hbA : ¬ sr_A s.heap.size b := Nat.not_le.mpr hbl
  have Wd0 := Wd.2.2
  have hRc : room_1.cells = 601024 := rfl
  have hRs : room_1.slots = 7293033 := rfl
  obtain ⟨r1, t1, r2, t2, e1, e2, hE, hO, hI2⟩ := hstep tt hI
  refine lv_aload_n hx hb (show decode code 1906 = .ok (.aload_n 1, 1) by decide +kernel) rfl (lv_at hl 1 rfl) ?_
  refine lv_aload_n hx hb (show decode code 1907 = .ok (.aload_n 0, 1) by decide +kernel) rfl (lv_at hl 0 rfl) ?_
  refine lv_iload hx hb (show decode code 1908 = .ok (.iload 4, 2) by decide +kernel) (lv_at hl 4 rfl) ?_
  refine lv_iconst (n := 1) (v := 1) hx hb (show decode code 1910 = .ok (.iconst 1, 1) by decide +kernel) (by decide) ?_
  refine lv_iadd hx hb (show decode code 1911 = .ok (.iadd, 1) by decide +kernel) ?_
  rw [show nI i + 1 = nI (i + 1) from nI_add i 1]
  refine va_sld hx hb hX hbl hbA Wd0 (vp_in_nI (show i + 1 < L by omega) (by omega)) (show decode code 1912 = .ok (.iaload, 1) by decide +kernel) ?_
  rw [nI_clamp (show i + 1 < 2147483648 by omega)]
  refine lv_aload_n hx hb (show decode code 1913 = .ok (.aload_n 3, 1) by decide +kernel) rfl (lv_at hl 3 rfl) ?_
  refine sr_wS (As := [sr_r 10 0, sr_i (xs (i + 1)), sr_r 23 0]) (em := sr_em) (M := sr_Ml meth c) (v := some (sr_i (r1))) (t1 := t1) (rest := []) (mc1 := 2) (ms1 := 12) C Wd hl.1 (Nat.le_of_ble_eq_true rfl) (Nat.le_of_ble_eq_true rfl) (by omega) (by omega) (fun hq => nomatch hq) fh_234 (show decode code 1914 = .ok (.invokestatic 234, 3) by decide +kernel) rm_Law_L_traffic rfl (Nat.le_of_ble_eq_true rfl) (e1 ▸ CL_traffic_23 l (xs (i + 1)) tt) (fun H1 locs1 Wd1 => ?_)
  have Wd0 := Wd1.2.2
  refine W.eq (g2 := F0 m 1917 ls [.int r1]) rfl ?_
  refine lv_istore (lv' := [(5, .int r1), (0, .ref b), (1, .ref (sr_ad s.heap.size 10 0)), (2, .ref (sr_ad s.heap.size 11 0)), (3, .ref (sr_ad s.heap.size 23 0)), (4, .int (nI i))]) hx hb (show decode code 1917 = .ok (.istore 5, 2) by decide +kernel) hl (by decide) rfl (fun ls hl => ?_)
  refine lv_aload_n hx hb (show decode code 1919 = .ok (.aload_n 2, 1) by decide +kernel) rfl (lv_at hl 3 rfl) ?_
  refine lv_aload_n hx hb (show decode code 1920 = .ok (.aload_n 0, 1) by decide +kernel) rfl (lv_at hl 1 rfl) ?_
  refine lv_iload hx hb (show decode code 1921 = .ok (.iload 4, 2) by decide +kernel) (lv_at hl 5 rfl) ?_
  refine lv_iconst (n := 1) (v := 1) hx hb (show decode code 1923 = .ok (.iconst 1, 1) by decide +kernel) (by decide) ?_
  refine lv_iadd hx hb (show decode code 1924 = .ok (.iadd, 1) by decide +kernel) ?_
  rw [show nI i + 1 = nI (i + 1) from nI_add i 1]
  refine va_sld hx hb hX hbl hbA Wd0 (vp_in_nI (show i + 1 < L by omega) (by omega)) (show decode code 1925 = .ok (.iaload, 1) by decide +kernel) ?_
  rw [nI_clamp (show i + 1 < 2147483648 by omega)]
  refine sr_wV (k := 11) (i := 0) (As := [sr_i (xs (i + 1))]) (em := sr_em) (M := sr_Ml meth c) (v := some (sr_i (r2))) (t1 := t2) (rest := []) (mc1 := 0) (ms1 := 0) C Wd1 hl.1 (Nat.le_of_ble_eq_true rfl) (Nat.le_of_ble_eq_true rfl) (by omega) (by omega) (fun hq => nomatch hq) fm_L_236 fl_L_236 (show decode code 1926 = .ok (.invokevirtual 236, 3) by decide +kernel) (sr_in11 0 (by decide)) rm_Law_11_traffic rfl (Nat.le_of_ble_eq_true rfl) (e2 ▸ C11_traffic l (xs (i + 1)) t1) (fun H2 locs2 Wd2 => ?_)
  have Wd0 := Wd2.2.2
  refine W.eq (g2 := F0 m 1929 ls [.int r2]) rfl ?_
  refine lv_istore (lv' := [(6, .int r2), (5, .int r1), (0, .ref b), (1, .ref (sr_ad s.heap.size 10 0)), (2, .ref (sr_ad s.heap.size 11 0)), (3, .ref (sr_ad s.heap.size 23 0)), (4, .int (nI i))]) hx hb (show decode code 1929 = .ok (.istore 6, 2) by decide +kernel) hl (by decide) rfl (fun ls hl => ?_)
  refine lv_aload_n hx hb (show decode code 1931 = .ok (.aload_n 2, 1) by decide +kernel) rfl (lv_at hl 4 rfl) ?_
  refine sr_wV (k := 11) (i := 0) (As := []) (em := sr_em) (M := sr_Ml meth c) (v := some (sr_i (t2.1 11 0 0))) (t1 := t2) (rest := []) (mc1 := 0) (ms1 := 0) C Wd2 hl.1 (Nat.le_of_ble_eq_true rfl) (Nat.le_of_ble_eq_true rfl) (by omega) (by omega) (fun hq => nomatch hq) fm_L_146 fl_L_146 (show decode code 1932 = .ok (.invokevirtual 146, 3) by decide +kernel) (sr_in11 0 (by decide)) rm_Law_11_thrown rfl (Nat.le_of_ble_eq_true rfl) ((show F11_thrown t2 = some (.inl (some (sr_i (t2.1 11 0 0))), t2) from rfl) ▸ C11_thrown l  t2) (fun H3 locs3 Wd3 => ?_)
  have Wd0 := Wd3.2.2
  refine W.eq (g2 := F0 m 1935 ls [.int (t2.1 11 0 0)]) rfl ?_
  refine lv_iload hx hb (show decode code 1935 = .ok (.iload 5, 2) by decide +kernel) (lv_at hl 1 rfl) ?_
  refine lv_icmp_eq (tgt := 1942) hx hb (show decode code 1937 = .ok (.if_icmp .eq 5, 3) by decide +kernel) (by decide) (fun _ => ?_) (fun hq => absurd hE hq)
  refine lv_iload hx hb (show decode code 1942 = .ok (.iload 5, 2) by decide +kernel) (lv_at hl 1 rfl) ?_
  refine lv_if_ne (tgt := 1959) hx hb (show decode code 1944 = .ok (.ifCond .ne 15, 3) by decide +kernel) (by decide) (fun _ => ?_) (fun hk0 => ?_)
  · refine lv_goto (tgt := 2743) hx hb (show decode code 1959 = .ok (.goto 784, 3) by decide +kernel) (by decide) ?_
    refine W.widen (k := cells + 8) (n := slots + 48) (by omega) (by omega) ?_
    exact kk _ _ _ _ hI2 Wd3 (lv_sub hl [2, 3, 4, 5, 6] rfl)
  refine lv_aload_n hx hb (show decode code 1947 = .ok (.aload_n 3, 1) by decide +kernel) rfl (lv_at hl 5 rfl) ?_
  refine lv_iconst (n := 0) (v := 0) hx hb (show decode code 1948 = .ok (.iconst 0, 1) by decide +kernel) (by decide) ?_
  refine sr_wlal (M := sr_Ml meth c) (k := 23) (i := 0) (n := 1) (a := 0) C Wd3 rfl (by decide) (sr_in23 0 (by decide)) (by decide) (show decode code 1949 = .ok (.laload, 1) by decide +kernel) ?_
  refine lv_iload hx hb (show decode code 1950 = .ok (.iload 6, 2) by decide +kernel) (lv_at hl 0 rfl) ?_
  refine lv_i2l hx hb (show decode code 1952 = .ok (.i2l, 1) by decide +kernel) rfl ?_
  refine W.lcmp hx hb (show decode code 1953 = .ok (.lcmp, 1) by decide +kernel) ?_
  rw [show t2.2 23 0 (0 : Int32).toNatClampNeg = _ from hO hk0, sr_cmp0]
  refine lv_if_eq (tgt := 1959) hx hb (show decode code 1954 = .ok (.ifCond .eq 5, 3) by decide +kernel) (by decide) (fun _ => ?_) (fun hq => absurd rfl hq)
  refine lv_goto (tgt := 2743) hx hb (show decode code 1959 = .ok (.goto 784, 3) by decide +kernel) (by decide) ?_
  refine W.widen (k := cells + 8) (n := slots + 48) (by omega) (by omega) ?_
  exact kk _ _ _ _ hI2 Wd3 (lv_sub hl [2, 3, 4, 5, 6] rfl)
theorem lc_28 {Inv Inv' : sr_t → Prop} {p : Program} {l : Launch} {e : Env} {s : State} {m : MethodId} {below : List Frame} {meth : Method} {c : Code} {b L : Nat} {xs : Nat → Int32} {D : va_G} {dA : Nat → ClassId} {H : Heap} {locs : List Loc} {ls : Array Slot} {cells slots i : Nat} {tt : sr_t} (hL : L ≤ 2048) (C0 : lw_At p s m meth c b L xs) (C : sr_C l (sr_Ml meth c) p s m #[Value.ref b] meth c D dA s.heap.size) (hi : i + 4 ≤ L) (hstep : sr_ok3 Inv Inv' (fun t => FL_detour_23 (xs (i + 1)) t) (fun t => F11_detour (xs (i + 1)) t)) (hI : Inv tt) (Wd : sr_W D dA s.heap.size (sr_em tt) s H locs) (hl : lv_has ls 7 [(0, .ref b), (1, .ref (sr_ad s.heap.size 10 0)), (2, .ref (sr_ad s.heap.size 11 0)), (3, .ref (sr_ad s.heap.size 23 0)), (4, .int (nI i))]) (hc : cells + 8 ≤ 601024) (hs : slots + 48 ≤ 7293033) (kk : ∀ (tt' : sr_t) (H' : Heap) (locs' : List Loc) (ls' : Array Slot), Inv' tt' → sr_W D dA s.heap.size (sr_em tt') s H' locs' → lv_has ls' 7 [(0, .ref b), (1, .ref (sr_ad s.heap.size 10 0)), (2, .ref (sr_ad s.heap.size 11 0)), (3, .ref (sr_ad s.heap.size 23 0)), (4, .int (nI i))] → W p l e room_1 s m #[Value.ref b] below meth c H' locs' (cells + 8) (slots + 48) (lw_Z below #[Value.ref b] s) (F0 m 2743 ls' [])) : W p l e room_1 s m #[Value.ref b] below meth c H locs cells slots (lw_Z below #[Value.ref b] s) (F0 m 1962 ls []) := by
  obtain ⟨hx, hb, hr, hml, hown, hts, hX, hbl, hlocks, hgv⟩ := C0
  have hbA : ¬ sr_A s.heap.size b := Nat.not_le.mpr hbl
  have Wd0 := Wd.2.2
  have hRc : room_1.cells = 601024 := rfl
  have hRs : room_1.slots = 7293033 := rfl
  obtain ⟨r1, t1, r2, t2, e1, e2, hE, hO, hI2⟩ := hstep tt hI
  refine lv_aload_n hx hb (show decode code 1962 = .ok (.aload_n 1, 1) by decide +kernel) rfl (lv_at hl 1 rfl) ?_
  refine lv_aload_n hx hb (show decode code 1963 = .ok (.aload_n 0, 1) by decide +kernel) rfl (lv_at hl 0 rfl) ?_
  refine lv_iload hx hb (show decode code 1964 = .ok (.iload 4, 2) by decide +kernel) (lv_at hl 4 rfl) ?_
  refine lv_iconst (n := 1) (v := 1) hx hb (show decode code 1966 = .ok (.iconst 1, 1) by decide +kernel) (by decide) ?_
  refine lv_iadd hx hb (show decode code 1967 = .ok (.iadd, 1) by decide +kernel) ?_
  rw [show nI i + 1 = nI (i + 1) from nI_add i 1]
  refine va_sld hx hb hX hbl hbA Wd0 (vp_in_nI (show i + 1 < L by omega) (by omega)) (show decode code 1968 = .ok (.iaload, 1) by decide +kernel) ?_
  rw [nI_clamp (show i + 1 < 2147483648 by omega)]
  refine lv_aload_n hx hb (show decode code 1969 = .ok (.aload_n 3, 1) by decide +kernel) rfl (lv_at hl 3 rfl) ?_
  refine sr_wS (As := [sr_r 10 0, sr_i (xs (i + 1)), sr_r 23 0]) (em := sr_em) (M := sr_Ml meth c) (v := some (sr_i (r1))) (t1 := t1) (rest := []) (mc1 := 1) (ms1 := 6) C Wd hl.1 (Nat.le_of_ble_eq_true rfl) (Nat.le_of_ble_eq_true rfl) (by omega) (by omega) (fun hq => nomatch hq) fh_237 (show decode code 1970 = .ok (.invokestatic 237, 3) by decide +kernel) rm_Law_L_detour rfl (Nat.le_of_ble_eq_true rfl) (e1 ▸ CL_detour_23 l (xs (i + 1)) tt) (fun H1 locs1 Wd1 => ?_)
  have Wd0 := Wd1.2.2
  refine W.eq (g2 := F0 m 1973 ls [.int r1]) rfl ?_
  refine lv_istore (lv' := [(5, .int r1), (0, .ref b), (1, .ref (sr_ad s.heap.size 10 0)), (2, .ref (sr_ad s.heap.size 11 0)), (3, .ref (sr_ad s.heap.size 23 0)), (4, .int (nI i))]) hx hb (show decode code 1973 = .ok (.istore 5, 2) by decide +kernel) hl (by decide) rfl (fun ls hl => ?_)
  refine lv_aload_n hx hb (show decode code 1975 = .ok (.aload_n 2, 1) by decide +kernel) rfl (lv_at hl 3 rfl) ?_
  refine lv_aload_n hx hb (show decode code 1976 = .ok (.aload_n 0, 1) by decide +kernel) rfl (lv_at hl 1 rfl) ?_
  refine lv_iload hx hb (show decode code 1977 = .ok (.iload 4, 2) by decide +kernel) (lv_at hl 5 rfl) ?_
  refine lv_iconst (n := 1) (v := 1) hx hb (show decode code 1979 = .ok (.iconst 1, 1) by decide +kernel) (by decide) ?_
  refine lv_iadd hx hb (show decode code 1980 = .ok (.iadd, 1) by decide +kernel) ?_
  rw [show nI i + 1 = nI (i + 1) from nI_add i 1]
  refine va_sld hx hb hX hbl hbA Wd0 (vp_in_nI (show i + 1 < L by omega) (by omega)) (show decode code 1981 = .ok (.iaload, 1) by decide +kernel) ?_
  rw [nI_clamp (show i + 1 < 2147483648 by omega)]
  refine sr_wV (k := 11) (i := 0) (As := [sr_i (xs (i + 1))]) (em := sr_em) (M := sr_Ml meth c) (v := some (sr_i (r2))) (t1 := t2) (rest := []) (mc1 := 0) (ms1 := 0) C Wd1 hl.1 (Nat.le_of_ble_eq_true rfl) (Nat.le_of_ble_eq_true rfl) (by omega) (by omega) (fun hq => nomatch hq) fm_L_239 fl_L_239 (show decode code 1982 = .ok (.invokevirtual 239, 3) by decide +kernel) (sr_in11 0 (by decide)) rm_Law_11_detour rfl (Nat.le_of_ble_eq_true rfl) (e2 ▸ C11_detour l (xs (i + 1)) t1) (fun H2 locs2 Wd2 => ?_)
  have Wd0 := Wd2.2.2
  refine W.eq (g2 := F0 m 1985 ls [.int r2]) rfl ?_
  refine lv_istore (lv' := [(6, .int r2), (5, .int r1), (0, .ref b), (1, .ref (sr_ad s.heap.size 10 0)), (2, .ref (sr_ad s.heap.size 11 0)), (3, .ref (sr_ad s.heap.size 23 0)), (4, .int (nI i))]) hx hb (show decode code 1985 = .ok (.istore 6, 2) by decide +kernel) hl (by decide) rfl (fun ls hl => ?_)
  refine lv_aload_n hx hb (show decode code 1987 = .ok (.aload_n 2, 1) by decide +kernel) rfl (lv_at hl 4 rfl) ?_
  refine sr_wV (k := 11) (i := 0) (As := []) (em := sr_em) (M := sr_Ml meth c) (v := some (sr_i (t2.1 11 0 0))) (t1 := t2) (rest := []) (mc1 := 0) (ms1 := 0) C Wd2 hl.1 (Nat.le_of_ble_eq_true rfl) (Nat.le_of_ble_eq_true rfl) (by omega) (by omega) (fun hq => nomatch hq) fm_L_146 fl_L_146 (show decode code 1988 = .ok (.invokevirtual 146, 3) by decide +kernel) (sr_in11 0 (by decide)) rm_Law_11_thrown rfl (Nat.le_of_ble_eq_true rfl) ((show F11_thrown t2 = some (.inl (some (sr_i (t2.1 11 0 0))), t2) from rfl) ▸ C11_thrown l  t2) (fun H3 locs3 Wd3 => ?_)
  have Wd0 := Wd3.2.2
  refine W.eq (g2 := F0 m 1991 ls [.int (t2.1 11 0 0)]) rfl ?_
  refine lv_iload hx hb (show decode code 1991 = .ok (.iload 5, 2) by decide +kernel) (lv_at hl 1 rfl) ?_
  refine lv_icmp_eq (tgt := 1998) hx hb (show decode code 1993 = .ok (.if_icmp .eq 5, 3) by decide +kernel) (by decide) (fun _ => ?_) (fun hq => absurd hE hq)
  refine lv_iload hx hb (show decode code 1998 = .ok (.iload 5, 2) by decide +kernel) (lv_at hl 1 rfl) ?_
  refine lv_if_ne (tgt := 2015) hx hb (show decode code 2000 = .ok (.ifCond .ne 15, 3) by decide +kernel) (by decide) (fun _ => ?_) (fun hk0 => ?_)
  · refine lv_goto (tgt := 2743) hx hb (show decode code 2015 = .ok (.goto 728, 3) by decide +kernel) (by decide) ?_
    refine W.widen (k := cells + 8) (n := slots + 48) (by omega) (by omega) ?_
    exact kk _ _ _ _ hI2 Wd3 (lv_sub hl [2, 3, 4, 5, 6] rfl)
  refine lv_aload_n hx hb (show decode code 2003 = .ok (.aload_n 3, 1) by decide +kernel) rfl (lv_at hl 5 rfl) ?_
  refine lv_iconst (n := 0) (v := 0) hx hb (show decode code 2004 = .ok (.iconst 0, 1) by decide +kernel) (by decide) ?_
  refine sr_wlal (M := sr_Ml meth c) (k := 23) (i := 0) (n := 1) (a := 0) C Wd3 rfl (by decide) (sr_in23 0 (by decide)) (by decide) (show decode code 2005 = .ok (.laload, 1) by decide +kernel) ?_
  refine lv_iload hx hb (show decode code 2006 = .ok (.iload 6, 2) by decide +kernel) (lv_at hl 0 rfl) ?_
  refine lv_i2l hx hb (show decode code 2008 = .ok (.i2l, 1) by decide +kernel) rfl ?_
  refine W.lcmp hx hb (show decode code 2009 = .ok (.lcmp, 1) by decide +kernel) ?_
  rw [show t2.2 23 0 (0 : Int32).toNatClampNeg = _ from hO hk0, sr_cmp0]
  refine lv_if_eq (tgt := 2015) hx hb (show decode code 2010 = .ok (.ifCond .eq 5, 3) by decide +kernel) (by decide) (fun _ => ?_) (fun hq => absurd rfl hq)
  refine lv_goto (tgt := 2743) hx hb (show decode code 2015 = .ok (.goto 728, 3) by decide +kernel) (by decide) ?_
  refine W.widen (k := cells + 8) (n := slots + 48) (by omega) (by omega) ?_
  exact kk _ _ _ _ hI2 Wd3 (lv_sub hl [2, 3, 4, 5, 6] rfl)
theorem lc_29 {Inv Inv' : sr_t → Prop} {p : Program} {l : Launch} {e : Env} {s : State} {m : MethodId} {below : List Frame} {meth : Method} {c : Code} {b L : Nat} {xs : Nat → Int32} {D : va_G} {dA : Nat → ClassId} {H : Heap} {locs : List Loc} {ls : Array Slot} {cells slots i : Nat} {tt : sr_t} (hL : L ≤ 2048) (C0 : lw_At p s m meth c b L xs) (C : sr_C l (sr_Ml meth c) p s m #[Value.ref b] meth c D dA s.heap.size) (hi : i + 4 ≤ L) (hstep : sr_ok3 Inv Inv' (fun t => FL_quickest_23 (xs (i + 1)) t) (fun t => F11_quickest (xs (i + 1)) t)) (hI : Inv tt) (Wd : sr_W D dA s.heap.size (sr_em tt) s H locs) (hl : lv_has ls 7 [(0, .ref b), (1, .ref (sr_ad s.heap.size 10 0)), (2, .ref (sr_ad s.heap.size 11 0)), (3, .ref (sr_ad s.heap.size 23 0)), (4, .int (nI i))]) (hc : cells + 8 ≤ 601024) (hs : slots + 48 ≤ 7293033) (kk : ∀ (tt' : sr_t) (H' : Heap) (locs' : List Loc) (ls' : Array Slot), Inv' tt' → sr_W D dA s.heap.size (sr_em tt') s H' locs' → lv_has ls' 7 [(0, .ref b), (1, .ref (sr_ad s.heap.size 10 0)), (2, .ref (sr_ad s.heap.size 11 0)), (3, .ref (sr_ad s.heap.size 23 0)), (4, .int (nI i))] → W p l e room_1 s m #[Value.ref b] below meth c H' locs' (cells + 8) (slots + 48) (lw_Z below #[Value.ref b] s) (F0 m 2743 ls' [])) : W p l e room_1 s m #[Value.ref b] below meth c H locs cells slots (lw_Z below #[Value.ref b] s) (F0 m 2018 ls []) := by
  obtain ⟨hx, hb, hr, hml, hown, hts, hX, hbl, hlocks, hgv⟩ := C0
  have hbA : ¬ sr_A s.heap.size b := Nat.not_le.mpr hbl
  have Wd0 := Wd.2.2
  have hRc : room_1.cells = 601024 := rfl
  have hRs : room_1.slots = 7293033 := rfl
  obtain ⟨r1, t1, r2, t2, e1, e2, hE, hO, hI2⟩ := hstep tt hI
  refine lv_aload_n hx hb (show decode code 2018 = .ok (.aload_n 1, 1) by decide +kernel) rfl (lv_at hl 1 rfl) ?_
  refine lv_aload_n hx hb (show decode code 2019 = .ok (.aload_n 0, 1) by decide +kernel) rfl (lv_at hl 0 rfl) ?_
  refine lv_iload hx hb (show decode code 2020 = .ok (.iload 4, 2) by decide +kernel) (lv_at hl 4 rfl) ?_
  refine lv_iconst (n := 1) (v := 1) hx hb (show decode code 2022 = .ok (.iconst 1, 1) by decide +kernel) (by decide) ?_
  refine lv_iadd hx hb (show decode code 2023 = .ok (.iadd, 1) by decide +kernel) ?_
  rw [show nI i + 1 = nI (i + 1) from nI_add i 1]
  refine va_sld hx hb hX hbl hbA Wd0 (vp_in_nI (show i + 1 < L by omega) (by omega)) (show decode code 2024 = .ok (.iaload, 1) by decide +kernel) ?_
  rw [nI_clamp (show i + 1 < 2147483648 by omega)]
  refine lv_aload_n hx hb (show decode code 2025 = .ok (.aload_n 3, 1) by decide +kernel) rfl (lv_at hl 3 rfl) ?_
  refine sr_wS (As := [sr_r 10 0, sr_i (xs (i + 1)), sr_r 23 0]) (em := sr_em) (M := sr_Ml meth c) (v := some (sr_i (r1))) (t1 := t1) (rest := []) (mc1 := 1) (ms1 := 6) C Wd hl.1 (Nat.le_of_ble_eq_true rfl) (Nat.le_of_ble_eq_true rfl) (by omega) (by omega) (fun hq => nomatch hq) fh_240 (show decode code 2026 = .ok (.invokestatic 240, 3) by decide +kernel) rm_Law_L_quickest rfl (Nat.le_of_ble_eq_true rfl) (e1 ▸ CL_quickest_23 l (xs (i + 1)) tt) (fun H1 locs1 Wd1 => ?_)
  have Wd0 := Wd1.2.2
  refine W.eq (g2 := F0 m 2029 ls [.int r1]) rfl ?_
  refine lv_istore (lv' := [(5, .int r1), (0, .ref b), (1, .ref (sr_ad s.heap.size 10 0)), (2, .ref (sr_ad s.heap.size 11 0)), (3, .ref (sr_ad s.heap.size 23 0)), (4, .int (nI i))]) hx hb (show decode code 2029 = .ok (.istore 5, 2) by decide +kernel) hl (by decide) rfl (fun ls hl => ?_)
  refine lv_aload_n hx hb (show decode code 2031 = .ok (.aload_n 2, 1) by decide +kernel) rfl (lv_at hl 3 rfl) ?_
  refine lv_aload_n hx hb (show decode code 2032 = .ok (.aload_n 0, 1) by decide +kernel) rfl (lv_at hl 1 rfl) ?_
  refine lv_iload hx hb (show decode code 2033 = .ok (.iload 4, 2) by decide +kernel) (lv_at hl 5 rfl) ?_
  refine lv_iconst (n := 1) (v := 1) hx hb (show decode code 2035 = .ok (.iconst 1, 1) by decide +kernel) (by decide) ?_
  refine lv_iadd hx hb (show decode code 2036 = .ok (.iadd, 1) by decide +kernel) ?_
  rw [show nI i + 1 = nI (i + 1) from nI_add i 1]
  refine va_sld hx hb hX hbl hbA Wd0 (vp_in_nI (show i + 1 < L by omega) (by omega)) (show decode code 2037 = .ok (.iaload, 1) by decide +kernel) ?_
  rw [nI_clamp (show i + 1 < 2147483648 by omega)]
  refine sr_wV (k := 11) (i := 0) (As := [sr_i (xs (i + 1))]) (em := sr_em) (M := sr_Ml meth c) (v := some (sr_i (r2))) (t1 := t2) (rest := []) (mc1 := 0) (ms1 := 0) C Wd1 hl.1 (Nat.le_of_ble_eq_true rfl) (Nat.le_of_ble_eq_true rfl) (by omega) (by omega) (fun hq => nomatch hq) fm_L_242 fl_L_242 (show decode code 2038 = .ok (.invokevirtual 242, 3) by decide +kernel) (sr_in11 0 (by decide)) rm_Law_11_quickest rfl (Nat.le_of_ble_eq_true rfl) (e2 ▸ C11_quickest l (xs (i + 1)) t1) (fun H2 locs2 Wd2 => ?_)
  have Wd0 := Wd2.2.2
  refine W.eq (g2 := F0 m 2041 ls [.int r2]) rfl ?_
  refine lv_istore (lv' := [(6, .int r2), (5, .int r1), (0, .ref b), (1, .ref (sr_ad s.heap.size 10 0)), (2, .ref (sr_ad s.heap.size 11 0)), (3, .ref (sr_ad s.heap.size 23 0)), (4, .int (nI i))]) hx hb (show decode code 2041 = .ok (.istore 6, 2) by decide +kernel) hl (by decide) rfl (fun ls hl => ?_)
  refine lv_aload_n hx hb (show decode code 2043 = .ok (.aload_n 2, 1) by decide +kernel) rfl (lv_at hl 4 rfl) ?_
  refine sr_wV (k := 11) (i := 0) (As := []) (em := sr_em) (M := sr_Ml meth c) (v := some (sr_i (t2.1 11 0 0))) (t1 := t2) (rest := []) (mc1 := 0) (ms1 := 0) C Wd2 hl.1 (Nat.le_of_ble_eq_true rfl) (Nat.le_of_ble_eq_true rfl) (by omega) (by omega) (fun hq => nomatch hq) fm_L_146 fl_L_146 (show decode code 2044 = .ok (.invokevirtual 146, 3) by decide +kernel) (sr_in11 0 (by decide)) rm_Law_11_thrown rfl (Nat.le_of_ble_eq_true rfl) ((show F11_thrown t2 = some (.inl (some (sr_i (t2.1 11 0 0))), t2) from rfl) ▸ C11_thrown l  t2) (fun H3 locs3 Wd3 => ?_)
  have Wd0 := Wd3.2.2
  refine W.eq (g2 := F0 m 2047 ls [.int (t2.1 11 0 0)]) rfl ?_
  refine lv_iload hx hb (show decode code 2047 = .ok (.iload 5, 2) by decide +kernel) (lv_at hl 1 rfl) ?_
  refine lv_icmp_eq (tgt := 2054) hx hb (show decode code 2049 = .ok (.if_icmp .eq 5, 3) by decide +kernel) (by decide) (fun _ => ?_) (fun hq => absurd hE hq)
  refine lv_iload hx hb (show decode code 2054 = .ok (.iload 5, 2) by decide +kernel) (lv_at hl 1 rfl) ?_
  refine lv_if_ne (tgt := 2071) hx hb (show decode code 2056 = .ok (.ifCond .ne 15, 3) by decide +kernel) (by decide) (fun _ => ?_) (fun hk0 => ?_)
  · refine lv_goto (tgt := 2743) hx hb (show decode code 2071 = .ok (.goto 672, 3) by decide +kernel) (by decide) ?_
    refine W.widen (k := cells + 8) (n := slots + 48) (by omega) (by omega) ?_
    exact kk _ _ _ _ hI2 Wd3 (lv_sub hl [2, 3, 4, 5, 6] rfl)
  refine lv_aload_n hx hb (show decode code 2059 = .ok (.aload_n 3, 1) by decide +kernel) rfl (lv_at hl 5 rfl) ?_
  refine lv_iconst (n := 0) (v := 0) hx hb (show decode code 2060 = .ok (.iconst 0, 1) by decide +kernel) (by decide) ?_
  refine sr_wlal (M := sr_Ml meth c) (k := 23) (i := 0) (n := 1) (a := 0) C Wd3 rfl (by decide) (sr_in23 0 (by decide)) (by decide) (show decode code 2061 = .ok (.laload, 1) by decide +kernel) ?_
  refine lv_iload hx hb (show decode code 2062 = .ok (.iload 6, 2) by decide +kernel) (lv_at hl 0 rfl) ?_
  refine lv_i2l hx hb (show decode code 2064 = .ok (.i2l, 1) by decide +kernel) rfl ?_
  refine W.lcmp hx hb (show decode code 2065 = .ok (.lcmp, 1) by decide +kernel) ?_
  rw [show t2.2 23 0 (0 : Int32).toNatClampNeg = _ from hO hk0, sr_cmp0]
  refine lv_if_eq (tgt := 2071) hx hb (show decode code 2066 = .ok (.ifCond .eq 5, 3) by decide +kernel) (by decide) (fun _ => ?_) (fun hq => absurd rfl hq)
  refine lv_goto (tgt := 2743) hx hb (show decode code 2071 = .ok (.goto 672, 3) by decide +kernel) (by decide) ?_
  refine W.widen (k := cells + 8) (n := slots + 48) (by omega) (by omega) ?_
  exact kk _ _ _ _ hI2 Wd3 (lv_sub hl [2, 3, 4, 5, 6] rfl)
theorem lc_30 {Inv Inv' : sr_t → Prop} {p : Program} {l : Launch} {e : Env} {s : State} {m : MethodId} {below : List Frame} {meth : Method} {c : Code} {b L : Nat} {xs : Nat → Int32} {D : va_G} {dA : Nat → ClassId} {H : Heap} {locs : List Loc} {ls : Array Slot} {cells slots i : Nat} {tt : sr_t} (hL : L ≤ 2048) (C0 : lw_At p s m meth c b L xs) (C : sr_C l (sr_Ml meth c) p s m #[Value.ref b] meth c D dA s.heap.size) (hi : i + 4 ≤ L) (hstep : sr_ok3 Inv Inv' (fun t => FL_better_23 (xs (i + 1)) t) (fun t => F11_better (xs (i + 1)) t)) (hI : Inv tt) (Wd : sr_W D dA s.heap.size (sr_em tt) s H locs) (hl : lv_has ls 7 [(0, .ref b), (1, .ref (sr_ad s.heap.size 10 0)), (2, .ref (sr_ad s.heap.size 11 0)), (3, .ref (sr_ad s.heap.size 23 0)), (4, .int (nI i))]) (hc : cells + 8 ≤ 601024) (hs : slots + 48 ≤ 7293033) (kk : ∀ (tt' : sr_t) (H' : Heap) (locs' : List Loc) (ls' : Array Slot), Inv' tt' → sr_W D dA s.heap.size (sr_em tt') s H' locs' → lv_has ls' 7 [(0, .ref b), (1, .ref (sr_ad s.heap.size 10 0)), (2, .ref (sr_ad s.heap.size 11 0)), (3, .ref (sr_ad s.heap.size 23 0)), (4, .int (nI i))] → W p l e room_1 s m #[Value.ref b] below meth c H' locs' (cells + 8) (slots + 48) (lw_Z below #[Value.ref b] s) (F0 m 2743 ls' [])) : W p l e room_1 s m #[Value.ref b] below meth c H locs cells slots (lw_Z below #[Value.ref b] s) (F0 m 2074 ls []) := by
  obtain ⟨hx, hb, hr, hml, hown, hts, hX, hbl, hlocks, hgv⟩ := C0
  have hbA : ¬ sr_A s.heap.size b := Nat.not_le.mpr hbl
  have Wd0 := Wd.2.2
  have hRc : room_1.cells = 601024 := rfl
  have hRs : room_1.slots = 7293033 := rfl
  obtain ⟨r1, t1, r2, t2, e1, e2, hE, hO, hI2⟩ := hstep tt hI
  refine lv_aload_n hx hb (show decode code 2074 = .ok (.aload_n 1, 1) by decide +kernel) rfl (lv_at hl 1 rfl) ?_
  refine lv_aload_n hx hb (show decode code 2075 = .ok (.aload_n 0, 1) by decide +kernel) rfl (lv_at hl 0 rfl) ?_
  refine lv_iload hx hb (show decode code 2076 = .ok (.iload 4, 2) by decide +kernel) (lv_at hl 4 rfl) ?_
  refine lv_iconst (n := 1) (v := 1) hx hb (show decode code 2078 = .ok (.iconst 1, 1) by decide +kernel) (by decide) ?_
  refine lv_iadd hx hb (show decode code 2079 = .ok (.iadd, 1) by decide +kernel) ?_
  rw [show nI i + 1 = nI (i + 1) from nI_add i 1]
  refine va_sld hx hb hX hbl hbA Wd0 (vp_in_nI (show i + 1 < L by omega) (by omega)) (show decode code 2080 = .ok (.iaload, 1) by decide +kernel) ?_
  rw [nI_clamp (show i + 1 < 2147483648 by omega)]
  refine lv_aload_n hx hb (show decode code 2081 = .ok (.aload_n 3, 1) by decide +kernel) rfl (lv_at hl 3 rfl) ?_
  refine sr_wS (As := [sr_r 10 0, sr_i (xs (i + 1)), sr_r 23 0]) (em := sr_em) (M := sr_Ml meth c) (v := some (sr_i (r1))) (t1 := t1) (rest := []) (mc1 := 1) (ms1 := 6) C Wd hl.1 (Nat.le_of_ble_eq_true rfl) (Nat.le_of_ble_eq_true rfl) (by omega) (by omega) (fun hq => nomatch hq) fh_243 (show decode code 2082 = .ok (.invokestatic 243, 3) by decide +kernel) rm_Law_L_better rfl (Nat.le_of_ble_eq_true rfl) (e1 ▸ CL_better_23 l (xs (i + 1)) tt) (fun H1 locs1 Wd1 => ?_)
  have Wd0 := Wd1.2.2
  refine W.eq (g2 := F0 m 2085 ls [.int r1]) rfl ?_
  refine lv_istore (lv' := [(5, .int r1), (0, .ref b), (1, .ref (sr_ad s.heap.size 10 0)), (2, .ref (sr_ad s.heap.size 11 0)), (3, .ref (sr_ad s.heap.size 23 0)), (4, .int (nI i))]) hx hb (show decode code 2085 = .ok (.istore 5, 2) by decide +kernel) hl (by decide) rfl (fun ls hl => ?_)
  refine lv_aload_n hx hb (show decode code 2087 = .ok (.aload_n 2, 1) by decide +kernel) rfl (lv_at hl 3 rfl) ?_
  refine lv_aload_n hx hb (show decode code 2088 = .ok (.aload_n 0, 1) by decide +kernel) rfl (lv_at hl 1 rfl) ?_
  refine lv_iload hx hb (show decode code 2089 = .ok (.iload 4, 2) by decide +kernel) (lv_at hl 5 rfl) ?_
  refine lv_iconst (n := 1) (v := 1) hx hb (show decode code 2091 = .ok (.iconst 1, 1) by decide +kernel) (by decide) ?_
  refine lv_iadd hx hb (show decode code 2092 = .ok (.iadd, 1) by decide +kernel) ?_
  rw [show nI i + 1 = nI (i + 1) from nI_add i 1]
  refine va_sld hx hb hX hbl hbA Wd0 (vp_in_nI (show i + 1 < L by omega) (by omega)) (show decode code 2093 = .ok (.iaload, 1) by decide +kernel) ?_
  rw [nI_clamp (show i + 1 < 2147483648 by omega)]
  refine sr_wV (k := 11) (i := 0) (As := [sr_i (xs (i + 1))]) (em := sr_em) (M := sr_Ml meth c) (v := some (sr_i (r2))) (t1 := t2) (rest := []) (mc1 := 0) (ms1 := 0) C Wd1 hl.1 (Nat.le_of_ble_eq_true rfl) (Nat.le_of_ble_eq_true rfl) (by omega) (by omega) (fun hq => nomatch hq) fm_L_245 fl_L_245 (show decode code 2094 = .ok (.invokevirtual 245, 3) by decide +kernel) (sr_in11 0 (by decide)) rm_Law_11_better rfl (Nat.le_of_ble_eq_true rfl) (e2 ▸ C11_better l (xs (i + 1)) t1) (fun H2 locs2 Wd2 => ?_)
  have Wd0 := Wd2.2.2
  refine W.eq (g2 := F0 m 2097 ls [.int r2]) rfl ?_
  refine lv_istore (lv' := [(6, .int r2), (5, .int r1), (0, .ref b), (1, .ref (sr_ad s.heap.size 10 0)), (2, .ref (sr_ad s.heap.size 11 0)), (3, .ref (sr_ad s.heap.size 23 0)), (4, .int (nI i))]) hx hb (show decode code 2097 = .ok (.istore 6, 2) by decide +kernel) hl (by decide) rfl (fun ls hl => ?_)
  refine lv_aload_n hx hb (show decode code 2099 = .ok (.aload_n 2, 1) by decide +kernel) rfl (lv_at hl 4 rfl) ?_
  refine sr_wV (k := 11) (i := 0) (As := []) (em := sr_em) (M := sr_Ml meth c) (v := some (sr_i (t2.1 11 0 0))) (t1 := t2) (rest := []) (mc1 := 0) (ms1 := 0) C Wd2 hl.1 (Nat.le_of_ble_eq_true rfl) (Nat.le_of_ble_eq_true rfl) (by omega) (by omega) (fun hq => nomatch hq) fm_L_146 fl_L_146 (show decode code 2100 = .ok (.invokevirtual 146, 3) by decide +kernel) (sr_in11 0 (by decide)) rm_Law_11_thrown rfl (Nat.le_of_ble_eq_true rfl) ((show F11_thrown t2 = some (.inl (some (sr_i (t2.1 11 0 0))), t2) from rfl) ▸ C11_thrown l  t2) (fun H3 locs3 Wd3 => ?_)
  have Wd0 := Wd3.2.2
  refine W.eq (g2 := F0 m 2103 ls [.int (t2.1 11 0 0)]) rfl ?_
  refine lv_iload hx hb (show decode code 2103 = .ok (.iload 5, 2) by decide +kernel) (lv_at hl 1 rfl) ?_
  refine lv_icmp_eq (tgt := 2110) hx hb (show decode code 2105 = .ok (.if_icmp .eq 5, 3) by decide +kernel) (by decide) (fun _ => ?_) (fun hq => absurd hE hq)
  refine lv_iload hx hb (show decode code 2110 = .ok (.iload 5, 2) by decide +kernel) (lv_at hl 1 rfl) ?_
  refine lv_if_ne (tgt := 2127) hx hb (show decode code 2112 = .ok (.ifCond .ne 15, 3) by decide +kernel) (by decide) (fun _ => ?_) (fun hk0 => ?_)
  · refine lv_goto (tgt := 2743) hx hb (show decode code 2127 = .ok (.goto 616, 3) by decide +kernel) (by decide) ?_
    refine W.widen (k := cells + 8) (n := slots + 48) (by omega) (by omega) ?_
    exact kk _ _ _ _ hI2 Wd3 (lv_sub hl [2, 3, 4, 5, 6] rfl)
  refine lv_aload_n hx hb (show decode code 2115 = .ok (.aload_n 3, 1) by decide +kernel) rfl (lv_at hl 5 rfl) ?_
  refine lv_iconst (n := 0) (v := 0) hx hb (show decode code 2116 = .ok (.iconst 0, 1) by decide +kernel) (by decide) ?_
  refine sr_wlal (M := sr_Ml meth c) (k := 23) (i := 0) (n := 1) (a := 0) C Wd3 rfl (by decide) (sr_in23 0 (by decide)) (by decide) (show decode code 2117 = .ok (.laload, 1) by decide +kernel) ?_
  refine lv_iload hx hb (show decode code 2118 = .ok (.iload 6, 2) by decide +kernel) (lv_at hl 0 rfl) ?_
  refine lv_i2l hx hb (show decode code 2120 = .ok (.i2l, 1) by decide +kernel) rfl ?_
  refine W.lcmp hx hb (show decode code 2121 = .ok (.lcmp, 1) by decide +kernel) ?_
  rw [show t2.2 23 0 (0 : Int32).toNatClampNeg = _ from hO hk0, sr_cmp0]
  refine lv_if_eq (tgt := 2127) hx hb (show decode code 2122 = .ok (.ifCond .eq 5, 3) by decide +kernel) (by decide) (fun _ => ?_) (fun hq => absurd rfl hq)
  refine lv_goto (tgt := 2743) hx hb (show decode code 2127 = .ok (.goto 616, 3) by decide +kernel) (by decide) ?_
  refine W.widen (k := cells + 8) (n := slots + 48) (by omega) (by omega) ?_
  exact kk _ _ _ _ hI2 Wd3 (lv_sub hl [2, 3, 4, 5, 6] rfl)
theorem lc_31 {Inv Inv' : sr_t → Prop} {p : Program} {l : Launch} {e : Env} {s : State} {m : MethodId} {below : List Frame} {meth : Method} {c : Code} {b L : Nat} {xs : Nat → Int32} {D : va_G} {dA : Nat → ClassId} {H : Heap} {locs : List Loc} {ls : Array Slot} {cells slots i : Nat} {tt : sr_t} (hL : L ≤ 2048) (C0 : lw_At p s m meth c b L xs) (C : sr_C l (sr_Ml meth c) p s m #[Value.ref b] meth c D dA s.heap.size) (hi : i + 4 ≤ L) (hstep : sr_ok3 Inv Inv' (fun t => FL_host_23 (xs (i + 1)) t) (fun t => F11_host (xs (i + 1)) t)) (hI : Inv tt) (Wd : sr_W D dA s.heap.size (sr_em tt) s H locs) (hl : lv_has ls 7 [(0, .ref b), (1, .ref (sr_ad s.heap.size 10 0)), (2, .ref (sr_ad s.heap.size 11 0)), (3, .ref (sr_ad s.heap.size 23 0)), (4, .int (nI i))]) (hc : cells + 8 ≤ 601024) (hs : slots + 48 ≤ 7293033) (kk : ∀ (tt' : sr_t) (H' : Heap) (locs' : List Loc) (ls' : Array Slot), Inv' tt' → sr_W D dA s.heap.size (sr_em tt') s H' locs' → lv_has ls' 7 [(0, .ref b), (1, .ref (sr_ad s.heap.size 10 0)), (2, .ref (sr_ad s.heap.size 11 0)), (3, .ref (sr_ad s.heap.size 23 0)), (4, .int (nI i))] → W p l e room_1 s m #[Value.ref b] below meth c H' locs' (cells + 8) (slots + 48) (lw_Z below #[Value.ref b] s) (F0 m 2743 ls' [])) : W p l e room_1 s m #[Value.ref b] below meth c H locs cells slots (lw_Z below #[Value.ref b] s) (F0 m 2130 ls []) := by
  obtain ⟨hx, hb, hr, hml, hown, hts, hX, hbl, hlocks, hgv⟩ := C0
  have hbA : ¬ sr_A s.heap.size b := Nat.not_le.mpr hbl
  have Wd0 := Wd.2.2
  have hRc : room_1.cells = 601024 := rfl
  have hRs : room_1.slots = 7293033 := rfl
  obtain ⟨r1, t1, r2, t2, e1, e2, hE, hO, hI2⟩ := hstep tt hI
  refine lv_aload_n hx hb (show decode code 2130 = .ok (.aload_n 1, 1) by decide +kernel) rfl (lv_at hl 1 rfl) ?_
  refine lv_aload_n hx hb (show decode code 2131 = .ok (.aload_n 0, 1) by decide +kernel) rfl (lv_at hl 0 rfl) ?_
  refine lv_iload hx hb (show decode code 2132 = .ok (.iload 4, 2) by decide +kernel) (lv_at hl 4 rfl) ?_
  refine lv_iconst (n := 1) (v := 1) hx hb (show decode code 2134 = .ok (.iconst 1, 1) by decide +kernel) (by decide) ?_
  refine lv_iadd hx hb (show decode code 2135 = .ok (.iadd, 1) by decide +kernel) ?_
  rw [show nI i + 1 = nI (i + 1) from nI_add i 1]
  refine va_sld hx hb hX hbl hbA Wd0 (vp_in_nI (show i + 1 < L by omega) (by omega)) (show decode code 2136 = .ok (.iaload, 1) by decide +kernel) ?_
  rw [nI_clamp (show i + 1 < 2147483648 by omega)]
  refine lv_aload_n hx hb (show decode code 2137 = .ok (.aload_n 3, 1) by decide +kernel) rfl (lv_at hl 3 rfl) ?_
  refine sr_wS (As := [sr_r 10 0, sr_i (xs (i + 1)), sr_r 23 0]) (em := sr_em) (M := sr_Ml meth c) (v := some (sr_i (r1))) (t1 := t1) (rest := []) (mc1 := 1) (ms1 := 6) C Wd hl.1 (Nat.le_of_ble_eq_true rfl) (Nat.le_of_ble_eq_true rfl) (by omega) (by omega) (fun hq => nomatch hq) fh_246 (show decode code 2138 = .ok (.invokestatic 246, 3) by decide +kernel) rm_Law_L_host rfl (Nat.le_of_ble_eq_true rfl) (e1 ▸ CL_host_23 l (xs (i + 1)) tt) (fun H1 locs1 Wd1 => ?_)
  have Wd0 := Wd1.2.2
  refine W.eq (g2 := F0 m 2141 ls [.int r1]) rfl ?_
  refine lv_istore (lv' := [(5, .int r1), (0, .ref b), (1, .ref (sr_ad s.heap.size 10 0)), (2, .ref (sr_ad s.heap.size 11 0)), (3, .ref (sr_ad s.heap.size 23 0)), (4, .int (nI i))]) hx hb (show decode code 2141 = .ok (.istore 5, 2) by decide +kernel) hl (by decide) rfl (fun ls hl => ?_)
  refine lv_aload_n hx hb (show decode code 2143 = .ok (.aload_n 2, 1) by decide +kernel) rfl (lv_at hl 3 rfl) ?_
  refine lv_aload_n hx hb (show decode code 2144 = .ok (.aload_n 0, 1) by decide +kernel) rfl (lv_at hl 1 rfl) ?_
  refine lv_iload hx hb (show decode code 2145 = .ok (.iload 4, 2) by decide +kernel) (lv_at hl 5 rfl) ?_
  refine lv_iconst (n := 1) (v := 1) hx hb (show decode code 2147 = .ok (.iconst 1, 1) by decide +kernel) (by decide) ?_
  refine lv_iadd hx hb (show decode code 2148 = .ok (.iadd, 1) by decide +kernel) ?_
  rw [show nI i + 1 = nI (i + 1) from nI_add i 1]
  refine va_sld hx hb hX hbl hbA Wd0 (vp_in_nI (show i + 1 < L by omega) (by omega)) (show decode code 2149 = .ok (.iaload, 1) by decide +kernel) ?_
  rw [nI_clamp (show i + 1 < 2147483648 by omega)]
  refine sr_wV (k := 11) (i := 0) (As := [sr_i (xs (i + 1))]) (em := sr_em) (M := sr_Ml meth c) (v := some (sr_i (r2))) (t1 := t2) (rest := []) (mc1 := 0) (ms1 := 0) C Wd1 hl.1 (Nat.le_of_ble_eq_true rfl) (Nat.le_of_ble_eq_true rfl) (by omega) (by omega) (fun hq => nomatch hq) fm_L_248 fl_L_248 (show decode code 2150 = .ok (.invokevirtual 248, 3) by decide +kernel) (sr_in11 0 (by decide)) rm_Law_11_host rfl (Nat.le_of_ble_eq_true rfl) (e2 ▸ C11_host l (xs (i + 1)) t1) (fun H2 locs2 Wd2 => ?_)
  have Wd0 := Wd2.2.2
  refine W.eq (g2 := F0 m 2153 ls [.int r2]) rfl ?_
  refine lv_istore (lv' := [(6, .int r2), (5, .int r1), (0, .ref b), (1, .ref (sr_ad s.heap.size 10 0)), (2, .ref (sr_ad s.heap.size 11 0)), (3, .ref (sr_ad s.heap.size 23 0)), (4, .int (nI i))]) hx hb (show decode code 2153 = .ok (.istore 6, 2) by decide +kernel) hl (by decide) rfl (fun ls hl => ?_)
  refine lv_aload_n hx hb (show decode code 2155 = .ok (.aload_n 2, 1) by decide +kernel) rfl (lv_at hl 4 rfl) ?_
  refine sr_wV (k := 11) (i := 0) (As := []) (em := sr_em) (M := sr_Ml meth c) (v := some (sr_i (t2.1 11 0 0))) (t1 := t2) (rest := []) (mc1 := 0) (ms1 := 0) C Wd2 hl.1 (Nat.le_of_ble_eq_true rfl) (Nat.le_of_ble_eq_true rfl) (by omega) (by omega) (fun hq => nomatch hq) fm_L_146 fl_L_146 (show decode code 2156 = .ok (.invokevirtual 146, 3) by decide +kernel) (sr_in11 0 (by decide)) rm_Law_11_thrown rfl (Nat.le_of_ble_eq_true rfl) ((show F11_thrown t2 = some (.inl (some (sr_i (t2.1 11 0 0))), t2) from rfl) ▸ C11_thrown l  t2) (fun H3 locs3 Wd3 => ?_)
  have Wd0 := Wd3.2.2
  refine W.eq (g2 := F0 m 2159 ls [.int (t2.1 11 0 0)]) rfl ?_
  refine lv_iload hx hb (show decode code 2159 = .ok (.iload 5, 2) by decide +kernel) (lv_at hl 1 rfl) ?_
  refine lv_icmp_eq (tgt := 2166) hx hb (show decode code 2161 = .ok (.if_icmp .eq 5, 3) by decide +kernel) (by decide) (fun _ => ?_) (fun hq => absurd hE hq)
  refine lv_iload hx hb (show decode code 2166 = .ok (.iload 5, 2) by decide +kernel) (lv_at hl 1 rfl) ?_
  refine lv_if_ne (tgt := 2183) hx hb (show decode code 2168 = .ok (.ifCond .ne 15, 3) by decide +kernel) (by decide) (fun _ => ?_) (fun hk0 => ?_)
  · refine lv_goto (tgt := 2743) hx hb (show decode code 2183 = .ok (.goto 560, 3) by decide +kernel) (by decide) ?_
    refine W.widen (k := cells + 8) (n := slots + 48) (by omega) (by omega) ?_
    exact kk _ _ _ _ hI2 Wd3 (lv_sub hl [2, 3, 4, 5, 6] rfl)
  refine lv_aload_n hx hb (show decode code 2171 = .ok (.aload_n 3, 1) by decide +kernel) rfl (lv_at hl 5 rfl) ?_
  refine lv_iconst (n := 0) (v := 0) hx hb (show decode code 2172 = .ok (.iconst 0, 1) by decide +kernel) (by decide) ?_
  refine sr_wlal (M := sr_Ml meth c) (k := 23) (i := 0) (n := 1) (a := 0) C Wd3 rfl (by decide) (sr_in23 0 (by decide)) (by decide) (show decode code 2173 = .ok (.laload, 1) by decide +kernel) ?_
  refine lv_iload hx hb (show decode code 2174 = .ok (.iload 6, 2) by decide +kernel) (lv_at hl 0 rfl) ?_
  refine lv_i2l hx hb (show decode code 2176 = .ok (.i2l, 1) by decide +kernel) rfl ?_
  refine W.lcmp hx hb (show decode code 2177 = .ok (.lcmp, 1) by decide +kernel) ?_
  rw [show t2.2 23 0 (0 : Int32).toNatClampNeg = _ from hO hk0, sr_cmp0]
  refine lv_if_eq (tgt := 2183) hx hb (show decode code 2178 = .ok (.ifCond .eq 5, 3) by decide +kernel) (by decide) (fun _ => ?_) (fun hq => absurd rfl hq)
  refine lv_goto (tgt := 2743) hx hb (show decode code 2183 = .ok (.goto 560, 3) by decide +kernel) (by decide) ?_
  refine W.widen (k := cells + 8) (n := slots + 48) (by omega) (by omega) ?_
  exact kk _ _ _ _ hI2 Wd3 (lv_sub hl [2, 3, 4, 5, 6] rfl)
theorem lc_32 {Inv Inv' : sr_t → Prop} {p : Program} {l : Launch} {e : Env} {s : State} {m : MethodId} {below : List Frame} {meth : Method} {c : Code} {b L : Nat} {xs : Nat → Int32} {D : va_G} {dA : Nat → ClassId} {H : Heap} {locs : List Loc} {ls : Array Slot} {cells slots i : Nat} {tt : sr_t} (hL : L ≤ 2048) (C0 : lw_At p s m meth c b L xs) (C : sr_C l (sr_Ml meth c) p s m #[Value.ref b] meth c D dA s.heap.size) (hi : i + 4 ≤ L) (hstep : sr_ok3 Inv Inv' (fun t => FL_ideal_23 (xs (i + 1)) (xs (i + 2)) t) (fun t => F11_ideal (xs (i + 1)) (xs (i + 2)) t)) (hI : Inv tt) (Wd : sr_W D dA s.heap.size (sr_em tt) s H locs) (hl : lv_has ls 7 [(0, .ref b), (1, .ref (sr_ad s.heap.size 10 0)), (2, .ref (sr_ad s.heap.size 11 0)), (3, .ref (sr_ad s.heap.size 23 0)), (4, .int (nI i))]) (hc : cells + 8 ≤ 601024) (hs : slots + 48 ≤ 7293033) (kk : ∀ (tt' : sr_t) (H' : Heap) (locs' : List Loc) (ls' : Array Slot), Inv' tt' → sr_W D dA s.heap.size (sr_em tt') s H' locs' → lv_has ls' 7 [(0, .ref b), (1, .ref (sr_ad s.heap.size 10 0)), (2, .ref (sr_ad s.heap.size 11 0)), (3, .ref (sr_ad s.heap.size 23 0)), (4, .int (nI i))] → W p l e room_1 s m #[Value.ref b] below meth c H' locs' (cells + 8) (slots + 48) (lw_Z below #[Value.ref b] s) (F0 m 2743 ls' [])) : W p l e room_1 s m #[Value.ref b] below meth c H locs cells slots (lw_Z below #[Value.ref b] s) (F0 m 2186 ls []) := by
  obtain ⟨hx, hb, hr, hml, hown, hts, hX, hbl, hlocks, hgv⟩ := C0
  have hbA : ¬ sr_A s.heap.size b := Nat.not_le.mpr hbl
  have Wd0 := Wd.2.2
  have hRc : room_1.cells = 601024 := rfl
  have hRs : room_1.slots = 7293033 := rfl
  obtain ⟨r1, t1, r2, t2, e1, e2, hE, hO, hI2⟩ := hstep tt hI
  refine lv_aload_n hx hb (show decode code 2186 = .ok (.aload_n 1, 1) by decide +kernel) rfl (lv_at hl 1 rfl) ?_
  refine lv_aload_n hx hb (show decode code 2187 = .ok (.aload_n 0, 1) by decide +kernel) rfl (lv_at hl 0 rfl) ?_
  refine lv_iload hx hb (show decode code 2188 = .ok (.iload 4, 2) by decide +kernel) (lv_at hl 4 rfl) ?_
  refine lv_iconst (n := 1) (v := 1) hx hb (show decode code 2190 = .ok (.iconst 1, 1) by decide +kernel) (by decide) ?_
  refine lv_iadd hx hb (show decode code 2191 = .ok (.iadd, 1) by decide +kernel) ?_
  rw [show nI i + 1 = nI (i + 1) from nI_add i 1]
  refine va_sld hx hb hX hbl hbA Wd0 (vp_in_nI (show i + 1 < L by omega) (by omega)) (show decode code 2192 = .ok (.iaload, 1) by decide +kernel) ?_
  rw [nI_clamp (show i + 1 < 2147483648 by omega)]
  refine lv_aload_n hx hb (show decode code 2193 = .ok (.aload_n 0, 1) by decide +kernel) rfl (lv_at hl 0 rfl) ?_
  refine lv_iload hx hb (show decode code 2194 = .ok (.iload 4, 2) by decide +kernel) (lv_at hl 4 rfl) ?_
  refine lv_iconst (n := 2) (v := 2) hx hb (show decode code 2196 = .ok (.iconst 2, 1) by decide +kernel) (by decide) ?_
  refine lv_iadd hx hb (show decode code 2197 = .ok (.iadd, 1) by decide +kernel) ?_
  rw [show nI i + 2 = nI (i + 2) from nI_add i 2]
  refine va_sld hx hb hX hbl hbA Wd0 (vp_in_nI (show i + 2 < L by omega) (by omega)) (show decode code 2198 = .ok (.iaload, 1) by decide +kernel) ?_
  rw [nI_clamp (show i + 2 < 2147483648 by omega)]
  refine lv_aload_n hx hb (show decode code 2199 = .ok (.aload_n 3, 1) by decide +kernel) rfl (lv_at hl 3 rfl) ?_
  refine sr_wS (As := [sr_r 10 0, sr_i (xs (i + 1)), sr_i (xs (i + 2)), sr_r 23 0]) (em := sr_em) (M := sr_Ml meth c) (v := some (sr_i (r1))) (t1 := t1) (rest := []) (mc1 := 3) (ms1 := 18) C Wd hl.1 (Nat.le_of_ble_eq_true rfl) (Nat.le_of_ble_eq_true rfl) (by omega) (by omega) (fun hq => nomatch hq) fh_249 (show decode code 2200 = .ok (.invokestatic 249, 3) by decide +kernel) rm_Law_L_ideal rfl (Nat.le_of_ble_eq_true rfl) (e1 ▸ CL_ideal_23 l (xs (i + 1)) (xs (i + 2)) tt) (fun H1 locs1 Wd1 => ?_)
  have Wd0 := Wd1.2.2
  refine W.eq (g2 := F0 m 2203 ls [.int r1]) rfl ?_
  refine lv_istore (lv' := [(5, .int r1), (0, .ref b), (1, .ref (sr_ad s.heap.size 10 0)), (2, .ref (sr_ad s.heap.size 11 0)), (3, .ref (sr_ad s.heap.size 23 0)), (4, .int (nI i))]) hx hb (show decode code 2203 = .ok (.istore 5, 2) by decide +kernel) hl (by decide) rfl (fun ls hl => ?_)
  refine lv_aload_n hx hb (show decode code 2205 = .ok (.aload_n 2, 1) by decide +kernel) rfl (lv_at hl 3 rfl) ?_
  refine lv_aload_n hx hb (show decode code 2206 = .ok (.aload_n 0, 1) by decide +kernel) rfl (lv_at hl 1 rfl) ?_
  refine lv_iload hx hb (show decode code 2207 = .ok (.iload 4, 2) by decide +kernel) (lv_at hl 5 rfl) ?_
  refine lv_iconst (n := 1) (v := 1) hx hb (show decode code 2209 = .ok (.iconst 1, 1) by decide +kernel) (by decide) ?_
  refine lv_iadd hx hb (show decode code 2210 = .ok (.iadd, 1) by decide +kernel) ?_
  rw [show nI i + 1 = nI (i + 1) from nI_add i 1]
  refine va_sld hx hb hX hbl hbA Wd0 (vp_in_nI (show i + 1 < L by omega) (by omega)) (show decode code 2211 = .ok (.iaload, 1) by decide +kernel) ?_
  rw [nI_clamp (show i + 1 < 2147483648 by omega)]
  refine lv_aload_n hx hb (show decode code 2212 = .ok (.aload_n 0, 1) by decide +kernel) rfl (lv_at hl 1 rfl) ?_
  refine lv_iload hx hb (show decode code 2213 = .ok (.iload 4, 2) by decide +kernel) (lv_at hl 5 rfl) ?_
  refine lv_iconst (n := 2) (v := 2) hx hb (show decode code 2215 = .ok (.iconst 2, 1) by decide +kernel) (by decide) ?_
  refine lv_iadd hx hb (show decode code 2216 = .ok (.iadd, 1) by decide +kernel) ?_
  rw [show nI i + 2 = nI (i + 2) from nI_add i 2]
  refine va_sld hx hb hX hbl hbA Wd0 (vp_in_nI (show i + 2 < L by omega) (by omega)) (show decode code 2217 = .ok (.iaload, 1) by decide +kernel) ?_
  rw [nI_clamp (show i + 2 < 2147483648 by omega)]
  refine sr_wV (k := 11) (i := 0) (As := [sr_i (xs (i + 1)), sr_i (xs (i + 2))]) (em := sr_em) (M := sr_Ml meth c) (v := some (sr_i (r2))) (t1 := t2) (rest := []) (mc1 := 0) (ms1 := 0) C Wd1 hl.1 (Nat.le_of_ble_eq_true rfl) (Nat.le_of_ble_eq_true rfl) (by omega) (by omega) (fun hq => nomatch hq) fm_L_251 fl_L_251 (show decode code 2218 = .ok (.invokevirtual 251, 3) by decide +kernel) (sr_in11 0 (by decide)) rm_Law_11_ideal rfl (Nat.le_of_ble_eq_true rfl) (e2 ▸ C11_ideal l (xs (i + 1)) (xs (i + 2)) t1) (fun H2 locs2 Wd2 => ?_)
  have Wd0 := Wd2.2.2
  refine W.eq (g2 := F0 m 2221 ls [.int r2]) rfl ?_
  refine lv_istore (lv' := [(6, .int r2), (5, .int r1), (0, .ref b), (1, .ref (sr_ad s.heap.size 10 0)), (2, .ref (sr_ad s.heap.size 11 0)), (3, .ref (sr_ad s.heap.size 23 0)), (4, .int (nI i))]) hx hb (show decode code 2221 = .ok (.istore 6, 2) by decide +kernel) hl (by decide) rfl (fun ls hl => ?_)
  refine lv_aload_n hx hb (show decode code 2223 = .ok (.aload_n 2, 1) by decide +kernel) rfl (lv_at hl 4 rfl) ?_
  refine sr_wV (k := 11) (i := 0) (As := []) (em := sr_em) (M := sr_Ml meth c) (v := some (sr_i (t2.1 11 0 0))) (t1 := t2) (rest := []) (mc1 := 0) (ms1 := 0) C Wd2 hl.1 (Nat.le_of_ble_eq_true rfl) (Nat.le_of_ble_eq_true rfl) (by omega) (by omega) (fun hq => nomatch hq) fm_L_146 fl_L_146 (show decode code 2224 = .ok (.invokevirtual 146, 3) by decide +kernel) (sr_in11 0 (by decide)) rm_Law_11_thrown rfl (Nat.le_of_ble_eq_true rfl) ((show F11_thrown t2 = some (.inl (some (sr_i (t2.1 11 0 0))), t2) from rfl) ▸ C11_thrown l  t2) (fun H3 locs3 Wd3 => ?_)
  have Wd0 := Wd3.2.2
  refine W.eq (g2 := F0 m 2227 ls [.int (t2.1 11 0 0)]) rfl ?_
  refine lv_iload hx hb (show decode code 2227 = .ok (.iload 5, 2) by decide +kernel) (lv_at hl 1 rfl) ?_
  refine lv_icmp_eq (tgt := 2234) hx hb (show decode code 2229 = .ok (.if_icmp .eq 5, 3) by decide +kernel) (by decide) (fun _ => ?_) (fun hq => absurd hE hq)
  refine lv_iload hx hb (show decode code 2234 = .ok (.iload 5, 2) by decide +kernel) (lv_at hl 1 rfl) ?_
  refine lv_if_ne (tgt := 2251) hx hb (show decode code 2236 = .ok (.ifCond .ne 15, 3) by decide +kernel) (by decide) (fun _ => ?_) (fun hk0 => ?_)
  · refine lv_goto (tgt := 2743) hx hb (show decode code 2251 = .ok (.goto 492, 3) by decide +kernel) (by decide) ?_
    refine W.widen (k := cells + 8) (n := slots + 48) (by omega) (by omega) ?_
    exact kk _ _ _ _ hI2 Wd3 (lv_sub hl [2, 3, 4, 5, 6] rfl)
  refine lv_aload_n hx hb (show decode code 2239 = .ok (.aload_n 3, 1) by decide +kernel) rfl (lv_at hl 5 rfl) ?_
  refine lv_iconst (n := 0) (v := 0) hx hb (show decode code 2240 = .ok (.iconst 0, 1) by decide +kernel) (by decide) ?_
  refine sr_wlal (M := sr_Ml meth c) (k := 23) (i := 0) (n := 1) (a := 0) C Wd3 rfl (by decide) (sr_in23 0 (by decide)) (by decide) (show decode code 2241 = .ok (.laload, 1) by decide +kernel) ?_
  refine lv_iload hx hb (show decode code 2242 = .ok (.iload 6, 2) by decide +kernel) (lv_at hl 0 rfl) ?_
  refine lv_i2l hx hb (show decode code 2244 = .ok (.i2l, 1) by decide +kernel) rfl ?_
  refine W.lcmp hx hb (show decode code 2245 = .ok (.lcmp, 1) by decide +kernel) ?_
  rw [show t2.2 23 0 (0 : Int32).toNatClampNeg = _ from hO hk0, sr_cmp0]
  refine lv_if_eq (tgt := 2251) hx hb (show decode code 2246 = .ok (.ifCond .eq 5, 3) by decide +kernel) (by decide) (fun _ => ?_) (fun hq => absurd rfl hq)
  refine lv_goto (tgt := 2743) hx hb (show decode code 2251 = .ok (.goto 492, 3) by decide +kernel) (by decide) ?_
  refine W.widen (k := cells + 8) (n := slots + 48) (by omega) (by omega) ?_
  exact kk _ _ _ _ hI2 Wd3 (lv_sub hl [2, 3, 4, 5, 6] rfl)
theorem lc_33 {Inv Inv' : sr_t → Prop} {p : Program} {l : Launch} {e : Env} {s : State} {m : MethodId} {below : List Frame} {meth : Method} {c : Code} {b L : Nat} {xs : Nat → Int32} {D : va_G} {dA : Nat → ClassId} {H : Heap} {locs : List Loc} {ls : Array Slot} {cells slots i : Nat} {tt : sr_t} (hL : L ≤ 2048) (C0 : lw_At p s m meth c b L xs) (C : sr_C l (sr_Ml meth c) p s m #[Value.ref b] meth c D dA s.heap.size) (hi : i + 4 ≤ L) (hstep : sr_ok3 Inv Inv' (fun t => FL_enough_23 (xs (i + 1)) t) (fun t => F11_enough (xs (i + 1)) t)) (hI : Inv tt) (Wd : sr_W D dA s.heap.size (sr_em tt) s H locs) (hl : lv_has ls 7 [(0, .ref b), (1, .ref (sr_ad s.heap.size 10 0)), (2, .ref (sr_ad s.heap.size 11 0)), (3, .ref (sr_ad s.heap.size 23 0)), (4, .int (nI i))]) (hc : cells + 8 ≤ 601024) (hs : slots + 48 ≤ 7293033) (kk : ∀ (tt' : sr_t) (H' : Heap) (locs' : List Loc) (ls' : Array Slot), Inv' tt' → sr_W D dA s.heap.size (sr_em tt') s H' locs' → lv_has ls' 7 [(0, .ref b), (1, .ref (sr_ad s.heap.size 10 0)), (2, .ref (sr_ad s.heap.size 11 0)), (3, .ref (sr_ad s.heap.size 23 0)), (4, .int (nI i))] → W p l e room_1 s m #[Value.ref b] below meth c H' locs' (cells + 8) (slots + 48) (lw_Z below #[Value.ref b] s) (F0 m 2743 ls' [])) : W p l e room_1 s m #[Value.ref b] below meth c H locs cells slots (lw_Z below #[Value.ref b] s) (F0 m 2254 ls []) := by
  obtain ⟨hx, hb, hr, hml, hown, hts, hX, hbl, hlocks, hgv⟩ := C0
  have hbA : ¬ sr_A s.heap.size b := Nat.not_le.mpr hbl
  have Wd0 := Wd.2.2
  have hRc : room_1.cells = 601024 := rfl
  have hRs : room_1.slots = 7293033 := rfl
  obtain ⟨r1, t1, r2, t2, e1, e2, hE, hO, hI2⟩ := hstep tt hI
  refine lv_aload_n hx hb (show decode code 2254 = .ok (.aload_n 1, 1) by decide +kernel) rfl (lv_at hl 1 rfl) ?_
  refine lv_aload_n hx hb (show decode code 2255 = .ok (.aload_n 0, 1) by decide +kernel) rfl (lv_at hl 0 rfl) ?_
  refine lv_iload hx hb (show decode code 2256 = .ok (.iload 4, 2) by decide +kernel) (lv_at hl 4 rfl) ?_
  refine lv_iconst (n := 1) (v := 1) hx hb (show decode code 2258 = .ok (.iconst 1, 1) by decide +kernel) (by decide) ?_
  refine lv_iadd hx hb (show decode code 2259 = .ok (.iadd, 1) by decide +kernel) ?_
  rw [show nI i + 1 = nI (i + 1) from nI_add i 1]
  refine va_sld hx hb hX hbl hbA Wd0 (vp_in_nI (show i + 1 < L by omega) (by omega)) (show decode code 2260 = .ok (.iaload, 1) by decide +kernel) ?_
  rw [nI_clamp (show i + 1 < 2147483648 by omega)]
  refine lv_aload_n hx hb (show decode code 2261 = .ok (.aload_n 3, 1) by decide +kernel) rfl (lv_at hl 3 rfl) ?_
  refine sr_wS (As := [sr_r 10 0, sr_i (xs (i + 1)), sr_r 23 0]) (em := sr_em) (M := sr_Ml meth c) (v := some (sr_i (r1))) (t1 := t1) (rest := []) (mc1 := 1) (ms1 := 6) C Wd hl.1 (Nat.le_of_ble_eq_true rfl) (Nat.le_of_ble_eq_true rfl) (by omega) (by omega) (fun hq => nomatch hq) fh_252 (show decode code 2262 = .ok (.invokestatic 252, 3) by decide +kernel) rm_Law_L_enough rfl (Nat.le_of_ble_eq_true rfl) (e1 ▸ CL_enough_23 l (xs (i + 1)) tt) (fun H1 locs1 Wd1 => ?_)
  have Wd0 := Wd1.2.2
  refine W.eq (g2 := F0 m 2265 ls [.int r1]) rfl ?_
  refine lv_istore (lv' := [(5, .int r1), (0, .ref b), (1, .ref (sr_ad s.heap.size 10 0)), (2, .ref (sr_ad s.heap.size 11 0)), (3, .ref (sr_ad s.heap.size 23 0)), (4, .int (nI i))]) hx hb (show decode code 2265 = .ok (.istore 5, 2) by decide +kernel) hl (by decide) rfl (fun ls hl => ?_)
  refine lv_aload_n hx hb (show decode code 2267 = .ok (.aload_n 2, 1) by decide +kernel) rfl (lv_at hl 3 rfl) ?_
  refine lv_aload_n hx hb (show decode code 2268 = .ok (.aload_n 0, 1) by decide +kernel) rfl (lv_at hl 1 rfl) ?_
  refine lv_iload hx hb (show decode code 2269 = .ok (.iload 4, 2) by decide +kernel) (lv_at hl 5 rfl) ?_
  refine lv_iconst (n := 1) (v := 1) hx hb (show decode code 2271 = .ok (.iconst 1, 1) by decide +kernel) (by decide) ?_
  refine lv_iadd hx hb (show decode code 2272 = .ok (.iadd, 1) by decide +kernel) ?_
  rw [show nI i + 1 = nI (i + 1) from nI_add i 1]
  refine va_sld hx hb hX hbl hbA Wd0 (vp_in_nI (show i + 1 < L by omega) (by omega)) (show decode code 2273 = .ok (.iaload, 1) by decide +kernel) ?_
  rw [nI_clamp (show i + 1 < 2147483648 by omega)]
  refine sr_wV (k := 11) (i := 0) (As := [sr_i (xs (i + 1))]) (em := sr_em) (M := sr_Ml meth c) (v := some (sr_i (r2))) (t1 := t2) (rest := []) (mc1 := 0) (ms1 := 0) C Wd1 hl.1 (Nat.le_of_ble_eq_true rfl) (Nat.le_of_ble_eq_true rfl) (by omega) (by omega) (fun hq => nomatch hq) fm_L_254 fl_L_254 (show decode code 2274 = .ok (.invokevirtual 254, 3) by decide +kernel) (sr_in11 0 (by decide)) rm_Law_11_enough rfl (Nat.le_of_ble_eq_true rfl) (e2 ▸ C11_enough l (xs (i + 1)) t1) (fun H2 locs2 Wd2 => ?_)
  have Wd0 := Wd2.2.2
  refine W.eq (g2 := F0 m 2277 ls [.int r2]) rfl ?_
  refine lv_istore (lv' := [(6, .int r2), (5, .int r1), (0, .ref b), (1, .ref (sr_ad s.heap.size 10 0)), (2, .ref (sr_ad s.heap.size 11 0)), (3, .ref (sr_ad s.heap.size 23 0)), (4, .int (nI i))]) hx hb (show decode code 2277 = .ok (.istore 6, 2) by decide +kernel) hl (by decide) rfl (fun ls hl => ?_)
  refine lv_aload_n hx hb (show decode code 2279 = .ok (.aload_n 2, 1) by decide +kernel) rfl (lv_at hl 4 rfl) ?_
  refine sr_wV (k := 11) (i := 0) (As := []) (em := sr_em) (M := sr_Ml meth c) (v := some (sr_i (t2.1 11 0 0))) (t1 := t2) (rest := []) (mc1 := 0) (ms1 := 0) C Wd2 hl.1 (Nat.le_of_ble_eq_true rfl) (Nat.le_of_ble_eq_true rfl) (by omega) (by omega) (fun hq => nomatch hq) fm_L_146 fl_L_146 (show decode code 2280 = .ok (.invokevirtual 146, 3) by decide +kernel) (sr_in11 0 (by decide)) rm_Law_11_thrown rfl (Nat.le_of_ble_eq_true rfl) ((show F11_thrown t2 = some (.inl (some (sr_i (t2.1 11 0 0))), t2) from rfl) ▸ C11_thrown l  t2) (fun H3 locs3 Wd3 => ?_)
  have Wd0 := Wd3.2.2
  refine W.eq (g2 := F0 m 2283 ls [.int (t2.1 11 0 0)]) rfl ?_
  refine lv_iload hx hb (show decode code 2283 = .ok (.iload 5, 2) by decide +kernel) (lv_at hl 1 rfl) ?_
  refine lv_icmp_eq (tgt := 2290) hx hb (show decode code 2285 = .ok (.if_icmp .eq 5, 3) by decide +kernel) (by decide) (fun _ => ?_) (fun hq => absurd hE hq)
  refine lv_iload hx hb (show decode code 2290 = .ok (.iload 5, 2) by decide +kernel) (lv_at hl 1 rfl) ?_
  refine lv_if_ne (tgt := 2307) hx hb (show decode code 2292 = .ok (.ifCond .ne 15, 3) by decide +kernel) (by decide) (fun _ => ?_) (fun hk0 => ?_)
  · refine lv_goto (tgt := 2743) hx hb (show decode code 2307 = .ok (.goto 436, 3) by decide +kernel) (by decide) ?_
    refine W.widen (k := cells + 8) (n := slots + 48) (by omega) (by omega) ?_
    exact kk _ _ _ _ hI2 Wd3 (lv_sub hl [2, 3, 4, 5, 6] rfl)
  refine lv_aload_n hx hb (show decode code 2295 = .ok (.aload_n 3, 1) by decide +kernel) rfl (lv_at hl 5 rfl) ?_
  refine lv_iconst (n := 0) (v := 0) hx hb (show decode code 2296 = .ok (.iconst 0, 1) by decide +kernel) (by decide) ?_
  refine sr_wlal (M := sr_Ml meth c) (k := 23) (i := 0) (n := 1) (a := 0) C Wd3 rfl (by decide) (sr_in23 0 (by decide)) (by decide) (show decode code 2297 = .ok (.laload, 1) by decide +kernel) ?_
  refine lv_iload hx hb (show decode code 2298 = .ok (.iload 6, 2) by decide +kernel) (lv_at hl 0 rfl) ?_
  refine lv_i2l hx hb (show decode code 2300 = .ok (.i2l, 1) by decide +kernel) rfl ?_
  refine W.lcmp hx hb (show decode code 2301 = .ok (.lcmp, 1) by decide +kernel) ?_
  rw [show t2.2 23 0 (0 : Int32).toNatClampNeg = _ from hO hk0, sr_cmp0]
  refine lv_if_eq (tgt := 2307) hx hb (show decode code 2302 = .ok (.ifCond .eq 5, 3) by decide +kernel) (by decide) (fun _ => ?_) (fun hq => absurd rfl hq)
  refine lv_goto (tgt := 2743) hx hb (show decode code 2307 = .ok (.goto 436, 3) by decide +kernel) (by decide) ?_
  refine W.widen (k := cells + 8) (n := slots + 48) (by omega) (by omega) ?_
  exact kk _ _ _ _ hI2 Wd3 (lv_sub hl [2, 3, 4, 5, 6] rfl)
theorem lc_34 {Inv Inv' : sr_t → Prop} {p : Program} {l : Launch} {e : Env} {s : State} {m : MethodId} {below : List Frame} {meth : Method} {c : Code} {b L : Nat} {xs : Nat → Int32} {D : va_G} {dA : Nat → ClassId} {H : Heap} {locs : List Loc} {ls : Array Slot} {cells slots i : Nat} {tt : sr_t} (hL : L ≤ 2048) (C0 : lw_At p s m meth c b L xs) (C : sr_C l (sr_Ml meth c) p s m #[Value.ref b] meth c D dA s.heap.size) (hi : i + 4 ≤ L) (hstep : sr_ok3 Inv Inv' (fun t => FL_copies_23 (xs (i + 1)) t) (fun t => F11_copies (xs (i + 1)) t)) (hI : Inv tt) (Wd : sr_W D dA s.heap.size (sr_em tt) s H locs) (hl : lv_has ls 7 [(0, .ref b), (1, .ref (sr_ad s.heap.size 10 0)), (2, .ref (sr_ad s.heap.size 11 0)), (3, .ref (sr_ad s.heap.size 23 0)), (4, .int (nI i))]) (hc : cells + 8 ≤ 601024) (hs : slots + 48 ≤ 7293033) (kk : ∀ (tt' : sr_t) (H' : Heap) (locs' : List Loc) (ls' : Array Slot), Inv' tt' → sr_W D dA s.heap.size (sr_em tt') s H' locs' → lv_has ls' 7 [(0, .ref b), (1, .ref (sr_ad s.heap.size 10 0)), (2, .ref (sr_ad s.heap.size 11 0)), (3, .ref (sr_ad s.heap.size 23 0)), (4, .int (nI i))] → W p l e room_1 s m #[Value.ref b] below meth c H' locs' (cells + 8) (slots + 48) (lw_Z below #[Value.ref b] s) (F0 m 2743 ls' [])) : W p l e room_1 s m #[Value.ref b] below meth c H locs cells slots (lw_Z below #[Value.ref b] s) (F0 m 2310 ls []) := by
  obtain ⟨hx, hb, hr, hml, hown, hts, hX, hbl, hlocks, hgv⟩ := C0
  have hbA : ¬ sr_A s.heap.size b := Nat.not_le.mpr hbl
  have Wd0 := Wd.2.2
  have hRc : room_1.cells = 601024 := rfl
  have hRs : room_1.slots = 7293033 := rfl
  obtain ⟨r1, t1, r2, t2, e1, e2, hE, hO, hI2⟩ := hstep tt hI
  refine lv_aload_n hx hb (show decode code 2310 = .ok (.aload_n 1, 1) by decide +kernel) rfl (lv_at hl 1 rfl) ?_
  refine lv_aload_n hx hb (show decode code 2311 = .ok (.aload_n 0, 1) by decide +kernel) rfl (lv_at hl 0 rfl) ?_
  refine lv_iload hx hb (show decode code 2312 = .ok (.iload 4, 2) by decide +kernel) (lv_at hl 4 rfl) ?_
  refine lv_iconst (n := 1) (v := 1) hx hb (show decode code 2314 = .ok (.iconst 1, 1) by decide +kernel) (by decide) ?_
  refine lv_iadd hx hb (show decode code 2315 = .ok (.iadd, 1) by decide +kernel) ?_
  rw [show nI i + 1 = nI (i + 1) from nI_add i 1]
  refine va_sld hx hb hX hbl hbA Wd0 (vp_in_nI (show i + 1 < L by omega) (by omega)) (show decode code 2316 = .ok (.iaload, 1) by decide +kernel) ?_
  rw [nI_clamp (show i + 1 < 2147483648 by omega)]
  refine lv_aload_n hx hb (show decode code 2317 = .ok (.aload_n 3, 1) by decide +kernel) rfl (lv_at hl 3 rfl) ?_
  refine sr_wS (As := [sr_r 10 0, sr_i (xs (i + 1)), sr_r 23 0]) (em := sr_em) (M := sr_Ml meth c) (v := some (sr_i (r1))) (t1 := t1) (rest := []) (mc1 := 1) (ms1 := 6) C Wd hl.1 (Nat.le_of_ble_eq_true rfl) (Nat.le_of_ble_eq_true rfl) (by omega) (by omega) (fun hq => nomatch hq) fh_255 (show decode code 2318 = .ok (.invokestatic 255, 3) by decide +kernel) rm_Law_L_copies rfl (Nat.le_of_ble_eq_true rfl) (e1 ▸ CL_copies_23 l (xs (i + 1)) tt) (fun H1 locs1 Wd1 => ?_)
  have Wd0 := Wd1.2.2
  refine W.eq (g2 := F0 m 2321 ls [.int r1]) rfl ?_
  refine lv_istore (lv' := [(5, .int r1), (0, .ref b), (1, .ref (sr_ad s.heap.size 10 0)), (2, .ref (sr_ad s.heap.size 11 0)), (3, .ref (sr_ad s.heap.size 23 0)), (4, .int (nI i))]) hx hb (show decode code 2321 = .ok (.istore 5, 2) by decide +kernel) hl (by decide) rfl (fun ls hl => ?_)
  refine lv_aload_n hx hb (show decode code 2323 = .ok (.aload_n 2, 1) by decide +kernel) rfl (lv_at hl 3 rfl) ?_
  refine lv_aload_n hx hb (show decode code 2324 = .ok (.aload_n 0, 1) by decide +kernel) rfl (lv_at hl 1 rfl) ?_
  refine lv_iload hx hb (show decode code 2325 = .ok (.iload 4, 2) by decide +kernel) (lv_at hl 5 rfl) ?_
  refine lv_iconst (n := 1) (v := 1) hx hb (show decode code 2327 = .ok (.iconst 1, 1) by decide +kernel) (by decide) ?_
  refine lv_iadd hx hb (show decode code 2328 = .ok (.iadd, 1) by decide +kernel) ?_
  rw [show nI i + 1 = nI (i + 1) from nI_add i 1]
  refine va_sld hx hb hX hbl hbA Wd0 (vp_in_nI (show i + 1 < L by omega) (by omega)) (show decode code 2329 = .ok (.iaload, 1) by decide +kernel) ?_
  rw [nI_clamp (show i + 1 < 2147483648 by omega)]
  refine sr_wV (k := 11) (i := 0) (As := [sr_i (xs (i + 1))]) (em := sr_em) (M := sr_Ml meth c) (v := some (sr_i (r2))) (t1 := t2) (rest := []) (mc1 := 0) (ms1 := 0) C Wd1 hl.1 (Nat.le_of_ble_eq_true rfl) (Nat.le_of_ble_eq_true rfl) (by omega) (by omega) (fun hq => nomatch hq) fm_L_257 fl_L_257 (show decode code 2330 = .ok (.invokevirtual 257, 3) by decide +kernel) (sr_in11 0 (by decide)) rm_Law_11_copies rfl (Nat.le_of_ble_eq_true rfl) (e2 ▸ C11_copies l (xs (i + 1)) t1) (fun H2 locs2 Wd2 => ?_)
  have Wd0 := Wd2.2.2
  refine W.eq (g2 := F0 m 2333 ls [.int r2]) rfl ?_
  refine lv_istore (lv' := [(6, .int r2), (5, .int r1), (0, .ref b), (1, .ref (sr_ad s.heap.size 10 0)), (2, .ref (sr_ad s.heap.size 11 0)), (3, .ref (sr_ad s.heap.size 23 0)), (4, .int (nI i))]) hx hb (show decode code 2333 = .ok (.istore 6, 2) by decide +kernel) hl (by decide) rfl (fun ls hl => ?_)
  refine lv_aload_n hx hb (show decode code 2335 = .ok (.aload_n 2, 1) by decide +kernel) rfl (lv_at hl 4 rfl) ?_
  refine sr_wV (k := 11) (i := 0) (As := []) (em := sr_em) (M := sr_Ml meth c) (v := some (sr_i (t2.1 11 0 0))) (t1 := t2) (rest := []) (mc1 := 0) (ms1 := 0) C Wd2 hl.1 (Nat.le_of_ble_eq_true rfl) (Nat.le_of_ble_eq_true rfl) (by omega) (by omega) (fun hq => nomatch hq) fm_L_146 fl_L_146 (show decode code 2336 = .ok (.invokevirtual 146, 3) by decide +kernel) (sr_in11 0 (by decide)) rm_Law_11_thrown rfl (Nat.le_of_ble_eq_true rfl) ((show F11_thrown t2 = some (.inl (some (sr_i (t2.1 11 0 0))), t2) from rfl) ▸ C11_thrown l  t2) (fun H3 locs3 Wd3 => ?_)
  have Wd0 := Wd3.2.2
  refine W.eq (g2 := F0 m 2339 ls [.int (t2.1 11 0 0)]) rfl ?_
  refine lv_iload hx hb (show decode code 2339 = .ok (.iload 5, 2) by decide +kernel) (lv_at hl 1 rfl) ?_
  refine lv_icmp_eq (tgt := 2346) hx hb (show decode code 2341 = .ok (.if_icmp .eq 5, 3) by decide +kernel) (by decide) (fun _ => ?_) (fun hq => absurd hE hq)
  refine lv_iload hx hb (show decode code 2346 = .ok (.iload 5, 2) by decide +kernel) (lv_at hl 1 rfl) ?_
  refine lv_if_ne (tgt := 2363) hx hb (show decode code 2348 = .ok (.ifCond .ne 15, 3) by decide +kernel) (by decide) (fun _ => ?_) (fun hk0 => ?_)
  · refine lv_goto (tgt := 2743) hx hb (show decode code 2363 = .ok (.goto 380, 3) by decide +kernel) (by decide) ?_
    refine W.widen (k := cells + 8) (n := slots + 48) (by omega) (by omega) ?_
    exact kk _ _ _ _ hI2 Wd3 (lv_sub hl [2, 3, 4, 5, 6] rfl)
  refine lv_aload_n hx hb (show decode code 2351 = .ok (.aload_n 3, 1) by decide +kernel) rfl (lv_at hl 5 rfl) ?_
  refine lv_iconst (n := 0) (v := 0) hx hb (show decode code 2352 = .ok (.iconst 0, 1) by decide +kernel) (by decide) ?_
  refine sr_wlal (M := sr_Ml meth c) (k := 23) (i := 0) (n := 1) (a := 0) C Wd3 rfl (by decide) (sr_in23 0 (by decide)) (by decide) (show decode code 2353 = .ok (.laload, 1) by decide +kernel) ?_
  refine lv_iload hx hb (show decode code 2354 = .ok (.iload 6, 2) by decide +kernel) (lv_at hl 0 rfl) ?_
  refine lv_i2l hx hb (show decode code 2356 = .ok (.i2l, 1) by decide +kernel) rfl ?_
  refine W.lcmp hx hb (show decode code 2357 = .ok (.lcmp, 1) by decide +kernel) ?_
  rw [show t2.2 23 0 (0 : Int32).toNatClampNeg = _ from hO hk0, sr_cmp0]
  refine lv_if_eq (tgt := 2363) hx hb (show decode code 2358 = .ok (.ifCond .eq 5, 3) by decide +kernel) (by decide) (fun _ => ?_) (fun hq => absurd rfl hq)
  refine lv_goto (tgt := 2743) hx hb (show decode code 2363 = .ok (.goto 380, 3) by decide +kernel) (by decide) ?_
  refine W.widen (k := cells + 8) (n := slots + 48) (by omega) (by omega) ?_
  exact kk _ _ _ _ hI2 Wd3 (lv_sub hl [2, 3, 4, 5, 6] rfl)
theorem lc_35 {Inv Inv' : sr_t → Prop} {p : Program} {l : Launch} {e : Env} {s : State} {m : MethodId} {below : List Frame} {meth : Method} {c : Code} {b L : Nat} {xs : Nat → Int32} {D : va_G} {dA : Nat → ClassId} {H : Heap} {locs : List Loc} {ls : Array Slot} {cells slots i : Nat} {tt : sr_t} (hL : L ≤ 2048) (C0 : lw_At p s m meth c b L xs) (C : sr_C l (sr_Ml meth c) p s m #[Value.ref b] meth c D dA s.heap.size) (hi : i + 4 ≤ L) (hstep : sr_ok3 Inv Inv' (fun t => FL_put_23 (xs (i + 1)) (xs (i + 2)) (xs (i + 3)) t) (fun t => F11_put (xs (i + 1)) (xs (i + 2)) (xs (i + 3)) t)) (hI : Inv tt) (Wd : sr_W D dA s.heap.size (sr_em tt) s H locs) (hl : lv_has ls 7 [(0, .ref b), (1, .ref (sr_ad s.heap.size 10 0)), (2, .ref (sr_ad s.heap.size 11 0)), (3, .ref (sr_ad s.heap.size 23 0)), (4, .int (nI i))]) (hc : cells + 8 ≤ 601024) (hs : slots + 48 ≤ 7293033) (kk : ∀ (tt' : sr_t) (H' : Heap) (locs' : List Loc) (ls' : Array Slot), Inv' tt' → sr_W D dA s.heap.size (sr_em tt') s H' locs' → lv_has ls' 7 [(0, .ref b), (1, .ref (sr_ad s.heap.size 10 0)), (2, .ref (sr_ad s.heap.size 11 0)), (3, .ref (sr_ad s.heap.size 23 0)), (4, .int (nI i))] → W p l e room_1 s m #[Value.ref b] below meth c H' locs' (cells + 8) (slots + 48) (lw_Z below #[Value.ref b] s) (F0 m 2743 ls' [])) : W p l e room_1 s m #[Value.ref b] below meth c H locs cells slots (lw_Z below #[Value.ref b] s) (F0 m 2366 ls []) := by
  obtain ⟨hx, hb, hr, hml, hown, hts, hX, hbl, hlocks, hgv⟩ := C0
  have hbA : ¬ sr_A s.heap.size b := Nat.not_le.mpr hbl
  have Wd0 := Wd.2.2
  have hRc : room_1.cells = 601024 := rfl
  have hRs : room_1.slots = 7293033 := rfl
  obtain ⟨r1, t1, r2, t2, e1, e2, hE, hO, hI2⟩ := hstep tt hI
  refine lv_aload_n hx hb (show decode code 2366 = .ok (.aload_n 1, 1) by decide +kernel) rfl (lv_at hl 1 rfl) ?_
  refine lv_aload_n hx hb (show decode code 2367 = .ok (.aload_n 0, 1) by decide +kernel) rfl (lv_at hl 0 rfl) ?_
  refine lv_iload hx hb (show decode code 2368 = .ok (.iload 4, 2) by decide +kernel) (lv_at hl 4 rfl) ?_
  refine lv_iconst (n := 1) (v := 1) hx hb (show decode code 2370 = .ok (.iconst 1, 1) by decide +kernel) (by decide) ?_
  refine lv_iadd hx hb (show decode code 2371 = .ok (.iadd, 1) by decide +kernel) ?_
  rw [show nI i + 1 = nI (i + 1) from nI_add i 1]
  refine va_sld hx hb hX hbl hbA Wd0 (vp_in_nI (show i + 1 < L by omega) (by omega)) (show decode code 2372 = .ok (.iaload, 1) by decide +kernel) ?_
  rw [nI_clamp (show i + 1 < 2147483648 by omega)]
  refine lv_aload_n hx hb (show decode code 2373 = .ok (.aload_n 0, 1) by decide +kernel) rfl (lv_at hl 0 rfl) ?_
  refine lv_iload hx hb (show decode code 2374 = .ok (.iload 4, 2) by decide +kernel) (lv_at hl 4 rfl) ?_
  refine lv_iconst (n := 2) (v := 2) hx hb (show decode code 2376 = .ok (.iconst 2, 1) by decide +kernel) (by decide) ?_
  refine lv_iadd hx hb (show decode code 2377 = .ok (.iadd, 1) by decide +kernel) ?_
  rw [show nI i + 2 = nI (i + 2) from nI_add i 2]
  refine va_sld hx hb hX hbl hbA Wd0 (vp_in_nI (show i + 2 < L by omega) (by omega)) (show decode code 2378 = .ok (.iaload, 1) by decide +kernel) ?_
  rw [nI_clamp (show i + 2 < 2147483648 by omega)]
  refine lv_aload_n hx hb (show decode code 2379 = .ok (.aload_n 0, 1) by decide +kernel) rfl (lv_at hl 0 rfl) ?_
  refine lv_iload hx hb (show decode code 2380 = .ok (.iload 4, 2) by decide +kernel) (lv_at hl 4 rfl) ?_
  refine lv_iconst (n := 3) (v := 3) hx hb (show decode code 2382 = .ok (.iconst 3, 1) by decide +kernel) (by decide) ?_
  refine lv_iadd hx hb (show decode code 2383 = .ok (.iadd, 1) by decide +kernel) ?_
  rw [show nI i + 3 = nI (i + 3) from nI_add i 3]
  refine va_sld hx hb hX hbl hbA Wd0 (vp_in_nI (show i + 3 < L by omega) (by omega)) (show decode code 2384 = .ok (.iaload, 1) by decide +kernel) ?_
  rw [nI_clamp (show i + 3 < 2147483648 by omega)]
  refine lv_aload_n hx hb (show decode code 2385 = .ok (.aload_n 3, 1) by decide +kernel) rfl (lv_at hl 3 rfl) ?_
  refine sr_wS (As := [sr_r 10 0, sr_i (xs (i + 1)), sr_i (xs (i + 2)), sr_i (xs (i + 3)), sr_r 23 0]) (em := sr_em) (M := sr_Ml meth c) (v := some (sr_i (r1))) (t1 := t1) (rest := []) (mc1 := 4) (ms1 := 24) C Wd hl.1 (Nat.le_of_ble_eq_true rfl) (Nat.le_of_ble_eq_true rfl) (by omega) (by omega) (fun hq => nomatch hq) fh_258 (show decode code 2386 = .ok (.invokestatic 258, 3) by decide +kernel) rm_Law_L_put rfl (Nat.le_of_ble_eq_true rfl) (e1 ▸ CL_put_23 l (xs (i + 1)) (xs (i + 2)) (xs (i + 3)) tt) (fun H1 locs1 Wd1 => ?_)
  have Wd0 := Wd1.2.2
  refine W.eq (g2 := F0 m 2389 ls [.int r1]) rfl ?_
  refine lv_istore (lv' := [(5, .int r1), (0, .ref b), (1, .ref (sr_ad s.heap.size 10 0)), (2, .ref (sr_ad s.heap.size 11 0)), (3, .ref (sr_ad s.heap.size 23 0)), (4, .int (nI i))]) hx hb (show decode code 2389 = .ok (.istore 5, 2) by decide +kernel) hl (by decide) rfl (fun ls hl => ?_)
  refine lv_aload_n hx hb (show decode code 2391 = .ok (.aload_n 2, 1) by decide +kernel) rfl (lv_at hl 3 rfl) ?_
  refine lv_aload_n hx hb (show decode code 2392 = .ok (.aload_n 0, 1) by decide +kernel) rfl (lv_at hl 1 rfl) ?_
  refine lv_iload hx hb (show decode code 2393 = .ok (.iload 4, 2) by decide +kernel) (lv_at hl 5 rfl) ?_
  refine lv_iconst (n := 1) (v := 1) hx hb (show decode code 2395 = .ok (.iconst 1, 1) by decide +kernel) (by decide) ?_
  refine lv_iadd hx hb (show decode code 2396 = .ok (.iadd, 1) by decide +kernel) ?_
  rw [show nI i + 1 = nI (i + 1) from nI_add i 1]
  refine va_sld hx hb hX hbl hbA Wd0 (vp_in_nI (show i + 1 < L by omega) (by omega)) (show decode code 2397 = .ok (.iaload, 1) by decide +kernel) ?_
  rw [nI_clamp (show i + 1 < 2147483648 by omega)]
  refine lv_aload_n hx hb (show decode code 2398 = .ok (.aload_n 0, 1) by decide +kernel) rfl (lv_at hl 1 rfl) ?_
  refine lv_iload hx hb (show decode code 2399 = .ok (.iload 4, 2) by decide +kernel) (lv_at hl 5 rfl) ?_
  refine lv_iconst (n := 2) (v := 2) hx hb (show decode code 2401 = .ok (.iconst 2, 1) by decide +kernel) (by decide) ?_
  refine lv_iadd hx hb (show decode code 2402 = .ok (.iadd, 1) by decide +kernel) ?_
  rw [show nI i + 2 = nI (i + 2) from nI_add i 2]
  refine va_sld hx hb hX hbl hbA Wd0 (vp_in_nI (show i + 2 < L by omega) (by omega)) (show decode code 2403 = .ok (.iaload, 1) by decide +kernel) ?_
  rw [nI_clamp (show i + 2 < 2147483648 by omega)]
  refine lv_aload_n hx hb (show decode code 2404 = .ok (.aload_n 0, 1) by decide +kernel) rfl (lv_at hl 1 rfl) ?_
  refine lv_iload hx hb (show decode code 2405 = .ok (.iload 4, 2) by decide +kernel) (lv_at hl 5 rfl) ?_
  refine lv_iconst (n := 3) (v := 3) hx hb (show decode code 2407 = .ok (.iconst 3, 1) by decide +kernel) (by decide) ?_
  refine lv_iadd hx hb (show decode code 2408 = .ok (.iadd, 1) by decide +kernel) ?_
  rw [show nI i + 3 = nI (i + 3) from nI_add i 3]
  refine va_sld hx hb hX hbl hbA Wd0 (vp_in_nI (show i + 3 < L by omega) (by omega)) (show decode code 2409 = .ok (.iaload, 1) by decide +kernel) ?_
  rw [nI_clamp (show i + 3 < 2147483648 by omega)]
  refine sr_wV (k := 11) (i := 0) (As := [sr_i (xs (i + 1)), sr_i (xs (i + 2)), sr_i (xs (i + 3))]) (em := sr_em) (M := sr_Ml meth c) (v := some (sr_i (r2))) (t1 := t2) (rest := []) (mc1 := 0) (ms1 := 0) C Wd1 hl.1 (Nat.le_of_ble_eq_true rfl) (Nat.le_of_ble_eq_true rfl) (by omega) (by omega) (fun hq => nomatch hq) fm_L_260 fl_L_260 (show decode code 2410 = .ok (.invokevirtual 260, 3) by decide +kernel) (sr_in11 0 (by decide)) rm_Law_11_put rfl (Nat.le_of_ble_eq_true rfl) (e2 ▸ C11_put l (xs (i + 1)) (xs (i + 2)) (xs (i + 3)) t1) (fun H2 locs2 Wd2 => ?_)
  have Wd0 := Wd2.2.2
  refine W.eq (g2 := F0 m 2413 ls [.int r2]) rfl ?_
  refine lv_istore (lv' := [(6, .int r2), (5, .int r1), (0, .ref b), (1, .ref (sr_ad s.heap.size 10 0)), (2, .ref (sr_ad s.heap.size 11 0)), (3, .ref (sr_ad s.heap.size 23 0)), (4, .int (nI i))]) hx hb (show decode code 2413 = .ok (.istore 6, 2) by decide +kernel) hl (by decide) rfl (fun ls hl => ?_)
  refine lv_aload_n hx hb (show decode code 2415 = .ok (.aload_n 2, 1) by decide +kernel) rfl (lv_at hl 4 rfl) ?_
  refine sr_wV (k := 11) (i := 0) (As := []) (em := sr_em) (M := sr_Ml meth c) (v := some (sr_i (t2.1 11 0 0))) (t1 := t2) (rest := []) (mc1 := 0) (ms1 := 0) C Wd2 hl.1 (Nat.le_of_ble_eq_true rfl) (Nat.le_of_ble_eq_true rfl) (by omega) (by omega) (fun hq => nomatch hq) fm_L_146 fl_L_146 (show decode code 2416 = .ok (.invokevirtual 146, 3) by decide +kernel) (sr_in11 0 (by decide)) rm_Law_11_thrown rfl (Nat.le_of_ble_eq_true rfl) ((show F11_thrown t2 = some (.inl (some (sr_i (t2.1 11 0 0))), t2) from rfl) ▸ C11_thrown l  t2) (fun H3 locs3 Wd3 => ?_)
  have Wd0 := Wd3.2.2
  refine W.eq (g2 := F0 m 2419 ls [.int (t2.1 11 0 0)]) rfl ?_
  refine lv_iload hx hb (show decode code 2419 = .ok (.iload 5, 2) by decide +kernel) (lv_at hl 1 rfl) ?_
  refine lv_icmp_eq (tgt := 2426) hx hb (show decode code 2421 = .ok (.if_icmp .eq 5, 3) by decide +kernel) (by decide) (fun _ => ?_) (fun hq => absurd hE hq)
  refine lv_iload hx hb (show decode code 2426 = .ok (.iload 5, 2) by decide +kernel) (lv_at hl 1 rfl) ?_
  refine lv_if_ne (tgt := 2443) hx hb (show decode code 2428 = .ok (.ifCond .ne 15, 3) by decide +kernel) (by decide) (fun _ => ?_) (fun hk0 => ?_)
  · refine lv_goto (tgt := 2743) hx hb (show decode code 2443 = .ok (.goto 300, 3) by decide +kernel) (by decide) ?_
    refine W.widen (k := cells + 8) (n := slots + 48) (by omega) (by omega) ?_
    exact kk _ _ _ _ hI2 Wd3 (lv_sub hl [2, 3, 4, 5, 6] rfl)
  refine lv_aload_n hx hb (show decode code 2431 = .ok (.aload_n 3, 1) by decide +kernel) rfl (lv_at hl 5 rfl) ?_
  refine lv_iconst (n := 0) (v := 0) hx hb (show decode code 2432 = .ok (.iconst 0, 1) by decide +kernel) (by decide) ?_
  refine sr_wlal (M := sr_Ml meth c) (k := 23) (i := 0) (n := 1) (a := 0) C Wd3 rfl (by decide) (sr_in23 0 (by decide)) (by decide) (show decode code 2433 = .ok (.laload, 1) by decide +kernel) ?_
  refine lv_iload hx hb (show decode code 2434 = .ok (.iload 6, 2) by decide +kernel) (lv_at hl 0 rfl) ?_
  refine lv_i2l hx hb (show decode code 2436 = .ok (.i2l, 1) by decide +kernel) rfl ?_
  refine W.lcmp hx hb (show decode code 2437 = .ok (.lcmp, 1) by decide +kernel) ?_
  rw [show t2.2 23 0 (0 : Int32).toNatClampNeg = _ from hO hk0, sr_cmp0]
  refine lv_if_eq (tgt := 2443) hx hb (show decode code 2438 = .ok (.ifCond .eq 5, 3) by decide +kernel) (by decide) (fun _ => ?_) (fun hq => absurd rfl hq)
  refine lv_goto (tgt := 2743) hx hb (show decode code 2443 = .ok (.goto 300, 3) by decide +kernel) (by decide) ?_
  refine W.widen (k := cells + 8) (n := slots + 48) (by omega) (by omega) ?_
  exact kk _ _ _ _ hI2 Wd3 (lv_sub hl [2, 3, 4, 5, 6] rfl)
