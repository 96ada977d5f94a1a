def sr_c1 (v : sr_V) : Bool := match v with
  | .inr (.inl _) => false
  | _ => true
theorem sr_c1_ok {ad : Nat → Nat → Nat} {v : sr_V} (h : sr_c1 v = true) : (sr_cv ad v).category = 1 := by
  rw [sr_cat]
  rcases v with x | x | x
  · rfl
  · simp [sr_c1] at h
  · rfl
/-! names in the order of their making, the judgement of a method's body, the rules that touch no heap -/
def sr_nms : List (Nat × Nat) := [(10, 0), (3, 0), (13, 0), (2, 24), (7, 24), (4, 48), (12, 48), (4, 49), (12, 49), (7, 50), (4, 100), (12, 100), (4, 101), (12, 101), (2, 0), (7, 0), (4, 0), (12, 0), (4, 1), (12, 1), (2, 1), (7, 1), (4, 2), (12, 2), (4, 3), (12, 3), (2, 2), (7, 2), (4, 4), (12, 4), (4, 5), (12, 5), (2, 3), (7, 3), (4, 6), (12, 6), (4, 7), (12, 7), (2, 4), (7, 4), (4, 8), (12, 8), (4, 9), (12, 9), (2, 5), (7, 5), (4, 10), (12, 10), (4, 11), (12, 11), (2, 6), (7, 6), (4, 12), (12, 12), (4, 13), (12, 13), (2, 7), (7, 7), (4, 14), (12, 14), (4, 15), (12, 15), (2, 8), (7, 8), (4, 16), (12, 16), (4, 17), (12, 17), (2, 9), (7, 9), (4, 18), (12, 18), (4, 19), (12, 19), (2, 10), (7, 10), (4, 20), (12, 20), (4, 21), (12, 21), (2, 11), (7, 11), (4, 22), (12, 22), (4, 23), (12, 23), (2, 12), (7, 12), (4, 24), (12, 24), (4, 25), (12, 25), (2, 13), (7, 13), (4, 26), (12, 26), (4, 27), (12, 27), (2, 14), (7, 14), (4, 28), (12, 28), (4, 29), (12, 29), (2, 15), (7, 15), (4, 30), (12, 30), (4, 31), (12, 31), (2, 16), (7, 16), (4, 32), (12, 32), (4, 33), (12, 33), (2, 17), (7, 17), (4, 34), (12, 34), (4, 35), (12, 35), (2, 18), (7, 18), (4, 36), (12, 36), (4, 37), (12, 37), (2, 19), (7, 19), (4, 38), (12, 38), (4, 39), (12, 39), (2, 20), (7, 20), (4, 40), (12, 40), (4, 41), (12, 41), (2, 21), (7, 21), (4, 42), (12, 42), (4, 43), (12, 43), (2, 22), (7, 22), (4, 44), (12, 44), (4, 45), (12, 45), (2, 23), (7, 23), (4, 46), (12, 46), (4, 47), (12, 47), (6, 0), (22, 0), (0, 32), (20, 32), (21, 32), (0, 0), (20, 0), (21, 0), (0, 1), (20, 1), (21, 1), (0, 2), (20, 2), (21, 2), (0, 3), (20, 3), (21, 3), (0, 4), (20, 4), (21, 4), (0, 5), (20, 5), (21, 5), (0, 6), (20, 6), (21, 6), (0, 7), (20, 7), (21, 7), (0, 8), (20, 8), (21, 8), (0, 9), (20, 9), (21, 9), (0, 10), (20, 10), (21, 10), (0, 11), (20, 11), (21, 11), (0, 12), (20, 12), (21, 12), (0, 13), (20, 13), (21, 13), (0, 14), (20, 14), (21, 14), (0, 15), (20, 15), (21, 15), (0, 16), (20, 16), (21, 16), (0, 17), (20, 17), (21, 17), (0, 18), (20, 18), (21, 18), (0, 19), (20, 19), (21, 19), (0, 20), (20, 20), (21, 20), (0, 21), (20, 21), (21, 21), (0, 22), (20, 22), (21, 22), (0, 23), (20, 23), (21, 23), (0, 24), (20, 24), (21, 24), (0, 25), (20, 25), (21, 25), (0, 26), (20, 26), (21, 26), (0, 27), (20, 27), (21, 27), (0, 28), (20, 28), (21, 28), (0, 29), (20, 29), (21, 29), (0, 30), (20, 30), (21, 30), (0, 31), (20, 31), (21, 31), (8, 0), (14, 0), (4, 104), (12, 104), (8, 1), (14, 1), (4, 105), (12, 105), (5, 0), (15, 0), (16, 0), (8, 2), (14, 2), (4, 106), (12, 106), (1, 0), (3, 1), (13, 1), (2, 49), (7, 49), (4, 98), (12, 98), (4, 99), (12, 99), (7, 51), (4, 102), (12, 102), (4, 103), (12, 103), (2, 25), (7, 25), (4, 50), (12, 50), (4, 51), (12, 51), (2, 26), (7, 26), (4, 52), (12, 52), (4, 53), (12, 53), (2, 27), (7, 27), (4, 54), (12, 54), (4, 55), (12, 55), (2, 28), (7, 28), (4, 56), (12, 56), (4, 57), (12, 57), (2, 29), (7, 29), (4, 58), (12, 58), (4, 59), (12, 59), (2, 30), (7, 30), (4, 60), (12, 60), (4, 61), (12, 61), (2, 31), (7, 31), (4, 62), (12, 62), (4, 63), (12, 63), (2, 32), (7, 32), (4, 64), (12, 64), (4, 65), (12, 65), (2, 33), (7, 33), (4, 66), (12, 66), (4, 67), (12, 67), (2, 34), (7, 34), (4, 68), (12, 68), (4, 69), (12, 69), (2, 35), (7, 35), (4, 70), (12, 70), (4, 71), (12, 71), (2, 36), (7, 36), (4, 72), (12, 72), (4, 73), (12, 73), (2, 37), (7, 37), (4, 74), (12, 74), (4, 75), (12, 75), (2, 38), (7, 38), (4, 76), (12, 76), (4, 77), (12, 77), (2, 39), (7, 39), (4, 78), (12, 78), (4, 79), (12, 79), (2, 40), (7, 40), (4, 80), (12, 80), (4, 81), (12, 81), (2, 41), (7, 41), (4, 82), (12, 82), (4, 83), (12, 83), (2, 42), (7, 42), (4, 84), (12, 84), (4, 85), (12, 85), (2, 43), (7, 43), (4, 86), (12, 86), (4, 87), (12, 87), (2, 44), (7, 44), (4, 88), (12, 88), (4, 89), (12, 89), (2, 45), (7, 45), (4, 90), (12, 90), (4, 91), (12, 91), (2, 46), (7, 46), (4, 92), (12, 92), (4, 93), (12, 93), (2, 47), (7, 47), (4, 94), (12, 94), (4, 95), (12, 95), (2, 48), (7, 48), (4, 96), (12, 96), (4, 97), (12, 97), (9, 0), (17, 0), (18, 0), (19, 0), (11, 0), (24, 0), (25, 0), (26, 0), (27, 0), (28, 0), (29, 0), (30, 0), (31, 0), (32, 0), (33, 0), (34, 0), (35, 0), (36, 0), (37, 0), (38, 0), (39, 0), (40, 0), (41, 0), (42, 0), (43, 0), (44, 0), (45, 0), (46, 0), (23, 0)]
def sr_ix (k i : Nat) : Nat := sr_nms.idxOf (k, i)
def sr_ad (b k i : Nat) : Nat := b + sr_ix k i
def sr_ST : List (String × Nat × String) := [("ShiftRing", 422, "there is no such place"), ("ShiftRing", 72, "there is no room for the node"), ("ShiftRing", 415, "there is no such node"), ("ShiftRing", 418, "the node is down"), ("ShiftRing", 104, "the node is up"), ("ShiftRing", 427, "there is no such base"), ("ShiftRing", 429, "there is no such degree"), ("ShiftRing", 140, "there is no such spot"), ("ShiftRing", 433, "there is no such what"), ("ShiftRing", 420, "the node, or all its successors are down"), ("ShiftRing", 280, "both are one"), ("ShiftRing", 312, "so many links cannot be"), ("ShiftRing", 317, "so many hops cannot be"), ("ShiftRing", 322, "so many copies cannot be"), ("ShiftRing", 327, "there is no such value"), ("ShiftRing", 332, "too many keys are known"), ("ShiftRing", 345, "the lookup is cut or lost")]
def sr_NC : List (String × String) := [("java/lang/IllegalArgumentException", "java/lang/IllegalStateException"), ("java/lang/IllegalArgumentException", "java/lang/IndexOutOfBoundsException"), ("java/lang/IllegalArgumentException", "java/util/NoSuchElementException"), ("java/lang/IllegalStateException", "java/lang/IllegalArgumentException"), ("java/lang/IllegalStateException", "java/lang/IndexOutOfBoundsException"), ("java/lang/IllegalStateException", "java/util/NoSuchElementException"), ("java/lang/IndexOutOfBoundsException", "java/lang/IllegalArgumentException"), ("java/lang/IndexOutOfBoundsException", "java/lang/IllegalStateException"), ("java/lang/IndexOutOfBoundsException", "java/util/NoSuchElementException"), ("java/util/NoSuchElementException", "java/lang/IllegalArgumentException"), ("java/util/NoSuchElementException", "java/lang/IllegalStateException"), ("java/util/NoSuchElementException", "java/lang/IndexOutOfBoundsException")]
def sr_E (x : Nat) : String := match x with
  | 0 => "java/lang/IllegalArgumentException"
  | 1 => "java/lang/IllegalStateException"
  | 2 => "java/lang/IndexOutOfBoundsException"
  | _ => "java/util/NoSuchElementException"
abbrev sr_M : Type := MethodName × ByteArray × Nat × Option FieldType × List (Nat × Nat × Nat × Nat) × Nat × Nat
abbrev sr_My (M : sr_M) : MethodName := M.1
abbrev sr_Mb (M : sr_M) : ByteArray := M.2.1
abbrev sr_Mn (M : sr_M) : Nat := M.2.2.1
abbrev sr_Mt (M : sr_M) : Option FieldType := M.2.2.2.1
abbrev sr_Mh (M : sr_M) : List (Nat × Nat × Nat × Nat) := M.2.2.2.2.1
abbrev sr_Mf (M : sr_M) : Nat := M.2.2.2.2.2.1
abbrev sr_Mo (M : sr_M) : Nat := M.2.2.2.2.2.2
abbrev sr_O : Type := Option sr_V ⊕ Nat
abbrev sr_A (b : Nat) : Nat → Prop := fun q => b ≤ q
def sr_XS (l : Launch) (b : Nat) (s : State) : Prop := l.stackTraces = false ∧ vx_Zq Bundle.tN "UNASSIGNED_STACK" Bundle.steD (sr_A b) s s.heap ∧ vx_Zq Bundle.tN "SUPPRESSED_SENTINEL" Bundle.listD (sr_A b) s s.heap ∧ (∀ q ∈ sr_ST, ∃ sa, vk_R q.1 q.2.1 q.2.2 sa s) ∧ ∀ q ∈ sr_NC, va_Nc q.1 q.2 s
def sr_C (l : Launch) (M : sr_M) (p : Program) (s : State) (m : MethodId) (args : Array Value) (meth : Method) (c : Code) (D : va_G) (dA : Nat → ClassId) (b : Nat) : Prop :=
  p.tables.exec = Jvm.exec ∧ c.code = sr_Mb M ∧ c.maxLocals = sr_Mn M ∧ meth.sig.returnType = sr_Mt M ∧ s.vm.findClass (sr_My M).cls = some m.cls ∧ (∀ w ∈ sr_TB, w.before args s = true) ∧ (∀ w ∈ sr_NB, va_Nw w s) ∧ meth.locks = false ∧ c.exceptionTable.toList = tableOf (sr_Mh M) ∧ meth.name = (sr_My M).name ∧ va_K D sr_cl (sr_tys dA) s ∧ sr_XS l b s ∧ b ≤ s.heap.size
def sr_W (D : va_G) (dA : Nat → ClassId) (b : Nat) (h : sr_H) (s : State) (H : Heap) (locs : List Loc) : Prop :=
  va_P D sr_cl (sr_cs (sr_ad b) dA h) H ∧ va_D (sr_A b) (sr_cs (sr_ad b) dA h) ∧ va_S (sr_A b) s.heap H locs
def sr_Q (D : va_G) (dA : Nat → ClassId) (b : Nat) (r : sr_O) (h : sr_H) : Array Value → State → Outcome → State → Prop := fun _ st o t =>
  (∃ v : Option sr_V, r = .inl v ∧ o = .returned (v.map (sr_cv (sr_ad b)))) ∧ va_P D sr_cl (sr_cs (sr_ad b) dA h) t.heap ∧ va_D (sr_A b) (sr_cs (sr_ad b) dA h) ∧ va_F (sr_A b) st t
def sr_X (D : va_G) (dA : Nat → ClassId) (b : Nat) (r : sr_O) (h : sr_H) : String → State → State → Prop := fun E st t =>
  (∃ x : Nat, r = .inr x ∧ E = sr_E x) ∧ va_P D sr_cl (sr_cs (sr_ad b) dA h) t.heap ∧ va_D (sr_A b) (sr_cs (sr_ad b) dA h) ∧ va_F (sr_A b) st t
/-- from here, with these locals and this stack, over this heap: the body of M comes to its end as x says -/
def sr_G {α : Type} (em : α → sr_H) (l : Launch) (M : sr_M) (pc : Nat) (L : List (Option sr_V)) (S : List sr_V) (t : α) (x : Option (sr_O × α)) (mc ms : Nat) : Prop :=
  ∀ (r : sr_O) (t' : α), x = some (r, t') → ∀ (p : Program) (e : Env) (R : Room) (s : State) (m : MethodId) (args : Array Value) (below : List Frame) (meth : Method) (c : Code) (D : va_G) (dA : Nat → ClassId) (b : Nat) (H : Heap) (locs : List Loc) (ls : Array Slot) (cells slots : Nat),
    sr_C l M p s m args meth c D dA b → sr_W D dA b (em t) s H locs → lv_has ls (sr_Mn M) (sr_lv (sr_ad b) 0 L) → sr_Mf M ≤ R.frames → sr_Mo M ≤ R.locals → cells + mc ≤ R.cells → slots + ms ≤ R.slots → ((em t).2.1 = true → s.heap.size + cells = b + (em t).1.length ∧ (em t).1 = sr_nms.take (em t).1.length) →
    W p l e R s m args below meth c H locs cells slots (vx_MQ below (sr_Q D dA b r (em t')) (sr_X D dA b r (em t')) args s (cells + mc) (slots + ms) (sr_A b)) (F0 m pc ls (S.map (sr_cv (sr_ad b))))
section SRa
variable {α : Type} {em : α → sr_H} {l : Launch} {M : sr_M} {pc : Nat} {L : List (Option sr_V)} {S : List sr_V} {t : α} {x : Option (sr_O × α)} {mc ms : Nat}
theorem sr_iconst {n : Int} {v : Int32} (hd : decode (sr_Mb M) pc = .ok (.iconst n, 1)) (hv : Int32.ofInt n = v) (kk : sr_G em l M (pc + 1) L (sr_i v :: S) t x mc ms) : sr_G em l M pc L S t x mc ms := by
  intro r t' hx p e R s m args below meth c D dA b H locs ls cells slots C Wd hL h1 h2 h3 h4 h5
  exact lv_iconst C.1 C.2.1 hd hv (kk r t' hx p e R s m args below meth c D dA b H locs ls cells slots C Wd hL h1 h2 h3 h4 h5)
theorem sr_bipush {n : Int} {v : Int32} (hd : decode (sr_Mb M) pc = .ok (.bipush n, 2)) (hv : (Int8.ofInt n).toInt32 = v) (kk : sr_G em l M (pc + 2) L (sr_i v :: S) t x mc ms) : sr_G em l M pc L S t x mc ms := by
  intro r t' hx p e R s m args below meth c D dA b H locs ls cells slots C Wd hL h1 h2 h3 h4 h5
  exact lv_bipush C.1 C.2.1 hd hv (kk r t' hx p e R s m args below meth c D dA b H locs ls cells slots C Wd hL h1 h2 h3 h4 h5)
theorem sr_sipush {n : Int} {v : Int32} (hd : decode (sr_Mb M) pc = .ok (.sipush n, 3)) (hv : (Int16.ofInt n).toInt32 = v) (kk : sr_G em l M (pc + 3) L (sr_i v :: S) t x mc ms) : sr_G em l M pc L S t x mc ms := by
  intro r t' hx p e R s m args below meth c D dA b H locs ls cells slots C Wd hL h1 h2 h3 h4 h5
  exact lv_sipush C.1 C.2.1 hd hv (kk r t' hx p e R s m args below meth c D dA b H locs ls cells slots C Wd hL h1 h2 h3 h4 h5)
theorem sr_lconst {n : Fin 2} {v : Int64} (hd : decode (sr_Mb M) pc = .ok (.lconst n, 1)) (hv : Int64.ofNat (n : Nat) = v) (kk : sr_G em l M (pc + 1) L (sr_l v :: S) t x mc ms) : sr_G em l M pc L S t x mc ms := by
  intro r t' hx p e R s m args below meth c D dA b H locs ls cells slots C Wd hL h1 h2 h3 h4 h5
  exact lv_lconst C.1 C.2.1 hd hv (kk r t' hx p e R s m args below meth c D dA b H locs ls cells slots C Wd hL h1 h2 h3 h4 h5)
theorem sr_ldc {n : Nat} {v : Int32} (hd : decode (sr_Mb M) pc = .ok (.ldc n, 2)) (hw : Cond.constant (sr_My M).cls n v ∈ sr_TB) (kk : sr_G em l M (pc + 2) L (sr_i v :: S) t x mc ms) : sr_G em l M pc L S t x mc ms := by
  intro r t' hx p e R s m args below meth c D dA b H locs ls cells slots C Wd hL h1 h2 h3 h4 h5
  exact lv_ldc C.1 C.2.1 C.2.2.2.2.1 (C.2.2.2.2.2.1 _ hw) hd (kk r t' hx p e R s m args below meth c D dA b H locs ls cells slots C Wd hL h1 h2 h3 h4 h5)
theorem sr_ldcw {n : Nat} {v : Int32} (hd : decode (sr_Mb M) pc = .ok (.ldc_w n, 3)) (hw : Cond.constant (sr_My M).cls n v ∈ sr_TB) (kk : sr_G em l M (pc + 3) L (sr_i v :: S) t x mc ms) : sr_G em l M pc L S t x mc ms := by
  intro r t' hx p e R s m args below meth c D dA b H locs ls cells slots C Wd hL h1 h2 h3 h4 h5
  exact lv_ldcw C.1 C.2.1 C.2.2.2.2.1 (C.2.2.2.2.2.1 _ hw) hd (kk r t' hx p e R s m args below meth c D dA b H locs ls cells slots C Wd hL h1 h2 h3 h4 h5)
theorem sr_iload {i : Nat} {v : Int32} (hd : decode (sr_Mb M) pc = .ok (.iload i, 2)) (hi : L[i]? = some (some (sr_i v))) (kk : sr_G em l M (pc + 2) L (sr_i v :: S) t x mc ms) : sr_G em l M pc L S t x mc ms := by
  intro r t' hx p e R s m args below meth c D dA b H locs ls cells slots C Wd hL h1 h2 h3 h4 h5
  exact lv_iload C.1 C.2.1 hd (sr_lget hL hi) (kk r t' hx p e R s m args below meth c D dA b H locs ls cells slots C Wd hL h1 h2 h3 h4 h5)
theorem sr_iloadn {n : Fin 4} {v : Int32} (hd : decode (sr_Mb M) pc = .ok (.iload_n n, 1)) (hi : L[(n : Nat)]? = some (some (sr_i v))) (kk : sr_G em l M (pc + 1) L (sr_i v :: S) t x mc ms) : sr_G em l M pc L S t x mc ms := by
  intro r t' hx p e R s m args below meth c D dA b H locs ls cells slots C Wd hL h1 h2 h3 h4 h5
  exact lv_iload_n C.1 C.2.1 hd rfl (sr_lget hL hi) (kk r t' hx p e R s m args below meth c D dA b H locs ls cells slots C Wd hL h1 h2 h3 h4 h5)
theorem sr_lload {i : Nat} {v : Int64} (hd : decode (sr_Mb M) pc = .ok (.lload i, 2)) (hi : L[i]? = some (some (sr_l v))) (kk : sr_G em l M (pc + 2) L (sr_l v :: S) t x mc ms) : sr_G em l M pc L S t x mc ms := by
  intro r t' hx p e R s m args below meth c D dA b H locs ls cells slots C Wd hL h1 h2 h3 h4 h5
  exact lv_lload C.1 C.2.1 hd (sr_lget hL hi) (kk r t' hx p e R s m args below meth c D dA b H locs ls cells slots C Wd hL h1 h2 h3 h4 h5)
theorem sr_lloadn {n : Fin 4} {v : Int64} (hd : decode (sr_Mb M) pc = .ok (.lload_n n, 1)) (hi : L[(n : Nat)]? = some (some (sr_l v))) (kk : sr_G em l M (pc + 1) L (sr_l v :: S) t x mc ms) : sr_G em l M pc L S t x mc ms := by
  intro r t' hx p e R s m args below meth c D dA b H locs ls cells slots C Wd hL h1 h2 h3 h4 h5
  exact lv_lload_n C.1 C.2.1 hd rfl (sr_lget hL hi) (kk r t' hx p e R s m args below meth c D dA b H locs ls cells slots C Wd hL h1 h2 h3 h4 h5)
theorem sr_aload {i k j : Nat} (hd : decode (sr_Mb M) pc = .ok (.aload i, 2)) (hi : L[i]? = some (some (sr_r k j))) (kk : sr_G em l M (pc + 2) L (sr_r k j :: S) t x mc ms) : sr_G em l M pc L S t x mc ms := by
  intro r t' hx p e R s m args below meth c D dA b H locs ls cells slots C Wd hL h1 h2 h3 h4 h5
  exact lv_aload C.1 C.2.1 hd (sr_lget hL hi) (kk r t' hx p e R s m args below meth c D dA b H locs ls cells slots C Wd hL h1 h2 h3 h4 h5)
theorem sr_aloadn {n : Fin 4} {k j : Nat} (hd : decode (sr_Mb M) pc = .ok (.aload_n n, 1)) (hi : L[(n : Nat)]? = some (some (sr_r k j))) (kk : sr_G em l M (pc + 1) L (sr_r k j :: S) t x mc ms) : sr_G em l M pc L S t x mc ms := by
  intro r t' hx p e R s m args below meth c D dA b H locs ls cells slots C Wd hL h1 h2 h3 h4 h5
  exact lv_aload_n C.1 C.2.1 hd rfl (sr_lget hL hi) (kk r t' hx p e R s m args below meth c D dA b H locs ls cells slots C Wd hL h1 h2 h3 h4 h5)
theorem sr_istore {i : Nat} {v : Int32} {L' : List (Option sr_V)} (hd : decode (sr_Mb M) pc = .ok (.istore i, 2)) (hb : i < sr_Mn M) (hn : sr_nl L i = true) (hS : L.set i (some (sr_i v)) = L') (kk : sr_G em l M (pc + 2) L' S t x mc ms) : sr_G em l M pc L (sr_i v :: S) t x mc ms := by
  intro r t' hx p e R s m args below meth c D dA b H locs ls cells slots C Wd hL h1 h2 h3 h4 h5
  exact lv_istore C.1 C.2.1 hd hL hb rfl (fun ls' hL' => kk r t' hx p e R s m args below meth c D dA b H locs ls' cells slots C Wd (sr_lset hn hS hL') h1 h2 h3 h4 h5)
theorem sr_istoren {n : Fin 4} {v : Int32} {L' : List (Option sr_V)} (hd : decode (sr_Mb M) pc = .ok (.istore_n n, 1)) (hb : (n : Nat) < sr_Mn M) (hn : sr_nl L (n : Nat) = true) (hS : L.set (n : Nat) (some (sr_i v)) = L') (kk : sr_G em l M (pc + 1) L' S t x mc ms) : sr_G em l M pc L (sr_i v :: S) t x mc ms := by
  intro r t' hx p e R s m args below meth c D dA b H locs ls cells slots C Wd hL h1 h2 h3 h4 h5
  exact lv_istore_n C.1 C.2.1 hd rfl hL hb rfl (fun ls' hL' => kk r t' hx p e R s m args below meth c D dA b H locs ls' cells slots C Wd (sr_lset hn hS hL') h1 h2 h3 h4 h5)
theorem sr_astore {i : Nat} {k v : Nat} {L' : List (Option sr_V)} (hd : decode (sr_Mb M) pc = .ok (.astore i, 2)) (hb : i < sr_Mn M) (hn : sr_nl L i = true) (hS : L.set i (some (sr_r k v)) = L') (kk : sr_G em l M (pc + 2) L' S t x mc ms) : sr_G em l M pc L (sr_r k v :: S) t x mc ms := by
  intro r t' hx p e R s m args below meth c D dA b H locs ls cells slots C Wd hL h1 h2 h3 h4 h5
  exact lv_astore C.1 C.2.1 hd hL hb rfl (fun ls' hL' => kk r t' hx p e R s m args below meth c D dA b H locs ls' cells slots C Wd (sr_lset hn hS hL') h1 h2 h3 h4 h5)
theorem sr_astoren {n : Fin 4} {k v : Nat} {L' : List (Option sr_V)} (hd : decode (sr_Mb M) pc = .ok (.astore_n n, 1)) (hb : (n : Nat) < sr_Mn M) (hn : sr_nl L (n : Nat) = true) (hS : L.set (n : Nat) (some (sr_r k v)) = L') (kk : sr_G em l M (pc + 1) L' S t x mc ms) : sr_G em l M pc L (sr_r k v :: S) t x mc ms := by
  intro r t' hx p e R s m args below meth c D dA b H locs ls cells slots C Wd hL h1 h2 h3 h4 h5
  exact lv_astore_n C.1 C.2.1 hd rfl hL hb rfl (fun ls' hL' => kk r t' hx p e R s m args below meth c D dA b H locs ls' cells slots C Wd (sr_lset hn hS hL') h1 h2 h3 h4 h5)
theorem sr_lstore {i : Nat} {v : Int64} {L' : List (Option sr_V)} (hd : decode (sr_Mb M) pc = .ok (.lstore i, 2)) (hb : i + 1 < sr_Mn M) (hn : sr_nl L i = true) (hS : (L.set i (some (sr_l v))).set (i + 1) none = L') (kk : sr_G em l M (pc + 2) L' S t x mc ms) : sr_G em l M pc L (sr_l v :: S) t x mc ms := by
  intro r t' hx p e R s m args below meth c D dA b H locs ls cells slots C Wd hL h1 h2 h3 h4 h5
  exact lv_lstore C.1 C.2.1 hd hL hb rfl (fun ls' hL' => kk r t' hx p e R s m args below meth c D dA b H locs ls' cells slots C Wd (sr_lsetL hn hS hL') h1 h2 h3 h4 h5)
theorem sr_lstoren {n : Fin 4} {v : Int64} {L' : List (Option sr_V)} (hd : decode (sr_Mb M) pc = .ok (.lstore_n n, 1)) (hb : (n : Nat) + 1 < sr_Mn M) (hn : sr_nl L (n : Nat) = true) (hS : (L.set (n : Nat) (some (sr_l v))).set ((n : Nat) + 1) none = L') (kk : sr_G em l M (pc + 1) L' S t x mc ms) : sr_G em l M pc L (sr_l v :: S) t x mc ms := by
  intro r t' hx p e R s m args below meth c D dA b H locs ls cells slots C Wd hL h1 h2 h3 h4 h5
  exact lv_lstore_n C.1 C.2.1 hd rfl hL hb rfl (fun ls' hL' => kk r t' hx p e R s m args below meth c D dA b H locs ls' cells slots C Wd (sr_lsetL hn hS hL') h1 h2 h3 h4 h5)
theorem sr_iinc {i : Nat} {n : Int} {v w : Int32} {L' : List (Option sr_V)} (hd : decode (sr_Mb M) pc = .ok (.iinc i n, 3)) (hi : L[i]? = some (some (sr_i v))) (hw : v + Int32.ofInt n = w) (hb : i < sr_Mn M) (hn : sr_nl L i = true) (hS : L.set i (some (sr_i w)) = L') (kk : sr_G em l M (pc + 3) L' S t x mc ms) : sr_G em l M pc L S t x mc ms := by
  intro r t' hx p e R s m args below meth c D dA b H locs ls cells slots C Wd hL h1 h2 h3 h4 h5
  obtain ⟨k, hk⟩ := List.getElem?_of_mem ((sr_lv_mem (ad := sr_ad b) L 0 (i, Value.int v)).mpr ⟨i, sr_i v, hi, by simp [sr_cv]⟩)
  exact lv_iinc C.1 C.2.1 hd hL hk hw hb rfl (fun ls' hL' => kk r t' hx p e R s m args below meth c D dA b H locs ls' cells slots C Wd (sr_lset hn hS hL') h1 h2 h3 h4 h5)
theorem sr_iadd {u v : Int32} (hd : decode (sr_Mb M) pc = .ok (.iadd, 1)) (kk : sr_G em l M (pc + 1) L (sr_i (u + v) :: S) t x mc ms) : sr_G em l M pc L (sr_i v :: sr_i u :: S) t x mc ms := by
  intro r t' hx p e R s m args below meth c D dA b H locs ls cells slots C Wd hL h1 h2 h3 h4 h5
  exact lv_iadd C.1 C.2.1 hd (kk r t' hx p e R s m args below meth c D dA b H locs ls cells slots C Wd hL h1 h2 h3 h4 h5)
theorem sr_isub {u v : Int32} (hd : decode (sr_Mb M) pc = .ok (.isub, 1)) (kk : sr_G em l M (pc + 1) L (sr_i (u - v) :: S) t x mc ms) : sr_G em l M pc L (sr_i v :: sr_i u :: S) t x mc ms := by
  intro r t' hx p e R s m args below meth c D dA b H locs ls cells slots C Wd hL h1 h2 h3 h4 h5
  exact lv_isub C.1 C.2.1 hd (kk r t' hx p e R s m args below meth c D dA b H locs ls cells slots C Wd hL h1 h2 h3 h4 h5)
theorem sr_imul {u v : Int32} (hd : decode (sr_Mb M) pc = .ok (.imul, 1)) (kk : sr_G em l M (pc + 1) L (sr_i (u * v) :: S) t x mc ms) : sr_G em l M pc L (sr_i v :: sr_i u :: S) t x mc ms := by
  intro r t' hx p e R s m args below meth c D dA b H locs ls cells slots C Wd hL h1 h2 h3 h4 h5
  exact lv_imul C.1 C.2.1 hd (kk r t' hx p e R s m args below meth c D dA b H locs ls cells slots C Wd hL h1 h2 h3 h4 h5)
theorem sr_iand {u v : Int32} (hd : decode (sr_Mb M) pc = .ok (.iand, 1)) (kk : sr_G em l M (pc + 1) L (sr_i (u &&& v) :: S) t x mc ms) : sr_G em l M pc L (sr_i v :: sr_i u :: S) t x mc ms := by
  intro r t' hx p e R s m args below meth c D dA b H locs ls cells slots C Wd hL h1 h2 h3 h4 h5
  exact lv_iand C.1 C.2.1 hd (kk r t' hx p e R s m args below meth c D dA b H locs ls cells slots C Wd hL h1 h2 h3 h4 h5)
theorem sr_ior {u v : Int32} (hd : decode (sr_Mb M) pc = .ok (.ior, 1)) (kk : sr_G em l M (pc + 1) L (sr_i (u ||| v) :: S) t x mc ms) : sr_G em l M pc L (sr_i v :: sr_i u :: S) t x mc ms := by
  intro r t' hx p e R s m args below meth c D dA b H locs ls cells slots C Wd hL h1 h2 h3 h4 h5
  exact lv_ior C.1 C.2.1 hd (kk r t' hx p e R s m args below meth c D dA b H locs ls cells slots C Wd hL h1 h2 h3 h4 h5)
theorem sr_ixor {u v : Int32} (hd : decode (sr_Mb M) pc = .ok (.ixor, 1)) (kk : sr_G em l M (pc + 1) L (sr_i (u ^^^ v) :: S) t x mc ms) : sr_G em l M pc L (sr_i v :: sr_i u :: S) t x mc ms := by
  intro r t' hx p e R s m args below meth c D dA b H locs ls cells slots C Wd hL h1 h2 h3 h4 h5
  exact lv_ixor C.1 C.2.1 hd (kk r t' hx p e R s m args below meth c D dA b H locs ls cells slots C Wd hL h1 h2 h3 h4 h5)
theorem sr_ishl {u v : Int32} (hd : decode (sr_Mb M) pc = .ok (.ishl, 1)) (kk : sr_G em l M (pc + 1) L (sr_i (u <<< (v &&& 31)) :: S) t x mc ms) : sr_G em l M pc L (sr_i v :: sr_i u :: S) t x mc ms := by
  intro r t' hx p e R s m args below meth c D dA b H locs ls cells slots C Wd hL h1 h2 h3 h4 h5
  exact lv_ishl C.1 C.2.1 hd (kk r t' hx p e R s m args below meth c D dA b H locs ls cells slots C Wd hL h1 h2 h3 h4 h5)
theorem sr_ishr {u v : Int32} (hd : decode (sr_Mb M) pc = .ok (.ishr, 1)) (kk : sr_G em l M (pc + 1) L (sr_i (u >>> (v &&& 31)) :: S) t x mc ms) : sr_G em l M pc L (sr_i v :: sr_i u :: S) t x mc ms := by
  intro r t' hx p e R s m args below meth c D dA b H locs ls cells slots C Wd hL h1 h2 h3 h4 h5
  exact lv_ishr C.1 C.2.1 hd (kk r t' hx p e R s m args below meth c D dA b H locs ls cells slots C Wd hL h1 h2 h3 h4 h5)
theorem sr_land {u v : Int64} (hd : decode (sr_Mb M) pc = .ok (.land, 1)) (kk : sr_G em l M (pc + 1) L (sr_l (u &&& v) :: S) t x mc ms) : sr_G em l M pc L (sr_l v :: sr_l u :: S) t x mc ms := by
  intro r t' hx p e R s m args below meth c D dA b H locs ls cells slots C Wd hL h1 h2 h3 h4 h5
  exact lv_land C.1 C.2.1 hd (kk r t' hx p e R s m args below meth c D dA b H locs ls cells slots C Wd hL h1 h2 h3 h4 h5)
theorem sr_lor {u v : Int64} (hd : decode (sr_Mb M) pc = .ok (.lor, 1)) (kk : sr_G em l M (pc + 1) L (sr_l (u ||| v) :: S) t x mc ms) : sr_G em l M pc L (sr_l v :: sr_l u :: S) t x mc ms := by
  intro r t' hx p e R s m args below meth c D dA b H locs ls cells slots C Wd hL h1 h2 h3 h4 h5
  exact lv_lor C.1 C.2.1 hd (kk r t' hx p e R s m args below meth c D dA b H locs ls cells slots C Wd hL h1 h2 h3 h4 h5)
theorem sr_lxor {u v : Int64} (hd : decode (sr_Mb M) pc = .ok (.lxor, 1)) (kk : sr_G em l M (pc + 1) L (sr_l (u ^^^ v) :: S) t x mc ms) : sr_G em l M pc L (sr_l v :: sr_l u :: S) t x mc ms := by
  intro r t' hx p e R s m args below meth c D dA b H locs ls cells slots C Wd hL h1 h2 h3 h4 h5
  exact lv_lxor C.1 C.2.1 hd (kk r t' hx p e R s m args below meth c D dA b H locs ls cells slots C Wd hL h1 h2 h3 h4 h5)
theorem sr_ineg {v : Int32} (hd : decode (sr_Mb M) pc = .ok (.ineg, 1)) (kk : sr_G em l M (pc + 1) L (sr_i (-v) :: S) t x mc ms) : sr_G em l M pc L (sr_i v :: S) t x mc ms := by
  intro r t' hx p e R s m args below meth c D dA b H locs ls cells slots C Wd hL h1 h2 h3 h4 h5
  exact lv_ineg C.1 C.2.1 hd (kk r t' hx p e R s m args below meth c D dA b H locs ls cells slots C Wd hL h1 h2 h3 h4 h5)
theorem sr_iushr {u v : Int32} (hd : decode (sr_Mb M) pc = .ok (.iushr, 1)) (kk : sr_G em l M (pc + 1) L (sr_i ((u.toUInt32 >>> (v.toUInt32 &&& Int32.toUInt32 31)).toInt32) :: S) t x mc ms) : sr_G em l M pc L (sr_i v :: sr_i u :: S) t x mc ms := by
  intro r t' hx p e R s m args below meth c D dA b H locs ls cells slots C Wd hL h1 h2 h3 h4 h5
  exact lv_iushr C.1 C.2.1 hd rfl (kk r t' hx p e R s m args below meth c D dA b H locs ls cells slots C Wd hL h1 h2 h3 h4 h5)
theorem sr_i2l {v : Int32} (hd : decode (sr_Mb M) pc = .ok (.i2l, 1)) (kk : sr_G em l M (pc + 1) L (sr_l v.toInt64 :: S) t x mc ms) : sr_G em l M pc L (sr_i v :: S) t x mc ms := by
  intro r t' hx p e R s m args below meth c D dA b H locs ls cells slots C Wd hL h1 h2 h3 h4 h5
  exact lv_i2l C.1 C.2.1 hd rfl (kk r t' hx p e R s m args below meth c D dA b H locs ls cells slots C Wd hL h1 h2 h3 h4 h5)
theorem sr_lshl {u : Int64} {v : Int32} (hd : decode (sr_Mb M) pc = .ok (.lshl, 1)) (kk : sr_G em l M (pc + 1) L (sr_l (u <<< (v.toInt64 &&& 63)) :: S) t x mc ms) : sr_G em l M pc L (sr_i v :: sr_l u :: S) t x mc ms := by
  intro r t' hx p e R s m args below meth c D dA b H locs ls cells slots C Wd hL h1 h2 h3 h4 h5
  exact lv_lshl C.1 C.2.1 hd rfl (kk r t' hx p e R s m args below meth c D dA b H locs ls cells slots C Wd hL h1 h2 h3 h4 h5)
theorem sr_lcmp {u v : Int64} (hd : decode (sr_Mb M) pc = .ok (.lcmp, 1)) (kk : sr_G em l M (pc + 1) L (sr_i (lg_cmp u v) :: S) t x mc ms) : sr_G em l M pc L (sr_l v :: sr_l u :: S) t x mc ms := by
  intro r t' hx p e R s m args below meth c D dA b H locs ls cells slots C Wd hL h1 h2 h3 h4 h5
  exact W.lcmp C.1 C.2.1 hd (kk r t' hx p e R s m args below meth c D dA b H locs ls cells slots C Wd hL h1 h2 h3 h4 h5)
theorem sr_idiv {u v : Int32} (hd : decode (sr_Mb M) pc = .ok (.idiv, 1)) (kk : ¬ v = 0 → sr_G em l M (pc + 1) L (sr_i (u / v) :: S) t x mc ms) : sr_G em l M pc L (sr_i v :: sr_i u :: S) t (if v = 0 then none else x) mc ms := by
  intro r t' hx p e R s m args below meth c D dA b H locs ls cells slots C Wd hL h1 h2 h3 h4 h5
  by_cases hz : v = 0
  · rw [if_pos hz] at hx; cases hx
  · rw [if_neg hz] at hx
    exact lv_idiv C.1 C.2.1 hd hz (kk hz r t' hx p e R s m args below meth c D dA b H locs ls cells slots C Wd hL h1 h2 h3 h4 h5)
theorem sr_irem {u v : Int32} (hd : decode (sr_Mb M) pc = .ok (.irem, 1)) (kk : ¬ v = 0 → sr_G em l M (pc + 1) L (sr_i (u - u / v * v) :: S) t x mc ms) : sr_G em l M pc L (sr_i v :: sr_i u :: S) t (if v = 0 then none else x) mc ms := by
  intro r t' hx p e R s m args below meth c D dA b H locs ls cells slots C Wd hL h1 h2 h3 h4 h5
  by_cases hz : v = 0
  · rw [if_pos hz] at hx; cases hx
  · rw [if_neg hz] at hx
    exact lv_irem C.1 C.2.1 hd hz (kk hz r t' hx p e R s m args below meth c D dA b H locs ls cells slots C Wd hL h1 h2 h3 h4 h5)
theorem sr_dup {v : sr_V} (hd : decode (sr_Mb M) pc = .ok (.dup, 1)) (hc : sr_c1 v = true) (kk : sr_G em l M (pc + 1) L (v :: v :: S) t x mc ms) : sr_G em l M pc L (v :: S) t x mc ms := by
  intro r t' hx p e R s m args below meth c D dA b H locs ls cells slots C Wd hL h1 h2 h3 h4 h5
  exact lv_dup C.1 C.2.1 hd (sr_c1_ok hc) (kk r t' hx p e R s m args below meth c D dA b H locs ls cells slots C Wd hL h1 h2 h3 h4 h5)
theorem sr_pop {v : sr_V} (hd : decode (sr_Mb M) pc = .ok (.pop, 1)) (hc : sr_c1 v = true) (kk : sr_G em l M (pc + 1) L S t x mc ms) : sr_G em l M pc L (v :: S) t x mc ms := by
  intro r t' hx p e R s m args below meth c D dA b H locs ls cells slots C Wd hL h1 h2 h3 h4 h5
  exact lv_pop C.1 C.2.1 hd (sr_c1_ok hc) (kk r t' hx p e R s m args below meth c D dA b H locs ls cells slots C Wd hL h1 h2 h3 h4 h5)
theorem sr_dup2 {v u : sr_V} (hd : decode (sr_Mb M) pc = .ok (.dup2, 1)) (hc : sr_c1 v = true) (hc2 : sr_c1 u = true) (kk : sr_G em l M (pc + 1) L (v :: u :: v :: u :: S) t x mc ms) : sr_G em l M pc L (v :: u :: S) t x mc ms := by
  intro r t' hx p e R s m args below meth c D dA b H locs ls cells slots C Wd hL h1 h2 h3 h4 h5
  exact lv_dup2_11 C.1 C.2.1 hd (sr_c1_ok hc) (sr_c1_ok hc2) (kk r t' hx p e R s m args below meth c D dA b H locs ls cells slots C Wd hL h1 h2 h3 h4 h5)
theorem sr_goto {off : Int} {tg : Nat} (hd : decode (sr_Mb M) pc = .ok (.goto off, 3)) (ht : (pc : Int) + off = (tg : Int)) (kk : sr_G em l M tg L S t x mc ms) : sr_G em l M pc L S t x mc ms := by
  intro r t' hx p e R s m args below meth c D dA b H locs ls cells slots C Wd hL h1 h2 h3 h4 h5
  exact lv_goto C.1 C.2.1 hd ht (kk r t' hx p e R s m args below meth c D dA b H locs ls cells slots C Wd hL h1 h2 h3 h4 h5)
theorem sr_icmp_eq {u v : Int32} {off : Int} {tg : Nat} (hd : decode (sr_Mb M) pc = .ok (.if_icmp .eq off, 3)) (ht : (pc : Int) + off = (tg : Int)) {y : Option (sr_O × α)} (kt : u = v → sr_G em l M tg L S t x mc ms) (kf : ¬ (u = v) → sr_G em l M (pc + 3) L S t y mc ms) : sr_G em l M pc L (sr_i v :: sr_i u :: S) t (if u = v then x else y) mc ms := by
  intro r t' hx p e R s m args below meth c D dA b H locs ls cells slots C Wd hL h1 h2 h3 h4 h5
  refine lv_icmp_eq C.1 C.2.1 hd ht (fun hz => ?_) (fun hz => ?_)
  · rw [if_pos hz] at hx; exact kt hz r t' hx p e R s m args below meth c D dA b H locs ls cells slots C Wd hL h1 h2 h3 h4 h5
  · rw [if_neg hz] at hx; exact kf hz r t' hx p e R s m args below meth c D dA b H locs ls cells slots C Wd hL h1 h2 h3 h4 h5
theorem sr_if_eq {u : Int32} {off : Int} {tg : Nat} (hd : decode (sr_Mb M) pc = .ok (.ifCond .eq off, 3)) (ht : (pc : Int) + off = (tg : Int)) {y : Option (sr_O × α)} (kt : u = 0 → sr_G em l M tg L S t x mc ms) (kf : ¬ (u = 0) → sr_G em l M (pc + 3) L S t y mc ms) : sr_G em l M pc L (sr_i u :: S) t (if u = 0 then x else y) mc ms := by
  intro r t' hx p e R s m args below meth c D dA b H locs ls cells slots C Wd hL h1 h2 h3 h4 h5
  refine lv_if_eq C.1 C.2.1 hd ht (fun hz => ?_) (fun hz => ?_)
  · rw [if_pos hz] at hx; exact kt hz r t' hx p e R s m args below meth c D dA b H locs ls cells slots C Wd hL h1 h2 h3 h4 h5
  · rw [if_neg hz] at hx; exact kf hz r t' hx p e R s m args below meth c D dA b H locs ls cells slots C Wd hL h1 h2 h3 h4 h5
theorem sr_icmp_ne {u v : Int32} {off : Int} {tg : Nat} (hd : decode (sr_Mb M) pc = .ok (.if_icmp .ne off, 3)) (ht : (pc : Int) + off = (tg : Int)) {y : Option (sr_O × α)} (kt : ¬ (u = v) → sr_G em l M tg L S t x mc ms) (kf : u = v → sr_G em l M (pc + 3) L S t y mc ms) : sr_G em l M pc L (sr_i v :: sr_i u :: S) t (if u = v then y else x) mc ms := by
  intro r t' hx p e R s m args below meth c D dA b H locs ls cells slots C Wd hL h1 h2 h3 h4 h5
  refine lv_icmp_ne C.1 C.2.1 hd ht (fun hz => ?_) (fun hz => ?_)
  · rw [if_neg hz] at hx; exact kt hz r t' hx p e R s m args below meth c D dA b H locs ls cells slots C Wd hL h1 h2 h3 h4 h5
  · rw [if_pos hz] at hx; exact kf hz r t' hx p e R s m args below meth c D dA b H locs ls cells slots C Wd hL h1 h2 h3 h4 h5
theorem sr_if_ne {u : Int32} {off : Int} {tg : Nat} (hd : decode (sr_Mb M) pc = .ok (.ifCond .ne off, 3)) (ht : (pc : Int) + off = (tg : Int)) {y : Option (sr_O × α)} (kt : ¬ (u = 0) → sr_G em l M tg L S t x mc ms) (kf : u = 0 → sr_G em l M (pc + 3) L S t y mc ms) : sr_G em l M pc L (sr_i u :: S) t (if u = 0 then y else x) mc ms := by
  intro r t' hx p e R s m args below meth c D dA b H locs ls cells slots C Wd hL h1 h2 h3 h4 h5
  refine lv_if_ne C.1 C.2.1 hd ht (fun hz => ?_) (fun hz => ?_)
  · rw [if_neg hz] at hx; exact kt hz r t' hx p e R s m args below meth c D dA b H locs ls cells slots C Wd hL h1 h2 h3 h4 h5
  · rw [if_pos hz] at hx; exact kf hz r t' hx p e R s m args below meth c D dA b H locs ls cells slots C Wd hL h1 h2 h3 h4 h5
theorem sr_icmp_lt {u v : Int32} {off : Int} {tg : Nat} (hd : decode (sr_Mb M) pc = .ok (.if_icmp .lt off, 3)) (ht : (pc : Int) + off = (tg : Int)) {y : Option (sr_O × α)} (kt : u < v → sr_G em l M tg L S t x mc ms) (kf : ¬ (u < v) → sr_G em l M (pc + 3) L S t y mc ms) : sr_G em l M pc L (sr_i v :: sr_i u :: S) t (if u < v then x else y) mc ms := by
  intro r t' hx p e R s m args below meth c D dA b H locs ls cells slots C Wd hL h1 h2 h3 h4 h5
  refine lv_icmp_lt C.1 C.2.1 hd ht (fun hz => ?_) (fun hz => ?_)
  · rw [if_pos hz] at hx; exact kt hz r t' hx p e R s m args below meth c D dA b H locs ls cells slots C Wd hL h1 h2 h3 h4 h5
  · rw [if_neg hz] at hx; exact kf hz r t' hx p e R s m args below meth c D dA b H locs ls cells slots C Wd hL h1 h2 h3 h4 h5
theorem sr_if_lt {u : Int32} {off : Int} {tg : Nat} (hd : decode (sr_Mb M) pc = .ok (.ifCond .lt off, 3)) (ht : (pc : Int) + off = (tg : Int)) {y : Option (sr_O × α)} (kt : u < 0 → sr_G em l M tg L S t x mc ms) (kf : ¬ (u < 0) → sr_G em l M (pc + 3) L S t y mc ms) : sr_G em l M pc L (sr_i u :: S) t (if u < 0 then x else y) mc ms := by
  intro r t' hx p e R s m args below meth c D dA b H locs ls cells slots C Wd hL h1 h2 h3 h4 h5
  refine lv_if_lt C.1 C.2.1 hd ht (fun hz => ?_) (fun hz => ?_)
  · rw [if_pos hz] at hx; exact kt hz r t' hx p e R s m args below meth c D dA b H locs ls cells slots C Wd hL h1 h2 h3 h4 h5
  · rw [if_neg hz] at hx; exact kf hz r t' hx p e R s m args below meth c D dA b H locs ls cells slots C Wd hL h1 h2 h3 h4 h5
theorem sr_icmp_ge {u v : Int32} {off : Int} {tg : Nat} (hd : decode (sr_Mb M) pc = .ok (.if_icmp .ge off, 3)) (ht : (pc : Int) + off = (tg : Int)) {y : Option (sr_O × α)} (kt : v ≤ u → sr_G em l M tg L S t x mc ms) (kf : ¬ (v ≤ u) → sr_G em l M (pc + 3) L S t y mc ms) : sr_G em l M pc L (sr_i v :: sr_i u :: S) t (if v ≤ u then x else y) mc ms := by
  intro r t' hx p e R s m args below meth c D dA b H locs ls cells slots C Wd hL h1 h2 h3 h4 h5
  refine lv_icmp_ge C.1 C.2.1 hd ht (fun hz => ?_) (fun hz => ?_)
  · rw [if_pos hz] at hx; exact kt hz r t' hx p e R s m args below meth c D dA b H locs ls cells slots C Wd hL h1 h2 h3 h4 h5
  · rw [if_neg hz] at hx; exact kf hz r t' hx p e R s m args below meth c D dA b H locs ls cells slots C Wd hL h1 h2 h3 h4 h5
theorem sr_if_ge {u : Int32} {off : Int} {tg : Nat} (hd : decode (sr_Mb M) pc = .ok (.ifCond .ge off, 3)) (ht : (pc : Int) + off = (tg : Int)) {y : Option (sr_O × α)} (kt : 0 ≤ u → sr_G em l M tg L S t x mc ms) (kf : ¬ (0 ≤ u) → sr_G em l M (pc + 3) L S t y mc ms) : sr_G em l M pc L (sr_i u :: S) t (if 0 ≤ u then x else y) mc ms := by
  intro r t' hx p e R s m args below meth c D dA b H locs ls cells slots C Wd hL h1 h2 h3 h4 h5
  refine lv_if_ge C.1 C.2.1 hd ht (fun hz => ?_) (fun hz => ?_)
  · rw [if_pos hz] at hx; exact kt hz r t' hx p e R s m args below meth c D dA b H locs ls cells slots C Wd hL h1 h2 h3 h4 h5
  · rw [if_neg hz] at hx; exact kf hz r t' hx p e R s m args below meth c D dA b H locs ls cells slots C Wd hL h1 h2 h3 h4 h5
theorem sr_icmp_gt {u v : Int32} {off : Int} {tg : Nat} (hd : decode (sr_Mb M) pc = .ok (.if_icmp .gt off, 3)) (ht : (pc : Int) + off = (tg : Int)) {y : Option (sr_O × α)} (kt : v < u → sr_G em l M tg L S t x mc ms) (kf : ¬ (v < u) → sr_G em l M (pc + 3) L S t y mc ms) : sr_G em l M pc L (sr_i v :: sr_i u :: S) t (if v < u then x else y) mc ms := by
  intro r t' hx p e R s m args below meth c D dA b H locs ls cells slots C Wd hL h1 h2 h3 h4 h5
  refine lv_icmp_gt C.1 C.2.1 hd ht (fun hz => ?_) (fun hz => ?_)
  · rw [if_pos hz] at hx; exact kt hz r t' hx p e R s m args below meth c D dA b H locs ls cells slots C Wd hL h1 h2 h3 h4 h5
  · rw [if_neg hz] at hx; exact kf hz r t' hx p e R s m args below meth c D dA b H locs ls cells slots C Wd hL h1 h2 h3 h4 h5
theorem sr_if_gt {u : Int32} {off : Int} {tg : Nat} (hd : decode (sr_Mb M) pc = .ok (.ifCond .gt off, 3)) (ht : (pc : Int) + off = (tg : Int)) {y : Option (sr_O × α)} (kt : 0 < u → sr_G em l M tg L S t x mc ms) (kf : ¬ (0 < u) → sr_G em l M (pc + 3) L S t y mc ms) : sr_G em l M pc L (sr_i u :: S) t (if 0 < u then x else y) mc ms := by
  intro r t' hx p e R s m args below meth c D dA b H locs ls cells slots C Wd hL h1 h2 h3 h4 h5
  refine lv_if_gt C.1 C.2.1 hd ht (fun hz => ?_) (fun hz => ?_)
  · rw [if_pos hz] at hx; exact kt hz r t' hx p e R s m args below meth c D dA b H locs ls cells slots C Wd hL h1 h2 h3 h4 h5
  · rw [if_neg hz] at hx; exact kf hz r t' hx p e R s m args below meth c D dA b H locs ls cells slots C Wd hL h1 h2 h3 h4 h5
theorem sr_icmp_le {u v : Int32} {off : Int} {tg : Nat} (hd : decode (sr_Mb M) pc = .ok (.if_icmp .le off, 3)) (ht : (pc : Int) + off = (tg : Int)) {y : Option (sr_O × α)} (kt : u ≤ v → sr_G em l M tg L S t x mc ms) (kf : ¬ (u ≤ v) → sr_G em l M (pc + 3) L S t y mc ms) : sr_G em l M pc L (sr_i v :: sr_i u :: S) t (if u ≤ v then x else y) mc ms := by
  intro r t' hx p e R s m args below meth c D dA b H locs ls cells slots C Wd hL h1 h2 h3 h4 h5
  refine lv_icmp_le C.1 C.2.1 hd ht (fun hz => ?_) (fun hz => ?_)
  · rw [if_pos hz] at hx; exact kt hz r t' hx p e R s m args below meth c D dA b H locs ls cells slots C Wd hL h1 h2 h3 h4 h5
  · rw [if_neg hz] at hx; exact kf hz r t' hx p e R s m args below meth c D dA b H locs ls cells slots C Wd hL h1 h2 h3 h4 h5
theorem sr_if_le {u : Int32} {off : Int} {tg : Nat} (hd : decode (sr_Mb M) pc = .ok (.ifCond .le off, 3)) (ht : (pc : Int) + off = (tg : Int)) {y : Option (sr_O × α)} (kt : u ≤ 0 → sr_G em l M tg L S t x mc ms) (kf : ¬ (u ≤ 0) → sr_G em l M (pc + 3) L S t y mc ms) : sr_G em l M pc L (sr_i u :: S) t (if u ≤ 0 then x else y) mc ms := by
  intro r t' hx p e R s m args below meth c D dA b H locs ls cells slots C Wd hL h1 h2 h3 h4 h5
  refine lv_if_le C.1 C.2.1 hd ht (fun hz => ?_) (fun hz => ?_)
  · rw [if_pos hz] at hx; exact kt hz r t' hx p e R s m args below meth c D dA b H locs ls cells slots C Wd hL h1 h2 h3 h4 h5
  · rw [if_neg hz] at hx; exact kf hz r t' hx p e R s m args below meth c D dA b H locs ls cells slots C Wd hL h1 h2 h3 h4 h5
theorem sr_mono {mc' ms' : Nat} (h1' : mc ≤ mc') (h2' : ms ≤ ms') (kk : sr_G em l M pc L S t x mc ms) : sr_G em l M pc L S t x mc' ms' := by
  intro r t' hx p e R s m args below meth c D dA b H locs ls cells slots C Wd hL h1 h2 h3 h4 h5
  intro T hT X
  obtain ⟨tt, a1, o, b1, b2, b3⟩ := kk r t' hx p e R s m args below meth c D dA b H locs ls cells slots C Wd hL h1 h2 (by omega) (by omega) h5 T hT X
  refine ⟨tt, a1, o, b1, b2, ?_⟩
  rcases b3 with ⟨q1, L9, q2, q3⟩ | ⟨q, q1, E, ce, L9, z1, z2, z3, z4, z5, z6, z7⟩
  · exact Or.inl ⟨q1, L9, ⟨q2.1, q2.2.1, q2.2.2.mono (by omega) (by omega)⟩, q3⟩
  · exact Or.inr ⟨q, q1, E, ce, L9, z1, z2, z3, z4, z5, z6.mono (by omega) (by omega), z7⟩
end SRa
