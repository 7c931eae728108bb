def WW (g : gW) (p : Program) (l : Launch) (e : Env) (R : Room) (s : State) (m : MethodId) (args : Array Value) (below : List Frame) (meth : Method) (c : Code) (nL : Nat) (X : va_W) (h : Hp) (lv : List (Nat × Value)) (cells slots : Nat) (Q : State → Prop) (pc : Nat) (st : List Value) : Prop :=
  ∀ (H : Heap) (locs : List Loc) (ls : Array Slot), va_P (gD g) vwCl (wl g X h) H → va_D (AA g s.heap.size) (wl g X h) → va_S (AA g s.heap.size) s.heap H locs → lv_has ls nL lv → W p l e R s m args below meth c H locs cells slots Q (F0 m pc ls st)
def mxI (x y : Int32) : Int32 := if x < y then y else x
def mnI (x y : Int32) : Int32 := if y < x then y else x
def abI (x : Int32) : Int32 := if 0 ≤ x then x else 0 - x
theorem rm_has {ls2 : Array Slot} {nL i : Nat} {v : Value} {lv : List (Nat × Value)} (h2 : lv_has ls2 nL ((i, v) :: lv.filter (fun q => !(q.1 == i) && !(q.1 + 1 == i && q.2.category == 2)))) : lv_has ls2 nL ((i, v) :: rm lv i) :=
  ⟨h2.1, h2.2.1, fun q hq => h2.2.2 q ((List.mem_cons.mp hq).elim (fun h3 => h3 ▸ List.mem_cons_self) (fun h3 => List.mem_cons_of_mem _ (rm_sub i lv q h3)))⟩
section GWR
variable {g : gW} {p : Program} {l : Launch} {e : Env} {R : Room} {s : State} {m : MethodId} {args : Array Value} {below : List Frame} {meth : Method} {c : Code} {cc : ByteArray} {nL : Nat} {own : String} {X : va_W} {h : Hp} {lv : List (Nat × Value)} {cells slots : Nat} {Q : State → Prop} {pc : Nat} {st : List Value}

theorem ww_iconst (C : CX g p s m args meth c cc nL own) {n : Int} {v : Int32}  (hd : decode cc pc = .ok (.iconst n, 1)) (hv : Int32.ofInt n = v) (k : WW g p l e R s m args below meth c nL X h lv cells slots Q (pc + 1) (.int v :: st)) : WW g p l e R s m args below meth c nL X h lv cells slots Q pc st :=
  fun H locs ls hP hD hS hl => lv_iconst C.1 C.2.1 hd hv (k H locs ls hP hD hS hl)
theorem ww_bipush (C : CX g p s m args meth c cc nL own) {n : Int} {v : Int32}  (hd : decode cc pc = .ok (.bipush n, 2)) (hv : (Int8.ofInt n).toInt32 = v) (k : WW g p l e R s m args below meth c nL X h lv cells slots Q (pc + 2) (.int v :: st)) : WW g p l e R s m args below meth c nL X h lv cells slots Q pc st :=
  fun H locs ls hP hD hS hl => lv_bipush C.1 C.2.1 hd hv (k H locs ls hP hD hS hl)
theorem ww_sipush (C : CX g p s m args meth c cc nL own) {n : Int} {v : Int32}  (hd : decode cc pc = .ok (.sipush n, 3)) (hv : (Int16.ofInt n).toInt32 = v) (k : WW g p l e R s m args below meth c nL X h lv cells slots Q (pc + 3) (.int v :: st)) : WW g p l e R s m args below meth c nL X h lv cells slots Q pc st :=
  fun H locs ls hP hD hS hl => lv_sipush C.1 C.2.1 hd hv (k H locs ls hP hD hS hl)
theorem ww_lconst (C : CX g p s m args meth c cc nL own) {n : Fin 2} {v : Int64}  (hd : decode cc pc = .ok (.lconst n, 1)) (hv : Int64.ofNat (n : Nat) = v) (k : WW g p l e R s m args below meth c nL X h lv cells slots Q (pc + 1) (.long v :: st)) : WW g p l e R s m args below meth c nL X h lv cells slots Q pc st :=
  fun H locs ls hP hD hS hl => lv_lconst C.1 C.2.1 hd hv (k H locs ls hP hD hS hl)
theorem ww_iload_n (C : CX g p s m args meth c cc nL own) {k0 : Fin 4} {x : Int32}  (hd : decode cc pc = .ok (.iload_n k0, 1)) (i : Nat) (hi : (k0 : Nat) = i) (hv : lk lv i = some (.int x)) (k : WW g p l e R s m args below meth c nL X h lv cells slots Q (pc + 1) (.int x :: st)) : WW g p l e R s m args below meth c nL X h lv cells slots Q pc st :=
  fun H locs ls hP hD hS hl => lv_iload_n C.1 C.2.1 hd hi (lk_at hl hv) (k H locs ls hP hD hS hl)
theorem ww_iload (C : CX g p s m args meth c cc nL own) {i : Nat} {x : Int32}  (hd : decode cc pc = .ok (.iload i, 2)) (hv : lk lv i = some (.int x)) (k : WW g p l e R s m args below meth c nL X h lv cells slots Q (pc + 2) (.int x :: st)) : WW g p l e R s m args below meth c nL X h lv cells slots Q pc st :=
  fun H locs ls hP hD hS hl => lv_iload C.1 C.2.1 hd (lk_at hl hv) (k H locs ls hP hD hS hl)
theorem ww_aload_n (C : CX g p s m args meth c cc nL own) {k0 : Fin 4} {x : Nat}  (hd : decode cc pc = .ok (.aload_n k0, 1)) (i : Nat) (hi : (k0 : Nat) = i) (hv : lk lv i = some (.ref x)) (k : WW g p l e R s m args below meth c nL X h lv cells slots Q (pc + 1) (.ref x :: st)) : WW g p l e R s m args below meth c nL X h lv cells slots Q pc st :=
  fun H locs ls hP hD hS hl => lv_aload_n C.1 C.2.1 hd hi (lk_at hl hv) (k H locs ls hP hD hS hl)
theorem ww_aload (C : CX g p s m args meth c cc nL own) {i : Nat} {x : Nat}  (hd : decode cc pc = .ok (.aload i, 2)) (hv : lk lv i = some (.ref x)) (k : WW g p l e R s m args below meth c nL X h lv cells slots Q (pc + 2) (.ref x :: st)) : WW g p l e R s m args below meth c nL X h lv cells slots Q pc st :=
  fun H locs ls hP hD hS hl => lv_aload C.1 C.2.1 hd (lk_at hl hv) (k H locs ls hP hD hS hl)
theorem ww_lload_n (C : CX g p s m args meth c cc nL own) {k0 : Fin 4} {x : Int64}  (hd : decode cc pc = .ok (.lload_n k0, 1)) (i : Nat) (hi : (k0 : Nat) = i) (hv : lk lv i = some (.long x)) (k : WW g p l e R s m args below meth c nL X h lv cells slots Q (pc + 1) (.long x :: st)) : WW g p l e R s m args below meth c nL X h lv cells slots Q pc st :=
  fun H locs ls hP hD hS hl => lv_lload_n C.1 C.2.1 hd hi (lk_at hl hv) (k H locs ls hP hD hS hl)
theorem ww_iadd (C : CX g p s m args meth c cc nL own) {x y : Int32} (hd : decode cc pc = .ok (.iadd, 1))  (k : WW g p l e R s m args below meth c nL X h lv cells slots Q (pc + 1) (.int (x + y) :: st)) : WW g p l e R s m args below meth c nL X h lv cells slots Q pc (.int y :: .int x :: st) :=
  fun H locs ls hP hD hS hl => lv_iadd C.1 C.2.1 hd (k H locs ls hP hD hS hl)
theorem ww_isub (C : CX g p s m args meth c cc nL own) {x y : Int32} (hd : decode cc pc = .ok (.isub, 1))  (k : WW g p l e R s m args below meth c nL X h lv cells slots Q (pc + 1) (.int (x - y) :: st)) : WW g p l e R s m args below meth c nL X h lv cells slots Q pc (.int y :: .int x :: st) :=
  fun H locs ls hP hD hS hl => lv_isub C.1 C.2.1 hd (k H locs ls hP hD hS hl)
theorem ww_imul (C : CX g p s m args meth c cc nL own) {x y : Int32} (hd : decode cc pc = .ok (.imul, 1))  (k : WW g p l e R s m args below meth c nL X h lv cells slots Q (pc + 1) (.int (x * y) :: st)) : WW g p l e R s m args below meth c nL X h lv cells slots Q pc (.int y :: .int x :: st) :=
  fun H locs ls hP hD hS hl => lv_imul C.1 C.2.1 hd (k H locs ls hP hD hS hl)
theorem ww_ior (C : CX g p s m args meth c cc nL own) {x y : Int32} (hd : decode cc pc = .ok (.ior, 1))  (k : WW g p l e R s m args below meth c nL X h lv cells slots Q (pc + 1) (.int (x ||| y) :: st)) : WW g p l e R s m args below meth c nL X h lv cells slots Q pc (.int y :: .int x :: st) :=
  fun H locs ls hP hD hS hl => lv_ior C.1 C.2.1 hd (k H locs ls hP hD hS hl)
theorem ww_iand (C : CX g p s m args meth c cc nL own) {x y : Int32} (hd : decode cc pc = .ok (.iand, 1))  (k : WW g p l e R s m args below meth c nL X h lv cells slots Q (pc + 1) (.int (x &&& y) :: st)) : WW g p l e R s m args below meth c nL X h lv cells slots Q pc (.int y :: .int x :: st) :=
  fun H locs ls hP hD hS hl => lv_iand C.1 C.2.1 hd (k H locs ls hP hD hS hl)
theorem ww_ixor (C : CX g p s m args meth c cc nL own) {x y : Int32} (hd : decode cc pc = .ok (.ixor, 1))  (k : WW g p l e R s m args below meth c nL X h lv cells slots Q (pc + 1) (.int (x ^^^ y) :: st)) : WW g p l e R s m args below meth c nL X h lv cells slots Q pc (.int y :: .int x :: st) :=
  fun H locs ls hP hD hS hl => lv_ixor C.1 C.2.1 hd (k H locs ls hP hD hS hl)
theorem ww_ishl (C : CX g p s m args meth c cc nL own) {x y : Int32} (hd : decode cc pc = .ok (.ishl, 1))  (k : WW g p l e R s m args below meth c nL X h lv cells slots Q (pc + 1) (.int (x <<< (y &&& 31)) :: st)) : WW g p l e R s m args below meth c nL X h lv cells slots Q pc (.int y :: .int x :: st) :=
  fun H locs ls hP hD hS hl => lv_ishl C.1 C.2.1 hd (k H locs ls hP hD hS hl)
theorem ww_idiv (C : CX g p s m args meth c cc nL own) {x y : Int32}  (hd : decode cc pc = .ok (.idiv, 1)) (hne : ¬ y = 0) (k : WW g p l e R s m args below meth c nL X h lv cells slots Q (pc + 1) (.int (x / y) :: st)) : WW g p l e R s m args below meth c nL X h lv cells slots Q pc (.int y :: .int x :: st) :=
  fun H locs ls hP hD hS hl => lv_idiv C.1 C.2.1 hd hne (k H locs ls hP hD hS hl)
theorem ww_irem (C : CX g p s m args meth c cc nL own) {x y : Int32}  (hd : decode cc pc = .ok (.irem, 1)) (hne : ¬ y = 0) (k : WW g p l e R s m args below meth c nL X h lv cells slots Q (pc + 1) (.int (x - x / y * y) :: st)) : WW g p l e R s m args below meth c nL X h lv cells slots Q pc (.int y :: .int x :: st) :=
  fun H locs ls hP hD hS hl => lv_irem C.1 C.2.1 hd hne (k H locs ls hP hD hS hl)
theorem ww_ineg (C : CX g p s m args meth c cc nL own) {x : Int32} (hd : decode cc pc = .ok (.ineg, 1))  (k : WW g p l e R s m args below meth c nL X h lv cells slots Q (pc + 1) (.int (-x) :: st)) : WW g p l e R s m args below meth c nL X h lv cells slots Q pc (.int x :: st) :=
  fun H locs ls hP hD hS hl => lv_ineg C.1 C.2.1 hd (k H locs ls hP hD hS hl)
theorem ww_i2l (C : CX g p s m args meth c cc nL own) {x : Int32} (hd : decode cc pc = .ok (.i2l, 1))  (k : WW g p l e R s m args below meth c nL X h lv cells slots Q (pc + 1) (.long x.toInt64 :: st)) : WW g p l e R s m args below meth c nL X h lv cells slots Q pc (.int x :: st) :=
  fun H locs ls hP hD hS hl => lv_i2l C.1 C.2.1 hd rfl (k H locs ls hP hD hS hl)
theorem ww_lmul (C : CX g p s m args meth c cc nL own) {x y : Int64} (hd : decode cc pc = .ok (.lmul, 1))  (k : WW g p l e R s m args below meth c nL X h lv cells slots Q (pc + 1) (.long (x * y) :: st)) : WW g p l e R s m args below meth c nL X h lv cells slots Q pc (.long y :: .long x :: st) :=
  fun H locs ls hP hD hS hl => lv_lmul C.1 C.2.1 hd (k H locs ls hP hD hS hl)
theorem ww_ladd (C : CX g p s m args meth c cc nL own) {x y : Int64} (hd : decode cc pc = .ok (.ladd, 1))  (k : WW g p l e R s m args below meth c nL X h lv cells slots Q (pc + 1) (.long (x + y) :: st)) : WW g p l e R s m args below meth c nL X h lv cells slots Q pc (.long y :: .long x :: st) :=
  fun H locs ls hP hD hS hl => lv_ladd C.1 C.2.1 hd (k H locs ls hP hD hS hl)
theorem ww_dup (C : CX g p s m args meth c cc nL own) {va : Value}  (hd : decode cc pc = .ok (.dup, 1)) (hva : va.category = 1) (k : WW g p l e R s m args below meth c nL X h lv cells slots Q (pc + 1) (va :: va :: st)) : WW g p l e R s m args below meth c nL X h lv cells slots Q pc (va :: st) :=
  fun H locs ls hP hD hS hl => lv_dup C.1 C.2.1 hd hva (k H locs ls hP hD hS hl)
theorem ww_pop (C : CX g p s m args meth c cc nL own) {va : Value}  (hd : decode cc pc = .ok (.pop, 1)) (hva : va.category = 1) (k : WW g p l e R s m args below meth c nL X h lv cells slots Q (pc + 1) st) : WW g p l e R s m args below meth c nL X h lv cells slots Q pc (va :: st) :=
  fun H locs ls hP hD hS hl => lv_pop C.1 C.2.1 hd hva (k H locs ls hP hD hS hl)
theorem ww_dup2 (C : CX g p s m args meth c cc nL own) {va vb : Value}  (hd : decode cc pc = .ok (.dup2, 1)) (hva : va.category = 1) (hvb : vb.category = 1) (k : WW g p l e R s m args below meth c nL X h lv cells slots Q (pc + 1) (va :: vb :: va :: vb :: st)) : WW g p l e R s m args below meth c nL X h lv cells slots Q pc (va :: vb :: st) :=
  fun H locs ls hP hD hS hl => lv_dup2_11 C.1 C.2.1 hd hva hvb (k H locs ls hP hD hS hl)
theorem ww_ldc (C : CX g p s m args meth c cc nL own) {idx : Nat} {v : Int32}  (hd : decode cc pc = .ok (.ldc idx, 2)) (hw : Cond.constant own idx v ∈ TT) (k : WW g p l e R s m args below meth c nL X h lv cells slots Q (pc + 2) (.int v :: st)) : WW g p l e R s m args below meth c nL X h lv cells slots Q pc st :=
  fun H locs ls hP hD hS hl => lv_ldc C.1 C.2.1 C.2.2.2.1 (C.2.2.2.2.1 _ hw) hd (k H locs ls hP hD hS hl)
theorem ww_ldc2 (C : CX g p s m args meth c cc nL own) {idx : Nat} {v : Int64}  (hd : decode cc pc = .ok (.ldc2_w idx, 3)) (hw : Cond.constantLong own idx v ∈ TT) (k : WW g p l e R s m args below meth c nL X h lv cells slots Q (pc + 3) (.long v :: st)) : WW g p l e R s m args below meth c nL X h lv cells slots Q pc st :=
  fun H locs ls hP hD hS hl => lv_ldc2 C.1 C.2.1 C.2.2.2.1 (C.2.2.2.2.1 _ hw) hd (k H locs ls hP hD hS hl)
theorem ww_istore_n (C : CX g p s m args meth c cc nL own) {k0 : Fin 4} {x : Int32}  (hd : decode cc pc = .ok (.istore_n k0, 1)) (i : Nat) (hi : (k0 : Nat) = i) (hn : i < nL) (k : WW g p l e R s m args below meth c nL X h ((i, .int x) :: rm lv i) cells slots Q (pc + 1) st) : WW g p l e R s m args below meth c nL X h lv cells slots Q pc (.int x :: st) := by
  intro H locs ls hP hD hS hl
  exact lv_istore_n C.1 C.2.1 hd hi hl hn rfl (fun ls2 h2 => k H locs ls2 hP hD hS (rm_has h2))
theorem ww_istore (C : CX g p s m args meth c cc nL own) {i : Nat} {x : Int32} (hd : decode cc pc = .ok (.istore i, 2))  (hn : i < nL) (k : WW g p l e R s m args below meth c nL X h ((i, .int x) :: rm lv i) cells slots Q (pc + 2) st) : WW g p l e R s m args below meth c nL X h lv cells slots Q pc (.int x :: st) := by
  intro H locs ls hP hD hS hl
  exact lv_istore C.1 C.2.1 hd hl hn rfl (fun ls2 h2 => k H locs ls2 hP hD hS (rm_has h2))
theorem ww_astore_n (C : CX g p s m args meth c cc nL own) {k0 : Fin 4} {x : Nat}  (hd : decode cc pc = .ok (.astore_n k0, 1)) (i : Nat) (hi : (k0 : Nat) = i) (hn : i < nL) (k : WW g p l e R s m args below meth c nL X h ((i, .ref x) :: rm lv i) cells slots Q (pc + 1) st) : WW g p l e R s m args below meth c nL X h lv cells slots Q pc (.ref x :: st) := by
  intro H locs ls hP hD hS hl
  exact lv_astore_n C.1 C.2.1 hd hi hl hn rfl (fun ls2 h2 => k H locs ls2 hP hD hS (rm_has h2))
theorem ww_astore (C : CX g p s m args meth c cc nL own) {i : Nat} {x : Nat} (hd : decode cc pc = .ok (.astore i, 2))  (hn : i < nL) (k : WW g p l e R s m args below meth c nL X h ((i, .ref x) :: rm lv i) cells slots Q (pc + 2) st) : WW g p l e R s m args below meth c nL X h lv cells slots Q pc (.ref x :: st) := by
  intro H locs ls hP hD hS hl
  exact lv_astore C.1 C.2.1 hd hl hn rfl (fun ls2 h2 => k H locs ls2 hP hD hS (rm_has h2))
theorem ww_iinc (C : CX g p s m args meth c cc nL own) {i : Nat} {n : Int} {x v : Int32} (hd : decode cc pc = .ok (.iinc i n, 3)) (hv : lk lv i = some (.int x)) (he : x + Int32.ofInt n = v) (hn : i < nL) (k : WW g p l e R s m args below meth c nL X h ((i, .int v) :: rm lv i) cells slots Q (pc + 3) st) : WW g p l e R s m args below meth c nL X h lv cells slots Q pc st := by
  intro H locs ls hP hD hS hl
  obtain ⟨k0, hk0⟩ := List.getElem?_of_mem (lk_mem hv)
  exact lv_iinc C.1 C.2.1 hd hl hk0 he hn rfl (fun ls2 h2 => k H locs ls2 hP hD hS (rm_has h2))
theorem ww_icmp_ge (C : CX g p s m args meth c cc nL own) {x y : Int32} {off : Int} (hd : decode cc pc = .ok (.if_icmp .ge off, 3)) (tgt : Nat) (ht : (pc : Int) + off = (tgt : Int)) (kt : y ≤ x → WW g p l e R s m args below meth c nL X h lv cells slots Q tgt st) (kf : ¬ y ≤ x → WW g p l e R s m args below meth c nL X h lv cells slots Q (pc + 3) st) : WW g p l e R s m args below meth c nL X h lv cells slots Q pc (.int y :: .int x :: st) :=
  fun H locs ls hP hD hS hl => lv_icmp_ge C.1 C.2.1 hd ht (fun q => kt q H locs ls hP hD hS hl) (fun q => kf q H locs ls hP hD hS hl)
theorem ww_icmp_lt (C : CX g p s m args meth c cc nL own) {x y : Int32} {off : Int} (hd : decode cc pc = .ok (.if_icmp .lt off, 3)) (tgt : Nat) (ht : (pc : Int) + off = (tgt : Int)) (kt : x < y → WW g p l e R s m args below meth c nL X h lv cells slots Q tgt st) (kf : ¬ x < y → WW g p l e R s m args below meth c nL X h lv cells slots Q (pc + 3) st) : WW g p l e R s m args below meth c nL X h lv cells slots Q pc (.int y :: .int x :: st) :=
  fun H locs ls hP hD hS hl => lv_icmp_lt C.1 C.2.1 hd ht (fun q => kt q H locs ls hP hD hS hl) (fun q => kf q H locs ls hP hD hS hl)
theorem ww_icmp_gt (C : CX g p s m args meth c cc nL own) {x y : Int32} {off : Int} (hd : decode cc pc = .ok (.if_icmp .gt off, 3)) (tgt : Nat) (ht : (pc : Int) + off = (tgt : Int)) (kt : y < x → WW g p l e R s m args below meth c nL X h lv cells slots Q tgt st) (kf : ¬ y < x → WW g p l e R s m args below meth c nL X h lv cells slots Q (pc + 3) st) : WW g p l e R s m args below meth c nL X h lv cells slots Q pc (.int y :: .int x :: st) :=
  fun H locs ls hP hD hS hl => lv_icmp_gt C.1 C.2.1 hd ht (fun q => kt q H locs ls hP hD hS hl) (fun q => kf q H locs ls hP hD hS hl)
theorem ww_icmp_le (C : CX g p s m args meth c cc nL own) {x y : Int32} {off : Int} (hd : decode cc pc = .ok (.if_icmp .le off, 3)) (tgt : Nat) (ht : (pc : Int) + off = (tgt : Int)) (kt : x ≤ y → WW g p l e R s m args below meth c nL X h lv cells slots Q tgt st) (kf : ¬ x ≤ y → WW g p l e R s m args below meth c nL X h lv cells slots Q (pc + 3) st) : WW g p l e R s m args below meth c nL X h lv cells slots Q pc (.int y :: .int x :: st) :=
  fun H locs ls hP hD hS hl => lv_icmp_le C.1 C.2.1 hd ht (fun q => kt q H locs ls hP hD hS hl) (fun q => kf q H locs ls hP hD hS hl)
theorem ww_icmp_eq (C : CX g p s m args meth c cc nL own) {x y : Int32} {off : Int} (hd : decode cc pc = .ok (.if_icmp .eq off, 3)) (tgt : Nat) (ht : (pc : Int) + off = (tgt : Int)) (kt : x = y → WW g p l e R s m args below meth c nL X h lv cells slots Q tgt st) (kf : ¬ x = y → WW g p l e R s m args below meth c nL X h lv cells slots Q (pc + 3) st) : WW g p l e R s m args below meth c nL X h lv cells slots Q pc (.int y :: .int x :: st) :=
  fun H locs ls hP hD hS hl => lv_icmp_eq C.1 C.2.1 hd ht (fun q => kt q H locs ls hP hD hS hl) (fun q => kf q H locs ls hP hD hS hl)
theorem ww_icmp_ne (C : CX g p s m args meth c cc nL own) {x y : Int32} {off : Int} (hd : decode cc pc = .ok (.if_icmp .ne off, 3)) (tgt : Nat) (ht : (pc : Int) + off = (tgt : Int)) (kt : ¬ x = y → WW g p l e R s m args below meth c nL X h lv cells slots Q tgt st) (kf : x = y → WW g p l e R s m args below meth c nL X h lv cells slots Q (pc + 3) st) : WW g p l e R s m args below meth c nL X h lv cells slots Q pc (.int y :: .int x :: st) :=
  fun H locs ls hP hD hS hl => lv_icmp_ne C.1 C.2.1 hd ht (fun q => kt q H locs ls hP hD hS hl) (fun q => kf q H locs ls hP hD hS hl)
theorem ww_if_ge (C : CX g p s m args meth c cc nL own) {x : Int32} {off : Int} (hd : decode cc pc = .ok (.ifCond .ge off, 3)) (tgt : Nat) (ht : (pc : Int) + off = (tgt : Int)) (kt : 0 ≤ x → WW g p l e R s m args below meth c nL X h lv cells slots Q tgt st) (kf : ¬ 0 ≤ x → WW g p l e R s m args below meth c nL X h lv cells slots Q (pc + 3) st) : WW g p l e R s m args below meth c nL X h lv cells slots Q pc (.int x :: st) :=
  fun H locs ls hP hD hS hl => lv_if_ge C.1 C.2.1 hd ht (fun q => kt q H locs ls hP hD hS hl) (fun q => kf q H locs ls hP hD hS hl)
theorem ww_if_lt (C : CX g p s m args meth c cc nL own) {x : Int32} {off : Int} (hd : decode cc pc = .ok (.ifCond .lt off, 3)) (tgt : Nat) (ht : (pc : Int) + off = (tgt : Int)) (kt : x < 0 → WW g p l e R s m args below meth c nL X h lv cells slots Q tgt st) (kf : ¬ x < 0 → WW g p l e R s m args below meth c nL X h lv cells slots Q (pc + 3) st) : WW g p l e R s m args below meth c nL X h lv cells slots Q pc (.int x :: st) :=
  fun H locs ls hP hD hS hl => lv_if_lt C.1 C.2.1 hd ht (fun q => kt q H locs ls hP hD hS hl) (fun q => kf q H locs ls hP hD hS hl)
theorem ww_if_gt (C : CX g p s m args meth c cc nL own) {x : Int32} {off : Int} (hd : decode cc pc = .ok (.ifCond .gt off, 3)) (tgt : Nat) (ht : (pc : Int) + off = (tgt : Int)) (kt : 0 < x → WW g p l e R s m args below meth c nL X h lv cells slots Q tgt st) (kf : ¬ 0 < x → WW g p l e R s m args below meth c nL X h lv cells slots Q (pc + 3) st) : WW g p l e R s m args below meth c nL X h lv cells slots Q pc (.int x :: st) :=
  fun H locs ls hP hD hS hl => lv_if_gt C.1 C.2.1 hd ht (fun q => kt q H locs ls hP hD hS hl) (fun q => kf q H locs ls hP hD hS hl)
theorem ww_if_le (C : CX g p s m args meth c cc nL own) {x : Int32} {off : Int} (hd : decode cc pc = .ok (.ifCond .le off, 3)) (tgt : Nat) (ht : (pc : Int) + off = (tgt : Int)) (kt : x ≤ 0 → WW g p l e R s m args below meth c nL X h lv cells slots Q tgt st) (kf : ¬ x ≤ 0 → WW g p l e R s m args below meth c nL X h lv cells slots Q (pc + 3) st) : WW g p l e R s m args below meth c nL X h lv cells slots Q pc (.int x :: st) :=
  fun H locs ls hP hD hS hl => lv_if_le C.1 C.2.1 hd ht (fun q => kt q H locs ls hP hD hS hl) (fun q => kf q H locs ls hP hD hS hl)
theorem ww_if_eq (C : CX g p s m args meth c cc nL own) {x : Int32} {off : Int} (hd : decode cc pc = .ok (.ifCond .eq off, 3)) (tgt : Nat) (ht : (pc : Int) + off = (tgt : Int)) (kt : x = 0 → WW g p l e R s m args below meth c nL X h lv cells slots Q tgt st) (kf : ¬ x = 0 → WW g p l e R s m args below meth c nL X h lv cells slots Q (pc + 3) st) : WW g p l e R s m args below meth c nL X h lv cells slots Q pc (.int x :: st) :=
  fun H locs ls hP hD hS hl => lv_if_eq C.1 C.2.1 hd ht (fun q => kt q H locs ls hP hD hS hl) (fun q => kf q H locs ls hP hD hS hl)
theorem ww_if_ne (C : CX g p s m args meth c cc nL own) {x : Int32} {off : Int} (hd : decode cc pc = .ok (.ifCond .ne off, 3)) (tgt : Nat) (ht : (pc : Int) + off = (tgt : Int)) (kt : ¬ x = 0 → WW g p l e R s m args below meth c nL X h lv cells slots Q tgt st) (kf : x = 0 → WW g p l e R s m args below meth c nL X h lv cells slots Q (pc + 3) st) : WW g p l e R s m args below meth c nL X h lv cells slots Q pc (.int x :: st) :=
  fun H locs ls hP hD hS hl => lv_if_ne C.1 C.2.1 hd ht (fun q => kt q H locs ls hP hD hS hl) (fun q => kf q H locs ls hP hD hS hl)
theorem ww_goto (C : CX g p s m args meth c cc nL own) {off : Int} (hd : decode cc pc = .ok (.goto off, 3)) (tgt : Nat) (ht : (pc : Int) + off = (tgt : Int)) (k : WW g p l e R s m args below meth c nL X h lv cells slots Q tgt st) : WW g p l e R s m args below meth c nL X h lv cells slots Q pc st :=
  fun H locs ls hP hD hS hl => lv_goto C.1 C.2.1 hd ht (k H locs ls hP hD hS hl)
theorem ww_lv (lv2 : List (Nat × Value)) (hh : hasA lv lv2) (k : WW g p l e R s m args below meth c nL X h lv2 cells slots Q pc st) : WW g p l e R s m args below meth c nL X h lv cells slots Q pc st :=
  fun H locs ls hP hD hS hl => k H locs ls hP hD hS (hasA_sub hl hh)
theorem ww_wide (k2 n2 : Nat) (h1 : cells ≤ k2) (h2 : slots ≤ n2) (k : WW g p l e R s m args below meth c nL X h lv k2 n2 Q pc st) : WW g p l e R s m args below meth c nL X h lv cells slots Q pc st :=
  fun H locs ls hP hD hS hl => W.widen h1 h2 (k H locs ls hP hD hS hl)
theorem ww_heap {h2 : Hp} (he : h = h2) (k : WW g p l e R s m args below meth c nL X h2 lv cells slots Q pc st) : WW g p l e R s m args below meth c nL X h lv cells slots Q pc st := by subst he; exact k
theorem ww_top {x y : Int32} (he : x = y) (k : WW g p l e R s m args below meth c nL X h lv cells slots Q pc (.int y :: st)) : WW g p l e R s m args below meth c nL X h lv cells slots Q pc (.int x :: st) := by subst he; exact k
theorem ww_get (C : CX g p s m args meth c cc nL own) {o ci : Nat} {fs : List Value} {cn : String} {T : u_T} {N : Nat} {idx : Nat} (ho : o < 64) (he : ce g (h o) o = .inr (ci, fs)) (hc : vwCl[ci]? = some (cn, T, N)) (hin : ∀ w ∈ u_ws cn T N, w ∈ TT) (k : Nat) (hk : k < N) (hlink : Cond.fieldLink own idx (T k).1 (T k).2.1 (T k).2.2.1 ∈ TT) {v : Value} (hv : fs[k]? = some v) (hd : decode cc pc = .ok (.getfield idx, 3)) (kk : WW g p l e R s m args below meth c nL X h lv cells slots Q (pc + 3) (v :: st)) : WW g p l e R s m args below meth c nL X h lv cells slots Q pc (.ref (gB g + o) :: st) :=
  fun H locs ls hP hD hS hl => va_get (D := gD g) (Ts := TT) C.1 C.2.1 C.2.2.2.2.1 hin C.2.2.2.1 C.2.2.2.2.2.1 hP o (by rw [wl_get ho, he]) hc k hk (C.2.2.2.2.1 _ hlink) (fun _ h9 => h9) hv hd (kk H locs ls hP hD hS hl)
theorem ww_put (C : CX g p s m args meth c cc nL own) {o ci : Nat} {fs : List Value} {cn : String} {T : u_T} {N : Nat} {idx : Nat} (ho : o < 64) (he : ce g (h o) o = .inr (ci, fs)) (hc : vwCl[ci]? = some (cn, T, N)) (hin : ∀ w ∈ u_ws cn T N, w ∈ TT) (ty0 : Nat → FieldType) (hty : ∀ k, k < N → parseFieldDescriptor (T k).2.2.1 = some (ty0 k)) (hnm : ∀ a, a < N → ∀ b, b < N → a ≠ b → (T a).2.1 ≠ (T b).2.1) (k : Nat) (hk : k < N) (hlink : Cond.fieldLink own idx (T k).1 (T k).2.1 (T k).2.2.1 ∈ TT) (hfin : (T k).2.2.2 = false) {v : Int32} (hn : narrow (ty0 k) (.int v) = .int v) (hfit : fits (ty0 k) (.int v) = true) (hl0 : k < fs.length) (he2 : ce g (upd (h o) k v) o = .inr (ci, fs.set k (.int v))) (hd : decode cc pc = .ok (.putfield idx, 3)) (kk : WW g p l e R s m args below meth c nL X (hp_up h o k v) lv cells slots Q (pc + 3) st) : WW g p l e R s m args below meth c nL X h lv cells slots Q pc (.int v :: .ref (gB g + o) :: st) := by
  intro H locs ls hP hD hS hl
  refine va_put (D := gD g) (Ts := TT) C.1 C.2.1 C.2.2.2.2.1 hin ty0 hty hnm C.2.2.2.1 C.2.2.2.2.2.1 hP hD hS o (by rw [wl_get ho, he]) hc k hk (C.2.2.2.2.1 _ hlink) (fun _ h9 => h9) hfin (hty k hk) hn hfit hl0 hd (fun H1 locs1 hP1 hD1 hS1 => ?_)
  rw [← he2, wl_set ho] at hP1 hD1
  exact kk H1 locs1 ls hP1 hD1 hS1 hl
theorem ww_getP (C : CX g p s m args meth c cc nL own) {o idx : Nat} (ho : isP o) (k : Nat) (hk : k < 10) (hlink : Cond.fieldLink own idx (TX2 k).1 (TX2 k).2.1 (TX2 k).2.2.1 ∈ TT) (hd : decode cc pc = .ok (.getfield idx, 3)) (kk : WW g p l e R s m args below meth c nL X h lv cells slots Q (pc + 3) (.int (h o k) :: st)) : WW g p l e R s m args below meth c nL X h lv cells slots Q pc (.ref (gB g + o) :: st) :=
  ww_get (T := TX2) (N := 10) C (isP_lt ho) (ce_P ho) rfl inX2 k (by omega) hlink (by rcases (show k = 0 ∨ k = 1 ∨ k = 2 ∨ k = 3 ∨ k = 4 ∨ k = 5 ∨ k = 6 ∨ k = 7 ∨ k = 8 ∨ k = 9 by omega) with rfl | rfl | rfl | rfl | rfl | rfl | rfl | rfl | rfl | rfl <;> rfl) hd kk
theorem ww_putP (C : CX g p s m args meth c cc nL own) {o idx : Nat} (ho : isP o) (k : Nat) (hk : k = 0 ∨ k = 1 ∨ k = 2 ∨ k = 3 ∨ k = 4 ∨ k = 5 ∨ k = 6 ∨ k = 8 ∨ k = 9) {v : Int32} (hlink : Cond.fieldLink own idx (TX2 k).1 (TX2 k).2.1 (TX2 k).2.2.1 ∈ TT) (hd : decode cc pc = .ok (.putfield idx, 3)) (kk : WW g p l e R s m args below meth c nL X (hp_up h o k v) lv cells slots Q (pc + 3) st) : WW g p l e R s m args below meth c nL X h lv cells slots Q pc (.int v :: .ref (gB g + o) :: st) := by
  rcases hk with rfl | rfl | rfl | rfl | rfl | rfl | rfl | rfl | rfl <;> exact ww_put (T := TX2) (N := 10) C (isP_lt ho) (ce_P ho) rfl inX2 tyX2 tyX2_ok nmX2 _ (by decide) hlink rfl rfl rfl (Nat.le_of_ble_eq_true rfl) (ce_P ho) hd kk
theorem ww_putPb (C : CX g p s m args meth c cc nL own) {o idx : Nat} (ho : isP o) {v : Int32} (hv : v = 0 ∨ v = 1) (hlink : Cond.fieldLink own idx (TX2 7).1 (TX2 7).2.1 (TX2 7).2.2.1 ∈ TT) (hd : decode cc pc = .ok (.putfield idx, 3)) (kk : WW g p l e R s m args below meth c nL X (hp_up h o 7 v) lv cells slots Q (pc + 3) st) : WW g p l e R s m args below meth c nL X h lv cells slots Q pc (.int v :: .ref (gB g + o) :: st) :=
  ww_put (T := TX2) (N := 10) C (isP_lt ho) (ce_P ho) rfl inX2 tyX2 tyX2_ok nmX2 7 (by decide) hlink rfl (by rcases hv with rfl | rfl <;> rfl) (by rcases hv with rfl | rfl <;> rfl) (Nat.le_of_ble_eq_true rfl) (ce_P ho) hd kk
theorem ww_getF (C : CX g p s m args meth c cc nL own) {o idx : Nat} (ho : isF o) (k : Nat) (hk : k < 5) (hlink : Cond.fieldLink own idx (TX1 k).1 (TX1 k).2.1 (TX1 k).2.2.1 ∈ TT) (hd : decode cc pc = .ok (.getfield idx, 3)) (kk : WW g p l e R s m args below meth c nL X h lv cells slots Q (pc + 3) (.int (h o k) :: st)) : WW g p l e R s m args below meth c nL X h lv cells slots Q pc (.ref (gB g + o) :: st) :=
  ww_get (T := TX1) (N := 5) C (isF_lt ho) (ce_F ho) rfl inX1 k (by omega) hlink (by rcases (show k = 0 ∨ k = 1 ∨ k = 2 ∨ k = 3 ∨ k = 4 by omega) with rfl | rfl | rfl | rfl | rfl <;> rfl) hd kk
theorem ww_putF (C : CX g p s m args meth c cc nL own) {o idx : Nat} (ho : isF o) (k : Nat) (hk : k = 0 ∨ k = 1 ∨ k = 2 ∨ k = 4) {v : Int32} (hlink : Cond.fieldLink own idx (TX1 k).1 (TX1 k).2.1 (TX1 k).2.2.1 ∈ TT) (hd : decode cc pc = .ok (.putfield idx, 3)) (kk : WW g p l e R s m args below meth c nL X (hp_up h o k v) lv cells slots Q (pc + 3) st) : WW g p l e R s m args below meth c nL X h lv cells slots Q pc (.int v :: .ref (gB g + o) :: st) := by
  rcases hk with rfl | rfl | rfl | rfl <;> exact ww_put (T := TX1) (N := 5) C (isF_lt ho) (ce_F ho) rfl inX1 tyX1 tyX1_ok nmX1 _ (by decide) hlink rfl rfl rfl (Nat.le_of_ble_eq_true rfl) (ce_F ho) hd kk
theorem ww_putFb (C : CX g p s m args meth c cc nL own) {o idx : Nat} (ho : isF o) {v : Int32} (hv : v = 0 ∨ v = 1) (hlink : Cond.fieldLink own idx (TX1 3).1 (TX1 3).2.1 (TX1 3).2.2.1 ∈ TT) (hd : decode cc pc = .ok (.putfield idx, 3)) (kk : WW g p l e R s m args below meth c nL X (hp_up h o 3 v) lv cells slots Q (pc + 3) st) : WW g p l e R s m args below meth c nL X h lv cells slots Q pc (.int v :: .ref (gB g + o) :: st) :=
  ww_put (T := TX1) (N := 5) C (isF_lt ho) (ce_F ho) rfl inX1 tyX1 tyX1_ok nmX1 3 (by decide) hlink rfl (by rcases hv with rfl | rfl <;> rfl) (by rcases hv with rfl | rfl <;> rfl) (Nat.le_of_ble_eq_true rfl) (ce_F ho) hd kk
theorem ww_getW (C : CX g p s m args meth c cc nL own) {o idx : Nat} (ho : isWt o) (k : Nat) (hk : k < 3) (hlink : Cond.fieldLink own idx (TX3 k).1 (TX3 k).2.1 (TX3 k).2.2.1 ∈ TT) (hd : decode cc pc = .ok (.getfield idx, 3)) (kk : WW g p l e R s m args below meth c nL X h lv cells slots Q (pc + 3) (.int (h o k) :: st)) : WW g p l e R s m args below meth c nL X h lv cells slots Q pc (.ref (gB g + o) :: st) :=
  ww_get (T := TX3) (N := 3) C (isWt_lt ho) (ce_W ho) rfl inX3 k (by omega) hlink (by rcases (show k = 0 ∨ k = 1 ∨ k = 2 by omega) with rfl | rfl | rfl <;> rfl) hd kk
theorem ww_putW (C : CX g p s m args meth c cc nL own) {o idx : Nat} (ho : isWt o) (k : Nat) (hk : k = 0 ∨ k = 1 ∨ k = 2) {v : Int32} (hlink : Cond.fieldLink own idx (TX3 k).1 (TX3 k).2.1 (TX3 k).2.2.1 ∈ TT) (hd : decode cc pc = .ok (.putfield idx, 3)) (kk : WW g p l e R s m args below meth c nL X (hp_up h o k v) lv cells slots Q (pc + 3) st) : WW g p l e R s m args below meth c nL X h lv cells slots Q pc (.int v :: .ref (gB g + o) :: st) := by
  rcases hk with rfl | rfl | rfl <;> exact ww_put (T := TX3) (N := 3) C (isWt_lt ho) (ce_W ho) rfl inX3 tyX3 tyX3_ok nmX3 _ (by decide) hlink rfl rfl rfl (Nat.le_of_ble_eq_true rfl) (ce_W ho) hd kk
theorem ww_getD (C : CX g p s m args meth c cc nL own) {o idx : Nat} (ho : isD o) (k : Nat) (hk : k = 4 ∨ k = 5 ∨ k = 6 ∨ k = 7) (hlink : Cond.fieldLink own idx (TX0 k).1 (TX0 k).2.1 (TX0 k).2.2.1 ∈ TT) (hd : decode cc pc = .ok (.getfield idx, 3)) (kk : WW g p l e R s m args below meth c nL X h lv cells slots Q (pc + 3) (.int (h o k) :: st)) : WW g p l e R s m args below meth c nL X h lv cells slots Q pc (.ref (gB g + o) :: st) :=
  ww_get (T := TX0) (N := 8) C (isD_lt ho) (ce_D ho) rfl inX0 k (by omega) hlink (by rcases (show k = 4 ∨ k = 5 ∨ k = 6 ∨ k = 7 by omega) with rfl | rfl | rfl | rfl <;> rfl) hd kk
theorem ww_putD (C : CX g p s m args meth c cc nL own) {o idx : Nat} (ho : isD o) (k : Nat) (hk : k = 4 ∨ k = 5 ∨ k = 6 ∨ k = 7) {v : Int32} (hlink : Cond.fieldLink own idx (TX0 k).1 (TX0 k).2.1 (TX0 k).2.2.1 ∈ TT) (hd : decode cc pc = .ok (.putfield idx, 3)) (kk : WW g p l e R s m args below meth c nL X (hp_up h o k v) lv cells slots Q (pc + 3) st) : WW g p l e R s m args below meth c nL X h lv cells slots Q pc (.int v :: .ref (gB g + o) :: st) := by
  rcases hk with rfl | rfl | rfl | rfl <;> exact ww_put (T := TX0) (N := 8) C (isD_lt ho) (ce_D ho) rfl inX0 tyX0 tyX0_ok nmX0 _ (by decide) hlink rfl rfl rfl (Nat.le_of_ble_eq_true rfl) (ce_D ho) hd kk
theorem ww_getDw (C : CX g p s m args meth c cc nL own) {o idx : Nat} (ho : isD o) (hlink : Cond.fieldLink own idx (TX0 0).1 (TX0 0).2.1 (TX0 0).2.2.1 ∈ TT) (hd : decode cc pc = .ok (.getfield idx, 3)) (kk : WW g p l e R s m args below meth c nL X h lv cells slots Q (pc + 3) (.ref (gB g + (o + 1)) :: st)) : WW g p l e R s m args below meth c nL X h lv cells slots Q pc (.ref (gB g + o) :: st) :=
  ww_get (T := TX0) (N := 8) C (isD_lt ho) (ce_D ho) rfl inX0 0 (by decide) hlink rfl hd kk
theorem ww_getDp (C : CX g p s m args meth c cc nL own) {o idx : Nat} (ho : isD o) (hlink : Cond.fieldLink own idx (TX0 1).1 (TX0 1).2.1 (TX0 1).2.2.1 ∈ TT) (hd : decode cc pc = .ok (.getfield idx, 3)) (kk : WW g p l e R s m args below meth c nL X h lv cells slots Q (pc + 3) (.ref (gB g + (o + 12)) :: st)) : WW g p l e R s m args below meth c nL X h lv cells slots Q pc (.ref (gB g + o) :: st) :=
  ww_get (T := TX0) (N := 8) C (isD_lt ho) (ce_D ho) rfl inX0 1 (by decide) hlink rfl hd kk
theorem ww_getDb (C : CX g p s m args meth c cc nL own) {o idx : Nat} (ho : isD o) (hlink : Cond.fieldLink own idx (TX0 2).1 (TX0 2).2.1 (TX0 2).2.2.1 ∈ TT) (hd : decode cc pc = .ok (.getfield idx, 3)) (kk : WW g p l e R s m args below meth c nL X h lv cells slots Q (pc + 3) (.ref (gB g + (o + 13)) :: st)) : WW g p l e R s m args below meth c nL X h lv cells slots Q pc (.ref (gB g + o) :: st) :=
  ww_get (T := TX0) (N := 8) C (isD_lt ho) (ce_D ho) rfl inX0 2 (by decide) hlink rfl hd kk
theorem ww_getDf (C : CX g p s m args meth c cc nL own) {o idx : Nat} (ho : isD o) (hlink : Cond.fieldLink own idx (TX0 3).1 (TX0 3).2.1 (TX0 3).2.2.1 ∈ TT) (hd : decode cc pc = .ok (.getfield idx, 3)) (kk : WW g p l e R s m args below meth c nL X h lv cells slots Q (pc + 3) (.ref (gB g + (o + 24)) :: st)) : WW g p l e R s m args below meth c nL X h lv cells slots Q pc (.ref (gB g + o) :: st) :=
  ww_get (T := TX0) (N := 8) C (isD_lt ho) (ce_D ho) rfl inX0 3 (by decide) hlink rfl hd kk
theorem ww_getXd (C : CX g p s m args meth c cc nL own) {idx : Nat} (hlink : Cond.fieldLink own idx (TX4 0).1 (TX4 0).2.1 (TX4 0).2.2.1 ∈ TT) (hd : decode cc pc = .ok (.getfield idx, 3)) (kk : WW g p l e R s m args below meth c nL X h lv cells slots Q (pc + 3) (.ref (gB g + 1) :: st)) : WW g p l e R s m args below meth c nL X h lv cells slots Q pc (.ref (gB g + 0) :: st) :=
  ww_get (T := TX4) (N := 2) C (show 0 < 64 by omega) rfl rfl inX4 0 (by decide) hlink rfl hd kk
theorem ww_getXa (C : CX g p s m args meth c cc nL own) {idx : Nat} (hlink : Cond.fieldLink own idx (TX4 1).1 (TX4 1).2.1 (TX4 1).2.2.1 ∈ TT) (hd : decode cc pc = .ok (.getfield idx, 3)) (kk : WW g p l e R s m args below meth c nL X h lv cells slots Q (pc + 3) (.ref (gB g + 32) :: st)) : WW g p l e R s m args below meth c nL X h lv cells slots Q pc (.ref (gB g + 0) :: st) :=
  ww_get (T := TX4) (N := 2) C (show 0 < 64 by omega) rfl rfl inX4 1 (by decide) hlink rfl hd kk
theorem ww_iald (C : CX g p s m args meth c cc nL own) {o n j : Nat} (ho : o < 64) (he : ∀ r : Nat → Int32, ce g r o = .inl (gA g 0, n, .inl r)) (hj : j < n) (hn31 : n < 2 ^ 31) (hd : decode cc pc = .ok (.iaload, 1)) (kk : WW g p l e R s m args below meth c nL X h lv cells slots Q (pc + 1) (.int (h o j) :: st)) : WW g p l e R s m args below meth c nL X h lv cells slots Q pc (.int (nI j) :: .ref (gB g + o) :: st) := by
  intro H locs ls hP hD hS hl
  have ej : (nI j).toNatClampNeg = j := nI_clamp (by omega)
  refine va_iald (D := gD g) C.1 C.2.1 C.2.2.2.2.2.1 hP o 0 (by rw [wl_get ho, he]) rfl (vp_in_nI hj hn31) hd ?_
  rw [ej]
  exact kk H locs ls hP hD hS hl
theorem ww_iast (C : CX g p s m args meth c cc nL own) {o n j : Nat} {v : Int32} (ho : o < 64) (he : ∀ r : Nat → Int32, ce g r o = .inl (gA g 0, n, .inl r)) (hj : j < n) (hn31 : n < 2 ^ 31) (hd : decode cc pc = .ok (.iastore, 1)) (kk : WW g p l e R s m args below meth c nL X (hp_up h o j v) lv cells slots Q (pc + 1) st) : WW g p l e R s m args below meth c nL X h lv cells slots Q pc (.int v :: .int (nI j) :: .ref (gB g + o) :: st) := by
  intro H locs ls hP hD hS hl
  have ej : (nI j).toNatClampNeg = j := nI_clamp (by omega)
  refine va_iast (D := gD g) C.1 C.2.1 C.2.2.2.2.2.1 hP hD hS o 0 (by rw [wl_get ho, he]) rfl (vp_in_nI hj hn31) hd (fun H1 locs1 hP1 hD1 hS1 => ?_)
  rw [ej, ← he, wl_set ho] at hP1 hD1
  exact kk H1 locs1 ls hP1 hD1 hS1 hl
theorem ww_aaldW (C : CX g p s m args meth c cc nL own) {d j : Nat} (ho : isD d) (hj : j < 10) (hd : decode cc pc = .ok (.aaload, 1)) (kk : WW g p l e R s m args below meth c nL X h lv cells slots Q (pc + 1) (.ref (gB g + (d + 2 + j)) :: st)) : WW g p l e R s m args below meth c nL X h lv cells slots Q pc (.int (nI j) :: .ref (gB g + (d + 1)) :: st) := by
  intro H locs ls hP hD hS hl
  have hb : 10 < 2 ^ 31 := by omega
  have ej : (nI j).toNatClampNeg = j := nI_clamp (by omega)
  have hlt : d + 1 < 64 := by rcases ho with rfl | rfl <;> omega
  refine va_aldq (D := gD g) C.1 C.2.1 C.2.2.2.2.2.1 hP (d + 1) 1 (by rw [wl_get hlt, ce_Wa ho]) rfl (vp_in_nI hj hb) hd ?_
  rw [ej]
  exact kk H locs ls hP hD hS hl
theorem ww_alenW (C : CX g p s m args meth c cc nL own) {d : Nat} {v : Int32} (ho : isD d) (hv : nI (10) = v) (hd : decode cc pc = .ok (.arraylength, 1)) (kk : WW g p l e R s m args below meth c nL X h lv cells slots Q (pc + 1) (.int v :: st)) : WW g p l e R s m args below meth c nL X h lv cells slots Q pc (.ref (gB g + (d + 1)) :: st) := by
  intro H locs ls hP hD hS hl
  have hlt : d + 1 < 64 := by rcases ho with rfl | rfl <;> omega
  exact va_alen (D := gD g) C.1 C.2.1 C.2.2.2.2.2.1 hP (d + 1) 1 (by rw [wl_get hlt, ce_Wa ho]) rfl (by exact hv) hd (kk H locs ls hP hD hS hl)
theorem ww_aaldP (C : CX g p s m args meth c cc nL own) {d j : Nat} (ho : isD d) (hj : j < 10) (hd : decode cc pc = .ok (.aaload, 1)) (kk : WW g p l e R s m args below meth c nL X h lv cells slots Q (pc + 1) (.ref (gB g + (d + 14 + j)) :: st)) : WW g p l e R s m args below meth c nL X h lv cells slots Q pc (.int (nI j) :: .ref (gB g + (d + 12)) :: st) := by
  intro H locs ls hP hD hS hl
  have hb : 10 < 2 ^ 31 := by omega
  have ej : (nI j).toNatClampNeg = j := nI_clamp (by omega)
  have hlt : d + 12 < 64 := by rcases ho with rfl | rfl <;> omega
  refine va_aldq (D := gD g) C.1 C.2.1 C.2.2.2.2.2.1 hP (d + 12) 2 (by rw [wl_get hlt, ce_Pa ho]) rfl (vp_in_nI hj hb) hd ?_
  rw [ej]
  exact kk H locs ls hP hD hS hl
theorem ww_alenP (C : CX g p s m args meth c cc nL own) {d : Nat} {v : Int32} (ho : isD d) (hv : nI (10) = v) (hd : decode cc pc = .ok (.arraylength, 1)) (kk : WW g p l e R s m args below meth c nL X h lv cells slots Q (pc + 1) (.int v :: st)) : WW g p l e R s m args below meth c nL X h lv cells slots Q pc (.ref (gB g + (d + 12)) :: st) := by
  intro H locs ls hP hD hS hl
  have hlt : d + 12 < 64 := by rcases ho with rfl | rfl <;> omega
  exact va_alen (D := gD g) C.1 C.2.1 C.2.2.2.2.2.1 hP (d + 12) 2 (by rw [wl_get hlt, ce_Pa ho]) rfl (by exact hv) hd (kk H locs ls hP hD hS hl)
theorem ww_aaldF (C : CX g p s m args meth c cc nL own) {d j : Nat} (ho : isD d) (hj : j < rmD d) (hd : decode cc pc = .ok (.aaload, 1)) (kk : WW g p l e R s m args below meth c nL X h lv cells slots Q (pc + 1) (.ref (gB g + (d + 25 + j)) :: st)) : WW g p l e R s m args below meth c nL X h lv cells slots Q pc (.int (nI j) :: .ref (gB g + (d + 24)) :: st) := by
  intro H locs ls hP hD hS hl
  have hb : rmD d < 2 ^ 31 := by unfold rmD; split <;> omega
  have ej : (nI j).toNatClampNeg = j := nI_clamp (by omega)
  have hlt : d + 24 < 64 := by rcases ho with rfl | rfl <;> omega
  refine va_aldq (D := gD g) C.1 C.2.1 C.2.2.2.2.2.1 hP (d + 24) 3 (by rw [wl_get hlt, ce_Fa ho]) rfl (vp_in_nI hj hb) hd ?_
  rw [ej]
  exact kk H locs ls hP hD hS hl
theorem ww_alenF (C : CX g p s m args meth c cc nL own) {d : Nat} {v : Int32} (ho : isD d) (hv : nI (rmD d) = v) (hd : decode cc pc = .ok (.arraylength, 1)) (kk : WW g p l e R s m args below meth c nL X h lv cells slots Q (pc + 1) (.int v :: st)) : WW g p l e R s m args below meth c nL X h lv cells slots Q pc (.ref (gB g + (d + 24)) :: st) := by
  intro H locs ls hP hD hS hl
  have hlt : d + 24 < 64 := by rcases ho with rfl | rfl <;> omega
  exact va_alen (D := gD g) C.1 C.2.1 C.2.2.2.2.2.1 hP (d + 24) 3 (by rw [wl_get hlt, ce_Fa ho]) rfl (by exact hv) hd (kk H locs ls hP hD hS hl)
theorem ww_mmax (C : CX g p s m args meth c cc nL own) {x y : Int32} {idx : Nat} (hlink : Cond.methodLink own idx Lib.Math.max.name ∈ TT) (hfr : 1 ≤ R.frames) (hlo : (st.map fun v => v.category).sum + 13 ≤ R.locals) (hce : cells ≤ R.cells) (hsl : slots ≤ R.slots) (hd : decode cc pc = .ok (.invokestatic idx, 3)) (kk : WW g p l e R s m args below meth c nL X h lv cells slots Q (pc + 3) (.int (mxI x y) :: st)) : WW g p l e R s m args below meth c nL X h lv cells slots Q pc (.int y :: .int x :: st) := by
  intro H locs ls hP hD hS hl
  have ht := C.2.2.2.2.1
  exact va_mmax C.1 C.2.1 (C.2.2.1.trans hl.1.symm) C.2.2.2.1 (ht _ hlink) (ht _ q_t_J_max) (ht _ q_n_J9) (ht _ q_c_J_max) hfr hlo hce hsl hd (kk H locs ls hP hD hS hl)
theorem ww_mmin (C : CX g p s m args meth c cc nL own) {x y : Int32} {idx : Nat} (hlink : Cond.methodLink own idx Lib.Math.min.name ∈ TT) (hfr : 1 ≤ R.frames) (hlo : (st.map fun v => v.category).sum + 13 ≤ R.locals) (hce : cells ≤ R.cells) (hsl : slots ≤ R.slots) (hd : decode cc pc = .ok (.invokestatic idx, 3)) (kk : WW g p l e R s m args below meth c nL X h lv cells slots Q (pc + 3) (.int (mnI x y) :: st)) : WW g p l e R s m args below meth c nL X h lv cells slots Q pc (.int y :: .int x :: st) := by
  intro H locs ls hP hD hS hl
  have ht := C.2.2.2.2.1
  exact va_mmin C.1 C.2.1 (C.2.2.1.trans hl.1.symm) C.2.2.2.1 (ht _ hlink) (ht _ q_t_J_min) (ht _ q_n_J9) (ht _ q_c_J_min) hfr hlo hce hsl hd (kk H locs ls hP hD hS hl)
theorem ww_mabs (C : CX g p s m args meth c cc nL own) {x : Int32} {idx : Nat} (hlink : Cond.methodLink own idx Lib.Math.abs.name ∈ TT) (hfr : 1 ≤ R.frames) (hlo : (st.map fun v => v.category).sum + 13 ≤ R.locals) (hce : cells ≤ R.cells) (hsl : slots ≤ R.slots) (hd : decode cc pc = .ok (.invokestatic idx, 3)) (kk : WW g p l e R s m args below meth c nL X h lv cells slots Q (pc + 3) (.int (abI x) :: st)) : WW g p l e R s m args below meth c nL X h lv cells slots Q pc (.int x :: st) := by
  intro H locs ls hP hD hS hl
  have ht := C.2.2.2.2.1
  exact va_mabs C.1 C.2.1 (C.2.2.1.trans hl.1.symm) C.2.2.2.1 (ht _ hlink) (ht _ q_t_J_abs) (ht _ q_n_J9) (ht _ q_c_J_abs) hfr hlo hce hsl hd (kk H locs ls hP hD hS hl)
end GWR
