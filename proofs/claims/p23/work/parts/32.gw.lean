/-! WALKS OVER ANY LIST OF CELLS. GW .. L F lv ..: the heap holds the cells L, apart and within F; since the walk's start nothing outside F has changed. -/
def GW (g : gW) (p : Program) (l : Launch) (e : Env) (R : Room) (s : State) (m : MethodId) (args : Array Value) (below : List Frame) (meth : Method) (c : Code) (nL : Nat) (L : va_W) (F : Nat → Prop) (lv : List (Nat × Value)) (cells slots : Nat) (Q : State → Prop) (pc : Nat) (st : List Value) : Prop :=
  ∀ (H : Heap) (locs : List Loc) (ls : Array Slot), va_P (gD g) vwCl L H → va_D F L → va_S F s.heap H locs → lv_has ls nL lv → W p l e R s m args below meth c H locs cells slots Q (F0 m pc ls st)
/-- a walk's surroundings -/
def CG (g : gW) (p : Program) (s : State) (m : MethodId) (args : Array Value) (meth : Method) (c : Code) (cc : ByteArray) (nL : Nat) (own : String) : Prop :=
  p.tables.exec = Jvm.exec ∧ c.code = cc ∧ c.maxLocals = nL ∧ s.vm.findClass own = some m.cls ∧ (∀ w ∈ TT, w.before args s = true) ∧ va_K (gD g) vwCl (gT g) s ∧ meth.locks = false ∧ KX s
section GGR
variable {g : gW} {p : Program} {l : Launch} {e : Env} {R : Room} {s : State} {m : MethodId} {args : Array Value} {below : List Frame} {meth : Method} {c : Code} {cc : ByteArray} {nL : Nat} {own : String} {L : va_W} {F : Nat → Prop} {lv : List (Nat × Value)} {cells slots : Nat} {Q : State → Prop} {pc : Nat} {st : List Value}

theorem gg_iconst (C : CG g p s m args meth c cc nL own) {n : Int} {v : Int32}  (hd : decode cc pc = .ok (.iconst n, 1)) (hv : Int32.ofInt n = v) (k : GW g p l e R s m args below meth c nL L F lv cells slots Q (pc + 1) (.int v :: st)) : GW g p l e R s m args below meth c nL L F lv cells slots Q pc st :=
  fun H locs ls hP hD hS hl => lv_iconst C.1 C.2.1 hd hv (k H locs ls hP hD hS hl)
theorem gg_bipush (C : CG g p s m args meth c cc nL own) {n : Int} {v : Int32}  (hd : decode cc pc = .ok (.bipush n, 2)) (hv : (Int8.ofInt n).toInt32 = v) (k : GW g p l e R s m args below meth c nL L F lv cells slots Q (pc + 2) (.int v :: st)) : GW g p l e R s m args below meth c nL L F lv cells slots Q pc st :=
  fun H locs ls hP hD hS hl => lv_bipush C.1 C.2.1 hd hv (k H locs ls hP hD hS hl)
theorem gg_sipush (C : CG g p s m args meth c cc nL own) {n : Int} {v : Int32}  (hd : decode cc pc = .ok (.sipush n, 3)) (hv : (Int16.ofInt n).toInt32 = v) (k : GW g p l e R s m args below meth c nL L F lv cells slots Q (pc + 3) (.int v :: st)) : GW g p l e R s m args below meth c nL L F lv cells slots Q pc st :=
  fun H locs ls hP hD hS hl => lv_sipush C.1 C.2.1 hd hv (k H locs ls hP hD hS hl)
theorem gg_lconst (C : CG g p s m args meth c cc nL own) {n : Fin 2} {v : Int64}  (hd : decode cc pc = .ok (.lconst n, 1)) (hv : Int64.ofNat (n : Nat) = v) (k : GW g p l e R s m args below meth c nL L F lv cells slots Q (pc + 1) (.long v :: st)) : GW g p l e R s m args below meth c nL L F lv cells slots Q pc st :=
  fun H locs ls hP hD hS hl => lv_lconst C.1 C.2.1 hd hv (k H locs ls hP hD hS hl)
theorem gg_iload_n (C : CG g p s m args meth c cc nL own) {k0 : Fin 4} {x : Int32}  (hd : decode cc pc = .ok (.iload_n k0, 1)) (i : Nat) (hi : (k0 : Nat) = i) (hv : lk lv i = some (.int x)) (k : GW g p l e R s m args below meth c nL L F lv cells slots Q (pc + 1) (.int x :: st)) : GW g p l e R s m args below meth c nL L F lv cells slots Q pc st :=
  fun H locs ls hP hD hS hl => lv_iload_n C.1 C.2.1 hd hi (lk_at hl hv) (k H locs ls hP hD hS hl)
theorem gg_iload (C : CG g p s m args meth c cc nL own) {i : Nat} {x : Int32}  (hd : decode cc pc = .ok (.iload i, 2)) (hv : lk lv i = some (.int x)) (k : GW g p l e R s m args below meth c nL L F lv cells slots Q (pc + 2) (.int x :: st)) : GW g p l e R s m args below meth c nL L F lv cells slots Q pc st :=
  fun H locs ls hP hD hS hl => lv_iload C.1 C.2.1 hd (lk_at hl hv) (k H locs ls hP hD hS hl)
theorem gg_aload_n (C : CG g p s m args meth c cc nL own) {k0 : Fin 4} {x : Nat}  (hd : decode cc pc = .ok (.aload_n k0, 1)) (i : Nat) (hi : (k0 : Nat) = i) (hv : lk lv i = some (.ref x)) (k : GW g p l e R s m args below meth c nL L F lv cells slots Q (pc + 1) (.ref x :: st)) : GW g p l e R s m args below meth c nL L F lv cells slots Q pc st :=
  fun H locs ls hP hD hS hl => lv_aload_n C.1 C.2.1 hd hi (lk_at hl hv) (k H locs ls hP hD hS hl)
theorem gg_aload (C : CG g p s m args meth c cc nL own) {i : Nat} {x : Nat}  (hd : decode cc pc = .ok (.aload i, 2)) (hv : lk lv i = some (.ref x)) (k : GW g p l e R s m args below meth c nL L F lv cells slots Q (pc + 2) (.ref x :: st)) : GW g p l e R s m args below meth c nL L F lv cells slots Q pc st :=
  fun H locs ls hP hD hS hl => lv_aload C.1 C.2.1 hd (lk_at hl hv) (k H locs ls hP hD hS hl)
theorem gg_lload_n (C : CG g p s m args meth c cc nL own) {k0 : Fin 4} {x : Int64}  (hd : decode cc pc = .ok (.lload_n k0, 1)) (i : Nat) (hi : (k0 : Nat) = i) (hv : lk lv i = some (.long x)) (k : GW g p l e R s m args below meth c nL L F lv cells slots Q (pc + 1) (.long x :: st)) : GW g p l e R s m args below meth c nL L F lv cells slots Q pc st :=
  fun H locs ls hP hD hS hl => lv_lload_n C.1 C.2.1 hd hi (lk_at hl hv) (k H locs ls hP hD hS hl)
theorem gg_iadd (C : CG g p s m args meth c cc nL own) {x y : Int32} (hd : decode cc pc = .ok (.iadd, 1))  (k : GW g p l e R s m args below meth c nL L F lv cells slots Q (pc + 1) (.int (x + y) :: st)) : GW g p l e R s m args below meth c nL L F lv cells slots Q pc (.int y :: .int x :: st) :=
  fun H locs ls hP hD hS hl => lv_iadd C.1 C.2.1 hd (k H locs ls hP hD hS hl)
theorem gg_isub (C : CG g p s m args meth c cc nL own) {x y : Int32} (hd : decode cc pc = .ok (.isub, 1))  (k : GW g p l e R s m args below meth c nL L F lv cells slots Q (pc + 1) (.int (x - y) :: st)) : GW g p l e R s m args below meth c nL L F lv cells slots Q pc (.int y :: .int x :: st) :=
  fun H locs ls hP hD hS hl => lv_isub C.1 C.2.1 hd (k H locs ls hP hD hS hl)
theorem gg_imul (C : CG g p s m args meth c cc nL own) {x y : Int32} (hd : decode cc pc = .ok (.imul, 1))  (k : GW g p l e R s m args below meth c nL L F lv cells slots Q (pc + 1) (.int (x * y) :: st)) : GW g p l e R s m args below meth c nL L F lv cells slots Q pc (.int y :: .int x :: st) :=
  fun H locs ls hP hD hS hl => lv_imul C.1 C.2.1 hd (k H locs ls hP hD hS hl)
theorem gg_ior (C : CG g p s m args meth c cc nL own) {x y : Int32} (hd : decode cc pc = .ok (.ior, 1))  (k : GW g p l e R s m args below meth c nL L F lv cells slots Q (pc + 1) (.int (x ||| y) :: st)) : GW g p l e R s m args below meth c nL L F lv cells slots Q pc (.int y :: .int x :: st) :=
  fun H locs ls hP hD hS hl => lv_ior C.1 C.2.1 hd (k H locs ls hP hD hS hl)
theorem gg_iand (C : CG g p s m args meth c cc nL own) {x y : Int32} (hd : decode cc pc = .ok (.iand, 1))  (k : GW g p l e R s m args below meth c nL L F lv cells slots Q (pc + 1) (.int (x &&& y) :: st)) : GW g p l e R s m args below meth c nL L F lv cells slots Q pc (.int y :: .int x :: st) :=
  fun H locs ls hP hD hS hl => lv_iand C.1 C.2.1 hd (k H locs ls hP hD hS hl)
theorem gg_ixor (C : CG g p s m args meth c cc nL own) {x y : Int32} (hd : decode cc pc = .ok (.ixor, 1))  (k : GW g p l e R s m args below meth c nL L F lv cells slots Q (pc + 1) (.int (x ^^^ y) :: st)) : GW g p l e R s m args below meth c nL L F lv cells slots Q pc (.int y :: .int x :: st) :=
  fun H locs ls hP hD hS hl => lv_ixor C.1 C.2.1 hd (k H locs ls hP hD hS hl)
theorem gg_ishl (C : CG g p s m args meth c cc nL own) {x y : Int32} (hd : decode cc pc = .ok (.ishl, 1))  (k : GW g p l e R s m args below meth c nL L F lv cells slots Q (pc + 1) (.int (x <<< (y &&& 31)) :: st)) : GW g p l e R s m args below meth c nL L F lv cells slots Q pc (.int y :: .int x :: st) :=
  fun H locs ls hP hD hS hl => lv_ishl C.1 C.2.1 hd (k H locs ls hP hD hS hl)
theorem gg_idiv (C : CG g p s m args meth c cc nL own) {x y : Int32}  (hd : decode cc pc = .ok (.idiv, 1)) (hne : ¬ y = 0) (k : GW g p l e R s m args below meth c nL L F lv cells slots Q (pc + 1) (.int (x / y) :: st)) : GW g p l e R s m args below meth c nL L F lv cells slots Q pc (.int y :: .int x :: st) :=
  fun H locs ls hP hD hS hl => lv_idiv C.1 C.2.1 hd hne (k H locs ls hP hD hS hl)
theorem gg_irem (C : CG g p s m args meth c cc nL own) {x y : Int32}  (hd : decode cc pc = .ok (.irem, 1)) (hne : ¬ y = 0) (k : GW g p l e R s m args below meth c nL L F lv cells slots Q (pc + 1) (.int (x - x / y * y) :: st)) : GW g p l e R s m args below meth c nL L F lv cells slots Q pc (.int y :: .int x :: st) :=
  fun H locs ls hP hD hS hl => lv_irem C.1 C.2.1 hd hne (k H locs ls hP hD hS hl)
theorem gg_ineg (C : CG g p s m args meth c cc nL own) {x : Int32} (hd : decode cc pc = .ok (.ineg, 1))  (k : GW g p l e R s m args below meth c nL L F lv cells slots Q (pc + 1) (.int (-x) :: st)) : GW g p l e R s m args below meth c nL L F lv cells slots Q pc (.int x :: st) :=
  fun H locs ls hP hD hS hl => lv_ineg C.1 C.2.1 hd (k H locs ls hP hD hS hl)
theorem gg_i2l (C : CG g p s m args meth c cc nL own) {x : Int32} (hd : decode cc pc = .ok (.i2l, 1))  (k : GW g p l e R s m args below meth c nL L F lv cells slots Q (pc + 1) (.long x.toInt64 :: st)) : GW g p l e R s m args below meth c nL L F lv cells slots Q pc (.int x :: st) :=
  fun H locs ls hP hD hS hl => lv_i2l C.1 C.2.1 hd rfl (k H locs ls hP hD hS hl)
theorem gg_lmul (C : CG g p s m args meth c cc nL own) {x y : Int64} (hd : decode cc pc = .ok (.lmul, 1))  (k : GW g p l e R s m args below meth c nL L F lv cells slots Q (pc + 1) (.long (x * y) :: st)) : GW g p l e R s m args below meth c nL L F lv cells slots Q pc (.long y :: .long x :: st) :=
  fun H locs ls hP hD hS hl => lv_lmul C.1 C.2.1 hd (k H locs ls hP hD hS hl)
theorem gg_ladd (C : CG g p s m args meth c cc nL own) {x y : Int64} (hd : decode cc pc = .ok (.ladd, 1))  (k : GW g p l e R s m args below meth c nL L F lv cells slots Q (pc + 1) (.long (x + y) :: st)) : GW g p l e R s m args below meth c nL L F lv cells slots Q pc (.long y :: .long x :: st) :=
  fun H locs ls hP hD hS hl => lv_ladd C.1 C.2.1 hd (k H locs ls hP hD hS hl)
theorem gg_dup (C : CG g p s m args meth c cc nL own) {va : Value}  (hd : decode cc pc = .ok (.dup, 1)) (hva : va.category = 1) (k : GW g p l e R s m args below meth c nL L F lv cells slots Q (pc + 1) (va :: va :: st)) : GW g p l e R s m args below meth c nL L F lv cells slots Q pc (va :: st) :=
  fun H locs ls hP hD hS hl => lv_dup C.1 C.2.1 hd hva (k H locs ls hP hD hS hl)
theorem gg_pop (C : CG g p s m args meth c cc nL own) {va : Value}  (hd : decode cc pc = .ok (.pop, 1)) (hva : va.category = 1) (k : GW g p l e R s m args below meth c nL L F lv cells slots Q (pc + 1) st) : GW g p l e R s m args below meth c nL L F lv cells slots Q pc (va :: st) :=
  fun H locs ls hP hD hS hl => lv_pop C.1 C.2.1 hd hva (k H locs ls hP hD hS hl)
theorem gg_dup2 (C : CG g p s m args meth c cc nL own) {va vb : Value}  (hd : decode cc pc = .ok (.dup2, 1)) (hva : va.category = 1) (hvb : vb.category = 1) (k : GW g p l e R s m args below meth c nL L F lv cells slots Q (pc + 1) (va :: vb :: va :: vb :: st)) : GW g p l e R s m args below meth c nL L F lv cells slots Q pc (va :: vb :: st) :=
  fun H locs ls hP hD hS hl => lv_dup2_11 C.1 C.2.1 hd hva hvb (k H locs ls hP hD hS hl)
theorem gg_ldc (C : CG g p s m args meth c cc nL own) {idx : Nat} {v : Int32}  (hd : decode cc pc = .ok (.ldc idx, 2)) (hw : Cond.constant own idx v ∈ TT) (k : GW g p l e R s m args below meth c nL L F lv cells slots Q (pc + 2) (.int v :: st)) : GW g p l e R s m args below meth c nL L F lv cells slots Q pc st :=
  fun H locs ls hP hD hS hl => lv_ldc C.1 C.2.1 C.2.2.2.1 (C.2.2.2.2.1 _ hw) hd (k H locs ls hP hD hS hl)
theorem gg_ldc2 (C : CG g p s m args meth c cc nL own) {idx : Nat} {v : Int64}  (hd : decode cc pc = .ok (.ldc2_w idx, 3)) (hw : Cond.constantLong own idx v ∈ TT) (k : GW g p l e R s m args below meth c nL L F lv cells slots Q (pc + 3) (.long v :: st)) : GW g p l e R s m args below meth c nL L F lv cells slots Q pc st :=
  fun H locs ls hP hD hS hl => lv_ldc2 C.1 C.2.1 C.2.2.2.1 (C.2.2.2.2.1 _ hw) hd (k H locs ls hP hD hS hl)
theorem gg_istore_n (C : CG g p s m args meth c cc nL own) {k0 : Fin 4} {x : Int32}  (hd : decode cc pc = .ok (.istore_n k0, 1)) (i : Nat) (hi : (k0 : Nat) = i) (hn : i < nL) (k : GW g p l e R s m args below meth c nL L F ((i, .int x) :: rm lv i) cells slots Q (pc + 1) st) : GW g p l e R s m args below meth c nL L F lv cells slots Q pc (.int x :: st) := by
  intro H locs ls hP hD hS hl
  exact lv_istore_n C.1 C.2.1 hd hi hl hn rfl (fun ls2 h2 => k H locs ls2 hP hD hS (rm_has h2))
theorem gg_istore (C : CG g p s m args meth c cc nL own) {i : Nat} {x : Int32} (hd : decode cc pc = .ok (.istore i, 2))  (hn : i < nL) (k : GW g p l e R s m args below meth c nL L F ((i, .int x) :: rm lv i) cells slots Q (pc + 2) st) : GW g p l e R s m args below meth c nL L F lv cells slots Q pc (.int x :: st) := by
  intro H locs ls hP hD hS hl
  exact lv_istore C.1 C.2.1 hd hl hn rfl (fun ls2 h2 => k H locs ls2 hP hD hS (rm_has h2))
theorem gg_astore_n (C : CG g p s m args meth c cc nL own) {k0 : Fin 4} {x : Nat}  (hd : decode cc pc = .ok (.astore_n k0, 1)) (i : Nat) (hi : (k0 : Nat) = i) (hn : i < nL) (k : GW g p l e R s m args below meth c nL L F ((i, .ref x) :: rm lv i) cells slots Q (pc + 1) st) : GW g p l e R s m args below meth c nL L F lv cells slots Q pc (.ref x :: st) := by
  intro H locs ls hP hD hS hl
  exact lv_astore_n C.1 C.2.1 hd hi hl hn rfl (fun ls2 h2 => k H locs ls2 hP hD hS (rm_has h2))
theorem gg_astore (C : CG g p s m args meth c cc nL own) {i : Nat} {x : Nat} (hd : decode cc pc = .ok (.astore i, 2))  (hn : i < nL) (k : GW g p l e R s m args below meth c nL L F ((i, .ref x) :: rm lv i) cells slots Q (pc + 2) st) : GW g p l e R s m args below meth c nL L F lv cells slots Q pc (.ref x :: st) := by
  intro H locs ls hP hD hS hl
  exact lv_astore C.1 C.2.1 hd hl hn rfl (fun ls2 h2 => k H locs ls2 hP hD hS (rm_has h2))
theorem gg_iinc (C : CG g p s m args meth c cc nL own) {i : Nat} {n : Int} {x v : Int32} (hd : decode cc pc = .ok (.iinc i n, 3)) (hv : lk lv i = some (.int x)) (he : x + Int32.ofInt n = v) (hn : i < nL) (k : GW g p l e R s m args below meth c nL L F ((i, .int v) :: rm lv i) cells slots Q (pc + 3) st) : GW g p l e R s m args below meth c nL L F lv cells slots Q pc st := by
  intro H locs ls hP hD hS hl
  obtain ⟨k0, hk0⟩ := List.getElem?_of_mem (lk_mem hv)
  exact lv_iinc C.1 C.2.1 hd hl hk0 he hn rfl (fun ls2 h2 => k H locs ls2 hP hD hS (rm_has h2))
theorem gg_icmp_ge (C : CG g p s m args meth c cc nL own) {x y : Int32} {off : Int} (hd : decode cc pc = .ok (.if_icmp .ge off, 3)) (tgt : Nat) (ht : (pc : Int) + off = (tgt : Int)) (kt : y ≤ x → GW g p l e R s m args below meth c nL L F lv cells slots Q tgt st) (kf : ¬ y ≤ x → GW g p l e R s m args below meth c nL L F lv cells slots Q (pc + 3) st) : GW g p l e R s m args below meth c nL L F lv cells slots Q pc (.int y :: .int x :: st) :=
  fun H locs ls hP hD hS hl => lv_icmp_ge C.1 C.2.1 hd ht (fun q => kt q H locs ls hP hD hS hl) (fun q => kf q H locs ls hP hD hS hl)
theorem gg_icmp_lt (C : CG g p s m args meth c cc nL own) {x y : Int32} {off : Int} (hd : decode cc pc = .ok (.if_icmp .lt off, 3)) (tgt : Nat) (ht : (pc : Int) + off = (tgt : Int)) (kt : x < y → GW g p l e R s m args below meth c nL L F lv cells slots Q tgt st) (kf : ¬ x < y → GW g p l e R s m args below meth c nL L F lv cells slots Q (pc + 3) st) : GW g p l e R s m args below meth c nL L F lv cells slots Q pc (.int y :: .int x :: st) :=
  fun H locs ls hP hD hS hl => lv_icmp_lt C.1 C.2.1 hd ht (fun q => kt q H locs ls hP hD hS hl) (fun q => kf q H locs ls hP hD hS hl)
theorem gg_icmp_gt (C : CG g p s m args meth c cc nL own) {x y : Int32} {off : Int} (hd : decode cc pc = .ok (.if_icmp .gt off, 3)) (tgt : Nat) (ht : (pc : Int) + off = (tgt : Int)) (kt : y < x → GW g p l e R s m args below meth c nL L F lv cells slots Q tgt st) (kf : ¬ y < x → GW g p l e R s m args below meth c nL L F lv cells slots Q (pc + 3) st) : GW g p l e R s m args below meth c nL L F lv cells slots Q pc (.int y :: .int x :: st) :=
  fun H locs ls hP hD hS hl => lv_icmp_gt C.1 C.2.1 hd ht (fun q => kt q H locs ls hP hD hS hl) (fun q => kf q H locs ls hP hD hS hl)
theorem gg_icmp_le (C : CG g p s m args meth c cc nL own) {x y : Int32} {off : Int} (hd : decode cc pc = .ok (.if_icmp .le off, 3)) (tgt : Nat) (ht : (pc : Int) + off = (tgt : Int)) (kt : x ≤ y → GW g p l e R s m args below meth c nL L F lv cells slots Q tgt st) (kf : ¬ x ≤ y → GW g p l e R s m args below meth c nL L F lv cells slots Q (pc + 3) st) : GW g p l e R s m args below meth c nL L F lv cells slots Q pc (.int y :: .int x :: st) :=
  fun H locs ls hP hD hS hl => lv_icmp_le C.1 C.2.1 hd ht (fun q => kt q H locs ls hP hD hS hl) (fun q => kf q H locs ls hP hD hS hl)
theorem gg_icmp_eq (C : CG g p s m args meth c cc nL own) {x y : Int32} {off : Int} (hd : decode cc pc = .ok (.if_icmp .eq off, 3)) (tgt : Nat) (ht : (pc : Int) + off = (tgt : Int)) (kt : x = y → GW g p l e R s m args below meth c nL L F lv cells slots Q tgt st) (kf : ¬ x = y → GW g p l e R s m args below meth c nL L F lv cells slots Q (pc + 3) st) : GW g p l e R s m args below meth c nL L F lv cells slots Q pc (.int y :: .int x :: st) :=
  fun H locs ls hP hD hS hl => lv_icmp_eq C.1 C.2.1 hd ht (fun q => kt q H locs ls hP hD hS hl) (fun q => kf q H locs ls hP hD hS hl)
theorem gg_icmp_ne (C : CG g p s m args meth c cc nL own) {x y : Int32} {off : Int} (hd : decode cc pc = .ok (.if_icmp .ne off, 3)) (tgt : Nat) (ht : (pc : Int) + off = (tgt : Int)) (kt : ¬ x = y → GW g p l e R s m args below meth c nL L F lv cells slots Q tgt st) (kf : x = y → GW g p l e R s m args below meth c nL L F lv cells slots Q (pc + 3) st) : GW g p l e R s m args below meth c nL L F lv cells slots Q pc (.int y :: .int x :: st) :=
  fun H locs ls hP hD hS hl => lv_icmp_ne C.1 C.2.1 hd ht (fun q => kt q H locs ls hP hD hS hl) (fun q => kf q H locs ls hP hD hS hl)
theorem gg_if_ge (C : CG g p s m args meth c cc nL own) {x : Int32} {off : Int} (hd : decode cc pc = .ok (.ifCond .ge off, 3)) (tgt : Nat) (ht : (pc : Int) + off = (tgt : Int)) (kt : 0 ≤ x → GW g p l e R s m args below meth c nL L F lv cells slots Q tgt st) (kf : ¬ 0 ≤ x → GW g p l e R s m args below meth c nL L F lv cells slots Q (pc + 3) st) : GW g p l e R s m args below meth c nL L F lv cells slots Q pc (.int x :: st) :=
  fun H locs ls hP hD hS hl => lv_if_ge C.1 C.2.1 hd ht (fun q => kt q H locs ls hP hD hS hl) (fun q => kf q H locs ls hP hD hS hl)
theorem gg_if_lt (C : CG g p s m args meth c cc nL own) {x : Int32} {off : Int} (hd : decode cc pc = .ok (.ifCond .lt off, 3)) (tgt : Nat) (ht : (pc : Int) + off = (tgt : Int)) (kt : x < 0 → GW g p l e R s m args below meth c nL L F lv cells slots Q tgt st) (kf : ¬ x < 0 → GW g p l e R s m args below meth c nL L F lv cells slots Q (pc + 3) st) : GW g p l e R s m args below meth c nL L F lv cells slots Q pc (.int x :: st) :=
  fun H locs ls hP hD hS hl => lv_if_lt C.1 C.2.1 hd ht (fun q => kt q H locs ls hP hD hS hl) (fun q => kf q H locs ls hP hD hS hl)
theorem gg_if_gt (C : CG g p s m args meth c cc nL own) {x : Int32} {off : Int} (hd : decode cc pc = .ok (.ifCond .gt off, 3)) (tgt : Nat) (ht : (pc : Int) + off = (tgt : Int)) (kt : 0 < x → GW g p l e R s m args below meth c nL L F lv cells slots Q tgt st) (kf : ¬ 0 < x → GW g p l e R s m args below meth c nL L F lv cells slots Q (pc + 3) st) : GW g p l e R s m args below meth c nL L F lv cells slots Q pc (.int x :: st) :=
  fun H locs ls hP hD hS hl => lv_if_gt C.1 C.2.1 hd ht (fun q => kt q H locs ls hP hD hS hl) (fun q => kf q H locs ls hP hD hS hl)
theorem gg_if_le (C : CG g p s m args meth c cc nL own) {x : Int32} {off : Int} (hd : decode cc pc = .ok (.ifCond .le off, 3)) (tgt : Nat) (ht : (pc : Int) + off = (tgt : Int)) (kt : x ≤ 0 → GW g p l e R s m args below meth c nL L F lv cells slots Q tgt st) (kf : ¬ x ≤ 0 → GW g p l e R s m args below meth c nL L F lv cells slots Q (pc + 3) st) : GW g p l e R s m args below meth c nL L F lv cells slots Q pc (.int x :: st) :=
  fun H locs ls hP hD hS hl => lv_if_le C.1 C.2.1 hd ht (fun q => kt q H locs ls hP hD hS hl) (fun q => kf q H locs ls hP hD hS hl)
theorem gg_if_eq (C : CG g p s m args meth c cc nL own) {x : Int32} {off : Int} (hd : decode cc pc = .ok (.ifCond .eq off, 3)) (tgt : Nat) (ht : (pc : Int) + off = (tgt : Int)) (kt : x = 0 → GW g p l e R s m args below meth c nL L F lv cells slots Q tgt st) (kf : ¬ x = 0 → GW g p l e R s m args below meth c nL L F lv cells slots Q (pc + 3) st) : GW g p l e R s m args below meth c nL L F lv cells slots Q pc (.int x :: st) :=
  fun H locs ls hP hD hS hl => lv_if_eq C.1 C.2.1 hd ht (fun q => kt q H locs ls hP hD hS hl) (fun q => kf q H locs ls hP hD hS hl)
theorem gg_if_ne (C : CG g p s m args meth c cc nL own) {x : Int32} {off : Int} (hd : decode cc pc = .ok (.ifCond .ne off, 3)) (tgt : Nat) (ht : (pc : Int) + off = (tgt : Int)) (kt : ¬ x = 0 → GW g p l e R s m args below meth c nL L F lv cells slots Q tgt st) (kf : x = 0 → GW g p l e R s m args below meth c nL L F lv cells slots Q (pc + 3) st) : GW g p l e R s m args below meth c nL L F lv cells slots Q pc (.int x :: st) :=
  fun H locs ls hP hD hS hl => lv_if_ne C.1 C.2.1 hd ht (fun q => kt q H locs ls hP hD hS hl) (fun q => kf q H locs ls hP hD hS hl)
theorem gg_goto (C : CG g p s m args meth c cc nL own) {off : Int} (hd : decode cc pc = .ok (.goto off, 3)) (tgt : Nat) (ht : (pc : Int) + off = (tgt : Int)) (k : GW g p l e R s m args below meth c nL L F lv cells slots Q tgt st) : GW g p l e R s m args below meth c nL L F lv cells slots Q pc st :=
  fun H locs ls hP hD hS hl => lv_goto C.1 C.2.1 hd ht (k H locs ls hP hD hS hl)
theorem gg_lv (lv2 : List (Nat × Value)) (hh : hasA lv lv2) (k : GW g p l e R s m args below meth c nL L F lv2 cells slots Q pc st) : GW g p l e R s m args below meth c nL L F lv cells slots Q pc st :=
  fun H locs ls hP hD hS hl => k H locs ls hP hD hS (hasA_sub hl hh)
theorem gg_wide (k2 n2 : Nat) (h1 : cells ≤ k2) (h2 : slots ≤ n2) (k : GW g p l e R s m args below meth c nL L F lv k2 n2 Q pc st) : GW g p l e R s m args below meth c nL L F lv cells slots Q pc st :=
  fun H locs ls hP hD hS hl => W.widen h1 h2 (k H locs ls hP hD hS hl)
theorem gg_top {x y : Int32} (he : x = y) (k : GW g p l e R s m args below meth c nL L F lv cells slots Q pc (.int y :: st)) : GW g p l e R s m args below meth c nL L F lv cells slots Q pc (.int x :: st) := by subst he; exact k

theorem gg_mmax (C : CG g p s m args meth c cc nL own) {x y : Int32} {idx : Nat} (hlink : Cond.methodLink own idx Lib.Math.max.name ∈ TT) (hfr : 1 ≤ R.frames) (hlo : (st.map fun v => v.category).sum + 13 ≤ R.locals) (hce : cells ≤ R.cells) (hsl : slots ≤ R.slots) (hd : decode cc pc = .ok (.invokestatic idx, 3)) (kk : GW g p l e R s m args below meth c nL L F lv cells slots Q (pc + 3) (.int (mxI x y) :: st)) : GW g p l e R s m args below meth c nL L F lv cells slots Q pc (.int y :: .int x :: st) := by
  intro H locs ls hP hD hS hl
  have ht := C.2.2.2.2.1
  exact va_mmax C.1 C.2.1 (C.2.2.1.trans hl.1.symm) C.2.2.2.1 (ht _ hlink) (ht _ q_t_J_max) (ht _ q_n_J9) (ht _ q_c_J_max) hfr hlo hce hsl hd (kk H locs ls hP hD hS hl)
theorem gg_mmin (C : CG g p s m args meth c cc nL own) {x y : Int32} {idx : Nat} (hlink : Cond.methodLink own idx Lib.Math.min.name ∈ TT) (hfr : 1 ≤ R.frames) (hlo : (st.map fun v => v.category).sum + 13 ≤ R.locals) (hce : cells ≤ R.cells) (hsl : slots ≤ R.slots) (hd : decode cc pc = .ok (.invokestatic idx, 3)) (kk : GW g p l e R s m args below meth c nL L F lv cells slots Q (pc + 3) (.int (mnI x y) :: st)) : GW g p l e R s m args below meth c nL L F lv cells slots Q pc (.int y :: .int x :: st) := by
  intro H locs ls hP hD hS hl
  have ht := C.2.2.2.2.1
  exact va_mmin C.1 C.2.1 (C.2.2.1.trans hl.1.symm) C.2.2.2.1 (ht _ hlink) (ht _ q_t_J_min) (ht _ q_n_J9) (ht _ q_c_J_min) hfr hlo hce hsl hd (kk H locs ls hP hD hS hl)
theorem gg_mabs (C : CG g p s m args meth c cc nL own) {x : Int32} {idx : Nat} (hlink : Cond.methodLink own idx Lib.Math.abs.name ∈ TT) (hfr : 1 ≤ R.frames) (hlo : (st.map fun v => v.category).sum + 13 ≤ R.locals) (hce : cells ≤ R.cells) (hsl : slots ≤ R.slots) (hd : decode cc pc = .ok (.invokestatic idx, 3)) (kk : GW g p l e R s m args below meth c nL L F lv cells slots Q (pc + 3) (.int (abI x) :: st)) : GW g p l e R s m args below meth c nL L F lv cells slots Q pc (.int x :: st) := by
  intro H locs ls hP hD hS hl
  have ht := C.2.2.2.2.1
  exact va_mabs C.1 C.2.1 (C.2.2.1.trans hl.1.symm) C.2.2.2.1 (ht _ hlink) (ht _ q_t_J_abs) (ht _ q_n_J9) (ht _ q_c_J_abs) hfr hlo hce hsl hd (kk H locs ls hP hD hS hl)

theorem gg_ishr (C : CG g p s m args meth c cc nL own) {x y : Int32} (hd : decode cc pc = .ok (.ishr, 1))  (k : GW g p l e R s m args below meth c nL L F lv cells slots Q (pc + 1) (.int (x >>> (y &&& 31)) :: st)) : GW g p l e R s m args below meth c nL L F lv cells slots Q pc (.int y :: .int x :: st) :=
  fun H locs ls hP hD hS hl => lv_ishr C.1 C.2.1 hd (k H locs ls hP hD hS hl)
theorem gg_ls (L2 : va_W) (he : L = L2) (k : GW g p l e R s m args below meth c nL L2 F lv cells slots Q pc st) : GW g p l e R s m args below meth c nL L F lv cells slots Q pc st := by subst he; exact k
/-- the cells in another order, or fewer of them -/
theorem gg_mem {L2 : va_W} (hs : ∀ x ∈ L2, x ∈ L) (hn : va_D F L → va_D F L2) (k : GW g p l e R s m args below meth c nL L2 F lv cells slots Q pc st) : GW g p l e R s m args below meth c nL L F lv cells slots Q pc st := by
  intro H locs ls hP hD hS hl
  refine k H locs ls (fun i q hi => ?_) (hn hD) hS hl
  obtain ⟨j, hj⟩ := List.getElem?_of_mem (hs q (List.mem_of_getElem? hi))
  exact hP j q hj
/-- an object's field -/
theorem gg_get (C : CG g p s m args meth c cc nL own) (i : Nat) {a ci : Nat} {fs : List Value} {cn : String} {T : u_T} {N : Nat} {idx : Nat} (he : L[i]? = some (a, .inr (ci, fs))) (hc : vwCl[ci]? = some (cn, T, N)) (hin : ∀ w ∈ u_ws cn T N, w ∈ TT) (k : Nat) (hk : k < N) (hlink : Cond.fieldLink own idx (T k).1 (T k).2.1 (T k).2.2.1 ∈ TT) {v : Value} (hv : fs[k]? = some v) (hd : decode cc pc = .ok (.getfield idx, 3)) (kk : GW g p l e R s m args below meth c nL L F lv cells slots Q (pc + 3) (v :: st)) : GW g p l e R s m args below meth c nL L F lv cells slots Q pc (.ref a :: st) :=
  fun H locs ls hP hD hS hl => va_get (D := gD g) (Ts := TT) C.1 C.2.1 C.2.2.2.2.1 hin C.2.2.2.1 C.2.2.2.2.2.1 hP i he hc k hk (C.2.2.2.2.1 _ hlink) (fun _ h9 => h9) hv hd (kk H locs ls hP hD hS hl)
theorem gg_put (C : CG g p s m args meth c cc nL own) (i : Nat) {a ci : Nat} {fs : List Value} {cn : String} {T : u_T} {N : Nat} {idx : Nat} (he : L[i]? = some (a, .inr (ci, fs))) (hc : vwCl[ci]? = some (cn, T, N)) (hin : ∀ w ∈ u_ws cn T N, w ∈ TT) (ty0 : Nat → FieldType) (hty : ∀ k, k < N → parseFieldDescriptor (T k).2.2.1 = some (ty0 k)) (hnm : ∀ a, a < N → ∀ b, b < N → a ≠ b → (T a).2.1 ≠ (T b).2.1) (k : Nat) (hk : k < N) (hlink : Cond.fieldLink own idx (T k).1 (T k).2.1 (T k).2.2.1 ∈ TT) (hfin : (T k).2.2.2 = false) {v : Value} (hn : narrow (ty0 k) v = v) (hfit : fits (ty0 k) v = true) (hl0 : k < fs.length) (hd : decode cc pc = .ok (.putfield idx, 3)) (kk : GW g p l e R s m args below meth c nL (L.set i (a, .inr (ci, fs.set k v))) F lv cells slots Q (pc + 3) st) : GW g p l e R s m args below meth c nL L F lv cells slots Q pc (v :: .ref a :: st) := by
  intro H locs ls hP hD hS hl
  exact va_put (D := gD g) (Ts := TT) C.1 C.2.1 C.2.2.2.2.1 hin ty0 hty hnm C.2.2.2.1 C.2.2.2.2.2.1 hP hD hS i he hc k hk (C.2.2.2.2.1 _ hlink) (fun _ h9 => h9) hfin (hty k hk) hn hfit hl0 hd (fun H1 locs1 hP1 hD1 hS1 => kk H1 locs1 ls hP1 hD1 hS1 hl)
abbrev cI (g : gW) (a n : Nat) (f : Nat → Int32) : Nat × va_E := (a, .inl (gA g 0, n, .inl f))
abbrev cZ (g : gW) (a n : Nat) (f : Nat → Int32) : Nat × va_E := (a, .inl (gA g 5, n, .inl f))
abbrev cR (g : gW) (a n : Nat) (f : Nat → Option Nat) : Nat × va_E := (a, .inl (gA g 4, n, .inr (.inr (.inr (.inr f)))))
theorem gg_iald (C : CG g p s m args meth c cc nL own) (i : Nat) {a n j : Nat} {x : Int32} {f : Nat → Int32} (he : L[i]? = some (cI g a n f)) (hx : x = nI j) (hj : j < n) (hn31 : n < 2 ^ 31) (hd : decode cc pc = .ok (.iaload, 1)) (kk : GW g p l e R s m args below meth c nL L F lv cells slots Q (pc + 1) (.int (f j) :: st)) : GW g p l e R s m args below meth c nL L F lv cells slots Q pc (.int x :: .ref a :: st) := by
  intro H locs ls hP hD hS hl
  subst hx
  have ej : (nI j).toNatClampNeg = j := nI_clamp (by omega)
  refine va_iald (D := gD g) C.1 C.2.1 C.2.2.2.2.2.1 hP i 0 he rfl (vp_in_nI hj hn31) hd ?_
  rw [ej]
  exact kk H locs ls hP hD hS hl
theorem gg_iast (C : CG g p s m args meth c cc nL own) (i : Nat) {a n j : Nat} {x v : Int32} {f : Nat → Int32} (he : L[i]? = some (cI g a n f)) (hx : x = nI j) (hj : j < n) (hn31 : n < 2 ^ 31) (hd : decode cc pc = .ok (.iastore, 1)) (kk : GW g p l e R s m args below meth c nL (L.set i (cI g a n (upd f j v))) F lv cells slots Q (pc + 1) st) : GW g p l e R s m args below meth c nL L F lv cells slots Q pc (.int v :: .int x :: .ref a :: st) := by
  intro H locs ls hP hD hS hl
  subst hx
  have ej : (nI j).toNatClampNeg = j := nI_clamp (by omega)
  refine va_iast (D := gD g) C.1 C.2.1 C.2.2.2.2.2.1 hP hD hS i 0 he rfl (vp_in_nI hj hn31) hd (fun H1 locs1 hP1 hD1 hS1 => ?_)
  rw [ej] at hP1 hD1
  exact kk H1 locs1 ls hP1 hD1 hS1 hl
theorem gg_zald (C : CG g p s m args meth c cc nL own) (i : Nat) {a n j : Nat} {x : Int32} {f : Nat → Int32} (he : L[i]? = some (cZ g a n f)) (hx : x = nI j) (hj : j < n) (hn31 : n < 2 ^ 31) (hd : decode cc pc = .ok (.baload, 1)) (kk : GW g p l e R s m args below meth c nL L F lv cells slots Q (pc + 1) (.int (f j) :: st)) : GW g p l e R s m args below meth c nL L F lv cells slots Q pc (.int x :: .ref a :: st) := by
  intro H locs ls hP hD hS hl
  subst hx
  have ej : (nI j).toNatClampNeg = j := nI_clamp (by omega)
  refine va_zald (D := gD g) C.1 C.2.1 C.2.2.2.2.2.1 hP i 5 he rfl (vp_in_nI hj hn31) hd ?_
  rw [ej]
  exact kk H locs ls hP hD hS hl
theorem gg_alen (C : CG g p s m args meth c cc nL own) (i : Nat) {a : Nat} {t : Nat} {cA : ClassId} {ty : FieldType} {y : vp_A} {v : Int32} (he : L[i]? = some (a, .inl (cA, y))) (ht : (gT g)[t]? = some (cA, ty)) (hv : nI y.1 = v) (hd : decode cc pc = .ok (.arraylength, 1)) (kk : GW g p l e R s m args below meth c nL L F lv cells slots Q (pc + 1) (.int v :: st)) : GW g p l e R s m args below meth c nL L F lv cells slots Q pc (.ref a :: st) :=
  fun H locs ls hP hD hS hl => va_alen (D := gD g) C.1 C.2.1 C.2.2.2.2.2.1 hP i t he ht hv hd (kk H locs ls hP hD hS hl)
theorem gg_aald (C : CG g p s m args meth c cc nL own) (i : Nat) {a n j b : Nat} {x : Int32} {f : Nat → Option Nat} (he : L[i]? = some (cR g a n f)) (hx : x = nI j) (hj : j < n) (hn31 : n < 2 ^ 31) (hf : f j = some b) (hd : decode cc pc = .ok (.aaload, 1)) (kk : GW g p l e R s m args below meth c nL L F lv cells slots Q (pc + 1) (.ref b :: st)) : GW g p l e R s m args below meth c nL L F lv cells slots Q pc (.int x :: .ref a :: st) := by
  intro H locs ls hP hD hS hl
  subst hx
  have ej : (nI j).toNatClampNeg = j := nI_clamp (by omega)
  refine aa_ald (D := gD g) C.1 C.2.1 C.2.2.2.2.2.1 hP i 4 he rfl (vp_in_nI hj hn31) hd ?_
  rw [ej, hf]
  exact kk H locs ls hP hD hS hl
theorem gg_aast (C : CG g p s m args meth c cc nL own) (i q : Nat) {a v n n2 j : Nat} {x : Int32} {f : Nat → Option Nat} {r : Nat → Int32} (he : L[i]? = some (cR g a n f)) (hv : L[q]? = some (cI g v n2 r)) (hx : x = nI j) (hj : j < n) (hn31 : n < 2 ^ 31) (hd : decode cc pc = .ok (.aastore, 1)) (kk : GW g p l e R s m args below meth c nL (L.set i (cR g a n (va_up f j (some v)))) F lv cells slots Q (pc + 1) st) : GW g p l e R s m args below meth c nL L F lv cells slots Q pc (.ref v :: .int x :: .ref a :: st) := by
  intro H locs ls hP hD hS hl
  subst hx
  exact aa_ast (args := args) C.1 C.2.1 C.2.2.2.2.2.2.2 (nmA (C.2.2.2.2.2.1.2 4 (gA g 4, .array .int) rfl).2) (va_nm_int (C.2.2.2.2.2.1.2 0 (gA g 0, .int) rfl).2) hP hD hS i q he hv (nI_nn (by omega)) (nI_clamp (by omega)) hj hd (fun H1 locs1 hP1 hD1 hS1 => kk H1 locs1 ls hP1 hD1 hS1 hl)
theorem gA_int (C : CG g p s m args meth c cc nL own) {tys : List (ClassId × FieldType)} {cA : ClassId} {k : Nat} (hK : va_K (gD g) vwCl tys s) (hk : tys[k]? = some (cA, .int)) : cA = gA g 0 := by
  have h1 := va_nm_int (hK.2 k _ hk).2
  have h2 := va_nm_int (C.2.2.2.2.2.1.2 0 (gA g 0, .int) rfl).2
  exact Option.some.inj (h1.symm.trans h2)
theorem gg_newi (C : CG g p s m args meth c cc nL own) (hF : ∀ q, s.heap.size ≤ q → F q) {n : Int32} {N : Nat} (hN : n = nI N) (hN31 : N ≤ 100) (hr : cells + 1 ≤ R.cells ∧ slots + N ≤ R.slots) (hd : decode cc pc = .ok (.newarray .int, 2)) (kk : ∀ q, GW g p l e R s m args below meth c nL (L ++ [cI g q N (fun _ => 0)]) F lv (cells + 1) (slots + N) Q (pc + 2) (.ref q :: st)) : GW g p l e R s m args below meth c nL L F lv cells slots Q pc (.int n :: st) := by
  intro H locs ls hP hD hS hl
  subst hN
  refine va_newa (atype := .int) C.1 C.2.1 (C.2.2.2.2.1 _ q_ac_int) (ty := .int) rfl C.2.2.2.2.2.1 hP hD hS hF (a0 := (N, .inl (fun _ => 0))) (N' := N) (fun cA => rfl) (nI_nn (by omega)) (nI_clamp (by omega)) (by show N * 4 ≤ _; omega) hr.1 hr.2 hd (fun q cA H1 hK1 hP1 hD1 hS1 => ?_)
  have e := gA_int C hK1 (k := 6) (cA := cA) rfl
  subst e
  exact kk q H1 locs ls hP1 hD1 hS1 hl
theorem gg_newA (C : CG g p s m args meth c cc nL own) (hF : ∀ q, s.heap.size ≤ q → F q) {n : Int32} {N idx : Nat} (hN : n = nI N) (hN31 : N ≤ 100) (hlink : Cond.classLink own idx "[I" ∈ TT) (hr : cells + 1 ≤ R.cells ∧ slots + N ≤ R.slots) (hd : decode cc pc = .ok (.anewarray idx, 3)) (kk : ∀ q, GW g p l e R s m args below meth c nL (L ++ [cR g q N (fun _ => none)]) F lv (cells + 1) (slots + N) Q (pc + 3) (.ref q :: st)) : GW g p l e R s m args below meth c nL L F lv cells slots Q pc (.int n :: st) := by
  intro H locs ls hP hD hS hl
  subst hN
  exact aa_new C.1 C.2.1 C.2.2.2.1 (C.2.2.2.2.1 _ hlink) C.2.2.2.2.2.2.2 (nmA (C.2.2.2.2.2.1.2 4 (gA g 4, .array .int) rfl).2) hP hD hS hF (nI_nn (by omega)) (nI_clamp (by omega)) (by omega) hr.1 hr.2 hd (fun q H1 hP1 hD1 hS1 => kk q H1 locs ls hP1 hD1 hS1 hl)
theorem gA_bool (C : CG g p s m args meth c cc nL own) {tys : List (ClassId × FieldType)} {cA : ClassId} {k : Nat} (hK : va_K (gD g) vwCl tys s) (hk : tys[k]? = some (cA, .boolean)) : cA = gA g 5 :=
  Option.some.inj ((show s.vm.findClass _ = some cA from (hK.2 k _ hk).2).symm.trans (C.2.2.2.2.2.1.2 5 (gA g 5, .boolean) rfl).2)
theorem gg_zast (C : CG g p s m args meth c cc nL own) (i : Nat) {a n j : Nat} {x v : Int32} {f : Nat → Int32} (he : L[i]? = some (cZ g a n f)) (hx : x = nI j) (hj : j < n) (hn31 : n < 2 ^ 31) (hv : vp_nar .boolean v = v) (hd : decode cc pc = .ok (.bastore, 1)) (kk : GW g p l e R s m args below meth c nL (L.set i (cZ g a n (upd f j v))) F lv cells slots Q (pc + 1) st) : GW g p l e R s m args below meth c nL L F lv cells slots Q pc (.int v :: .int x :: .ref a :: st) := by
  intro H locs ls hP hD hS hl
  subst hx
  have ej : (nI j).toNatClampNeg = j := nI_clamp (by omega)
  refine va_zast (D := gD g) C.1 C.2.1 C.2.2.2.2.2.1 hP hD hS i 5 he rfl (vp_in_nI hj hn31) hd (fun H1 locs1 hP1 hD1 hS1 => ?_)
  rw [ej, hv] at hP1 hD1
  exact kk H1 locs1 ls hP1 hD1 hS1 hl
theorem gg_newZ (C : CG g p s m args meth c cc nL own) (hF : ∀ q, s.heap.size ≤ q → F q) {n : Int32} {N : Nat} (hN : n = nI N) (hN31 : N ≤ 100) (hr : cells + 1 ≤ R.cells ∧ slots + N ≤ R.slots) (hd : decode cc pc = .ok (.newarray .boolean, 2)) (kk : ∀ q, GW g p l e R s m args below meth c nL (L ++ [cZ g q N (fun _ => 0)]) F lv (cells + 1) (slots + N) Q (pc + 2) (.ref q :: st)) : GW g p l e R s m args below meth c nL L F lv cells slots Q pc (.int n :: st) := by
  intro H locs ls hP hD hS hl
  subst hN
  refine va_newa (atype := .boolean) C.1 C.2.1 (C.2.2.2.2.1 _ q_ac_bool) (ty := .boolean) rfl C.2.2.2.2.2.1 hP hD hS hF (a0 := (N, .inl (fun _ => 0))) (N' := N) (fun cA => rfl) (nI_nn (by omega)) (nI_clamp (by omega)) (by show N * 1 ≤ _; omega) hr.1 hr.2 hd (fun q cA H1 hK1 hP1 hD1 hS1 => ?_)
  have e := gA_bool C hK1 (k := 6) (cA := cA) rfl
  subst e
  exact kk q H1 locs ls hP1 hD1 hS1 hl
end GGR
