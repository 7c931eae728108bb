/-! THE LAW'S WALK. At its start the heap ends at gB g; the world is made by it. -/
def CL (g : gW) (p : Program) (s : State) (m : MethodId) (args : Array Value) (meth : Method) (c : Code) (cc : ByteArray) (nL : Nat) (own : String) : Prop :=
  p.tables.exec = Jvm.exec ∧ c.code = cc ∧ c.maxLocals = nL ∧ s.vm.findClass own = some m.cls ∧ (∀ w ∈ TT, w.before args s = true) ∧ va_K (gD g) vwCl (gT g) s ∧ meth.locks = false ∧ s.heap.size = gB g
theorem CL.dr {g : gW} {p : Program} {s : State} {m : MethodId} {args : Array Value} {meth : Method} {c : Code} {cc : ByteArray} {nL : Nat} {own : String} (C : CL g p s m args meth c cc nL own) (d : Drawn) : CL g p (s.setDrawn d) m args meth c cc nL own :=
  ⟨C.1, C.2.1, C.2.2.1, C.2.2.2.1, dr_words C.2.2.2.2.1 d, va_K.moved (u := s) (U := s.setDrawn d) (Vm.Alike.refl s.vm) C.2.2.2.2.2.1, C.2.2.2.2.2.2.1, C.2.2.2.2.2.2.2⟩
section GLX
variable {g : gW} {p : Program} {l : Launch} {e : Env} {R : Room} {s : State} {m : MethodId} {args : Array Value} {below : List Frame} {meth : Method} {c : Code} {cc : ByteArray} {nL : Nat} {own : String} {X : va_W} {h : Hp} {lv : List (Nat × Value)} {cells slots : Nat} {Q : State → Prop} {pc : Nat} {st : List Value}
theorem lx_iconst (C : CL g p s m args meth c cc nL own) {n : Int} {v : Int32}  (hd : decode cc pc = .ok (.iconst n, 1)) (hv : Int32.ofInt n = v) (k : WW g p l e R s m args below meth c nL X h lv cells slots Q (pc + 1) (.int v :: st)) : WW g p l e R s m args below meth c nL X h lv cells slots Q pc st :=
  fun H locs ls hP hD hS hl => lv_iconst C.1 C.2.1 hd hv (k H locs ls hP hD hS hl)
theorem lx_bipush (C : CL g p s m args meth c cc nL own) {n : Int} {v : Int32}  (hd : decode cc pc = .ok (.bipush n, 2)) (hv : (Int8.ofInt n).toInt32 = v) (k : WW g p l e R s m args below meth c nL X h lv cells slots Q (pc + 2) (.int v :: st)) : WW g p l e R s m args below meth c nL X h lv cells slots Q pc st :=
  fun H locs ls hP hD hS hl => lv_bipush C.1 C.2.1 hd hv (k H locs ls hP hD hS hl)
theorem lx_lconst (C : CL g p s m args meth c cc nL own) {n : Fin 2} {v : Int64}  (hd : decode cc pc = .ok (.lconst n, 1)) (hv : Int64.ofNat (n : Nat) = v) (k : WW g p l e R s m args below meth c nL X h lv cells slots Q (pc + 1) (.long v :: st)) : WW g p l e R s m args below meth c nL X h lv cells slots Q pc st :=
  fun H locs ls hP hD hS hl => lv_lconst C.1 C.2.1 hd hv (k H locs ls hP hD hS hl)
theorem lx_iload_n (C : CL g p s m args meth c cc nL own) {k0 : Fin 4} {x : Int32}  (hd : decode cc pc = .ok (.iload_n k0, 1)) (i : Nat) (hi : (k0 : Nat) = i) (hv : lk lv i = some (.int x)) (k : WW g p l e R s m args below meth c nL X h lv cells slots Q (pc + 1) (.int x :: st)) : WW g p l e R s m args below meth c nL X h lv cells slots Q pc st :=
  fun H locs ls hP hD hS hl => lv_iload_n C.1 C.2.1 hd hi (lk_at hl hv) (k H locs ls hP hD hS hl)
theorem lx_iload (C : CL g p s m args meth c cc nL own) {i : Nat} {x : Int32}  (hd : decode cc pc = .ok (.iload i, 2)) (hv : lk lv i = some (.int x)) (k : WW g p l e R s m args below meth c nL X h lv cells slots Q (pc + 2) (.int x :: st)) : WW g p l e R s m args below meth c nL X h lv cells slots Q pc st :=
  fun H locs ls hP hD hS hl => lv_iload C.1 C.2.1 hd (lk_at hl hv) (k H locs ls hP hD hS hl)
theorem lx_aload_n (C : CL g p s m args meth c cc nL own) {k0 : Fin 4} {x : Nat}  (hd : decode cc pc = .ok (.aload_n k0, 1)) (i : Nat) (hi : (k0 : Nat) = i) (hv : lk lv i = some (.ref x)) (k : WW g p l e R s m args below meth c nL X h lv cells slots Q (pc + 1) (.ref x :: st)) : WW g p l e R s m args below meth c nL X h lv cells slots Q pc st :=
  fun H locs ls hP hD hS hl => lv_aload_n C.1 C.2.1 hd hi (lk_at hl hv) (k H locs ls hP hD hS hl)
theorem lx_aload (C : CL g p s m args meth c cc nL own) {i : Nat} {x : Nat}  (hd : decode cc pc = .ok (.aload i, 2)) (hv : lk lv i = some (.ref x)) (k : WW g p l e R s m args below meth c nL X h lv cells slots Q (pc + 2) (.ref x :: st)) : WW g p l e R s m args below meth c nL X h lv cells slots Q pc st :=
  fun H locs ls hP hD hS hl => lv_aload C.1 C.2.1 hd (lk_at hl hv) (k H locs ls hP hD hS hl)
theorem lx_iadd (C : CL g p s m args meth c cc nL own) {x y : Int32} (hd : decode cc pc = .ok (.iadd, 1))  (k : WW g p l e R s m args below meth c nL X h lv cells slots Q (pc + 1) (.int (x + y) :: st)) : WW g p l e R s m args below meth c nL X h lv cells slots Q pc (.int y :: .int x :: st) :=
  fun H locs ls hP hD hS hl => lv_iadd C.1 C.2.1 hd (k H locs ls hP hD hS hl)
theorem lx_isub (C : CL g p s m args meth c cc nL own) {x y : Int32} (hd : decode cc pc = .ok (.isub, 1))  (k : WW g p l e R s m args below meth c nL X h lv cells slots Q (pc + 1) (.int (x - y) :: st)) : WW g p l e R s m args below meth c nL X h lv cells slots Q pc (.int y :: .int x :: st) :=
  fun H locs ls hP hD hS hl => lv_isub C.1 C.2.1 hd (k H locs ls hP hD hS hl)
theorem lx_iand (C : CL g p s m args meth c cc nL own) {x y : Int32} (hd : decode cc pc = .ok (.iand, 1))  (k : WW g p l e R s m args below meth c nL X h lv cells slots Q (pc + 1) (.int (x &&& y) :: st)) : WW g p l e R s m args below meth c nL X h lv cells slots Q pc (.int y :: .int x :: st) :=
  fun H locs ls hP hD hS hl => lv_iand C.1 C.2.1 hd (k H locs ls hP hD hS hl)
theorem lx_i2l (C : CL g p s m args meth c cc nL own) {x : Int32} (hd : decode cc pc = .ok (.i2l, 1))  (k : WW g p l e R s m args below meth c nL X h lv cells slots Q (pc + 1) (.long x.toInt64 :: st)) : WW g p l e R s m args below meth c nL X h lv cells slots Q pc (.int x :: st) :=
  fun H locs ls hP hD hS hl => lv_i2l C.1 C.2.1 hd rfl (k H locs ls hP hD hS hl)
theorem lx_istore (C : CL g p s m args meth c cc nL own) {i : Nat} {x : Int32} (hd : decode cc pc = .ok (.istore i, 2))  (hn : i < nL) (k : WW g p l e R s m args below meth c nL X h ((i, .int x) :: rm lv i) cells slots Q (pc + 2) st) : WW g p l e R s m args below meth c nL X h lv cells slots Q pc (.int x :: st) := by
  intro H locs ls hP hD hS hl
  exact lv_istore C.1 C.2.1 hd hl hn rfl (fun ls2 h2 => k H locs ls2 hP hD hS (rm_has h2))
theorem lx_istore_n (C : CL g p s m args meth c cc nL own) {k0 : Fin 4} {x : Int32}  (hd : decode cc pc = .ok (.istore_n k0, 1)) (i : Nat) (hi : (k0 : Nat) = i) (hn : i < nL) (k : WW g p l e R s m args below meth c nL X h ((i, .int x) :: rm lv i) cells slots Q (pc + 1) st) : WW g p l e R s m args below meth c nL X h lv cells slots Q pc (.int x :: st) := by
  intro H locs ls hP hD hS hl
  exact lv_istore_n C.1 C.2.1 hd hi hl hn rfl (fun ls2 h2 => k H locs ls2 hP hD hS (rm_has h2))
theorem lx_astore_n (C : CL g p s m args meth c cc nL own) {k0 : Fin 4} {x : Nat}  (hd : decode cc pc = .ok (.astore_n k0, 1)) (i : Nat) (hi : (k0 : Nat) = i) (hn : i < nL) (k : WW g p l e R s m args below meth c nL X h ((i, .ref x) :: rm lv i) cells slots Q (pc + 1) st) : WW g p l e R s m args below meth c nL X h lv cells slots Q pc (.ref x :: st) := by
  intro H locs ls hP hD hS hl
  exact lv_astore_n C.1 C.2.1 hd hi hl hn rfl (fun ls2 h2 => k H locs ls2 hP hD hS (rm_has h2))
theorem lx_iinc (C : CL g p s m args meth c cc nL own) {i : Nat} {n : Int} {x v : Int32} (hd : decode cc pc = .ok (.iinc i n, 3)) (hv : lk lv i = some (.int x)) (he : x + Int32.ofInt n = v) (hn : i < nL) (k : WW g p l e R s m args below meth c nL X h ((i, .int v) :: rm lv i) cells slots Q (pc + 3) st) : WW g p l e R s m args below meth c nL X h lv cells slots Q pc st := by
  intro H locs ls hP hD hS hl
  obtain ⟨k0, hk0⟩ := List.getElem?_of_mem (lk_mem hv)
  exact lv_iinc C.1 C.2.1 hd hl hk0 he hn rfl (fun ls2 h2 => k H locs ls2 hP hD hS (rm_has h2))
theorem lx_icmp_gt (C : CL g p s m args meth c cc nL own) {x y : Int32} {off : Int} (hd : decode cc pc = .ok (.if_icmp .gt off, 3)) (tgt : Nat) (ht : (pc : Int) + off = (tgt : Int)) (kt : y < x → WW g p l e R s m args below meth c nL X h lv cells slots Q tgt st) (kf : ¬ y < x → WW g p l e R s m args below meth c nL X h lv cells slots Q (pc + 3) st) : WW g p l e R s m args below meth c nL X h lv cells slots Q pc (.int y :: .int x :: st) :=
  fun H locs ls hP hD hS hl => lv_icmp_gt C.1 C.2.1 hd ht (fun q => kt q H locs ls hP hD hS hl) (fun q => kf q H locs ls hP hD hS hl)
theorem lx_icmp_eq (C : CL g p s m args meth c cc nL own) {x y : Int32} {off : Int} (hd : decode cc pc = .ok (.if_icmp .eq off, 3)) (tgt : Nat) (ht : (pc : Int) + off = (tgt : Int)) (kt : x = y → WW g p l e R s m args below meth c nL X h lv cells slots Q tgt st) (kf : ¬ x = y → WW g p l e R s m args below meth c nL X h lv cells slots Q (pc + 3) st) : WW g p l e R s m args below meth c nL X h lv cells slots Q pc (.int y :: .int x :: st) :=
  fun H locs ls hP hD hS hl => lv_icmp_eq C.1 C.2.1 hd ht (fun q => kt q H locs ls hP hD hS hl) (fun q => kf q H locs ls hP hD hS hl)
theorem lx_if_eq (C : CL g p s m args meth c cc nL own) {x : Int32} {off : Int} (hd : decode cc pc = .ok (.ifCond .eq off, 3)) (tgt : Nat) (ht : (pc : Int) + off = (tgt : Int)) (kt : x = 0 → WW g p l e R s m args below meth c nL X h lv cells slots Q tgt st) (kf : ¬ x = 0 → WW g p l e R s m args below meth c nL X h lv cells slots Q (pc + 3) st) : WW g p l e R s m args below meth c nL X h lv cells slots Q pc (.int x :: st) :=
  fun H locs ls hP hD hS hl => lv_if_eq C.1 C.2.1 hd ht (fun q => kt q H locs ls hP hD hS hl) (fun q => kf q H locs ls hP hD hS hl)
theorem lx_if_ne (C : CL g p s m args meth c cc nL own) {x : Int32} {off : Int} (hd : decode cc pc = .ok (.ifCond .ne off, 3)) (tgt : Nat) (ht : (pc : Int) + off = (tgt : Int)) (kt : ¬ x = 0 → WW g p l e R s m args below meth c nL X h lv cells slots Q tgt st) (kf : x = 0 → WW g p l e R s m args below meth c nL X h lv cells slots Q (pc + 3) st) : WW g p l e R s m args below meth c nL X h lv cells slots Q pc (.int x :: st) :=
  fun H locs ls hP hD hS hl => lv_if_ne C.1 C.2.1 hd ht (fun q => kt q H locs ls hP hD hS hl) (fun q => kf q H locs ls hP hD hS hl)
theorem lx_goto (C : CL g p s m args meth c cc nL own) {off : Int} (hd : decode cc pc = .ok (.goto off, 3)) (tgt : Nat) (ht : (pc : Int) + off = (tgt : Int)) (k : WW g p l e R s m args below meth c nL X h lv cells slots Q tgt st) : WW g p l e R s m args below meth c nL X h lv cells slots Q pc st :=
  fun H locs ls hP hD hS hl => lv_goto C.1 C.2.1 hd ht (k H locs ls hP hD hS hl)
theorem lx_dup (C : CL g p s m args meth c cc nL own) {va : Value}  (hd : decode cc pc = .ok (.dup, 1)) (hva : va.category = 1) (k : WW g p l e R s m args below meth c nL X h lv cells slots Q (pc + 1) (va :: va :: st)) : WW g p l e R s m args below meth c nL X h lv cells slots Q pc (va :: st) :=
  fun H locs ls hP hD hS hl => lv_dup C.1 C.2.1 hd hva (k H locs ls hP hD hS hl)
theorem lx_end {H : Heap} (hP : va_P (gD g) vwCl (wl g X h) H) : gB g + 71 ≤ H.size := by
  have := (hP 70 _ (wl_get (by omega))).lt
  show gB g + 70 + 1 ≤ H.size
  exact this
/-- a number of the script -/
theorem lx_sld (C : CL g p s m args meth c cc nL own) {b L : Nat} {xs : Nat → Int32} (hX : va_X b L xs s s.heap) (hbl : b < s.heap.size) {i : Int32} {j : Nat} (hi : i = nI j) (hj : j < L) (hL : L < 2 ^ 31) (hd : decode cc pc = .ok (.iaload, 1)) (k : WW g p l e R s m args below meth c nL X h lv cells slots Q (pc + 1) (.int (xs j) :: st)) : WW g p l e R s m args below meth c nL X h lv cells slots Q pc (.int i :: .ref b :: st) := by
  intro H locs ls hP hD hS hl
  subst hi
  refine va_sld C.1 C.2.1 hX hbl (fun z => ?_) hS (fun z => z.elim (fun z => absurd z (nI_pos (by omega))) (fun z => by rw [nI_clamp (by omega)] at z; omega)) hd ?_
  · have h8 := C.2.2.2.2.2.2.2
    rcases z with z | z <;> omega
  · rw [nI_clamp (by omega)]
    exact k H locs ls hP hD hS hl
theorem lx_slen (C : CL g p s m args meth c cc nL own) {b L : Nat} {xs : Nat → Int32} (hX : va_X b L xs s s.heap) (hbl : b < s.heap.size) (hd : decode cc pc = .ok (.arraylength, 1)) (k : WW g p l e R s m args below meth c nL X h lv cells slots Q (pc + 1) (.int (nI L) :: st)) : WW g p l e R s m args below meth c nL X h lv cells slots Q pc (.ref b :: st) := by
  intro H locs ls hP hD hS hl
  refine va_slen C.1 C.2.1 hX hbl (fun z => ?_) hS hd (k H locs ls hP hD hS hl)
  have h8 := C.2.2.2.2.2.2.2
  rcases z with z | z <;> omega
theorem lx_lcmp (C : CL g p s m args meth c cc nL own) {x y : Int64} (hd : decode cc pc = .ok (.lcmp, 1)) (k : WW g p l e R s m args below meth c nL X h lv cells slots Q (pc + 1) (.int (lg_cmp x y) :: st)) : WW g p l e R s m args below meth c nL X h lv cells slots Q pc (.long y :: .long x :: st) :=
  fun H locs ls hP hD hS hl => W.lcmp C.1 C.2.1 hd (k H locs ls hP hD hS hl)
theorem lx_dcmp (C : CL g p s m args meth c cc nL own) {x y : UInt64} {op : CmpOp} (hd : decode cc pc = .ok (.dcmp op, 1)) (k : WW g p l e R s m args below meth c nL X h lv cells slots Q (pc + 1) (.int (Op.cmpValue (FP.dcmp x y) op) :: st)) : WW g p l e R s m args below meth c nL X h lv cells slots Q pc (.double y :: .double x :: st) :=
  fun H locs ls hP hD hS hl => lv_dcmp C.1 C.2.1 hd (k H locs ls hP hD hS hl)
theorem lx_dload (C : CL g p s m args meth c cc nL own) {i : Nat} {x : UInt64} (hd : decode cc pc = .ok (.dload i, 2)) (hv : lk lv i = some (.double x)) (k : WW g p l e R s m args below meth c nL X h lv cells slots Q (pc + 2) (.double x :: st)) : WW g p l e R s m args below meth c nL X h lv cells slots Q pc st :=
  fun H locs ls hP hD hS hl => lv_dload C.1 C.2.1 hd (lk_at hl hv) (k H locs ls hP hD hS hl)
theorem lx_dstore (C : CL g p s m args meth c cc nL own) {i : Nat} {x : UInt64} (hd : decode cc pc = .ok (.dstore i, 2)) (hn : i + 1 < nL) {lv2 : List (Nat × Value)} (hl2 : (i, Value.double x) :: lv.filter (fun q => !(q.1 == i) && (!(q.1 == i + 1) && !(q.1 + 1 == i && q.2.category == 2))) = lv2) (k : WW g p l e R s m args below meth c nL X h lv2 cells slots Q (pc + 2) st) : WW g p l e R s m args below meth c nL X h lv cells slots Q pc (.double x :: st) :=
  fun H locs ls hP hD hS hl => lv_dstore C.1 C.2.1 hd hl hn hl2 (fun ls2 h2 => k H locs ls2 hP hD hS h2)
theorem lx_lald (C : CL g p s m args meth c cc nL own) {i : Int32} (hi : i = 0) (hd : decode cc pc = .ok (.laload, 1)) (k : WW g p l e R s m args below meth c nL X h lv cells slots Q (pc + 1) (.long (h 70 0).toInt64 :: st)) : WW g p l e R s m args below meth c nL X h lv cells slots Q pc (.int i :: .ref (gB g + 70) :: st) := by
  intro H locs ls hP hD hS hl
  subst hi
  exact va_lald (D := gD g) C.1 C.2.1 C.2.2.2.2.2.1 hP 70 4 (n := 1) (f := fun _ => (h 70 0).toInt64) (by rw [wl_get (by omega)]; rfl) rfl (fun z => by revert z; decide) hd (k H locs ls hP hD hS hl)
theorem lx_sw (C : CL g p s m args meth c cc nL own) {dflt lo hi : Int} {offs : Array Int} {len : Nat} {x : Int32} {off : Int} {tgt : Nat} (hd : decode cc pc = .ok (.tableswitch dflt lo hi offs, len)) (h1 : ¬ x.toInt < lo) (h2 : ¬ hi < x.toInt) (ho : offs[(x.toInt - lo).toNat]? = some off) (ht : (pc : Int) + off = (tgt : Int)) (k : WW g p l e R s m args below meth c nL X h lv cells slots Q tgt st) : WW g p l e R s m args below meth c nL X h lv cells slots Q pc (.int x :: st) :=
  fun H locs ls hP hD hS hl => lv_tableIn C.1 C.2.1 hd h1 h2 ho ht (k H locs ls hP hD hS hl)
theorem lx_swD (C : CL g p s m args meth c cc nL own) {dflt lo hi : Int} {offs : Array Int} {len : Nat} {x : Int32} {tgt : Nat} (hd : decode cc pc = .ok (.tableswitch dflt lo hi offs, len)) (hh : x.toInt < lo ∨ hi < x.toInt) (ht : (pc : Int) + dflt = (tgt : Int)) (k : WW g p l e R s m args below meth c nL X h lv cells slots Q tgt st) : WW g p l e R s m args below meth c nL X h lv cells slots Q pc (.int x :: st) :=
  fun H locs ls hP hD hS hl => lv_tableOut C.1 C.2.1 hd hh ht (k H locs ls hP hD hS hl)
/-- behind a call -/
theorem lx_after {mc ms : Nat} {v : Option Value} {h2 : Hp} {rest st0 : List Value} {a : Array Value} {H : Heap} {locs : List Loc} {ls : Array Slot} (hP : va_P (gD g) vwCl (wl g X h) H) (hD : va_D (AA g s.heap.size) (wl g X h)) (hS : va_S (AA g s.heap.size) s.heap H locs) (hl : lv_has ls nL lv)
    (hr : va_Run p l e R s m args below meth c H locs cells slots mc ms (F0 m pc ls st0) rest (QW g H.size v h2 a) (AA g H.size))
    (kk : WW g p l e R s m args below meth c nL X h2 lv (cells + mc) (slots + ms) Q (pc + 3) (v.toList ++ rest)) : W p l e R s m args below meth c H locs cells slots Q (F0 m pc ls st0) := by
  intro T hT X0
  obtain ⟨v9, st₀, t, T', L, h0, X', hL, e1, e2, ⟨hv, hp, hz, hk⟩, st9⟩ := hr T hT X0
  cases hv
  rw [h0] at hz hk
  have hA : ∀ q, AA g H.size q → AA g s.heap.size q := fun q hq => AA_mono hS.1 hq
  obtain ⟨t2, a1, b1⟩ := kk T'.heap (locs ++ L) ls (by rw [e1]; exact wl_join hP hD hp hk) (wl_D h2 hD)
    ⟨Nat.le_trans hS.1 (by rw [e1]; exact hz), fun q h1 h2 => by rw [e1, hk q (Nat.lt_of_lt_of_le h1 hS.1) (fun z => h2 (hA q z))]; exact hS.2.1 q h1 h2, fun q hq => by
      rcases List.mem_append.mp hq with h3 | h3
      · exact hS.2.2 q h3
      · exact hA _ (hL q h3)⟩ hl T' rfl X'
  exact ⟨t2, st9 t2 a1, b1⟩
theorem lx_PW {As : List Value} (C : CL g p s m args meth c cc nL own) {H : Heap} (hP : va_P (gD g) vwCl (wl g X h) H) : ∀ U : State, U.heap = H → s.WarmedH U.vm → va_Pc As (PW g h H.size) As.toArray U := by
  intro U hU hW
  exact ⟨rfl, by rw [hU], lx_end hP, by rw [hU]; exact wl_sub hP, va_K.moved hW.alike C.2.2.2.2.2.1⟩
theorem lx_recv (C : CL g p s m args meth c cc nL own) {H : Heap} (hP : va_P (gD g) vwCl (wl g X h) H) {o ci : Nat} (ho : o < 71) {q : vw_C} (hq : vwCl[ci]? = some q) (hce : ∃ fs, ce g (h o) o = .inr (ci, fs)) : ∃ cellB : Cell, H[gB g + o]? = some cellB ∧ cellB.vm.isStatics = false ∧ s.vm.findClass q.1 = some cellB.cls := by
  obtain ⟨fs, hce⟩ := hce
  exact va_recv C.2.2.2.2.2.1 hP hq (show (wl g X h)[o]? = some (gB g + o, .inr (ci, fs)) by rw [wl_get ho, hce])
/-- a call of an object's method, by its contract -/
theorem lx_callV (C : CL g p s m args meth c cc nL own) {y : MethodName} {cY : ByteArray} {nLY k mc ms o n idx ci : Nat} {rt : Option FieldType} {As rest : List Value} {v : Option Value} {h2 : Hp} (hF : MFv y cY nLY rt n) (hM : CT g l y cY nLY rt k mc ms (.ref (gB g + o) :: As) h v h2) (hlink : Cond.methodLink own idx y ∈ TT)
    (ho : o < 71) {q : vw_C} (hq : vwCl[ci]? = some q) (hqc : q.1 = y.cls) (hce : ∃ fs, ce g (h o) o = .inr (ci, fs)) (hAs : As.length = n) (hst : st = As.reverse ++ .ref (gB g + o) :: rest) (hcat : (rest.map fun v => v.category).sum ≤ 8) (hk : k + 1 ≤ R.frames ∧ 8 + (nLY + 11) + 28 * k ≤ R.locals) (hr : cells + mc ≤ R.cells ∧ slots + ms ≤ R.slots) (hd : decode cc pc = .ok (.invokevirtual idx, 3))
    (kk : WW g p l e R s m args below meth c nL X h2 lv (cells + mc) (slots + ms) Q (pc + 3) (v.toList ++ rest)) : WW g p l e R s m args below meth c nL X h lv cells slots Q pc st := by
  intro H locs ls hP hD hS hl
  have ht := C.2.2.2.2.1
  obtain ⟨⟨f1, f2, ⟨f3, f4, f5⟩, -⟩, f6, f7⟩ := hF
  have hcell := lx_recv C hP ho hq hce
  rw [hqc] at hcell
  exact lx_after hP hD hS hl (va_runV (Ts := TT) (own := own) (C := y.cls) (As := As) (rest := rest) ⟨C.1, C.2.1, C.2.2.1, C.2.2.2.1, ht⟩ (hM H.size) ⟨callB_of n ht (ws_good (own := own) (idx := idx) f1) rfl rfl rfl (ht _ f2) (ht _ hlink) ⟨f3, f4, f5⟩ hk, ht _ f6, ht _ f7⟩ ⟨PW_blind g _ h _, hcell, lx_PW (As := .ref (gB g + o) :: As) C hP⟩ rfl hAs hl.1 hst (lv_room hcat) hd hr) kk
/-- the same, of a contract that needs the rows of rows -/
theorem lx_callK (C : CL g p s m args meth c cc nL own) (hX : KX s) {y : MethodName} {cY : ByteArray} {nLY k mc ms o n idx ci : Nat} {rt : Option FieldType} {As rest : List Value} {v : Option Value} {h2 : Hp} (hF : MFv y cY nLY rt n) (hM : CTK g l y cY nLY rt k mc ms (.ref (gB g + o) :: As) h v h2) (hlink : Cond.methodLink own idx y ∈ TT)
    (ho : o < 71) {q : vw_C} (hq : vwCl[ci]? = some q) (hqc : q.1 = y.cls) (hce : ∃ fs, ce g (h o) o = .inr (ci, fs)) (hAs : As.length = n) (hst : st = As.reverse ++ .ref (gB g + o) :: rest) (hcat : (rest.map fun v => v.category).sum ≤ 8) (hk : k + 1 ≤ R.frames ∧ 8 + (nLY + 11) + 28 * k ≤ R.locals) (hr : cells + mc ≤ R.cells ∧ slots + ms ≤ R.slots) (hd : decode cc pc = .ok (.invokevirtual idx, 3))
    (kk : WW g p l e R s m args below meth c nL X h2 lv (cells + mc) (slots + ms) Q (pc + 3) (v.toList ++ rest)) : WW g p l e R s m args below meth c nL X h lv cells slots Q pc st := by
  intro H locs ls hP hD hS hl
  have ht := C.2.2.2.2.1
  obtain ⟨⟨f1, f2, ⟨f3, f4, f5⟩, -⟩, f6, f7⟩ := hF
  have hcell := lx_recv C hP ho hq hce
  rw [hqc] at hcell
  exact lx_after hP hD hS hl (va_runV (Ts := TT) (own := own) (C := y.cls) (As := As) (rest := rest) ⟨C.1, C.2.1, C.2.2.1, C.2.2.2.1, ht⟩ (hM H.size) ⟨callB_of n ht (ws_good (own := own) (idx := idx) f1) rfl rfl rfl (ht _ f2) (ht _ hlink) ⟨f3, f4, f5⟩ hk, ht _ f6, ht _ f7⟩ ⟨PWK_blind g _ h _, hcell, fun U hU hW => by have h1 := lx_PW (As := .ref (gB g + o) :: As) C hP U hU hW; exact ⟨h1.1, h1.2, hX.moved hW⟩⟩ rfl hAs hl.1 hst (lv_room hcat) hd hr) kk
/-- a wrapper -/
theorem lx_callW (C : CL g p s m args meth c cc nL own) (hE : EXs g s) (hN : NCs s) {y : MethodName} {cY : ByteArray} {nLY k n idx : Nat} {hh : List (Nat × Nat × Nat × Nat)} {As rest : List Value} {v : Int32} {h2 : Hp} (hcode : Cond.codeWith y cY nLY (some .int) hh ∈ TT) (hini : Cond.initialized y.cls ∈ TT) (hstt : Cond.static y ∈ TT) (hyn : y.cls ≠ "java/lang/invoke/MethodHandle" ∧ y.cls ≠ "java/lang/invoke/VarHandle" ∧ (parseMethodDescriptor y.desc).map (fun d => d.parameters.length) = some n) (hM : LT g l y cY nLY hh k As h v h2) (hlink : Cond.methodLink own idx y ∈ TT)
    (hAs : As.length = n) (hst : st = As.reverse ++ rest) (hcat : (rest.map fun v => v.category).sum ≤ 8) (hk : k + 1 ≤ R.frames ∧ 8 + (nLY + 11) + 28 * k ≤ R.locals) (hr : cells + 1 ≤ R.cells ∧ slots + 6 ≤ R.slots) (hd : decode cc pc = .ok (.invokestatic idx, 3))
    (kk : WW g p l e R s m args below meth c nL X h2 lv (cells + 1) (slots + 6) Q (pc + 3) (.int v :: rest)) : WW g p l e R s m args below meth c nL X h lv cells slots Q pc st := by
  intro H locs ls hP hD hS hl
  have ht := C.2.2.2.2.1
  have hgood : GoodIn TT (wsW y cY nLY hh) := by
    intro w hw
    rcases List.mem_cons.mp hw with h | h
    · subst h; exact ⟨hcode, tt_good hcode⟩
    · exact ⟨h, tt_good h⟩
  have h8 := C.2.2.2.2.2.2.2
  refine lx_after hP hD hS hl ((vx_runSW (Ts := TT) (own := own) (hh := hh) (As := As) (rest := rest) ⟨C.1, C.2.1, C.2.2.1, C.2.2.2.1, ht⟩ (hM H.size) ⟨⟨rfl, rfl, hk.1, hk.2, pay_in ht hgood, List.mem_cons_self⟩, ht _ hcode, ht _ hini, ⟨hyn.1, hyn.2.1⟩, fun sig hsig => ?_, ht _ hlink, ht _ hstt⟩ ⟨PL_blind g _ h _, fun U hU hW => ?_⟩ rfl hAs hl.1 hst (lv_room hcat) hd hr)) kk
  · have h2 := hyn.2.2
    rw [hsig] at h2
    exact (Option.some.inj h2).symm
  · have h1 := lx_PW (As := As) C hP U hU hW
    refine ⟨h1.1, ⟨h1.2, hE.warm hW (fun a h2 h3 => ?_)⟩, hN.moved hW⟩
    rw [hU]
    refine hS.2.1 a h2 (fun z => h3 ?_)
    show gB g ≤ a
    rcases z with z | z <;> omega
end GLX
