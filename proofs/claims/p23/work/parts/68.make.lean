/-! THE WORLD IS MADE: cells one behind another from gB g on. vl g N c: the first N of them, with c's contents. -/
def vl (g : gW) (N : Nat) (c : Nat → va_E) : va_W := (List.range N).map (fun o => (gB g + o, c o))
theorem vl_get {g : gW} {N o : Nat} {c : Nat → va_E} (ho : o < N) : (vl g N c)[o]? = some (gB g + o, c o) := by
  unfold vl
  simp [ho]
theorem vl_len {g : gW} {N : Nat} {c : Nat → va_E} : (vl g N c).length = N := by simp [vl]
def cu (c : Nat → va_E) (o : Nat) (e : va_E) : Nat → va_E := fun a => if a = o then e else c a
theorem cu_eq {c : Nat → va_E} {o : Nat} {e : va_E} : cu c o e o = e := if_pos rfl
theorem cu_ne {c : Nat → va_E} {o a : Nat} {e : va_E} (h : a ≠ o) : cu c o e a = c a := if_neg h
theorem vl_set {g : gW} {N o : Nat} {c : Nat → va_E} {e : va_E} (ho : o < N) : (vl g N c).set o (gB g + o, e) = vl g N (cu c o e) := by
  unfold vl
  apply List.ext_getElem?
  intro j
  by_cases hj : j = o
  · subst hj
    rw [List.getElem?_set_self (by simp; omega)]
    simp [ho, cu]
  · rw [List.getElem?_set_ne (Ne.symm hj)]
    by_cases hl : j < N
    · simp [hl, cu, hj]
    · simp [hl]
theorem vl_push {g : gW} {N : Nat} {c : Nat → va_E} {e : va_E} : vl g N c ++ [(gB g + N, e)] = vl g (N + 1) (cu c N e) := by
  unfold vl
  rw [List.range_succ, List.map_append]
  congr 1
  · apply List.map_congr_left
    intro a ha
    have := List.mem_range.mp ha
    rw [cu_ne (by omega)]
  · simp [cu]
theorem vl_congr {g : gW} {N : Nat} {c c2 : Nat → va_E} (h : ∀ o, o < N → c o = c2 o) : vl g N c = vl g N c2 := by
  unfold vl
  apply List.map_congr_left
  intro a ha
  rw [h a (List.mem_range.mp ha)]
theorem vl_D {g : gW} {N : Nat} {c : Nat → va_E} : va_D (AG g) (vl g N c) := by
  have key : ∀ (k : Nat) (q : Nat × va_E), (vl g N c)[k]? = some q → k < N ∧ q.1 = gB g + k := by
    intro k q hq
    have hl : k < N := by
      have := (List.getElem?_eq_some_iff.mp hq).1
      rw [vl_len] at this
      exact this
    rw [vl_get hl] at hq
    cases hq
    exact ⟨hl, rfl⟩
  refine ⟨fun i j x y hx hy hxy => ?_, fun k q hk => ?_⟩
  · have := key i x hx
    have := key j y hy
    omega
  · have := key k q hk
    show gB g ≤ q.1
    omega
/-- what constructors need of the state beside the tables' words -/
def KC (U : State) : Prop := (va_Nw (.methodLinkNest RX0 21 yX3_init "DewPond") U ∧ va_Nw (.methodLinkNest RX0 32 yX2_init "DewPond") U ∧ va_Nw (.methodLinkNest RX0 45 yX1_init "DewPond") U) ∧ va_AO RX3 U ∧ va_AO RX2 U ∧ va_AO RX1 U
theorem KC.moved {u U : State} (hW : u.WarmedH U.vm) (h : KC u) : KC U := ⟨⟨va_Nw.warmM hW h.1.1, va_Nw.warmM hW h.1.2.1, va_Nw.warmM hW h.1.2.2⟩, va_AO.moved hW.alike h.2.1, va_AO.moved hW.alike h.2.2.1, va_AO.moved hW.alike h.2.2.2⟩
/-- a walk's surroundings while the world is made; N0 cells stood at the method's start -/
def CV (g : gW) (p : Program) (s : State) (m : MethodId) (args : Array Value) (meth : Method) (c : Code) (cc : ByteArray) (nL : Nat) (own : String) (N0 : Nat) : Prop :=
  p.tables.exec = Jvm.exec ∧ c.code = cc ∧ c.maxLocals = nL ∧ s.vm.findClass own = some m.cls ∧ (∀ w ∈ TT, w.before args s = true) ∧ va_K (gD g) vwCl (gT g) s ∧ meth.locks = false ∧ s.heap.size = gB g + N0 ∧ KC s
def VW (g : gW) (p : Program) (l : Launch) (e : Env) (R : Room) (s : State) (m : MethodId) (args : Array Value) (below : List Frame) (meth : Method) (c : Code) (nL N : Nat) (cp : Nat → va_E) (lv : List (Nat × Value)) (cells slots : Nat) (Q : State → Prop) (pc : Nat) (st : List Value) : Prop :=
  ∀ (H : Heap) (locs : List Loc) (ls : Array Slot), va_P (gD g) vwCl (vl g N cp) H → va_S (AG g) s.heap H locs → lv_has ls nL lv → W p l e R s m args below meth c H locs cells slots Q (F0 m pc ls st)
theorem va_RA_in {s : State} {g : gW} {k : Nat} {cA : ClassId} {ty : FieldType} (hK : va_K (gD g) vwCl (gT g) s) (hk : (gT g)[k]? = some (cA, ty)) : va_RA s cA ty := (hK.2 k _ hk).2
theorem va_RA_obj {s : State} {c1 c2 : ClassId} {C : String} (h1 : va_RA s c1 (.object C)) (h2 : va_RA s c2 (.object C)) : c1 = c2 := by
  obtain ⟨_, _, _, _, _, a⟩ := h1
  obtain ⟨_, _, _, _, _, b⟩ := h2
  exact Option.some.inj (a.symm.trans b)
theorem va_RA_int {s : State} {c1 c2 : ClassId} (h1 : va_RA s c1 .int) (h2 : va_RA s c2 .int) : c1 = c2 := Option.some.inj ((show s.vm.findClass _ = some c1 from h1).symm.trans h2)
section GVW
variable {g : gW} {p : Program} {l : Launch} {e : Env} {R : Room} {s : State} {m : MethodId} {args : Array Value} {below : List Frame} {meth : Method} {c : Code} {cc : ByteArray} {nL N0 N : Nat} {own : String} {cp : Nat → va_E} {lv : List (Nat × Value)} {cells slots : Nat} {Q : State → Prop} {pc : Nat} {st : List Value}
/-- how many cells there are, as the machine counts them -/
theorem vv_size {H : Heap} {locs : List Loc} {gg : JFrame} (k : H.size ≤ s.heap.size + cells → W p l e R s m args below meth c H locs cells slots Q gg) : W p l e R s m args below meth c H locs cells slots Q gg :=
  fun T hT X => k (by rw [← hT]; exact X.heapSize) T hT X
theorem vl_lt {H : Heap} {o : Nat} (hP : va_P (gD g) vwCl (vl g N cp) H) (ho : o < N) : gB g + o < H.size := (hP o _ (vl_get ho)).lt
/-- the new cell lies behind the others -/
theorem vl_new {H1 : Heap} {q : Nat} {x : va_E} (hP : va_P (gD g) vwCl (vl g N cp ++ [(q, x)]) H1) (hD : va_D (AG g) (vl g N cp ++ [(q, x)])) (hz : H1.size ≤ gB g + (N + 1)) : q = gB g + N := by
  have hq : (vl g N cp ++ [(q, x)])[N]? = some (q, x) := by
    rw [List.getElem?_append_right (by rw [vl_len]; exact Nat.le_refl _), vl_len, Nat.sub_self]
    rfl
  have h1 := (hP N _ hq).lt
  have h2 : gB g ≤ q := hD.2 N _ hq
  have h1 : q < H1.size := h1
  rcases Nat.lt_or_ge q (gB g + N) with h | h
  · have hk : q - gB g < N := by omega
    have e1 : (vl g N cp ++ [(q, x)])[q - gB g]? = some (gB g + (q - gB g), cp (q - gB g)) := by
      rw [List.getElem?_append_left (by rw [vl_len]; exact hk)]
      exact vl_get hk
    have := hD.1 _ _ _ _ e1 hq (by show gB g + (q - gB g) = q; omega)
    omega
  · omega
theorem vv_iconst (C : CV g p s m args meth c cc nL own N0) {n : Int} {v : Int32}  (hd : decode cc pc = .ok (.iconst n, 1)) (hv : Int32.ofInt n = v) (k : VW g p l e R s m args below meth c nL N cp lv cells slots Q (pc + 1) (.int v :: st)) : VW g p l e R s m args below meth c nL N cp lv cells slots Q pc st :=
  fun H locs ls hP hS hl => lv_iconst C.1 C.2.1 hd hv (k H locs ls hP hS hl)
theorem vv_bipush (C : CV g p s m args meth c cc nL own N0) {n : Int} {v : Int32}  (hd : decode cc pc = .ok (.bipush n, 2)) (hv : (Int8.ofInt n).toInt32 = v) (k : VW g p l e R s m args below meth c nL N cp lv cells slots Q (pc + 2) (.int v :: st)) : VW g p l e R s m args below meth c nL N cp lv cells slots Q pc st :=
  fun H locs ls hP hS hl => lv_bipush C.1 C.2.1 hd hv (k H locs ls hP hS hl)
theorem vv_iload_n (C : CV g p s m args meth c cc nL own N0) {k0 : Fin 4} {x : Int32}  (hd : decode cc pc = .ok (.iload_n k0, 1)) (i : Nat) (hi : (k0 : Nat) = i) (hv : lk lv i = some (.int x)) (k : VW g p l e R s m args below meth c nL N cp lv cells slots Q (pc + 1) (.int x :: st)) : VW g p l e R s m args below meth c nL N cp lv cells slots Q pc st :=
  fun H locs ls hP hS hl => lv_iload_n C.1 C.2.1 hd hi (lk_at hl hv) (k H locs ls hP hS hl)
theorem vv_aload_n (C : CV g p s m args meth c cc nL own N0) {k0 : Fin 4} {x : Nat}  (hd : decode cc pc = .ok (.aload_n k0, 1)) (i : Nat) (hi : (k0 : Nat) = i) (hv : lk lv i = some (.ref x)) (k : VW g p l e R s m args below meth c nL N cp lv cells slots Q (pc + 1) (.ref x :: st)) : VW g p l e R s m args below meth c nL N cp lv cells slots Q pc st :=
  fun H locs ls hP hS hl => lv_aload_n C.1 C.2.1 hd hi (lk_at hl hv) (k H locs ls hP hS hl)
theorem vv_dup (C : CV g p s m args meth c cc nL own N0) {va : Value}  (hd : decode cc pc = .ok (.dup, 1)) (hva : va.category = 1) (k : VW g p l e R s m args below meth c nL N cp lv cells slots Q (pc + 1) (va :: va :: st)) : VW g p l e R s m args below meth c nL N cp lv cells slots Q pc (va :: st) :=
  fun H locs ls hP hS hl => lv_dup C.1 C.2.1 hd hva (k H locs ls hP hS hl)
theorem vv_istore_n (C : CV g p s m args meth c cc nL own N0) {k0 : Fin 4} {x : Int32}  (hd : decode cc pc = .ok (.istore_n k0, 1)) (i : Nat) (hi : (k0 : Nat) = i) (hn : i < nL) (k : VW g p l e R s m args below meth c nL N cp ((i, .int x) :: rm lv i) cells slots Q (pc + 1) st) : VW g p l e R s m args below meth c nL N cp lv cells slots Q pc (.int x :: st) := by
  intro H locs ls hP hS hl
  exact lv_istore_n C.1 C.2.1 hd hi hl hn rfl (fun ls2 h2 => k H locs ls2 hP hS (rm_has h2))
theorem vv_astore_n (C : CV g p s m args meth c cc nL own N0) {k0 : Fin 4} {x : Nat}  (hd : decode cc pc = .ok (.astore_n k0, 1)) (i : Nat) (hi : (k0 : Nat) = i) (hn : i < nL) (k : VW g p l e R s m args below meth c nL N cp ((i, .ref x) :: rm lv i) cells slots Q (pc + 1) st) : VW g p l e R s m args below meth c nL N cp lv cells slots Q pc (.ref x :: st) := by
  intro H locs ls hP hS hl
  exact lv_astore_n C.1 C.2.1 hd hi hl hn rfl (fun ls2 h2 => k H locs ls2 hP hS (rm_has h2))
theorem vv_iinc (C : CV g p s m args meth c cc nL own N0) {i : Nat} {n : Int} {x v : Int32} (hd : decode cc pc = .ok (.iinc i n, 3)) (hv : lk lv i = some (.int x)) (he : x + Int32.ofInt n = v) (hn : i < nL) (k : VW g p l e R s m args below meth c nL N cp ((i, .int v) :: rm lv i) cells slots Q (pc + 3) st) : VW g p l e R s m args below meth c nL N cp lv cells slots Q pc st := by
  intro H locs ls hP hS hl
  obtain ⟨k0, hk0⟩ := List.getElem?_of_mem (lk_mem hv)
  exact lv_iinc C.1 C.2.1 hd hl hk0 he hn rfl (fun ls2 h2 => k H locs ls2 hP hS (rm_has h2))
theorem vv_icmp_ge (C : CV g p s m args meth c cc nL own N0) {x y : Int32} {off : Int} (hd : decode cc pc = .ok (.if_icmp .ge off, 3)) (tgt : Nat) (ht : (pc : Int) + off = (tgt : Int)) (kt : y ≤ x → VW g p l e R s m args below meth c nL N cp lv cells slots Q tgt st) (kf : ¬ y ≤ x → VW g p l e R s m args below meth c nL N cp lv cells slots Q (pc + 3) st) : VW g p l e R s m args below meth c nL N cp lv cells slots Q pc (.int y :: .int x :: st) :=
  fun H locs ls hP hS hl => lv_icmp_ge C.1 C.2.1 hd ht (fun q => kt q H locs ls hP hS hl) (fun q => kf q H locs ls hP hS hl)
theorem vv_goto (C : CV g p s m args meth c cc nL own N0) {off : Int} (hd : decode cc pc = .ok (.goto off, 3)) (tgt : Nat) (ht : (pc : Int) + off = (tgt : Int)) (k : VW g p l e R s m args below meth c nL N cp lv cells slots Q tgt st) : VW g p l e R s m args below meth c nL N cp lv cells slots Q pc st :=
  fun H locs ls hP hS hl => lv_goto C.1 C.2.1 hd ht (k H locs ls hP hS hl)
theorem vv_lv (lv2 : List (Nat × Value)) (hh : hasA lv lv2) (k : VW g p l e R s m args below meth c nL N cp lv2 cells slots Q pc st) : VW g p l e R s m args below meth c nL N cp lv cells slots Q pc st :=
  fun H locs ls hP hS hl => k H locs ls hP hS (hasA_sub hl hh)
theorem vv_cong {cp2 : Nat → va_E} (hc : ∀ o, o < N → cp o = cp2 o) (k : VW g p l e R s m args below meth c nL N cp2 lv cells slots Q pc st) : VW g p l e R s m args below meth c nL N cp lv cells slots Q pc st :=
  fun H locs ls hP hS hl => k H locs ls (by rw [← vl_congr hc]; exact hP) hS hl
theorem vv_oinit (C : CV g p s m args meth c cc nL own N0) {idx a : Nat} (hlink : Cond.methodLink own idx objectInit ∈ TT) (hd : decode cc pc = .ok (.invokespecial idx, 3)) (hfr : 1 ≤ R.frames) (hlo : (st.map fun v => v.category).sum + 12 ≤ R.locals) (k : VW g p l e R s m args below meth c nL N cp lv cells slots Q (pc + 3) st) : VW g p l e R s m args below meth c nL N cp lv cells slots Q pc (.ref a :: st) := by
  intro H locs ls hP hS hl
  have ht := C.2.2.2.2.1
  exact W.objInit C.1 C.2.1 C.2.2.2.1 (ht _ hlink) (ht _ q_i_J_oinit) (ht _ q_c_J_oinit) rfl (hl.1.trans C.2.2.1.symm) rfl hd hfr (by show 2 * 0 + _ + 12 ≤ _; omega) (W.eq (g2 := F0 m (pc + 3) ls st) rfl (k H locs ls hP hS hl))
theorem vv_get (C : CV g p s m args meth c cc nL own N0) {o ci : Nat} {fs : List Value} {cn : String} {T : u_T} {Nf : Nat} {idx : Nat} (ho : o < N) (he : cp o = .inr (ci, fs)) (hc : vwCl[ci]? = some (cn, T, Nf)) (hin : ∀ w ∈ u_ws cn T Nf, w ∈ TT) (k : Nat) (hk : k < Nf) (hlink : Cond.fieldLink own idx (T k).1 (T k).2.1 (T k).2.2.1 ∈ TT) {v : Value} (hv : fs[k]? = some v) (hd : decode cc pc = .ok (.getfield idx, 3)) (kk : VW g p l e R s m args below meth c nL N cp lv cells slots Q (pc + 3) (v :: st)) : VW g p l e R s m args below meth c nL N cp lv cells slots Q pc (.ref (gB g + o) :: st) :=
  fun H locs ls hP hS hl => va_get (D := gD g) (Ts := TT) C.1 C.2.1 C.2.2.2.2.1 hin C.2.2.2.1 C.2.2.2.2.2.1 hP o (by rw [vl_get ho, he]) hc k hk (C.2.2.2.2.1 _ hlink) (fun _ h9 => h9) hv hd (kk H locs ls hP hS hl)
theorem vv_put (C : CV g p s m args meth c cc nL own N0) {o ci : Nat} {fs : List Value} {cn : String} {T : u_T} {Nf : Nat} {idx : Nat} (ho : o < N) (he : cp o = .inr (ci, fs)) (hc : vwCl[ci]? = some (cn, T, Nf)) (hin : ∀ w ∈ u_ws cn T Nf, w ∈ TT) (ty0 : Nat → FieldType) (hty : ∀ k, k < Nf → parseFieldDescriptor (T k).2.2.1 = some (ty0 k)) (hnm : ∀ a, a < Nf → ∀ b, b < Nf → a ≠ b → (T a).2.1 ≠ (T b).2.1) (k : Nat) (hk : k < Nf) (hlink : Cond.fieldLink own idx (T k).1 (T k).2.1 (T k).2.2.1 ∈ TT) (hfin : (T k).2.2.2 = false) {v : Value} (hn : narrow (ty0 k) v = v) (hfit : fits (ty0 k) v = true) (hl0 : k < fs.length) (hd : decode cc pc = .ok (.putfield idx, 3)) (kk : VW g p l e R s m args below meth c nL N (cu cp o (.inr (ci, fs.set k v))) lv cells slots Q (pc + 3) st) : VW g p l e R s m args below meth c nL N cp lv cells slots Q pc (v :: .ref (gB g + o) :: st) := by
  intro H locs ls hP hS hl
  refine va_put (D := gD g) (Ts := TT) C.1 C.2.1 C.2.2.2.2.1 hin ty0 hty hnm C.2.2.2.1 C.2.2.2.2.2.1 hP vl_D hS o (by rw [vl_get ho, he]) hc k hk (C.2.2.2.2.1 _ hlink) (fun _ h9 => h9) hfin (hty k hk) hn hfit hl0 hd (fun H1 locs1 hP1 hD1 hS1 => ?_)
  rw [vl_set ho] at hP1
  exact kk H1 locs1 ls hP1 hS1 hl
theorem vv_putF (C : CV g p s m args meth c cc nL own N0) (hinit : meth.name = "<init>") {o ci : Nat} {fs : List Value} {cn : String} {T : u_T} {Nf : Nat} {idx : Nat} (ho : o < N) (he : cp o = .inr (ci, fs)) (hc : vwCl[ci]? = some (cn, T, Nf)) (hin : ∀ w ∈ u_ws cn T Nf, w ∈ TT) (ty0 : Nat → FieldType) (hty : ∀ k, k < Nf → parseFieldDescriptor (T k).2.2.1 = some (ty0 k)) (hnm : ∀ a, a < Nf → ∀ b, b < Nf → a ≠ b → (T a).2.1 ≠ (T b).2.1) (k : Nat) (hk : k < Nf) (hlink : Cond.fieldLink own idx (T k).1 (T k).2.1 (T k).2.2.1 ∈ TT) (hfin : (T k).2.2.2 = true) (hdecl : (T k).1 = own) {v : Value} (hn : narrow (ty0 k) v = v) (hfit : fits (ty0 k) v = true) (hl0 : k < fs.length) (hd : decode cc pc = .ok (.putfield idx, 3)) (kk : VW g p l e R s m args below meth c nL N (cu cp o (.inr (ci, fs.set k v))) lv cells slots Q (pc + 3) st) : VW g p l e R s m args below meth c nL N cp lv cells slots Q pc (v :: .ref (gB g + o) :: st) := by
  intro H locs ls hP hS hl
  refine va_putF (D := gD g) (Ts := TT) C.1 C.2.1 C.2.2.2.2.1 hin ty0 hty hnm C.2.2.2.1 C.2.2.2.2.2.1 hP vl_D hS o (by rw [vl_get ho, he]) hc k hk (C.2.2.2.2.1 _ hlink) (fun _ h9 => h9) hfin hinit hdecl (hty k hk) hn hfit hl0 hd (fun H1 locs1 hP1 hD1 hS1 => ?_)
  rw [vl_set ho] at hP1
  exact kk H1 locs1 ls hP1 hS1 hl
theorem vv_alen (C : CV g p s m args meth c cc nL own N0) {o t0 : Nat} {cA : ClassId} {x : vp_A} {ty : FieldType} (ho : o < N) (he : cp o = .inl (cA, x)) (ht : (gT g)[t0]? = some (cA, ty)) {v : Int32} (hv : Int32.ofNat x.1 = v) (hd : decode cc pc = .ok (.arraylength, 1)) (kk : VW g p l e R s m args below meth c nL N cp lv cells slots Q (pc + 1) (.int v :: st)) : VW g p l e R s m args below meth c nL N cp lv cells slots Q pc (.ref (gB g + o) :: st) :=
  fun H locs ls hP hS hl => va_alen (D := gD g) C.1 C.2.1 C.2.2.2.2.2.1 hP o t0 (by rw [vl_get ho, he]) ht hv hd (kk H locs ls hP hS hl)
theorem vv_new (C : CV g p s m args meth c cc nL own N0) {cn : String} {T : u_T} {Nf ci idx : Nat} (hc : vwCl[ci]? = some (cn, T, Nf)) (hin : ∀ w ∈ u_ws cn T Nf, w ∈ TT) (ty0 : Nat → FieldType) (hty : ∀ k, k < Nf → parseFieldDescriptor (T k).2.2.1 = some (ty0 k)) (hlink : Cond.classLink own idx cn ∈ TT) (hinst : Cond.instantiable cn Nf ∈ TT) (hini : Cond.initialized cn ∈ TT) {fs : List Value} (hfs : ∀ j, j < Nf → defaultValue (ty0 j) = vp_V fs j) (hz : N0 + cells = N) (hr : cells + 1 ≤ R.cells ∧ slots + Nf ≤ R.slots) (hd : decode cc pc = .ok (.new idx, 3)) (kk : VW g p l e R s m args below meth c nL (N + 1) (cu cp N (.inr (ci, fs))) lv (cells + 1) (slots + Nf) Q (pc + 3) (.ref (gB g + N) :: st)) : VW g p l e R s m args below meth c nL N cp lv cells slots Q pc st := by
  intro H locs ls hP hS hl
  have ht := C.2.2.2.2.1
  refine va_new (D := gD g) (Ts := TT) C.1 C.2.1 ht hin ty0 hty C.2.2.2.1 (ht _ hlink) (ht _ hinst) (ht _ hini) C.2.2.2.2.2.1 hP vl_D hS (fun q hq => by show gB g ≤ q; rw [C.2.2.2.2.2.2.2.1] at hq; omega) hc hfs hr.1 hr.2 hd (fun q H1 hP1 hD1 hS1 => ?_)
  refine vv_size (fun hsz => ?_)
  have e := vl_new hP1 hD1 (by rw [C.2.2.2.2.2.2.2.1] at hsz; omega)
  subst e
  rw [vl_push] at hP1
  exact kk H1 locs ls hP1 hS1 hl
theorem vv_newi (C : CV g p s m args meth c cc nL own N0) {n : Int32} {k : Nat} (hn : n = nI k) (hk : k ≤ 100) (hz : N0 + cells = N) (hr : cells + 1 ≤ R.cells ∧ slots + k ≤ R.slots) (hd : decode cc pc = .ok (.newarray .int, 2)) (kk : VW g p l e R s m args below meth c nL (N + 1) (cu cp N (.inl (gA g 0, k, .inl (fun _ => 0)))) lv (cells + 1) (slots + k) Q (pc + 2) (.ref (gB g + N) :: st)) : VW g p l e R s m args below meth c nL N cp lv cells slots Q pc (.int n :: st) := by
  intro H locs ls hP hS hl
  subst hn
  refine va_newa (D := gD g) (atype := .int) C.1 C.2.1 (C.2.2.2.2.1 _ q_ac_int) (ty := .int) rfl C.2.2.2.2.2.1 hP vl_D hS (fun q hq => by show gB g ≤ q; rw [C.2.2.2.2.2.2.2.1] at hq; omega) (N' := k) (a0 := (k, .inl (fun _ => 0))) (fun _ => rfl) (nI_pos (by omega)) (nI_clamp (by omega)) (by show k * 4 ≤ _; omega) hr.1 hr.2 hd (fun q cA H1 hK1 hP1 hD1 hS1 => ?_)
  refine vv_size (fun hsz => ?_)
  have e := vl_new hP1 hD1 (by rw [C.2.2.2.2.2.2.2.1] at hsz; omega)
  have ec : cA = gA g 0 := va_RA_int (hK1.2 6 _ rfl).2 (va_RA_in (k := 0) C.2.2.2.2.2.1 rfl)
  subst e
  rw [ec, vl_push] at hP1
  exact kk H1 locs ls hP1 hS1 hl
theorem vv_newq (C : CV g p s m args meth c cc nL own N0) {n : Int32} {k t0 idx : Nat} {cn : String} (ht0 : (gT g)[t0]? = some (gA g t0, .object cn)) (hover : va_AO cn s) (hlink : Cond.classLink own idx cn ∈ TT) (hn : n = nI k) (hk : k ≤ 100) (hz : N0 + cells = N) (hr : cells + 1 ≤ R.cells ∧ slots + k ≤ R.slots) (hd : decode cc pc = .ok (.anewarray idx, 3)) (kk : VW g p l e R s m args below meth c nL (N + 1) (cu cp N (.inl (gA g t0, k, .inr (.inr (.inr (.inr (fun _ => none))))))) lv (cells + 1) (slots + k) Q (pc + 3) (.ref (gB g + N) :: st)) : VW g p l e R s m args below meth c nL N cp lv cells slots Q pc (.int n :: st) := by
  intro H locs ls hP hS hl
  subst hn
  refine va_newq (D := gD g) C.1 C.2.1 C.2.2.2.1 (C.2.2.2.2.1 _ hlink) hover C.2.2.2.2.2.1 hP vl_D hS (fun q hq => by show gB g ≤ q; rw [C.2.2.2.2.2.2.2.1] at hq; omega) (nI_pos (by omega)) (nI_clamp (by omega)) (by omega) hr.1 hr.2 hd (fun q cA H1 hK1 hP1 hD1 hS1 => ?_)
  refine vv_size (fun hsz => ?_)
  have e := vl_new hP1 hD1 (by rw [C.2.2.2.2.2.2.2.1] at hsz; omega)
  have ec : cA = gA g t0 := va_RA_obj (hK1.2 6 _ rfl).2 (va_RA_in C.2.2.2.2.2.1 ht0)
  subst e
  rw [ec, vl_push] at hP1
  exact kk H1 locs ls hP1 hS1 hl
theorem vv_astq (C : CV g p s m args meth c cc nL own N0) {o x t0 ci n : Nat} {r : vw_C} {vs : List Value} {f : Nat → Option Nat} {i : Int32} {j : Nat} (ho : o < N) (he : cp o = .inl (gA g t0, n, .inr (.inr (.inr (.inr f))))) (ht : (gT g)[t0]? = some (gA g t0, .object r.1)) (hx : x < N) (hex : cp x = .inr (ci, vs)) (hc : vwCl[ci]? = some r) (hi : i = nI j) (hj : j < n) (hn : n < 2 ^ 31) (hd : decode cc pc = .ok (.aastore, 1)) (kk : VW g p l e R s m args below meth c nL N (cu cp o (.inl (gA g t0, n, .inr (.inr (.inr (.inr (va_up f j (some (gB g + x)))))))) ) lv cells slots Q (pc + 1) st) : VW g p l e R s m args below meth c nL N cp lv cells slots Q pc (.ref (gB g + x) :: .int i :: .ref (gB g + o) :: st) := by
  intro H locs ls hP hS hl
  subst hi
  refine va_astq (D := gD g) C.1 C.2.1 C.2.2.2.2.2.1 hP vl_D hS o t0 x ci (by rw [vl_get ho, he]) ht (by rw [vl_get hx, hex]) hc (fun z => z.elim (fun z => absurd z (nI_pos (by omega))) (fun z => by rw [nI_clamp (by omega)] at z; omega)) hd (fun H1 locs1 hP1 hD1 hS1 => ?_)
  rw [nI_clamp (by omega), vl_set ho] at hP1
  exact kk H1 locs1 ls hP1 hS1 hl
theorem vv_iast (C : CV g p s m args meth c cc nL own N0) {o n : Nat} {f : Nat → Int32} {i x : Int32} {j : Nat} (ho : o < N) (he : cp o = .inl (gA g 0, n, .inl f)) (hi : i = nI j) (hj : j < n) (hn : n < 2 ^ 31) (hd : decode cc pc = .ok (.iastore, 1)) (kk : VW g p l e R s m args below meth c nL N (cu cp o (.inl (gA g 0, n, .inl (upd f j x)))) lv cells slots Q (pc + 1) st) : VW g p l e R s m args below meth c nL N cp lv cells slots Q pc (.int x :: .int i :: .ref (gB g + o) :: st) := by
  intro H locs ls hP hS hl
  subst hi
  refine va_iast (D := gD g) C.1 C.2.1 C.2.2.2.2.2.1 hP vl_D hS o 0 (by rw [vl_get ho, he]) rfl (fun z => z.elim (fun z => absurd z (nI_pos (by omega))) (fun z => by rw [nI_clamp (by omega)] at z; omega)) hd (fun H1 locs1 hP1 hD1 hS1 => ?_)
  rw [nI_clamp (by omega), vl_set ho] at hP1
  exact kk H1 locs1 ls hP1 hS1 hl
theorem vv_mmax (C : CV g p s m args meth c cc nL own N0) {x y : Int32} {idx : Nat} (hlink : Cond.methodLink own idx Lib.Math.max.name ∈ TT) (hfr : 1 ≤ R.frames) (hlo : (st.map fun v => v.category).sum + 13 ≤ R.locals) (hce : cells ≤ R.cells) (hsl : slots ≤ R.slots) (hd : decode cc pc = .ok (.invokestatic idx, 3)) (kk : VW g p l e R s m args below meth c nL N cp lv cells slots Q (pc + 3) (.int (mxI x y) :: st)) : VW g p l e R s m args below meth c nL N cp lv cells slots Q pc (.int y :: .int x :: st) := by
  intro H locs ls hP hS hl
  have ht := C.2.2.2.2.1
  exact va_mmax C.1 C.2.1 (C.2.2.1.trans hl.1.symm) C.2.2.2.1 (ht _ hlink) (ht _ q_t_J_max) (ht _ q_n_J9) (ht _ q_c_J_max) hfr hlo hce hsl hd (kk H locs ls hP hS hl)
end GVW
