/-! CONTRACTS over the world: 'CT .. args h v h2': from the numbers h, with these arguments, the method returns v and leaves the numbers h2. -/
def ws_ (y : MethodName) (cc : ByteArray) (n : Nat) (rt : Option FieldType) : List Cond := .code y cc n rt :: TT
abbrev rK (k mc ms : Nat) : Room := { frames := k, cells := mc, slots := ms, locals := 28 * k }
def PW (g : gW) (h : Hp) (sz : Nat) : State → Prop := fun U => U.heap.size = sz ∧ gB g + 64 ≤ sz ∧ va_P (gD g) vwCl (wl g [] h) U.heap ∧ va_K (gD g) vwCl (gT g) U
def QW (g : gW) (sz : Nat) (v : Option Value) (h2 : Hp) : Array Value → State → Outcome → State → Prop := fun _ st oc t => oc = .returned v ∧ va_P (gD g) vwCl (wl g [] h2) t.heap ∧ va_F (AA g sz) st t
def CT (g : gW) (l : Launch) (y : MethodName) (cc : ByteArray) (nL : Nat) (rt : Option FieldType) (k mc ms : Nat) (As : List Value) (h : Hp) (v : Option Value) (h2 : Hp) : Prop :=
  ∀ sz : Nat, Met l y (ws_ y cc nL rt) (rK k mc ms) (va_Pc As (PW g h sz)) (QW g sz v h2) mc ms (AA g sz)
theorem PW_blind (g : gW) (As : List Value) (h : Hp) (sz : Nat) : FrameBlind (va_Pc As (PW g h sz)) := by
  intro a U gg mk q
  obtain ⟨q0, q1, q2, q3, q4⟩ := q
  exact ⟨q0, q1, q2, q3, va_K.moved (u := U) (U := U.calling gg mk a) (Vm.Alike.refl U.vm) q4⟩
theorem AA_mono {g : gW} {a b q : Nat} (hab : a ≤ b) (h : AA g b q) : AA g a q := h.elim Or.inl (fun z => Or.inr (Nat.le_trans hab z))
theorem wl_len {g : gW} {X : va_W} {h : Hp} : (wl g X h).length = 64 + X.length := by simp [wl]
theorem wl_addr {g : gW} {X : va_W} {h h2 : Hp} {k : Nat} {q : Nat × va_E} (hk : (wl g X h)[k]? = some q) : ∃ q2, (wl g X h2)[k]? = some q2 ∧ q2.1 = q.1 := by
  by_cases hl : k < 64
  · rw [wl_get hl] at hk
    cases hk
    exact ⟨_, wl_get hl, rfl⟩
  · unfold wl at hk ⊢
    rw [List.getElem?_append_right (by simp; omega)] at hk ⊢
    simp only [List.length_map, List.length_range] at hk ⊢
    exact ⟨q, hk, rfl⟩
theorem wl_D {g : gW} {X : va_W} {A : Nat → Prop} {h : Hp} (h2 : Hp) (hD : va_D A (wl g X h)) : va_D A (wl g X h2) := by
  refine ⟨fun i j x y hx hy hxy => ?_, fun k q hk => ?_⟩
  · obtain ⟨x2, a1, a2⟩ := wl_addr (h2 := h) hx
    obtain ⟨y2, b1, b2⟩ := wl_addr (h2 := h) hy
    exact hD.1 i j x2 y2 a1 b1 (a2.trans (hxy.trans b2.symm))
  · obtain ⟨q2, a1, a2⟩ := wl_addr (h2 := h) hk
    rw [← a2]
    exact hD.2 k q2 a1
theorem wl_X {g : gW} {X : va_W} {h : Hp} {i : Nat} {q : Nat × va_E} (hi : X[i]? = some q) : (wl g X h)[64 + i]? = some q := by
  unfold wl
  rw [List.getElem?_append_right (by simp)]
  simpa using hi
/-- a cell of X is none of the world's -/
theorem wl_apart {g : gW} {X : va_W} {A : Nat → Prop} {h : Hp} (hD : va_D A (wl g X h)) {i : Nat} {q : Nat × va_E} (hi : X[i]? = some q) : ¬ (gB g ≤ q.1 ∧ q.1 < gB g + 64) := by
  intro hz
  have h1 := wl_X (g := g) (h := h) hi
  have h2 := wl_get (g := g) (X := X) (h := h) (show q.1 - gB g < 64 by omega)
  have := hD.1 _ _ _ _ h1 h2 (by show q.1 = gB g + (q.1 - gB g); omega)
  omega
/-- the world without X, in the other heap, and X as it was -/
theorem wl_join {g : gW} {X : va_W} {A : Nat → Prop} {h h2 : Hp} {H H1 : Heap} (hP : va_P (gD g) vwCl (wl g X h) H) (hD : va_D A (wl g X h)) (hP1 : va_P (gD g) vwCl (wl g [] h2) H1) (hk : ∀ q : Nat, q < H.size → ¬ AA g H.size q → H1[q]? = H[q]?) : va_P (gD g) vwCl (wl g X h2) H1 := by
  intro k q hq
  by_cases hl : k < 64
  · rw [wl_get hl] at hq
    exact hP1 k q (by rw [wl_get hl]; exact hq)
  · have hq2 : X[k - 64]? = some q := by
      unfold wl at hq
      rw [List.getElem?_append_right (by simp; omega)] at hq
      simpa using hq
    have h1 := hP _ q (wl_X hq2)
    have hlt := h1.lt
    refine h1.kept (hk q.1 hlt (fun z => ?_))
    rcases z with z | z
    · exact wl_apart hD hq2 z
    · omega
theorem wl_sub {g : gW} {X : va_W} {h : Hp} {H : Heap} (hP : va_P (gD g) vwCl (wl g X h) H) : va_P (gD g) vwCl (wl g [] h) H := by
  intro k q hq
  have hl : k < 64 := by
    have := (List.getElem?_eq_some_iff.mp hq).1
    rw [wl_len] at this
    simpa using this
  rw [wl_get hl] at hq
  exact hP k q (by rw [wl_get hl]; exact hq)
theorem wl_D0 {g : gW} {h : Hp} {A : Nat → Prop} (hA : ∀ q, gB g ≤ q ∧ q < gB g + 64 → A q) : va_D A (wl g [] h) := by
  have key : ∀ (k : Nat) (q : Nat × va_E), (wl g [] h)[k]? = some q → k < 64 ∧ q.1 = gB g + k := by
    intro k q hq
    have hl : k < 64 := by
      have := (List.getElem?_eq_some_iff.mp hq).1
      rw [wl_len] at this
      simpa using this
    rw [wl_get hl] at hq
    cases hq
    exact ⟨hl, rfl⟩
  refine ⟨fun i j x y hx hy hxy => ?_, fun k q hk => ?_⟩
  · have := key i x hx
    have := key j y hy
    omega
  · have := key k q hk
    exact hA _ (by omega)
/-- a method's words: it can be called by its name -/
def MFb (y : MethodName) (cY : ByteArray) (nLY : Nat) (rt : Option FieldType) (n : Nat) : Prop :=
  Cond.code y cY nLY rt ∈ TT ∧ Cond.initialized y.cls ∈ TT ∧ (y.cls ≠ "java/lang/invoke/MethodHandle" ∧ y.cls ≠ "java/lang/invoke/VarHandle" ∧ (parseMethodDescriptor y.desc).map (fun d => d.parameters.length) = some n) ∧ plainFor y = true
def MFv (y : MethodName) (cY : ByteArray) (nLY : Nat) (rt : Option FieldType) (n : Nat) : Prop := MFb y cY nLY rt n ∧ Cond.instanceMethod y ∈ TT ∧ Cond.selects y.cls y y ∈ TT
def MFs (y : MethodName) (cY : ByteArray) (nLY : Nat) (rt : Option FieldType) (n : Nat) : Prop := MFb y cY nLY rt n ∧ Cond.static y ∈ TT
theorem ws_good {own : String} {idx : Nat} {y : MethodName} {cY : ByteArray} {nLY : Nat} {rt : Option FieldType} (hc : Cond.code y cY nLY rt ∈ TT) : GoodIn TT (ws_ y cY nLY rt) := by
  intro w hw
  rcases List.mem_cons.mp hw with h | h
  · subst h; exact ⟨hc, tt_good hc⟩
  · exact ⟨h, tt_good h⟩
section GWC
variable {g : gW} {p : Program} {l : Launch} {e : Env} {R : Room} {s : State} {m : MethodId} {args : Array Value} {below : List Frame} {meth : Method} {c : Code} {cc : ByteArray} {nL : Nat} {own : String} {X : va_W} {h : Hp} {lv : List (Nat × Value)} {cells slots : Nat} {Q : State → Prop} {pc : Nat} {st : List Value}
/-- a method's proof: its walk -/
theorem CT.of {y : MethodName} {rt : Option FieldType} {k mc ms : Nat} {As : List Value} {v : Option Value} {h2 : Hp} {lv0 : List (Nat × Value)} (hy : plainFor y = true) (hn : (lg_sl As).length ≤ nL) (hl0 : lv_args 0 As = lv0)
    (body : ∀ (p : Program) (e : Env) (s : State) (m : MethodId) (below : List Frame) (meth : Method) (c : Code), CX g p s m As.toArray meth c cc nL y.cls → meth.sig.returnType = rt →
      WW g p l e (rK k mc ms) s m As.toArray below meth c nL [] h lv0 0 0 (MQ below (QW g s.heap.size v h2) As.toArray s mc ms (AA g s.heap.size)) 0 []) : CT g l y cc nL rt k mc ms As h v h2 := by
  intro sz
  refine va_MetF (cc := cc) (maxL := nL) (ret := rt) (ws' := TT) hy rfl ?_
  intro p e s m args below meth c s₁ B hml hv
  obtain ⟨rfl, hsz, hb71, hP, hK⟩ := hv
  subst hsz
  have hts := atoms_spec (ws := ws_ y cc nL rt) B.pre
  have hown : s.vm.findClass y.cls = some m.cls := findClass_of_methodNamed B.named
  have hl := lv_entry As (n := nL) hn
  rw [lg_entry_eq]
  rw [hl0] at hl
  exact body p e s m below meth c ⟨B.exec, B.bytes, hml, hown, fun w hw => hts w (List.mem_cons_of_mem _ hw), hK, B.notSynchronized, hb71⟩ B.returns s.heap [] _ hP (wl_D0 (fun q hq => Or.inl hq)) va_S.rf hl
/-- behind a call: what the callee left -/
theorem ww_after {mc ms : Nat} {v : Option Value} {h2 : Hp} {rest st0 : List Value} {a : Array Value} (C : CX g p s m args meth c cc nL own) {H : Heap} {locs : List Loc} {ls : Array Slot} (hP : va_P (gD g) vwCl (wl g X h) H) (hD : va_D (AA g s.heap.size) (wl g X h)) (hS : va_S (AA g s.heap.size) s.heap H locs) (hl : lv_has ls nL lv)
    (hr : va_Run p l e R s m args below meth c H locs cells slots mc ms (F0 m pc ls st0) rest (QW g H.size v h2 a) (AA g H.size))
    (kk : WW g p l e R s m args below meth c nL X h2 lv (cells + mc) (slots + ms) Q (pc + 3) (v.toList ++ rest)) : W p l e R s m args below meth c H locs cells slots Q (F0 m pc ls st0) := by
  intro T hT X0
  obtain ⟨v9, st₀, t, T', L, h0, X', hL, e1, e2, ⟨hv, hp, hz, hk⟩, st9⟩ := hr T hT X0
  cases hv
  rw [h0] at hz hk
  have hA : ∀ q, AA g H.size q → AA g s.heap.size q := fun q hq => AA_mono hS.1 hq
  obtain ⟨t2, a1, b1⟩ := kk T'.heap (locs ++ L) ls (by rw [e1]; exact wl_join hP hD hp hk) (wl_D h2 hD)
    ⟨Nat.le_trans hS.1 (by rw [e1]; exact hz), fun q h1 h2 => by rw [e1, hk q (Nat.lt_of_lt_of_le h1 hS.1) (fun z => h2 (hA q z))]; exact hS.2.1 q h1 h2, fun q hq => by
      rcases List.mem_append.mp hq with h3 | h3
      · exact hS.2.2 q h3
      · exact hA _ (hL q h3)⟩ hl T' rfl X'
  exact ⟨t2, st9 t2 a1, b1⟩
theorem PW_now {y : MethodName} {As : List Value} (C : CX g p s m args meth c cc nL own) {H : Heap} {locs : List Loc} (hP : va_P (gD g) vwCl (wl g X h) H) (hS : va_S (AA g s.heap.size) s.heap H locs) : ∀ U : State, U.heap = H → s.WarmedH U.vm → va_Pc As (PW g h H.size) As.toArray U := by
  intro U hU hW
  exact ⟨rfl, by rw [hU], Nat.le_trans C.2.2.2.2.2.2.2 hS.1, by rw [hU]; exact wl_sub hP, va_K.moved hW.alike C.2.2.2.2.2.1⟩
theorem ww_callV (C : CX g p s m args meth c cc nL own) {y : MethodName} {cY : ByteArray} {nLY k mc ms o n idx ci : Nat} {rt : Option FieldType} {As rest : List Value} {v : Option Value} {h2 : Hp} (hF : MFv y cY nLY rt n) (hM : CT g l y cY nLY rt k mc ms (.ref (gB g + o) :: As) h v h2) (hlink : Cond.methodLink own idx y ∈ TT)
    (ho : o < 64) {q : vw_C} (hq : vwCl[ci]? = some q) (hqc : q.1 = y.cls) (hce : ∃ fs, ce g (h o) o = .inr (ci, fs)) (hAs : As.length = n) (hst : st = As.reverse ++ .ref (gB g + o) :: rest) (hcat : (rest.map fun v => v.category).sum ≤ 8) (hk : k + 1 ≤ R.frames ∧ 8 + (nLY + 11) + 28 * k ≤ R.locals) (hr : cells + mc ≤ R.cells ∧ slots + ms ≤ R.slots) (hd : decode cc pc = .ok (.invokevirtual idx, 3))
    (kk : WW g p l e R s m args below meth c nL X h2 lv (cells + mc) (slots + ms) Q (pc + 3) (v.toList ++ rest)) : WW g p l e R s m args below meth c nL X h lv cells slots Q pc st := by
  intro H locs ls hP hD hS hl
  have ht := C.2.2.2.2.1
  obtain ⟨⟨f1, f2, ⟨f3, f4, f5⟩, -⟩, f6, f7⟩ := hF
  obtain ⟨fs, hce⟩ := hce
  have hcell : ∃ cellB : Cell, H[gB g + o]? = some cellB ∧ cellB.vm.isStatics = false ∧ s.vm.findClass y.cls = some cellB.cls := by
    have := va_recv C.2.2.2.2.2.1 hP hq (show (wl g X h)[o]? = some (gB g + o, .inr (ci, fs)) by rw [wl_get ho, hce])
    rw [hqc] at this
    exact this
  refine ww_after C hP hD hS hl (va_runV (Ts := TT) (own := own) (C := y.cls) (As := As) (rest := rest) ⟨C.1, C.2.1, C.2.2.1, C.2.2.2.1, ht⟩ (hM H.size) ⟨callB_of n ht (ws_good (own := own) (idx := idx) f1) rfl rfl rfl (ht _ f2) (ht _ hlink) ⟨f3, f4, f5⟩ hk, ht _ f6, ht _ f7⟩ ⟨PW_blind g _ h _, hcell, PW_now (y := y) (As := .ref (gB g + o) :: As) C hP hS⟩ rfl hAs hl.1 hst (lv_room hcat) hd hr) kk
theorem ww_callS (C : CX g p s m args meth c cc nL own) {y : MethodName} {cY : ByteArray} {nLY k mc ms n idx : Nat} {rt : Option FieldType} {As rest : List Value} {v : Option Value} {h2 : Hp} (hF : MFs y cY nLY rt n) (hM : CT g l y cY nLY rt k mc ms As h v h2) (hlink : Cond.methodLink own idx y ∈ TT)
    (hAs : As.length = n) (hst : st = As.reverse ++ rest) (hcat : (rest.map fun v => v.category).sum ≤ 8) (hk : k + 1 ≤ R.frames ∧ 8 + (nLY + 11) + 28 * k ≤ R.locals) (hr : cells + mc ≤ R.cells ∧ slots + ms ≤ R.slots) (hd : decode cc pc = .ok (.invokestatic idx, 3))
    (kk : WW g p l e R s m args below meth c nL X h2 lv (cells + mc) (slots + ms) Q (pc + 3) (v.toList ++ rest)) : WW g p l e R s m args below meth c nL X h lv cells slots Q pc st := by
  intro H locs ls hP hD hS hl
  have ht := C.2.2.2.2.1
  obtain ⟨⟨f1, f2, ⟨f3, f4, f5⟩, -⟩, f6⟩ := hF
  refine ww_after C hP hD hS hl (va_runS (Ts := TT) (own := own) (As := As) (rest := rest) ⟨C.1, C.2.1, C.2.2.1, C.2.2.2.1, ht⟩ (hM H.size) ⟨callB_of n ht (ws_good (own := own) (idx := idx) f1) rfl rfl rfl (ht _ f2) (ht _ hlink) ⟨f3, f4, f5⟩ hk, ht _ f6⟩ ⟨PW_blind g _ h _, PW_now (y := y) C hP hS⟩ rfl hAs hl.1 hst (lv_room hcat) hd hr) kk
/-- the ends -/
theorem QW_now {v : Option Value} (C : CX g p s m args meth c cc nL own) {H : Heap} {locs : List Loc} (hP : va_P (gD g) vwCl (wl g X h) H) (hS : va_S (AA g s.heap.size) s.heap H locs) : ∀ t : State, t.heap = H → s.WarmedH t.vm → QW g s.heap.size v h args s (.returned v) t :=
  fun t ht _ => ⟨rfl, by rw [ht]; exact wl_sub hP, hS.F ht⟩
theorem ww_iret (C : CX g p s m args meth c cc nL own) {r : Int32} {v : Option Value} {h2 : Hp} (hr : meth.sig.returnType = some .int) (hv : v = some (.int r)) (hh : h2 = h) (hd : decode cc pc = .ok (.ireturn, 1)) : WW g p l e R s m args below meth c nL X h lv cells slots (MQ below (QW g s.heap.size v h2) args s cells slots (AA g s.heap.size)) pc [.int r] := by
  intro H locs ls hP hD hS hl
  subst hv; subst hh
  exact W.iret C.1 C.2.1 hr (QW_now C hP hS) hS.2.2 hd C.2.2.2.2.2.2.1
theorem ww_zret (C : CX g p s m args meth c cc nL own) {r : Int32} {v : Option Value} {h2 : Hp} (hr : meth.sig.returnType = some .boolean) (hz : r = 0 ∨ r = 1) (hv : v = some (.int r)) (hh : h2 = h) (hd : decode cc pc = .ok (.ireturn, 1)) : WW g p l e R s m args below meth c nL X h lv cells slots (MQ below (QW g s.heap.size v h2) args s cells slots (AA g s.heap.size)) pc [.int r] := by
  intro H locs ls hP hD hS hl
  subst hv; subst hh
  exact W.zret C.1 C.2.1 hr (by rcases hz with rfl | rfl <;> rfl) (QW_now C hP hS) hS.2.2 hd C.2.2.2.2.2.2.1
theorem ww_vret (C : CX g p s m args meth c cc nL own) {v : Option Value} {h2 : Hp} (hr : meth.sig.returnType = none) (hv : v = none) (hh : h2 = h) (hd : decode cc pc = .ok (.return_, 1)) : WW g p l e R s m args below meth c nL X h lv cells slots (MQ below (QW g s.heap.size v h2) args s cells slots (AA g s.heap.size)) pc [] := by
  intro H locs ls hP hD hS hl
  subst hv; subst hh
  exact W.vret C.1 C.2.1 hr (QW_now C hP hS) hS.2.2 hd C.2.2.2.2.2.2.1
theorem ww_lret (C : CX g p s m args meth c cc nL own) {r : Int64} {v : Option Value} {h2 : Hp} (hr : meth.sig.returnType = some .long) (hv : v = some (.long r)) (hh : h2 = h) (hd : decode cc pc = .ok (.lreturn, 1)) : WW g p l e R s m args below meth c nL X h lv cells slots (MQ below (QW g s.heap.size v h2) args s cells slots (AA g s.heap.size)) pc [.long r] := by
  intro H locs ls hP hD hS hl
  subst hv; subst hh
  exact W.lret C.1 C.2.1 hr (QW_now C hP hS) hS.2.2 hd C.2.2.2.2.2.2.1
theorem ww_aret (C : CX g p s m args meth c cc nL own) {a : Nat} {n : String} {v : Option Value} {h2 : Hp} (hr : meth.sig.returnType = some (.object n)) (hv : v = some (.ref a)) (hh : h2 = h) (hd : decode cc pc = .ok (.areturn, 1)) : WW g p l e R s m args below meth c nL X h lv cells slots (MQ below (QW g s.heap.size v h2) args s cells slots (AA g s.heap.size)) pc [.ref a] := by
  intro H locs ls hP hD hS hl
  subst hv; subst hh
  exact W.aret C.1 C.2.1 hr (Or.inl ⟨n, rfl⟩) (Or.inr ⟨a, rfl⟩) (QW_now C hP hS) hS.2.2 hd C.2.2.2.2.2.2.1
end GWC
