/-! THE LAW'S WRAPPERS: a call of the class, its answer into the long row, or the number of what it threw -/
def NCs (U : State) : Prop := va_Nc E_A E_I U ∧ va_Nc E_S E_I U ∧ va_Nc E_S E_A U
theorem NCs.moved {u U : State} (hW : u.WarmedH U.vm) (h : NCs u) : NCs U := ⟨va_Nc.moved hW.alike h.1, va_Nc.moved hW.alike h.2.1, va_Nc.moved hW.alike h.2.2⟩
def PL (g : gW) (h : Hp) (sz : Nat) : State → Prop := fun U => PX g h sz U ∧ NCs U
def wsW (y : MethodName) (cc : ByteArray) (n : Nat) (hh : List (Nat × Nat × Nat × Nat)) : List Cond := .codeWith y cc n (some .int) hh :: TT
def LT (g : gW) (l : Launch) (y : MethodName) (cc : ByteArray) (nL : Nat) (hh : List (Nat × Nat × Nat × Nat)) (k : Nat) (As : List Value) (h : Hp) (v : Int32) (h2 : Hp) : Prop :=
  ∀ sz : Nat, Met l y (wsW y cc nL hh) (rK k 1 6) (va_Pc As (PL g h sz)) (QW g sz (some (.int v)) h2) 1 6 (AA g sz)
theorem PL_blind (g : gW) (As : List Value) (h : Hp) (sz : Nat) : FrameBlind (va_Pc As (PL g h sz)) := by
  intro a U gg mk q
  obtain ⟨q0, q1, q2, q3, q4⟩ := q
  have hp := PX_blind g As h sz a U gg mk ⟨q0, q1⟩
  exact ⟨hp.1, hp.2, va_Nc.moved (u := U) (U := U.calling gg mk a) (Vm.Alike.refl U.vm) q2, va_Nc.moved (u := U) (U := U.calling gg mk a) (Vm.Alike.refl U.vm) q3, va_Nc.moved (u := U) (U := U.calling gg mk a) (Vm.Alike.refl U.vm) q4⟩
theorem arrV_long {cA : ClassId} {n : Nat} {f r : Nat → Int64} (h : ∀ k, k < n → f k = r k) : arrV cA n (fun j => .long (f j)) = arrV cA n (fun j => .long (r j)) := by
  unfold arrV
  congr 1
  refine congrArg Array.ofFn ?_
  funext j
  exact congrArg Value.long (h j.val j.isLt)
section GLW
variable {g : gW} {p : Program} {l : Launch} {e : Env} {R : Room} {s : State} {m : MethodId} {args : Array Value} {below : List Frame} {meth : Method} {c : Code} {cc : ByteArray} {nL : Nat} {own : String} {X : va_W} {h : Hp} {lv : List (Nat × Value)} {cells slots : Nat} {Q : State → Prop} {pc : Nat} {st : List Value}
theorem LT.of {y : MethodName} {hh : List (Nat × Nat × Nat × Nat)} {k : Nat} {As : List Value} {v : Int32} {h2 : Hp} {lv0 : List (Nat × Value)} (hy : plainName y.cls = true) (hn : (lg_sl As).length ≤ nL) (hl0 : lv_args 0 As = lv0)
    (body : ∀ (p : Program) (e : Env) (s : State) (m : MethodId) (below : List Frame) (meth : Method) (c : Code), CX g p s m As.toArray meth c cc nL y.cls → EXs g s → NCs s → c.exceptionTable.toList = tableOf hh → meth.sig.returnType = some .int →
      WW g p l e (rK k 1 6) s m As.toArray below meth c nL [] h lv0 0 0 (MQ below (QW g s.heap.size (some (.int v)) h2) As.toArray s 1 6 (AA g s.heap.size)) 0 []) : LT g l y cc nL hh k As h v h2 := by
  intro sz
  refine MetFree.of_bodyS (code := cc) (maxLocals := nL) (ret := some .int) hy ?_ ?_
  · intro args s m h hn
    obtain ⟨m9, meth, c, hn9, h1, h2, h3, h4, -, h5, h6, -⟩ := Cond.codeWith_spec (atoms_spec (ws := wsW y cc nL hh) h _ List.mem_cons_self)
    cases hn.symm.trans hn9
    exact ⟨meth, c, h1, h2, h3, h4, h5, h6⟩
  · intro p e s m args below meth c s₁ B hml hP _
    have hh0 : s₁.heap = s.heap := by rw [B.state]; rfl
    obtain ⟨rfl, ⟨⟨hsz, hb71, hP, hK⟩, hE⟩, hNC⟩ := hP
    subst hsz
    have hts := atoms_spec (ws := wsW y cc nL hh) B.pre
    have hown : s.vm.findClass y.cls = some m.cls := findClass_of_methodNamed B.named
    have htab := vx_table (x := y) B (hts _ List.mem_cons_self)
    have hl := lv_entry As (n := nL) hn
    have key := body p e s m below meth c ⟨B.exec, B.bytes, hml, hown, fun w hw => hts w (List.mem_cons_of_mem _ hw), hK, B.notSynchronized, hb71⟩ hE hNC htab B.returns s.heap [] _ hP (wl_D0 (fun q hq => Or.inl hq)) va_S.rf (by rw [← hl0]; exact hl)
    obtain ⟨t, a1, o, b1, b2, b3⟩ := key s₁ hh0 (Stand.of_body B)
    rw [lg_entry_eq]
    exact ⟨t, o, a1, b1, b2, ⟨b3.1, b3.2⟩⟩
/-- a number into the long row -/
theorem ww_last (C : CX g p s m args meth c cc nL own) {v : Int32} {w : Int64} (hw : w = v.toInt64) (hd : decode cc pc = .ok (.lastore, 1)) (kk : WW g p l e R s m args below meth c nL X (hp_up h 70 0 v) lv cells slots Q (pc + 1) st) : WW g p l e R s m args below meth c nL X h lv cells slots Q pc (.long w :: .int 0 :: .ref (gB g + 70) :: st) := by
  intro H locs ls hP hD hS hl
  subst hw
  refine va_last (D := gD g) C.1 C.2.1 C.2.2.2.2.2.1 hP hD hS 70 4 (n := 1) (f := fun _ => (h 70 0).toInt64) (by rw [wl_get (by omega)]; rfl) rfl (fun z => by revert z; decide) hd (fun H1 locs1 hP1 hD1 hS1 => ?_)
  refine kk H1 locs1 ls (fun i q hq => ?_) (wl_D _ hD) hS1 hl
  by_cases hi : i = 70
  · subst hi
    rw [wl_get (by omega)] at hq
    cases hq
    have h1 := hP1 70 (gB g + 70, .inl (gA g 4, 1, .inr (.inl (vp_updL (fun _ => (h 70 0).toInt64) (0 : Int32).toNatClampNeg v.toInt64)))) (by rw [List.getElem?_set_self (by rw [wl_len]; omega)])
    have h1 : H1[gB g + 70]? = some (vp_cell (gA g 4) (1, .inr (.inl (vp_updL (fun _ => (h 70 0).toInt64) (0 : Int32).toNatClampNeg v.toInt64)))) := h1
    show H1[gB g + 70]? = some (vp_cell (gA g 4) (1, .inr (.inl (fun _ => (hp_up h 70 0 v 70 0).toInt64))))
    rw [h1]
    refine congrArg some ?_
    show arrV (gA g 4) 1 (fun j => Value.long (vp_updL (fun _ => (h 70 0).toInt64) (0 : Int32).toNatClampNeg v.toInt64 j)) = arrV (gA g 4) 1 (fun j => Value.long ((fun _ => (hp_up h 70 0 v 70 0).toInt64) j))
    refine arrV_long (fun k hk => ?_)
    have e : k = 0 := by omega
    subst e
    rw [hp_eq]
    rfl
  · have hq2 : (wl g X h)[i]? = some q := by
      rw [← hq]
      by_cases hl : i < 71
      · rw [wl_get hl, wl_get hl, hp_ne hi]
      · unfold wl
        rw [List.getElem?_append_right (by simp; omega), List.getElem?_append_right (by simp; omega)]
        simp
    refine hP1 i q ?_
    rw [List.getElem?_set_ne (Ne.symm hi)]
    exact hq2
/-- what a handler's row needs -/
def CA (s : State) (args : Array Value) (own : String) (hh : List (Nat × Nat × Nat × Nat)) (pc : Nat) (E : String) (tgt : Nat) : Prop :=
  ∃ (pre : List ExceptionTableEntry) (x : ExceptionTableEntry) (suf : List ExceptionTableEntry), tableOf hh = pre ++ x :: suf ∧ (∀ z ∈ pre, covers z pc = false ∨ (z.catchType ≠ 0 ∧ ∃ nm : String, (Cond.classLink own z.catchType nm).before args s = true ∧ va_Nc E nm s)) ∧ covers x pc = true ∧ x.catchType ≠ 0 ∧ (Cond.classLink own x.catchType E).before args s = true ∧ (Cond.castable E E).before args s = true ∧ x.handlerPc = tgt
/-- a call of the class that returns or throws, with a handler here -/
theorem ww_callVc (C : CX g p s m args meth c cc nL own) (hE : EXs g s) {hh : List (Nat × Nat × Nat × Nat)} (htab : c.exceptionTable.toList = tableOf hh) {y : MethodName} {cY : ByteArray} {nLY k n idx : Nat} {rt : Option FieldType} {As rest : List Value} {r : (Option Value × Hp) ⊕ String} (hF : MFv y cY nLY rt n) (hd : decode cc pc = .ok (.invokevirtual idx, 3)) (hM : XT g l y cY nLY rt k (.ref (gB g + 0) :: As) h r) (hlink : Cond.methodLink own idx y ∈ TT)
    (hqc : RX4 = y.cls) (hAs : As.length = n) (hst : st = As.reverse ++ .ref (gB g + 0) :: rest) (hcat : (rest.map fun v => v.category).sum ≤ 8) (hk : k + 1 ≤ R.frames ∧ 8 + (nLY + 11) + 28 * k ≤ R.locals) (hr : cells + 1 ≤ R.cells ∧ slots + 6 ≤ R.slots)
    (kk : ∀ v h2, r = .inl (v, h2) → WW g p l e R s m args below meth c nL X h2 lv (cells + 1) (slots + 6) Q (pc + 3) (v.toList ++ rest))
    (kx : ∀ E, r = .inr E → ∃ tgt, CA s args own hh pc E tgt ∧ ∀ q : Nat, WW g p l e R s m args below meth c nL X h lv (cells + 1) (slots + 6) Q tgt [.ref q]) :
    WW g p l e R s m args below meth c nL X h lv cells slots Q pc st := by
  intro H locs ls hP hD hS hl
  have ht := C.2.2.2.2.1
  obtain ⟨⟨f1, f2, ⟨f3, f4, f5⟩, -⟩, f6, f7⟩ := hF
  have hcell : ∃ cellB : Cell, H[gB g + 0]? = some cellB ∧ cellB.vm.isStatics = false ∧ s.vm.findClass y.cls = some cellB.cls := by
    have := va_recv (q := (RX4, TX4, 2)) (ci := 4) C.2.2.2.2.2.1 hP rfl (show (wl g X h)[0]? = some (gB g + 0, .inr (4, [.ref (gB g + 1), .ref (gB g + 32)])) by rw [wl_get (by omega)]; rfl)
    rw [← hqc]
    exact this
  have hRun := vx_runV (Ts := TT) (own := own) (C := y.cls) (As := As) (rest := rest) (g := F0 m pc ls st) ⟨C.1, C.2.1, C.2.2.1, C.2.2.2.1, ht⟩ (hM H.size) ⟨callB_of n ht (ws_good (own := own) (idx := idx) f1) rfl rfl rfl (ht _ f2) (ht _ hlink) ⟨f3, f4, f5⟩ hk, ht _ f6, ht _ f7⟩ ⟨PX_blind g _ h _, hcell, PX_now (As := .ref (gB g + 0) :: As) C hE hP hS⟩ rfl hAs hl.1 hst (lv_room hcat) hd hr (p := p) (e := e) (below := below) (meth := meth) (locs := locs)
  intro T hT X0
  have hA : ∀ q, AA g H.size q → AA g s.heap.size q := fun q hq => AA_mono hS.1 hq
  rcases hRun T hT X0 with ⟨v, st₀, t, T', L, h0, X', hL, e1, e2, ⟨v2, h2, hc2, hv, hp, hz, hk2⟩, st9⟩ | ⟨q9, st₀, t, T', L, E9, ce9, h0, X', hL, e1, e2, ⟨hx1, hx2, hx3, hx4⟩, hce9, hcv, hcl, st9⟩
  · cases hv
    rw [h0] at hz hk2
    obtain ⟨t2, a1, b1⟩ := kk v h2 hc2 T'.heap (locs ++ L) ls (by rw [e1]; exact wl_join hP hD hp hk2) (wl_D h2 hD)
      ⟨Nat.le_trans hS.1 (by rw [e1]; exact hz), fun q h1 h2 => by rw [e1, hk2 q (Nat.lt_of_lt_of_le h1 hS.1) (fun z => h2 (hA q z))]; exact hS.2.1 q h1 h2, fun q hq => by
        rcases List.mem_append.mp hq with h3 | h3
        · exact hS.2.2 q h3
        · exact hA _ (hL q h3)⟩ hl T' rfl X'
    exact ⟨t2, st9 t2 a1, b1⟩
  · rw [h0] at hx3 hx4
    obtain ⟨tgt, ⟨pre, x, suf, c1, c2, c3, c4, c5, c6, c7⟩, kx⟩ := kx E9 hx1
    obtain ⟨t2, a1, b1⟩ := vx_catch (H := T'.heap) (locs := locs ++ L) (pc := pc) (E := E9) (ce := ce9) (q := q9) (ls := ls) (rest := rest) C.2.2.2.1 pre x suf (htab.trans c1) c2 c3 c4 c5 c6 (by rw [e1]; exact hce9) hcv hcl
      (by
        rw [c7]
        exact kx q9 T'.heap (locs ++ L) ls (by rw [e1]; exact wl_join hP hD hx2 hx4) (wl_D h hD)
          ⟨Nat.le_trans hS.1 (by rw [e1]; exact hx3), fun q h1 h2 => by rw [e1, hx4 q (Nat.lt_of_lt_of_le h1 hS.1) (fun z => h2 (hA q z))]; exact hS.2.1 q h1 h2, fun q hq => by
            rcases List.mem_append.mp hq with h3 | h3
            · exact hS.2.2 q h3
            · exact hA _ (hL q h3)⟩ hl) T' rfl X'
    exact ⟨t2, st9.trans a1, b1⟩
end GLW
