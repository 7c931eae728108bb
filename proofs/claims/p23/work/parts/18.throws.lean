/-! METHODS THAT THROW. 'EXs': what a throw needs of the state: words that the tables decide, the texts, Throwable's two statics. 'XT .. args h r': from the numbers h the method returns (r = .inl (v, h2)) or throws (r = .inr E), the numbers as they were. -/
abbrev E_I : String := "java/lang/IndexOutOfBoundsException"
abbrev E_A : String := "java/lang/IllegalArgumentException"
abbrev E_S : String := "java/lang/IllegalStateException"
abbrev eNm : List String := ["java/lang/RuntimeException", "java/lang/Exception"]
def NBl : List Cond := [.castable E_I E_I, .castable E_A E_A, .castable E_S E_S, .declares ⟨"java/lang/RuntimeException", "<init>", "(Ljava/lang/String;)V"⟩, .declares ⟨"java/lang/Exception", "<init>", "(Ljava/lang/String;)V"⟩, .declares ⟨"java/lang/Throwable", "<init>", "(Ljava/lang/String;)V"⟩]
def SLl : List (String × Nat × String) := [(RX4, 204, "what is not 0 to 7"), (RX0, 70, "no such day in the table"), (RX0, 75, "no such pond"), (RX4, 116, "what is not 0 to 11"), (RX0, 77, "no such flock"), (RX4, 176, "what is not 0 to 5"), (RX4, 27, "x or y is not 0 to 40"), (RX4, 32, "height is not 0 to 300, size not 1 to 60, or depth not 1 to 9"), (RX0, 81, "there are as many ponds as there may be"), (RX0, 88, "there is a pond at this place"), (RX4, 48, "the other pond does not lie lower"), (RX4, 53, "clay is not 1 to 100"), (RX4, 61, "there is too much water in the pond"), (RX4, 81, "by is not -10000 to 10000"), (RX4, 123, "mist, rain or sun is not 0 to 9"), (RX4, 139, "there would be more than 500 on the heap"), (RX4, 141, "sheep is not 1 to 80"), (RX0, 109, "there are as many flocks as there may be"), (RX4, 155, "the flock is lost"), (RX4, 178, "days is not 1 to 100"), (RX4, 213, "days is not 1 to 50")]
def AG (g : gW) : Nat → Prop := fun q => gB g ≤ q
def EXs (g : gW) (U : State) : Prop := (∀ w ∈ NBl, va_Nw w U) ∧ (∀ q ∈ SLl, ∃ a, vk_R q.1 q.2.1 q.2.2 a U) ∧ vx_Zq Bundle.tN "UNASSIGNED_STACK" Bundle.steD (AG g) U U.heap ∧ vx_Zq Bundle.tN "SUPPRESSED_SENTINEL" Bundle.listD (AG g) U U.heap
theorem nb_warm {s U : State} (hW : s.WarmedH U.vm) {w : Cond} (hw : w ∈ NBl) (h : va_Nw w s) : va_Nw w U := by
  simp only [NBl, List.mem_cons, List.not_mem_nil, or_false] at hw
  rcases hw with rfl | rfl | rfl | rfl | rfl | rfl
  · exact va_Nw.warmC hW h
  · exact va_Nw.warmC hW h
  · exact va_Nw.warmC hW h
  · exact va_Nw.warmD hW h
  · exact va_Nw.warmD hW h
  · exact va_Nw.warmD hW h
theorem EXs.warm {g : gW} {s U : State} (h : EXs g s) (hW : s.WarmedH U.vm) (hq : ∀ a : Nat, a < s.heap.size → ¬ AG g a → U.heap[a]? = s.heap[a]?) : EXs g U := by
  obtain ⟨h1, h2, h3, h4⟩ := h
  refine ⟨fun w hw => nb_warm hW hw (h1 w hw), fun q hq => ?_, vx_Zq.moved hW.alike (h3.kept hq), vx_Zq.moved hW.alike (h4.kept hq)⟩
  obtain ⟨a, ha⟩ := h2 q hq
  exact ⟨a, ha.warm hW⟩
theorem AA_AG {g : gW} {sz q : Nat} (hb : gB g + 64 ≤ sz) (h : AA g sz q) : AG g q := by
  rcases h with h | h
  · exact h.1
  · show gB g ≤ q
    omega
def PX (g : gW) (h : Hp) (sz : Nat) : State → Prop := fun U => PW g h sz U ∧ EXs g U
def QX (g : gW) (sz : Nat) (r : (Option Value × Hp) ⊕ String) : Array Value → State → Outcome → State → Prop := fun a st oc t => ∃ (v : Option Value) (h2 : Hp), r = .inl (v, h2) ∧ QW g sz v h2 a st oc t
def XX (g : gW) (sz : Nat) (h : Hp) (r : (Option Value × Hp) ⊕ String) : String → State → State → Prop := fun E st t => r = .inr E ∧ va_P (gD g) vwCl (wl g [] h) t.heap ∧ va_F (AA g sz) st t
def XT (g : gW) (l : Launch) (y : MethodName) (cc : ByteArray) (nL : Nat) (rt : Option FieldType) (k : Nat) (As : List Value) (h : Hp) (r : (Option Value × Hp) ⊕ String) : Prop :=
  ∀ sz : Nat, vx_Met l y (ws_ y cc nL rt) (rK k 1 6) (va_Pc As (PX g h sz)) (QX g sz r) (XX g sz h r) 1 6 (AA g sz)
theorem PX_blind (g : gW) (As : List Value) (h : Hp) (sz : Nat) : FrameBlind (va_Pc As (PX g h sz)) := by
  intro a U gg mk q
  obtain ⟨q0, q1, q2, q3, q4, q5⟩ := q
  have hp := PW_blind g As h sz a U gg mk ⟨q0, q1⟩
  refine ⟨hp.1, hp.2, fun w hw => ?_, fun z hz => ?_, vx_Zq.moved (u := U) (U := U.calling gg mk a) (Vm.Alike.refl U.vm) q4, vx_Zq.moved (u := U) (U := U.calling gg mk a) (Vm.Alike.refl U.vm) q5⟩
  · have h1 := q2 w hw
    have ht : w.onTables = true := by
      simp only [NBl, List.mem_cons, List.not_mem_nil, or_false] at hw
      rcases hw with rfl | rfl | rfl | rfl | rfl | rfl <;> rfl
    exact va_Nw.same ht (u := U) rfl h1
  · obtain ⟨x, hx⟩ := q3 z hz
    exact ⟨x, vk_R.same (u := U) rfl hx⟩
section GWX
variable {g : gW} {p : Program} {l : Launch} {e : Env} {R : Room} {s : State} {m : MethodId} {args : Array Value} {below : List Frame} {meth : Method} {c : Code} {cc : ByteArray} {nL : Nat} {own : String} {X : va_W} {h : Hp} {lv : List (Nat × Value)} {cells slots : Nat} {Q : State → Prop} {pc : Nat} {st : List Value}
theorem XT.of {y : MethodName} {rt : Option FieldType} {k : Nat} {As : List Value} {r : (Option Value × Hp) ⊕ String} {lv0 : List (Nat × Value)} (hy : plainName y.cls = true) (hn : (lg_sl As).length ≤ nL) (hl0 : lv_args 0 As = lv0)
    (body : ∀ (p : Program) (e : Env) (s : State) (m : MethodId) (below : List Frame) (meth : Method) (c : Code), CX g p s m As.toArray meth c cc nL y.cls → EXs g s → (∀ x ∈ c.exceptionTable.toList, False) → meth.sig.returnType = rt →
      WW g p l e (rK k 1 6) s m As.toArray below meth c nL [] h lv0 0 0 (vx_MQ below (QX g s.heap.size r) (XX g s.heap.size h r) As.toArray s 1 6 (AA g s.heap.size)) 0 []) : XT g l y cc nL rt k As h r := by
  intro sz
  refine vx_ofW (cc := cc) (maxL := nL) (ret := rt) (ws' := TT) hy rfl ?_
  intro p e s m args below meth c s₁ B hml hex hv
  obtain ⟨rfl, ⟨hsz, hb71, hP, hK⟩, hE⟩ := hv
  subst hsz
  have hts := atoms_spec (ws := ws_ y cc nL rt) B.pre
  have hown : s.vm.findClass y.cls = some m.cls := findClass_of_methodNamed B.named
  have hl := lv_entry As (n := nL) hn
  rw [lg_entry_eq]
  rw [hl0] at hl
  exact body p e s m below meth c ⟨B.exec, B.bytes, hml, hown, fun w hw => hts w (List.mem_cons_of_mem _ hw), hK, B.notSynchronized, hb71⟩ hE hex B.returns s.heap [] _ hP (wl_D0 (fun q hq => Or.inl hq)) va_S.rf hl
/-- an ordinary end of a method that may throw -/
theorem ww_xret {v : Option Value} {h0 h2 : Hp} {r : (Option Value × Hp) ⊕ String} {mc ms : Nat} (hr : r = .inl (v, h2)) (k : WW g p l e R s m args below meth c nL X h lv cells slots (MQ below (QW g s.heap.size v h2) args s mc ms (AA g s.heap.size)) pc st) : WW g p l e R s m args below meth c nL X h lv cells slots (vx_MQ below (QX g s.heap.size r) (XX g s.heap.size h0 r) args s mc ms (AA g s.heap.size)) pc st := by
  intro H locs ls hP hD hS hl
  refine vx_ret ?_
  intro T hT X0
  obtain ⟨t, a1, o, b1, b2, b3, b4⟩ := k H locs ls hP hD hS hl T hT X0
  exact ⟨t, a1, o, b1, b2, ⟨v, h2, hr, b3⟩, b4⟩
def goodX (own : String) (ic : Nat) (cls : String) : Prop := ∀ w ∈ vx_atS own ic cls eNm, w ∈ TT ∨ w ∈ NBl
/-- new X(text), thrown -/
theorem ww_throw (C : CX g p s m args meth c cc nL own) (hE : EXs g s) (hex : ∀ x ∈ c.exceptionTable.toList, False) (hst : l.stackTraces = false) {cls text : String} {ik is ic mc ms : Nat} {r : (Option Value × Hp) ⊕ String} (hr : r = .inr cls)
    (hcls : Bundle.fit cls = true) (hk : Cond.classLink own ik cls ∈ TT) (hini : Cond.initialized cls ∈ TT) (hs : (own, is, text) ∈ SLl) (hat : goodX own ic cls) (hgood : (Cond.classLink own ik cls :: Cond.initialized cls :: vx_atS own ic cls eNm).all vx_ot = true)
    (d0 : decode cc pc = .ok (.new ik, 3)) (d3 : decode cc (pc + 3) = .ok (.dup, 1)) (d4 : decode cc (pc + 4) = .ok (.ldc is, 2)) (d6 : decode cc (pc + 6) = .ok (.invokespecial ic, 3)) (d9 : decode cc (pc + 9) = .ok (.athrow, 1))
    (hRf : 5 < R.frames) (hRl : (st.map fun v => v.category).sum + 82 ≤ R.locals) (hRc : cells + 1 ≤ R.cells) (hRs : slots + 6 ≤ R.slots) (hc : cells + 1 ≤ mc) (hsl : slots + 6 ≤ ms) :
    WW g p l e R s m args below meth c nL X h lv cells slots (vx_MQ below (QX g s.heap.size r) (XX g s.heap.size h r) args s mc ms (AA g s.heap.size)) pc st := by
  intro H locs ls hP hD hS hl
  have ht := C.2.2.2.2.1
  obtain ⟨e1, e2, e3, e4⟩ := hE
  obtain ⟨sa, hsa⟩ := e2 _ hs
  have hb := C.2.2.2.2.2.2.2
  refine vx_throwS (names := eNm) (A := AA g s.heap.size) C.1 C.2.1 hst C.2.2.2.1 hcls (by decide +kernel) (ht _ hk) (ht _ hini) hsa ?_ (fun w hw => List.all_eq_true.mp hgood w hw) (e3.narrow (fun q hq => AA_AG hb hq)) (e4.narrow (fun q hq => AA_AG hb hq)) hS (hl.1.trans C.2.2.1.symm) d0 d3 d4 d6 d9 (fun x hx => (hex x hx).elim) hRf hRl hRc hRs C.2.2.2.2.2.2.1 ?_ hS.2.2 hc hsl
  · intro w hw
    rcases hat w hw with h1 | h1
    · exact ht w h1
    · refine va_Nw.use ?_ (e1 w h1)
      simp only [NBl, List.mem_cons, List.not_mem_nil, or_false] at h1
      rcases h1 with rfl | rfl | rfl | rfl | rfl | rfl <;> rfl
  · intro t hal hz hkp
    refine ⟨hr, (wl_sub hP).kept (fun k q hq => ?_), ⟨Nat.le_trans hS.1 hz, fun q h1 h2 => ?_⟩⟩
    · exact hkp q.1 ((wl_sub hP) k q hq).lt
    · rw [hkp q (Nat.lt_of_lt_of_le h1 hS.1)]
      exact hS.2.1 q h1 h2
theorem PX_now {As : List Value} (C : CX g p s m args meth c cc nL own) (hE : EXs g s) {H : Heap} {locs : List Loc} (hP : va_P (gD g) vwCl (wl g X h) H) (hS : va_S (AA g s.heap.size) s.heap H locs) : ∀ U : State, U.heap = H → s.WarmedH U.vm → va_Pc As (PX g h H.size) As.toArray U := by
  intro U hU hW
  have h1 := PW_now (y := objectInit) (As := As) C hP hS U hU hW
  refine ⟨h1.1, h1.2, hE.warm hW (fun a h2 h3 => ?_)⟩
  rw [hU]
  exact hS.2.1 a h2 (fun z => h3 (AA_AG C.2.2.2.2.2.2.2 z))
/-- a call that throws, and the caller with it -/
theorem ww_callVx (C : CX g p s m args meth c cc nL own) (hE : EXs g s) (hex : ∀ x ∈ c.exceptionTable.toList, False) {y : MethodName} {cY : ByteArray} {nLY k o n idx ci mc ms : Nat} {rt : Option FieldType} {As rest : List Value} {E : String} {r : (Option Value × Hp) ⊕ String} (hr9 : r = .inr E) (hF : MFv y cY nLY rt n) (hd : decode cc pc = .ok (.invokevirtual idx, 3)) (hM : XT g l y cY nLY rt k (.ref (gB g + o) :: As) h (.inr E)) (hlink : Cond.methodLink own idx y ∈ TT)
    (ho : o < 64) {q : vw_C} (hq : vwCl[ci]? = some q) (hqc : q.1 = y.cls) (hce : ∃ fs, ce g (h o) o = .inr (ci, fs)) (hAs : As.length = n) (hst : st = As.reverse ++ .ref (gB g + o) :: rest) (hcat : (rest.map fun v => v.category).sum ≤ 8) (hk : k + 1 ≤ R.frames ∧ 8 + (nLY + 11) + 28 * k ≤ R.locals) (hr : cells + 1 ≤ R.cells ∧ slots + 6 ≤ R.slots) (hc : cells + 1 ≤ mc) (hsl : slots + 6 ≤ ms) :
    WW g p l e R s m args below meth c nL X h lv cells slots (vx_MQ below (QX g s.heap.size r) (XX g s.heap.size h r) args s mc ms (AA g s.heap.size)) pc st := by
  intro H locs ls hP hD hS hl
  have ht := C.2.2.2.2.1
  obtain ⟨⟨f1, f2, ⟨f3, f4, f5⟩, -⟩, f6, f7⟩ := hF
  obtain ⟨fs, hce⟩ := hce
  have hcell : ∃ cellB : Cell, H[gB g + o]? = some cellB ∧ cellB.vm.isStatics = false ∧ s.vm.findClass y.cls = some cellB.cls := by
    have := va_recv C.2.2.2.2.2.1 hP hq (show (wl g X h)[o]? = some (gB g + o, .inr (ci, fs)) by rw [wl_get ho, hce])
    rw [hqc] at this
    exact this
  have hRun := vx_runV (Ts := TT) (own := own) (C := y.cls) (As := As) (rest := rest) (g := F0 m pc ls st) ⟨C.1, C.2.1, C.2.2.1, C.2.2.2.1, ht⟩ (hM H.size) ⟨callB_of n ht (ws_good (own := own) (idx := idx) f1) rfl rfl rfl (ht _ f2) (ht _ hlink) ⟨f3, f4, f5⟩ hk, ht _ f6, ht _ f7⟩ ⟨PX_blind g _ h _, hcell, PX_now (As := .ref (gB g + o) :: As) C hE hP hS⟩ rfl hAs hl.1 hst (lv_room hcat) hd hr (p := p) (e := e) (below := below) (meth := meth) (locs := locs)
  intro T hT X0
  rcases hRun T hT X0 with ⟨v, st₀, t, T', L, h0, X', hL, e1, e2, ⟨v2, h2, hc2, -⟩, -⟩ | ⟨q9, st₀, t, T', L, E9, ce9, h0, X', hL, e1, e2, ⟨hx1, hx2, hx3, hx4⟩, hce9, hcv, hcl, st9⟩
  · cases hc2
  · cases hx1
    rw [h0] at hx3 hx4
    have hA : ∀ q, AA g H.size q → AA g s.heap.size q := fun q hq => AA_mono hS.1 hq
    obtain ⟨t2, a1, b1⟩ := vx_out (H := T'.heap) (locs := locs ++ L) (pc := pc) (E := E) (ce := ce9) (q := q9) (mc := mc) (ms := ms) (Qc := QX g s.heap.size r) (XC := XX g s.heap.size h r) (free := AA g s.heap.size) (ls := ls) (rest := rest) (args := args) (fun x hx => (hex x hx).elim) C.2.2.2.2.2.2.1 (by rw [e1]; exact hce9) hcv hcl
      (fun t0 ht0 _ => ⟨hr9, by rw [ht0, e1]; exact hx2, ⟨by rw [ht0, e1]; exact Nat.le_trans hS.1 hx3, fun q h1 h2 => by rw [ht0, e1, hx4 q (Nat.lt_of_lt_of_le h1 hS.1) (fun z => h2 (hA q z))]; exact hS.2.1 q h1 h2⟩⟩)
      (fun z hz => by
        rcases List.mem_append.mp hz with h3 | h3
        · exact hS.2.2 z h3
        · exact hA _ (hL z h3)) hc hsl T' rfl X'
    exact ⟨t2, st9.trans a1, b1⟩
end GWX
