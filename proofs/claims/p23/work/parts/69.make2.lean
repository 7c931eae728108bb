/-! A CONSTRUCTOR'S CONTRACT: from N cells with contents cp to N2 cells with contents cp2 -/
def PC (g : gW) (N : Nat) (cp : Nat → va_E) : State → Prop := fun U => U.heap.size = gB g + N ∧ va_P (gD g) vwCl (vl g N cp) U.heap ∧ va_K (gD g) vwCl (gT g) U ∧ KC U
def QC (g : gW) (N2 : Nat) (cp2 : Nat → va_E) : Array Value → State → Outcome → State → Prop := fun _ st oc t => oc = .returned none ∧ va_P (gD g) vwCl (vl g N2 cp2) t.heap ∧ va_F (AG g) st t
def CC (g : gW) (l : Launch) (y : MethodName) (cc : ByteArray) (nL k mc ms : Nat) (As : List Value) (N : Nat) (cp : Nat → va_E) (N2 : Nat) (cp2 : Nat → va_E) : Prop :=
  Met l y (ws_ y cc nL none) (rK k mc ms) (va_Pc As (PC g N cp)) (QC g N2 cp2) mc ms (AG g)
theorem PC_blind (g : gW) (As : List Value) (N : Nat) (cp : Nat → va_E) : FrameBlind (va_Pc As (PC g N cp)) := by
  intro a U gg mk q
  obtain ⟨q0, q1, q2, q3, ⟨q4, q5, q6⟩, q7, q8, q9⟩ := q
  refine ⟨q0, q1, q2, va_K.moved (u := U) (U := U.calling gg mk a) (Vm.Alike.refl U.vm) q3, ⟨?_, ?_, ?_⟩, ?_, ?_, ?_⟩
  · exact va_Nw.same rfl (u := U) rfl q4
  · exact va_Nw.same rfl (u := U) rfl q5
  · exact va_Nw.same rfl (u := U) rfl q6
  · exact va_AO.moved (u := U) (U := U.calling gg mk a) (Vm.Alike.refl U.vm) q7
  · exact va_AO.moved (u := U) (U := U.calling gg mk a) (Vm.Alike.refl U.vm) q8
  · exact va_AO.moved (u := U) (U := U.calling gg mk a) (Vm.Alike.refl U.vm) q9
section GCC
variable {g : gW} {p : Program} {l : Launch} {e : Env} {R : Room} {s : State} {m : MethodId} {args : Array Value} {below : List Frame} {meth : Method} {c : Code} {cc : ByteArray} {nL N0 N : Nat} {own : String} {cp : Nat → va_E} {lv : List (Nat × Value)} {cells slots : Nat} {Q : State → Prop} {pc : Nat} {st : List Value}
theorem CC.of {y : MethodName} {k mc ms : Nat} {As : List Value} {N2 : Nat} {cp2 : Nat → va_E} {lv0 : List (Nat × Value)} (hy : plainFor y = true) (hyn : y.name = "<init>") (hn : (lg_sl As).length ≤ nL) (hl0 : lv_args 0 As = lv0)
    (body : ∀ (p : Program) (e : Env) (s : State) (m : MethodId) (below : List Frame) (meth : Method) (c : Code), CV g p s m As.toArray meth c cc nL y.cls N → meth.name = "<init>" → meth.sig.returnType = none →
      VW g p l e (rK k mc ms) s m As.toArray below meth c nL N cp lv0 0 0 (MQ below (QC g N2 cp2) As.toArray s mc ms (AG g)) 0 []) : CC g l y cc nL k mc ms As N cp N2 cp2 := by
  refine va_MetF (cc := cc) (maxL := nL) (ret := none) (ws' := TT) hy rfl ?_
  intro p e s m args below meth c s₁ B hml hv
  obtain ⟨rfl, hsz, hP, hK, hC⟩ := hv
  have hts := atoms_spec (ws := ws_ y cc nL none) B.pre
  have hown : s.vm.findClass y.cls = some m.cls := findClass_of_methodNamed B.named
  have hin : meth.name = "<init>" := (name_of_methodNamed B.named B.method).1.trans hyn
  have hl := lv_entry As (n := nL) hn
  rw [lg_entry_eq]
  rw [hl0] at hl
  exact body p e s m below meth c ⟨B.exec, B.bytes, hml, hown, fun w hw => hts w (List.mem_cons_of_mem _ hw), hK, B.notSynchronized, hsz, hC⟩ hin B.returns s.heap [] _ hP va_S.rf hl
theorem vv_vret {N2 : Nat} {cp2 : Nat → va_E} (C : CV g p s m args meth c cc nL own N0) (hr : meth.sig.returnType = none) (hN : N2 = N) (hc : ∀ o, o < N → cp o = cp2 o) (hd : decode cc pc = .ok (.return_, 1)) : VW g p l e R s m args below meth c nL N cp lv cells slots (MQ below (QC g N2 cp2) args s cells slots (AG g)) pc [] := by
  intro H locs ls hP hS hl
  subst hN
  rw [vl_congr hc] at hP
  exact W.vret C.1 C.2.1 hr (fun t ht _ => ⟨rfl, by rw [ht]; exact hP, hS.F ht⟩) hS.2.2 hd C.2.2.2.2.2.2.1
theorem PC_now {As : List Value} (C : CV g p s m args meth c cc nL own N0) {H : Heap} (hz : H.size = gB g + N) (hP : va_P (gD g) vwCl (vl g N cp) H) : ∀ U : State, U.heap = H → s.WarmedH U.vm → va_Pc As (PC g N cp) As.toArray U :=
  fun U hU hW => ⟨rfl, by rw [hU]; exact hz, by rw [hU]; exact hP, va_K.moved hW.alike C.2.2.2.2.2.1, C.2.2.2.2.2.2.2.2.moved hW⟩
/-- behind a constructor's call -/
theorem vv_after {mc ms N2 : Nat} {cp2 : Nat → va_E} {rest st0 : List Value} {a : Array Value} {H : Heap} {locs : List Loc} {ls : Array Slot} (hS : va_S (AG g) s.heap H locs) (hl : lv_has ls nL lv)
    (hr : va_Run p l e R s m args below meth c H locs cells slots mc ms (F0 m pc ls st0) rest (QC g N2 cp2 a) (AG g))
    (kk : VW g p l e R s m args below meth c nL N2 cp2 lv (cells + mc) (slots + ms) Q (pc + 3) rest) : W p l e R s m args below meth c H locs cells slots Q (F0 m pc ls st0) := by
  intro T hT X0
  obtain ⟨v9, st₀, t, T', L, h0, X', hL, e1, e2, ⟨hv, hp, hz, hk⟩, st9⟩ := hr T hT X0
  cases hv
  rw [h0] at hz hk
  obtain ⟨t2, a1, b1⟩ := kk T'.heap (locs ++ L) ls (by rw [e1]; exact hp)
    ⟨Nat.le_trans hS.1 (by rw [e1]; exact hz), fun q h1 h2 => by rw [e1, hk q (Nat.lt_of_lt_of_le h1 hS.1) h2]; exact hS.2.1 q h1 h2, fun q hq => by
      rcases List.mem_append.mp hq with h3 | h3
      · exact hS.2.2 q h3
      · exact hL q h3⟩ hl T' rfl X'
  exact ⟨t2, st9 t2 a1, b1⟩
/-- how many cells stand, where the count has been kept -/
theorem vv_full {H : Heap} {locs : List Loc} {gg : JFrame} (C : CV g p s m args meth c cc nL own N0) (hP : va_P (gD g) vwCl (vl g N cp) H) (hS : va_S (AG g) s.heap H locs) (hz : N0 + cells = N) (k : H.size = gB g + N → W p l e R s m args below meth c H locs cells slots Q gg) : W p l e R s m args below meth c H locs cells slots Q gg :=
  vv_size (fun hsz => k (by
    have h8 := C.2.2.2.2.2.2.2.1
    rw [h8] at hsz
    have h1 := hS.1
    rw [h8] at h1
    by_cases e : N = 0
    · omega
    · have := vl_lt hP (show N - 1 < N by omega)
      omega))
theorem vv_callC (C : CV g p s m args meth c cc nL own N0) {y : MethodName} {cY : ByteArray} {nLY k mc ms o n idx N2 : Nat} {cp2 : Nat → va_E} {As rest : List Value} (hF : MFb y cY nLY none n) (hyn : y.name = "<init>") (hin : Cond.instanceMethod y ∈ TT) (hM : CC g l y cY nLY k mc ms (.ref (gB g + o) :: As) N cp N2 cp2) (hlink : Cond.methodLink own idx y ∈ TT)
    (hz : N0 + cells = N) (hAs : As.length = n) (hst : st = As.reverse ++ .ref (gB g + o) :: rest) (hcat : (rest.map fun v => v.category).sum ≤ 8) (hk : k + 1 ≤ R.frames ∧ 8 + (nLY + 11) + 28 * k ≤ R.locals) (hr : cells + mc ≤ R.cells ∧ slots + ms ≤ R.slots) (hd : decode cc pc = .ok (.invokespecial idx, 3))
    (kk : VW g p l e R s m args below meth c nL N2 cp2 lv (cells + mc) (slots + ms) Q (pc + 3) rest) : VW g p l e R s m args below meth c nL N cp lv cells slots Q pc st := by
  intro H locs ls hP hS hl
  have ht := C.2.2.2.2.1
  obtain ⟨f1, f2, ⟨f3, f4, f5⟩, -⟩ := hF
  refine vv_full C hP hS hz (fun hsz => ?_)
  exact vv_after hS hl (va_runI (Ts := TT) (own := own) (As := As) (rest := rest) ⟨C.1, C.2.1, C.2.2.1, C.2.2.2.1, ht⟩ hM ⟨callB_of n ht (ws_good (own := own) (idx := idx) f1) rfl rfl rfl (ht _ f2) (ht _ hlink) ⟨f3, f4, f5⟩ hk, hyn, ht _ hin⟩ ⟨PC_blind g _ _ _, PC_now C hsz hP⟩ rfl hAs hl.1 hst (lv_room hcat) hd hr) kk
theorem vv_callN (C : CV g p s m args meth c cc nL own N0) {y : MethodName} {cY : ByteArray} {nLY k mc ms o n idx N2 : Nat} {cp2 : Nat → va_E} {As rest : List Value} (hF : MFb y cY nLY none n) (hyn : y.name = "<init>") (hin : Cond.instanceMethod y ∈ TT) (hM : CC g l y cY nLY k mc ms (.ref (gB g + o) :: As) N cp N2 cp2) {host : String} (hlink : va_Nw (.methodLinkNest own idx y host) s)
    (hz : N0 + cells = N) (hAs : As.length = n) (hst : st = As.reverse ++ .ref (gB g + o) :: rest) (hcat : (rest.map fun v => v.category).sum ≤ 8) (hk : k + 1 ≤ R.frames ∧ 8 + (nLY + 11) + 28 * k ≤ R.locals) (hr : cells + mc ≤ R.cells ∧ slots + ms ≤ R.slots) (hd : decode cc pc = .ok (.invokespecial idx, 3))
    (kk : VW g p l e R s m args below meth c nL N2 cp2 lv (cells + mc) (slots + ms) Q (pc + 3) rest) : VW g p l e R s m args below meth c nL N cp lv cells slots Q pc st := by
  intro H locs ls hP hS hl
  have ht := C.2.2.2.2.1
  obtain ⟨f1, f2, ⟨f3, f4, f5⟩, -⟩ := hF
  refine vv_full C hP hS hz (fun hsz => ?_)
  exact vv_after hS hl (va_runIN (Ts := TT) (own := own) (As := As) (rest := rest) ⟨C.1, C.2.1, C.2.2.1, C.2.2.2.1, ht⟩ hM ⟨va_cnB n ht (ws_good (own := own) (idx := idx) f1) rfl rfl rfl hlink (ht _ f2) ⟨f3, f4, f5⟩ hk, hyn, ht _ hin⟩ ⟨PC_blind g _ _ _, PC_now C hsz hP⟩ rfl hAs hl.1 hst (lv_room hcat) hd hr) kk
end GCC
set_option maxRecDepth 100000 in
set_option maxHeartbeats 1600000 in
theorem cc_X3_init {g : gW} {l : Launch} {N o : Nat} {cp : Nat → va_E} : CC g l yX3_init cX3_init 1 1 0 0 [.ref (gB g + o)] N cp N cp := by
  refine CC.of (lv0 := [(0, .ref (gB g + o))]) mf_X3_init.2.2.2 rfl (Nat.le_of_ble_eq_true rfl) rfl ?_
  intro p e s m below meth c C hin hr
  refine vv_aload_n C dX3_init_0 0 rfl rfl ?_
  refine vv_oinit C q_m_X3_1 dX3_init_1 (Nat.le_of_ble_eq_true rfl) (Nat.le_of_ble_eq_true rfl) ?_
  exact vv_vret C hr rfl (fun _ _ => rfl) dX3_init_4
set_option maxRecDepth 100000 in
set_option maxHeartbeats 1600000 in
theorem cc_X1_init {g : gW} {l : Launch} {N o : Nat} {cp : Nat → va_E} : CC g l yX1_init cX1_init 1 1 0 0 [.ref (gB g + o)] N cp N cp := by
  refine CC.of (lv0 := [(0, .ref (gB g + o))]) mf_X1_init.2.2.2 rfl (Nat.le_of_ble_eq_true rfl) rfl ?_
  intro p e s m below meth c C hin hr
  refine vv_aload_n C dX1_init_0 0 rfl rfl ?_
  refine vv_oinit C q_m_X1_3 dX1_init_1 (Nat.le_of_ble_eq_true rfl) (Nat.le_of_ble_eq_true rfl) ?_
  exact vv_vret C hr rfl (fun _ _ => rfl) dX1_init_4
abbrev eP (r : Nat → Int32) : va_E := .inr (2, [.int (r 0), .int (r 1), .int (r 2), .int (r 3), .int (r 4), .int (r 5), .int (r 6), .int (r 7), .int (r 8), .int (r 9)])
abbrev eW : va_E := .inr (3, [.int 0, .int 0, .int 0])
abbrev eF : va_E := .inr (1, [.int 0, .int 0, .int 0, .int 0, .int 0])
abbrev eP0 : va_E := .inr (2, [.int 0, .int 0, .int 0, .int 0, .int 0, .int 0, .int 0, .int 0, .int 0, .int 0])
abbrev eP1 : va_E := .inr (2, [.int 0, .int 0, .int 0, .int 0, .int 0, .int 0, .int 0, .int 0, .int (-1), .int 0])
set_option maxRecDepth 100000 in
set_option maxHeartbeats 1600000 in
theorem cc_X2_init {g : gW} {l : Launch} {N o : Nat} {cp : Nat → va_E} (ho : o < N) (he : cp o = eP0) : CC g l yX2_init cX2_init 1 1 0 0 [.ref (gB g + o)] N cp N (cu cp o eP1) := by
  refine CC.of (lv0 := [(0, .ref (gB g + o))]) mf_X2_init.2.2.2 rfl (Nat.le_of_ble_eq_true rfl) rfl ?_
  intro p e s m below meth c C hin hr
  refine vv_aload_n C dX2_init_0 0 rfl rfl ?_
  refine vv_oinit C q_m_X2_3 dX2_init_1 (Nat.le_of_ble_eq_true rfl) (Nat.le_of_ble_eq_true rfl) ?_
  refine vv_aload_n C dX2_init_4 0 rfl rfl ?_
  refine vv_iconst (v := -1) C dX2_init_5 (by decide) ?_
  refine vv_put (T := TX2) (Nf := 10) C ho he rfl inX2 tyX2 tyX2_ok nmX2 8 (by decide) q_f_X2_9 rfl rfl rfl (Nat.le_of_ble_eq_true rfl) dX2_init_6 ?_
  exact vv_vret C hr rfl (fun _ _ => rfl) dX2_init_9
