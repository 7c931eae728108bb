/-! the class's methods called from the law: they change the class's cells alone -/
theorem gb_end {g : gW} {X : va_W} {h : Hp} {H : Heap} (hP : va_P (gD g) vwCl (wl g X h) H) : gB g + 64 ≤ H.size := by
  have := (hP 63 _ (wl_get (by omega))).lt
  show gB g + 63 + 1 ≤ H.size
  exact this
section GCC
variable {g : gW} {p : Program} {l : Launch} {e : Env} {R : Room} {s : State} {m : MethodId} {args : Array Value} {below : List Frame} {meth : Method} {c : Code} {cc : ByteArray} {nL : Nat} {own : String} {X : va_W} {h : Hp} {lv : List (Nat × Value)} {cells slots : Nat} {Q : State → Prop} {pc : Nat} {st : List Value}
theorem gc_after {mc ms : Nat} {v : Option Value} {h2 : Hp} {rest st0 : List Value} {a : Array Value} {H : Heap} {locs : List Loc} {ls : Array Slot} (hP : va_P (gD g) vwCl (wl g X h) H) (hD : va_D (FF (AG g) s.heap.size) (wl g X h)) (hS : va_S (FF (AG g) s.heap.size) s.heap H locs) (hl : lv_has ls nL lv)
    (hr : va_Run p l e R s m args below meth c H locs cells slots mc ms (F0 m pc ls st0) rest (QW g H.size v h2 a) (AA g H.size))
    (kk : GW g p l e R s m args below meth c nL (wl g X h2) (FF (AG g) s.heap.size) lv (cells + mc) (slots + ms) Q (pc + 3) (v.toList ++ rest)) : W p l e R s m args below meth c H locs cells slots Q (F0 m pc ls st0) := by
  intro T hT X0
  obtain ⟨v9, st₀, t, T', L, h0, X', hL, e1, e2, ⟨hv, hp, hz, hk⟩, st9⟩ := hr T hT X0
  cases hv
  rw [h0] at hz hk
  have hA : ∀ q, AA g H.size q → FF (AG g) s.heap.size q := fun q hq => hq.elim (fun z => Or.inl z.1) (fun z => Or.inr (Nat.le_trans hS.1 z))
  obtain ⟨t2, a1, b1⟩ := kk T'.heap (locs ++ L) ls (by rw [e1]; exact wl_join hP hD hp hk) (wl_D h2 hD)
    ⟨Nat.le_trans hS.1 (by rw [e1]; exact hz), fun q h1 h2 => by rw [e1, hk q (Nat.lt_of_lt_of_le h1 hS.1) (fun z => h2 (hA q z))]; exact hS.2.1 q h1 h2, fun q hq => by
      rcases List.mem_append.mp hq with h3 | h3
      · exact hS.2.2 q h3
      · exact hA _ (hL q h3)⟩ hl T' rfl X'
  exact ⟨t2, st9 t2 a1, b1⟩
theorem gc_PW {As : List Value} (C : CG g p s m args meth c cc nL own) {H : Heap} {locs : List Loc} (hP : va_P (gD g) vwCl (wl g X h) H) (hS : va_S (FF (AG g) s.heap.size) s.heap H locs) : ∀ U : State, U.heap = H → s.WarmedH U.vm → va_Pc As (PW g h H.size) As.toArray U := by
  intro U hU hW
  exact ⟨rfl, by rw [hU], gb_end hP, by rw [hU]; exact wl_sub hP, va_K.moved hW.alike C.2.2.2.2.2.1⟩
theorem gc_PX {As : List Value} (C : CG g p s m args meth c cc nL own) (hE : EXs g s) {H : Heap} {locs : List Loc} (hP : va_P (gD g) vwCl (wl g X h) H) (hS : va_S (FF (AG g) s.heap.size) s.heap H locs) : ∀ U : State, U.heap = H → s.WarmedH U.vm → va_Pc As (PX g h H.size) As.toArray U := by
  intro U hU hW
  have h1 := gc_PW (As := As) C hP hS U hU hW
  refine ⟨h1.1, h1.2, hE.warm hW (fun a h2 h3 => ?_)⟩
  rw [hU]
  exact hS.2.1 a h2 (fun z => z.elim h3 (fun z => absurd h2 (by omega)))
theorem gc_callC (C : CG g p s m args meth c cc nL own) {y : MethodName} {cY : ByteArray} {nLY k mc ms n idx : Nat} {rt : Option FieldType} {As rest : List Value} {v : Option Value} {h2 : Hp} (hF : MFv y cY nLY rt n) (hM : CT g l y cY nLY rt k mc ms (.ref (gB g + 0) :: As) h v h2) (hlink : Cond.methodLink own idx y ∈ TT)
    (hqc : RX4 = y.cls) (hAs : As.length = n) (hst : st = As.reverse ++ .ref (gB g + 0) :: rest) (hcat : (rest.map fun v => v.category).sum ≤ 8) (hk : k + 1 ≤ R.frames ∧ 8 + (nLY + 11) + 28 * k ≤ R.locals) (hr : cells + mc ≤ R.cells ∧ slots + ms ≤ R.slots) (hd : decode cc pc = .ok (.invokevirtual idx, 3))
    (kk : GW g p l e R s m args below meth c nL (wl g X h2) (FF (AG g) s.heap.size) lv (cells + mc) (slots + ms) Q (pc + 3) (v.toList ++ rest)) : GW g p l e R s m args below meth c nL (wl g X h) (FF (AG g) s.heap.size) lv cells slots Q pc st := by
  intro H locs ls hP hD hS hl
  have ht := C.2.2.2.2.1
  obtain ⟨⟨f1, f2, ⟨f3, f4, f5⟩, -⟩, f6, f7⟩ := hF
  have hcell : ∃ cellB : Cell, H[gB g + 0]? = some cellB ∧ cellB.vm.isStatics = false ∧ s.vm.findClass y.cls = some cellB.cls := by
    have := va_recv (ci := 4) (q := (RX4, TX4, 2)) C.2.2.2.2.2.1 hP rfl (show (wl g X h)[0]? = some (gB g + 0, .inr (4, [.ref (gB g + 1), .ref (gB g + 32)])) from wl_get (show 0 < 64 by omega))
    rw [← hqc]
    exact this
  exact gc_after hP hD hS hl (va_runV (Ts := TT) (own := own) (C := y.cls) (As := As) (rest := rest) ⟨C.1, C.2.1, C.2.2.1, C.2.2.2.1, ht⟩ (hM H.size) ⟨callB_of n ht (ws_good (own := own) (idx := idx) f1) rfl rfl rfl (ht _ f2) (ht _ hlink) ⟨f3, f4, f5⟩ hk, ht _ f6, ht _ f7⟩ ⟨PW_blind g _ h _, hcell, gc_PW (As := .ref (gB g + 0) :: As) C hP hS⟩ rfl hAs hl.1 hst (lv_room hcat) hd hr) kk
theorem gc_callX (C : CG g p s m args meth c cc nL own) (hE : EXs g s) {y : MethodName} {cY : ByteArray} {nLY k n idx : Nat} {rt : Option FieldType} {As rest : List Value} {v : Option Value} {h2 : Hp} {r : (Option Value × Hp) ⊕ String} (hF : MFv y cY nLY rt n) (hM : XT g l y cY nLY rt k (.ref (gB g + 0) :: As) h r) (hr9 : r = .inl (v, h2)) (hlink : Cond.methodLink own idx y ∈ TT)
    (hqc : RX4 = y.cls) (hAs : As.length = n) (hst : st = As.reverse ++ .ref (gB g + 0) :: rest) (hcat : (rest.map fun v => v.category).sum ≤ 8) (hk : k + 1 ≤ R.frames ∧ 8 + (nLY + 11) + 28 * k ≤ R.locals) (hr : cells + 1 ≤ R.cells ∧ slots + 6 ≤ R.slots) (hd : decode cc pc = .ok (.invokevirtual idx, 3))
    (kk : GW g p l e R s m args below meth c nL (wl g X h2) (FF (AG g) s.heap.size) lv (cells + 1) (slots + 6) Q (pc + 3) (v.toList ++ rest)) : GW g p l e R s m args below meth c nL (wl g X h) (FF (AG g) s.heap.size) lv cells slots Q pc st := by
  intro H locs ls hP hD hS hl
  have ht := C.2.2.2.2.1
  obtain ⟨⟨f1, f2, ⟨f3, f4, f5⟩, -⟩, f6, f7⟩ := hF
  subst hr9
  have hcell : ∃ cellB : Cell, H[gB g + 0]? = some cellB ∧ cellB.vm.isStatics = false ∧ s.vm.findClass y.cls = some cellB.cls := by
    have := va_recv (ci := 4) (q := (RX4, TX4, 2)) C.2.2.2.2.2.1 hP rfl (show (wl g X h)[0]? = some (gB g + 0, .inr (4, [.ref (gB g + 1), .ref (gB g + 32)])) from wl_get (show 0 < 64 by omega))
    rw [← hqc]
    exact this
  have hRun := vx_runV (Ts := TT) (own := own) (C := y.cls) (As := As) (rest := rest) (g := F0 m pc ls st) ⟨C.1, C.2.1, C.2.2.1, C.2.2.2.1, ht⟩ (hM H.size) ⟨callB_of n ht (ws_good (own := own) (idx := idx) f1) rfl rfl rfl (ht _ f2) (ht _ hlink) ⟨f3, f4, f5⟩ hk, ht _ f6, ht _ f7⟩ ⟨PX_blind g _ h _, hcell, gc_PX (As := .ref (gB g + 0) :: As) C hE hP hS⟩ rfl hAs hl.1 hst (lv_room hcat) hd hr (p := p) (e := e) (below := below) (meth := meth) (locs := locs)
  refine gc_after (a := (.ref (gB g + 0) :: As).toArray) hP hD hS hl (fun T hT X0 => ?_) kk
  rcases hRun T hT X0 with ⟨v9, st₀, t, T', L, h0, X', hL, e1, e2, ⟨v2, h2', hc2, hq9⟩, hgo⟩ | ⟨q9, st₀, t, T', L, E9, ce9, h0, X', hL, e1, e2, ⟨hx1, -⟩, -⟩
  · cases hc2
    exact ⟨v9, st₀, t, T', L, h0, X', hL, e1, e2, hq9, hgo⟩
  · cases hx1
end GCC
