theorem q_ac_int : (Cond.arrayClass .int) ∈ TT := tt_r (List.mem_of_getElem? (i := 107) (by decide +kernel)) (by decide +kernel)
theorem q_n_Sys : (Cond.initialized "java/lang/System") ∈ TT := tt_r (List.mem_of_getElem? (i := 14) (by decide +kernel)) (by decide +kernel)
theorem q_sm_clone : (Cond.sameMethod "[I" "java/lang/Object" "clone" "()Ljava/lang/Object;") ∈ TT := tt_r (List.mem_of_getElem? (i := 853) (by decide +kernel)) (by decide +kernel)
theorem q_nat_clone : (Cond.native ⟨"java/lang/Object", "clone", "()Ljava/lang/Object;"⟩) ∈ TT := tt_r (List.mem_of_getElem? (i := 854) (by decide +kernel)) (by decide +kernel)
theorem q_i_clone : (Cond.instanceMethod ⟨"java/lang/Object", "clone", "()Ljava/lang/Object;"⟩) ∈ TT := tt_r (List.mem_of_getElem? (i := 855) (by decide +kernel)) (by decide +kernel)
theorem q_s_clone : (Cond.selects "[I" ⟨"[I", "clone", "()Ljava/lang/Object;"⟩ ⟨"java/lang/Object", "clone", "()Ljava/lang/Object;"⟩) ∈ TT := tt_r (List.mem_of_getElem? (i := 856) (by decide +kernel)) (by decide +kernel)
theorem wl_setX {g : gW} {X : va_W} {h : Hp} {i : Nat} {v : Nat × va_E} : (wl g X h).set (71 + i) v = wl g (X.set i v) h := by
  unfold wl
  rw [List.set_append_right _ _ (by simp)]
  simp
theorem wl_addX {g : gW} {X : va_W} {h : Hp} {v : Nat × va_E} : wl g X h ++ [v] = wl g (X ++ [v]) h := by
  unfold wl
  rw [List.append_assoc]
def hp_row (h : Hp) (o : Nat) (r : Nat → Int32) : Hp := fun a => if a = o then r else h a
theorem hp_row_eq {h : Hp} {o : Nat} {r : Nat → Int32} : hp_row h o r o = r := if_pos rfl
theorem hp_row_ne {h : Hp} {o a : Nat} {r : Nat → Int32} (e : a ≠ o) : hp_row h o r a = h a := if_neg e
theorem wl_setR {g : gW} {X : va_W} {h : Hp} {o : Nat} (ho : o < 71) (r : Nat → Int32) : (wl g X h).set o (gB g + o, ce g r o) = wl g X (hp_row h o r) := by
  unfold wl
  apply List.ext_getElem?
  intro j
  by_cases hj : j = o
  · subst hj
    rw [List.getElem?_set_self (by simp; omega), List.getElem?_append_left (by simpa using ho)]
    simp [ho, hp_row]
  · rw [List.getElem?_set_ne (Ne.symm hj)]
    by_cases hl : j < 71
    · rw [List.getElem?_append_left (by simpa using hl), List.getElem?_append_left (by simpa using hl)]
      simp [hl, hp_row, hj]
    · rw [List.getElem?_append_right (by simp; omega), List.getElem?_append_right (by simp; omega)]
      simp
abbrev xI (g : gW) (q N : Nat) (f : Nat → Int32) : Nat × va_E := (q, .inl (gA g 0, N, .inl f))
abbrev xA (g : gW) (q N : Nat) (f : Nat → Option Nat) : Nat × va_E := (q, .inl (gA g 5, N, .inr (.inr (.inr (.inr f)))))
/-- what arrays of arrays need of the state -/
def KX (U : State) : Prop := va_Nw (.castable "[I" "java/lang/Cloneable") U ∧ (Cond.arrayOver (.array .int)).before #[] U = true
theorem ovA_moved {u U : State} (hvm : u.vm.Alike U.vm) (h : (Cond.arrayOver (.array .int)).before #[] u = true) : (Cond.arrayOver (.array .int)).before #[] U = true := by
  obtain ⟨comp, c, k, h1, h2, h3, h4, h5⟩ := arrayOverA_spec h
  obtain ⟨k', hk', he⟩ := hvm.2.2 _ _ h3
  have hi : (U.vm.classes.findIdx? fun (x : Class) => match x.kind with | .array component _ => component == comp | _ => false) = some c := by
    rw [hvm.findIdx?_eq _ (fun _ => rfl)]
    exact h2
  have hkind : k'.kind = .array comp (.array .int) := by rw [he]; exact h4
  have f1 : U.vm.findClass (FieldType.array .int).toString = some comp := by rw [hvm.findClass]; exact h1
  have f2 : U.vm.findClass ("[" ++ (FieldType.array .int).toString) = some c := by rw [hvm.findClass]; exact h5
  unfold Cond.before Cond.holds
  simp only [Cond.value]
  rw [f1, Option.bind_some]
  refine (congrArg (fun o : Option Nat => (o.bind (fun c => (U.vm.classes[c]?).map fun (k : Class) => match k.kind with | .array _ ty => decide (ty = FieldType.array .int) && decide (U.vm.findClass ("[" ++ (FieldType.array .int).toString) = some c) | _ => false) == some true)) hi).trans ?_
  simp [hk', hkind, f2]
theorem KX.moved {u U : State} (hW : u.WarmedH U.vm) (h : KX u) : KX U := ⟨va_Nw.warmC hW h.1, ovA_moved hW.alike h.2⟩
theorem tsA : (FieldType.array .int).toString = "[I" := by decide +kernel
theorem nmA {U : State} {cA : ClassId} (h : va_RA U cA (.array .int)) : U.vm.findClass ("[" ++ (FieldType.array .int).toString) = some cA := h
section GAA
variable {p : Program} {l : Launch} {e : Env} {R : Room} {s : State} {m : MethodId} {args : Array Value} {below : List Frame} {meth : Method} {c : Code} {H : Heap} {locs : List Loc} {cells slots : Nat} {Q : State → Prop}
variable {cc : ByteArray} {pc : Nat} {ls : Array Slot} {rest : List Value} {D : va_G} {cl : List vw_C} {A : Nat → Prop} {a : Nat} {ws : va_W} {H0 : Heap}
theorem aa_new (hexec : p.tables.exec = Jvm.exec) (hb : c.code = cc) {own : String} {idx : Nat} (hown : s.vm.findClass own = some m.cls) (hlink : (Cond.classLink own idx "[I").before args s = true) (hover : (Cond.arrayOver (.array .int)).before args s = true) {cQ : ClassId} (hQ : s.vm.findClass ("[" ++ (FieldType.array .int).toString) = some cQ) (hP : va_P D cl ws H) (hD : va_D A ws) (hS : va_S A H0 H locs) (hA : ∀ q, H0.size ≤ q → A q)
    {n : Int32} {N : Nat} (hn : ¬ n < 0) (hN : n.toNatClampNeg = N) (hbytes : N * 4 ≤ 536870912) (hcells : cells + 1 ≤ R.cells) (hslots : slots + N ≤ R.slots) (hd : decode cc pc = .ok (.anewarray idx, 3))
    (kk : ∀ (q : Nat) (H1 : Heap), va_P D cl (ws ++ [(q, .inl (cQ, N, .inr (.inr (.inr (.inr (fun _ => none))))))]) H1 → va_D A (ws ++ [(q, .inl (cQ, N, .inr (.inr (.inr (.inr (fun _ => none))))))]) → va_S A H0 H1 locs → W p l e R s m args below meth c H1 locs (cells + 1) (slots + N) Q (F0 m (pc + 3) ls (.ref q :: rest))) : W p l e R s m args below meth c H locs cells slots Q (F0 m pc ls (.int n :: rest)) := by
  subst hN
  rw [← tsA] at hlink
  refine W.anewA (t := .int) hexec hb hown hlink hover rfl hd rfl hn hbytes hcells hslots fun cA kA comp f1 f2 f3 f4 => ?_
  have eA : cA = cQ := Option.some.inj (f1.symm.trans hQ)
  subst eA
  generalize hH1 : H.push ({ cls := cA, slots := Array.replicate n.toNatClampNeg .null, vm := .none } : Cell) = H1
  have z1 : H1.size = H.size + 1 := by rw [← hH1, Array.size_push]
  have e1 : H1[H.size]? = some (arrV cA n.toNatClampNeg (fun _ => .null)) := by rw [← hH1, Array.getElem?_push_size, ← arrV_new]
  have o1 : ∀ q : Nat, q < H.size → H1[q]? = H[q]? := fun q hq => by rw [← hH1, Array.getElem?_push, if_neg (Nat.ne_of_lt hq)]
  have hk : ∀ (k : Nat) (x : Nat × va_E), ws[k]? = some x → H1[x.1]? = H[x.1]? := fun k x hx => o1 x.1 ((hP k x hx).lt)
  refine kk H.size H1 ((hP.kept hk).app (fun k x hx => ?_)) (hD.push hP rfl (hA _ hS.1)) ⟨Nat.le_trans hS.1 (by omega), fun x h1 h2 => (o1 x (Nat.lt_of_lt_of_le h1 hS.1)).trans (hS.2.1 x h1 h2), hS.2.2⟩
  have hz : k < 1 := (List.getElem?_eq_some_iff.mp hx).1
  rw [show k = 0 by omega] at hx
  cases hx
  show H1[H.size]? = some (vp_cell _ _)
  rw [vp_cell_q]
  exact e1
theorem aa_ast (hexec : p.tables.exec = Jvm.exec) (hb : c.code = cc) (hover : (Cond.arrayOver (.array .int)).before args s = true) {cQ cI : ClassId} (hQ : s.vm.findClass ("[" ++ (FieldType.array .int).toString) = some cQ) (hI : s.vm.findClass "[I" = some cI) (hP : va_P D cl ws H) (hD : va_D A ws) (hS : va_S A H0 H locs) (q0 qk : Nat) {n n2 v : Nat} {f : Nat → Option Nat} {r : Nat → Int32} (ha : ws[q0]? = some (a, .inl (cQ, n, .inr (.inr (.inr (.inr f)))))) (hv : ws[qk]? = some (v, .inl (cI, n2, .inl r))) {i : Int32} {j : Nat} (hi0 : ¬ i < 0) (hij : i.toNatClampNeg = j) (hj : j < n) (hd : decode cc pc = .ok (.aastore, 1))
    (kk : ∀ (H1 : Heap) (locs1 : List Loc), va_P D cl (ws.set q0 (a, .inl (cQ, n, .inr (.inr (.inr (.inr (va_up f j (some v)))))))) H1 → va_D A (ws.set q0 (a, .inl (cQ, n, .inr (.inr (.inr (.inr (va_up f j (some v)))))))) → va_S A H0 H1 locs1 → W p l e R s m args below meth c H1 locs1 cells slots Q (F0 m (pc + 1) ls rest)) : W p l e R s m args below meth c H locs cells slots Q (F0 m pc ls (.ref v :: .int i :: .ref a :: rest)) := by
  obtain ⟨comp, cA, kA, g1, g2, g3, g4, g5⟩ := arrayOverA_spec hover
  have ec : comp = cI := Option.some.inj (g1.symm.trans (by rw [tsA]; exact hI))
  have eA : cA = cQ := Option.some.inj (g5.symm.trans hQ)
  subst ec; subst eA
  obtain ⟨kC, hkC, -⟩ := Vm.findClass_spec hI
  refine W.aast hexec hb (hP q0 _ ha) (fun q h => by cases h) (fun h => by cases h) g3 g4 rfl hkC ⟨hi0, by show _ < (arrV _ _ _).slots.size; rw [arrV_size, hij]; exact hj⟩ (hP qk _ hv) (fun q h => by cases h) hkC (va_asg _ _) rfl rfl hd fun H1 e z oq => ?_
  refine kk H1 _ (hP.set hD ha ?_ oq) (hD.set ha) (hS.put z oq (hD.2 q0 _ ha))
  show H1[a]? = some (vp_cell _ _)
  rw [e]
  rw [vp_cell_q, vp_cell_q, arrV_store, hij]
  congr 2
  funext q
  by_cases hq : q = j
  · subst hq
    simp [updV, va_up, va_rf]
  · simp [updV, va_up, hq]
end GAA
section GXR
variable {g : gW} {p : Program} {l : Launch} {e : Env} {R : Room} {s : State} {m : MethodId} {args : Array Value} {below : List Frame} {meth : Method} {c : Code} {cc : ByteArray} {nL : Nat} {own : String} {X : va_W} {h : Hp} {lv : List (Nat × Value)} {cells slots : Nat} {Q : State → Prop} {pc : Nat} {st : List Value}
theorem gA0_of (C : CX g p s m args meth c cc nL own) {tys : List (ClassId × FieldType)} {cA : ClassId} {k : Nat} (hK : va_K (gD g) vwCl tys s) (hk : tys[k]? = some (cA, .int)) : cA = gA g 0 := by
  have h1 := va_nm_int (hK.2 k _ hk).2
  have h2 := va_nm_int (C.2.2.2.2.2.1.2 0 (gA g 0, .int) rfl).2
  exact Option.some.inj (h1.symm.trans h2)
theorem nI_nn {N : Nat} (hN : N < 2 ^ 31) : ¬ nI N < 0 := nI_pos hN
theorem ww_newi (C : CX g p s m args meth c cc nL own) {n : Int32} {N : Nat} (hN : n = nI N) (hN31 : N ≤ 100) (hr : cells + 1 ≤ R.cells ∧ slots + N ≤ R.slots) (hd : decode cc pc = .ok (.newarray .int, 2)) (kk : ∀ q, WW g p l e R s m args below meth c nL (X ++ [xI g q N (fun _ => 0)]) h lv (cells + 1) (slots + N) Q (pc + 2) (.ref q :: st)) : WW g p l e R s m args below meth c nL X h lv cells slots Q pc (.int n :: st) := by
  intro H locs ls hP hD hS hl
  subst hN
  refine va_newa (atype := .int) C.1 C.2.1 (C.2.2.2.2.1 _ q_ac_int) (ty := .int) rfl C.2.2.2.2.2.1 hP hD hS (fun q hq => Or.inr hq) (a0 := (N, .inl (fun _ => 0))) (N' := N) (fun cA => rfl) (nI_nn (by omega)) (nI_clamp (by omega)) (by show N * 4 ≤ _; omega) hr.1 hr.2 hd (fun q cA H1 hK1 hP1 hD1 hS1 => ?_)
  have e := gA0_of C hK1 (k := 6) (cA := cA) rfl
  subst e
  rw [wl_addX] at hP1 hD1
  exact kk q H1 locs ls hP1 hD1 hS1 hl
theorem ww_iastX (C : CX g p s m args meth c cc nL own) (i : Nat) {a n j : Nat} {f : Nat → Int32} {v x : Int32} (hx : X[i]? = some (xI g a n f)) (hxj : x = nI j) (hj : j < n) (hn31 : n < 2 ^ 31) (hd : decode cc pc = .ok (.iastore, 1)) (kk : WW g p l e R s m args below meth c nL (X.set i (xI g a n (upd f j v))) h lv cells slots Q (pc + 1) st) : WW g p l e R s m args below meth c nL X h lv cells slots Q pc (.int v :: .int x :: .ref a :: st) := by
  intro H locs ls hP hD hS hl
  subst hxj
  have ej : (nI j).toNatClampNeg = j := nI_clamp (by omega)
  refine va_iast (D := gD g) C.1 C.2.1 C.2.2.2.2.2.1 hP hD hS (71 + i) 0 (wl_X hx) rfl (vp_in_nI hj hn31) hd (fun H1 locs1 hP1 hD1 hS1 => ?_)
  rw [ej, wl_setX] at hP1 hD1
  exact kk H1 locs1 ls hP1 hD1 hS1 hl
theorem ww_copyX (C : CX g p s m args meth c cc nL own) (i : Nat) {o a n n1 sp dp k idx : Nat} {f : Nat → Int32} (hx : X[i]? = some (xI g a n f)) (ho : o < 71) (he : ∀ r : Nat → Int32, ce g r o = .inl (gA g 0, n1, .inl r)) (hlink : Cond.methodLink own idx arraycopyName ∈ TT) {x1 x2 x3 : Int32} (e1 : x1 = nI sp) (e2 : x2 = nI dp) (e3 : x3 = nI k) (h4 : sp + k ≤ n) (h5 : dp + k ≤ n1) (h6 : n ≤ 100 ∧ n1 ≤ 100)
    (hcat : (st.map fun v => v.category).sum ≤ 2) (hfr : 1 ≤ R.frames) (hlo : 28 ≤ R.locals) (hd : decode cc pc = .ok (.invokestatic idx, 3)) (kk : WW g p l e R s m args below meth c nL X (hp_row h o (va_cpy f (h o) sp dp k)) lv cells slots Q (pc + 3) st) : WW g p l e R s m args below meth c nL X h lv cells slots Q pc (.int x3 :: .int x2 :: .ref (gB g + o) :: .int x1 :: .ref a :: st) := by
  intro H locs ls hP hD hS hl
  have ht := C.2.2.2.2.1
  subst e1; subst e2; subst e3
  have j1 : (nI sp).toNatClampNeg = sp := nI_clamp (by omega)
  have j2 : (nI dp).toNatClampNeg = dp := nI_clamp (by omega)
  have j3 : (nI k).toNatClampNeg = k := nI_clamp (by omega)
  refine va_copyi C.1 C.2.1 (C.2.2.1.trans hl.1.symm) C.2.2.2.1 (ht _ hlink) (ht _ q_nat_J_arraycopy) (ht _ q_t_J_arraycopy) (ht _ q_n_Sys) C.2.2.2.2.2.1 hP hD hS (71 + i) o 0 0 (wl_X hx) (by rw [wl_get ho, he]) (ty := .int) rfl rfl rfl (nI_nn (N := sp) (by omega)) (nI_nn (N := dp) (by omega)) (nI_nn (N := k) (by omega)) (by rw [j1, j3]; exact h4) (by rw [j2, j3]; exact h5) (fun _ _ => rfl) hfr (by have z : nativeFrameWords "java/lang/System" "arraycopy" 5 + 11 ≤ 26 := Nat.le_of_ble_eq_true rfl; omega) hd (fun H1 locs1 hP1 hD1 hS1 => ?_)
  rw [j1, j2, j3, ← he, wl_setR ho] at hP1 hD1
  exact kk H1 locs1 ls hP1 hD1 hS1 hl
theorem ww_alenI (C : CX g p s m args meth c cc nL own) {o n : Nat} {v : Int32} (ho : o < 71) (he : ∀ r : Nat → Int32, ce g r o = .inl (gA g 0, n, .inl r)) (hv : nI n = v) (hd : decode cc pc = .ok (.arraylength, 1)) (kk : WW g p l e R s m args below meth c nL X h lv cells slots Q (pc + 1) (.int v :: st)) : WW g p l e R s m args below meth c nL X h lv cells slots Q pc (.ref (gB g + o) :: st) := by
  intro H locs ls hP hD hS hl
  exact va_alen (D := gD g) C.1 C.2.1 C.2.2.2.2.2.1 hP o 0 (by rw [wl_get ho, he]) rfl (by exact hv) hd (kk H locs ls hP hD hS hl)
theorem ww_cloneI (C : CX g p s m args meth c cc nL own) (hX : KX s) {o n idx : Nat} (ho : o < 71) (he : ∀ r : Nat → Int32, ce g r o = .inl (gA g 0, n, .inl r)) (hlink : Cond.methodLink own idx ⟨"[I", "clone", "()Ljava/lang/Object;"⟩ ∈ TT) (hcat : (st.map fun v => v.category).sum ≤ 6) (hfr : 1 ≤ R.frames) (hlo : 28 ≤ R.locals) (hr : cells + 1 ≤ R.cells ∧ slots + n ≤ R.slots) (hd : decode cc pc = .ok (.invokevirtual idx, 3))
    (kk : ∀ q, WW g p l e R s m args below meth c nL (X ++ [xI g q n (h o)]) h lv (cells + 1) (slots + n) Q (pc + 3) (.ref q :: st)) : WW g p l e R s m args below meth c nL X h lv cells slots Q pc (.ref (gB g + o) :: st) := by
  intro H locs ls hP hD hS hl
  have ht := C.2.2.2.2.1
  refine va_clone C.1 C.2.1 (C.2.2.1.trans hl.1.symm) (ad := "[I") C.2.2.2.1 (ht _ hlink) (ht _ q_sm_clone) (ht _ q_nat_clone) (ht _ q_i_clone) (ht _ q_s_clone) hX.1 C.2.2.2.2.2.1 hP hD hS (fun q hq => Or.inr hq) o 0 (x := (n, .inl (h o))) (by rw [wl_get ho, he]) rfl (va_nm_int (C.2.2.2.2.2.1.2 0 (gA g 0, .int) rfl).2) (va_fit (fun i _ => rfl)) hfr (by omega) hr.1 hr.2 hd (fun q H1 hK1 hP1 hD1 hS1 => ?_)
  rw [wl_addX] at hP1 hD1
  exact kk q H1 locs ls hP1 hD1 hS1 hl
theorem ww_castX (C : CX g p s m args meth c cc nL own) (i : Nat) {a n idx : Nat} {f : Nat → Int32} (hx : X[i]? = some (xI g a n f)) (hlink : Cond.classLink own idx "[I" ∈ TT) (hd : decode cc pc = .ok (.checkcast idx, 3)) (kk : WW g p l e R s m args below meth c nL X h lv cells slots Q (pc + 3) (.ref a :: st)) : WW g p l e R s m args below meth c nL X h lv cells slots Q pc (.ref a :: st) :=
  fun H locs ls hP hD hS hl => va_castA (D := gD g) C.1 C.2.1 C.2.2.2.1 (C.2.2.2.2.1 _ hlink) hP (71 + i) (wl_X hx) (va_nm_int (C.2.2.2.2.2.1.2 0 (gA g 0, .int) rfl).2) hd (kk H locs ls hP hD hS hl)
theorem ww_newA (C : CX g p s m args meth c cc nL own) (hX : KX s) {n : Int32} {N idx : Nat} (hN : n = nI N) (hN31 : N ≤ 100) (hlink : Cond.classLink own idx "[I" ∈ TT) (hr : cells + 1 ≤ R.cells ∧ slots + N ≤ R.slots) (hd : decode cc pc = .ok (.anewarray idx, 3)) (kk : ∀ q, WW g p l e R s m args below meth c nL (X ++ [xA g q N (fun _ => none)]) h lv (cells + 1) (slots + N) Q (pc + 3) (.ref q :: st)) : WW g p l e R s m args below meth c nL X h lv cells slots Q pc (.int n :: st) := by
  intro H locs ls hP hD hS hl
  subst hN
  refine aa_new C.1 C.2.1 C.2.2.2.1 (C.2.2.2.2.1 _ hlink) hX.2 (nmA (C.2.2.2.2.2.1.2 5 (gA g 5, .array .int) rfl).2) hP hD hS (fun q hq => Or.inr hq) (nI_nn (by omega)) (nI_clamp (by omega)) (by omega) hr.1 hr.2 hd (fun q H1 hP1 hD1 hS1 => ?_)
  rw [wl_addX] at hP1 hD1
  exact kk q H1 locs ls hP1 hD1 hS1 hl
theorem ww_astA (C : CX g p s m args meth c cc nL own) (hX : KX s) (i q : Nat) {a v n n2 j : Nat} {x : Int32} {f : Nat → Option Nat} {r : Nat → Int32} (hx : X[i]? = some (xA g a n f)) (hv : X[q]? = some (xI g v n2 r)) (hxj : x = nI j) (hj : j < n) (hn31 : n < 2 ^ 31) (hd : decode cc pc = .ok (.aastore, 1)) (kk : WW g p l e R s m args below meth c nL (X.set i (xA g a n (va_up f j (some v)))) h lv cells slots Q (pc + 1) st) : WW g p l e R s m args below meth c nL X h lv cells slots Q pc (.ref v :: .int x :: .ref a :: st) := by
  intro H locs ls hP hD hS hl
  subst hxj
  refine aa_ast (args := args) C.1 C.2.1 hX.2 (nmA (C.2.2.2.2.2.1.2 5 (gA g 5, .array .int) rfl).2) (va_nm_int (C.2.2.2.2.2.1.2 0 (gA g 0, .int) rfl).2) hP hD hS (71 + i) (71 + q) (wl_X hx) (wl_X hv) (nI_nn (by omega)) (nI_clamp (by omega)) hj hd (fun H1 locs1 hP1 hD1 hS1 => ?_)
  rw [wl_setX] at hP1 hD1
  exact kk H1 locs1 ls hP1 hD1 hS1 hl
end GXR
