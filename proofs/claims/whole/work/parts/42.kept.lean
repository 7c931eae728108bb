/-! KEPT AND BROUGHT BACK: three rows in a row of rows, made by the call -/
def kpR (a0 a1 a2 : Nat) : Nat → Option Nat := va_up (va_up (va_up (fun _ => none) 0 (some a0)) 1 (some a1)) 2 (some a2)
abbrev xK (g : gW) (a a0 a1 a2 : Nat) (h : Hp) : va_W := [xA g a 3 (kpR a0 a1 a2), xI g a0 50 (h 67), xI g a1 35 (h 68), xI g a2 2 (h 69)]
def PWK (g : gW) (h : Hp) (sz : Nat) : State → Prop := fun U => PW g h sz U ∧ KX U
def CTK (g : gW) (l : Launch) (y : MethodName) (cc : ByteArray) (nL : Nat) (rt : Option FieldType) (k mc ms : Nat) (As : List Value) (h : Hp) (v : Option Value) (h2 : Hp) : Prop :=
  ∀ sz : Nat, Met l y (ws_ y cc nL rt) (rK k mc ms) (va_Pc As (PWK g h sz)) (QW g sz v h2) mc ms (AA g sz)
def QK (g : gW) (sz : Nat) (h : Hp) : Array Value → State → Outcome → State → Prop := fun _ st oc t => ∃ a a0 a1 a2 : Nat, oc = .returned (some (.ref a)) ∧ va_P (gD g) vwCl (wl g (xK g a a0 a1 a2 h) h) t.heap ∧ va_D (AA g sz) (wl g (xK g a a0 a1 a2 h) h) ∧ va_F (AA g sz) st t
def KT (g : gW) (l : Launch) (h : Hp) : Prop := ∀ sz : Nat, Met l yX5_kept (ws_ yX5_kept cX5_kept 1 (some (.array (.array .int)))) (rK 1 4 90) (va_Pc [.ref (gB g + 64)] (PWK g h sz)) (QK g sz h) 4 90 (AA g sz)
def m_back (h hk : Hp) : Hp := hp_row (hp_row (hp_row h 67 (va_cpy (hk 67) (h 67) 0 0 50)) 68 (va_cpy (hk 68) (h 68) 0 0 35)) 69 (va_cpy (hk 69) (h 69) 0 0 2)
def PB (g : gW) (X : va_W) (h : Hp) (sz : Nat) : State → Prop := fun U => U.heap.size = sz ∧ gB g + 71 ≤ sz ∧ va_P (gD g) vwCl (wl g X h) U.heap ∧ va_K (gD g) vwCl (gT g) U
def QB (g : gW) (A : Nat → Prop) (X : va_W) (h2 : Hp) : Array Value → State → Outcome → State → Prop := fun _ st oc t => oc = .returned none ∧ va_P (gD g) vwCl (wl g X h2) t.heap ∧ va_F A st t
def BT (g : gW) (l : Launch) (a a0 a1 a2 : Nat) (h hk : Hp) : Prop := ∀ (A : Nat → Prop) (sz : Nat), va_D A (wl g (xK g a a0 a1 a2 hk) h) → Met l yX5_bringBack (ws_ yX5_bringBack cX5_bringBack 2 none) (rK 1 0 0) (va_Pc [.ref (gB g + 64), .ref a] (PB g (xK g a a0 a1 a2 hk) h sz)) (QB g A (xK g a a0 a1 a2 hk) (m_back h hk)) 0 0 A
theorem PWK_blind (g : gW) (As : List Value) (h : Hp) (sz : Nat) : FrameBlind (va_Pc As (PWK g h sz)) := by
  intro a U gg mk q
  obtain ⟨q0, q1, q2, q3⟩ := q
  have hp := PW_blind g As h sz a U gg mk ⟨q0, q1⟩
  exact ⟨hp.1, hp.2, va_Nw.same rfl (u := U) rfl q2, ovA_moved (u := U) (U := U.calling gg mk a) (Vm.Alike.refl U.vm) q3⟩
theorem PB_blind (g : gW) (As : List Value) (X : va_W) (h : Hp) (sz : Nat) : FrameBlind (va_Pc As (PB g X h sz)) := by
  intro a U gg mk q
  obtain ⟨q0, q1, q2, q3, q4⟩ := q
  exact ⟨q0, q1, q2, q3, va_K.moved (u := U) (U := U.calling gg mk a) (Vm.Alike.refl U.vm) q4⟩
section GXK
variable {g : gW} {p : Program} {l : Launch} {e : Env} {R : Room} {s : State} {m : MethodId} {args : Array Value} {below : List Frame} {meth : Method} {c : Code} {cc : ByteArray} {nL : Nat} {own : String} {X : va_W} {h : Hp} {lv : List (Nat × Value)} {cells slots : Nat} {Q : State → Prop} {pc : Nat} {st : List Value}
theorem CTK.of {y : MethodName} {rt : Option FieldType} {k mc ms : Nat} {As : List Value} {v : Option Value} {h2 : Hp} {lv0 : List (Nat × Value)} (hy : plainFor y = true) (hn : (lg_sl As).length ≤ nL) (hl0 : lv_args 0 As = lv0)
    (body : ∀ (p : Program) (e : Env) (s : State) (m : MethodId) (below : List Frame) (meth : Method) (c : Code), CX g p s m As.toArray meth c cc nL y.cls → KX s → meth.sig.returnType = rt →
      WW g p l e (rK k mc ms) s m As.toArray below meth c nL [] h lv0 0 0 (MQ below (QW g s.heap.size v h2) As.toArray s mc ms (AA g s.heap.size)) 0 []) : CTK g l y cc nL rt k mc ms As h v h2 := by
  intro sz
  refine va_MetF (cc := cc) (maxL := nL) (ret := rt) (ws' := TT) hy rfl ?_
  intro p e s m args below meth c s₁ B hml hv
  obtain ⟨rfl, ⟨hsz, hb71, hP, hK⟩, hX⟩ := hv
  subst hsz
  have hts := atoms_spec (ws := ws_ y cc nL rt) B.pre
  have hown : s.vm.findClass y.cls = some m.cls := findClass_of_methodNamed B.named
  have hl := lv_entry As (n := nL) hn
  rw [lg_entry_eq]
  rw [hl0] at hl
  exact body p e s m below meth c ⟨B.exec, B.bytes, hml, hown, fun w hw => hts w (List.mem_cons_of_mem _ hw), hK, B.notSynchronized, hb71⟩ hX B.returns s.heap [] _ hP (wl_D0 (fun q hq => Or.inl hq)) va_S.rf hl
theorem KT.of
    (body : ∀ (p : Program) (e : Env) (s : State) (m : MethodId) (below : List Frame) (meth : Method) (c : Code), CX g p s m #[.ref (gB g + 64)] meth c cX5_kept 1 yX5_kept.cls → KX s → meth.sig.returnType = some (.array (.array .int)) →
      WW g p l e (rK 1 4 90) s m #[.ref (gB g + 64)] below meth c 1 [] h [(0, .ref (gB g + 64))] 0 0 (MQ below (QK g s.heap.size h) #[.ref (gB g + 64)] s 4 90 (AA g s.heap.size)) 0 []) : KT g l h := by
  intro sz
  refine va_MetF (cc := cX5_kept) (maxL := 1) (ret := some (.array (.array .int))) (ws' := TT) mf_X5_kept.1.2.2.2 rfl ?_
  intro p e s m args below meth c s₁ B hml hv
  obtain ⟨rfl, ⟨hsz, hb71, hP, hK⟩, hX⟩ := hv
  subst hsz
  have hts := atoms_spec (ws := ws_ yX5_kept cX5_kept 1 (some (.array (.array .int)))) B.pre
  have hown : s.vm.findClass yX5_kept.cls = some m.cls := findClass_of_methodNamed B.named
  have hl := lv_entry [.ref (gB g + 64)] (n := 1) (Nat.le_of_ble_eq_true rfl)
  rw [lg_entry_eq]
  exact body p e s m below meth c ⟨B.exec, B.bytes, hml, hown, fun w hw => hts w (List.mem_cons_of_mem _ hw), hK, B.notSynchronized, hb71⟩ hX B.returns s.heap [] _ hP (wl_D0 (fun q hq => Or.inl hq)) va_S.rf hl
theorem ww_kret (C : CX g p s m args meth c cc nL own) {a a0 a1 a2 : Nat} (hX : X = xK g a a0 a1 a2 h) (hr : meth.sig.returnType = some (.array (.array .int))) (hd : decode cc pc = .ok (.areturn, 1)) : WW g p l e R s m args below meth c nL X h lv cells slots (MQ below (QK g s.heap.size h) args s cells slots (AA g s.heap.size)) pc [.ref a] := by
  intro H locs ls hP hD hS hl
  subst hX
  exact W.aret C.1 C.2.1 hr (Or.inr ⟨_, rfl⟩) (Or.inr ⟨a, rfl⟩) (fun t ht _ => ⟨a, a0, a1, a2, rfl, by rw [ht]; exact hP, hD, hS.F ht⟩) hS.2.2 hd C.2.2.2.2.2.2.1
theorem ww_callK (C : CX g p s m args meth c cc nL own) (hX : KX s) (hM : KT g l h) {idx : Nat} (hlink : Cond.methodLink own idx yX5_kept ∈ TT) (hcat : (st.map fun v => v.category).sum ≤ 8) (hk : 2 ≤ R.frames ∧ 50 ≤ R.locals) (hr : cells + 4 ≤ R.cells ∧ slots + 90 ≤ R.slots) (hd : decode cc pc = .ok (.invokevirtual idx, 3))
    (kk : ∀ a a0 a1 a2, WW g p l e R s m args below meth c nL (xK g a a0 a1 a2 h) h lv (cells + 4) (slots + 90) Q (pc + 3) (.ref a :: st)) : WW g p l e R s m args below meth c nL [] h lv cells slots Q pc (.ref (gB g + 64) :: st) := by
  intro H locs ls hP hD hS hl
  have ht := C.2.2.2.2.1
  obtain ⟨⟨f1, f2, ⟨f3, f4, f5⟩, -⟩, f6, f7⟩ := mf_X5_kept
  have hcell : ∃ cellB : Cell, H[gB g + 64]? = some cellB ∧ cellB.vm.isStatics = false ∧ s.vm.findClass yX5_kept.cls = some cellB.cls :=
    va_recv C.2.2.2.2.2.1 hP (show vwCl[5]? = some _ from rfl) (show (wl g [] h)[64]? = some (gB g + 64, .inr (5, _)) by rw [wl_get (by omega)]; rfl)
  have hr0 := va_runV (Ts := TT) (own := own) (C := yX5_kept.cls) (As := []) (rest := st) (R := R) (e := e) (args := args) (meth := meth) (below := below) (cells := cells) (slots := slots) (locs := locs) ⟨C.1, C.2.1, C.2.2.1, C.2.2.2.1, ht⟩ (hM H.size) ⟨callB_of 0 ht (ws_good (own := own) (idx := idx) f1) rfl rfl rfl (ht _ f2) (ht _ hlink) ⟨f3, f4, f5⟩ (by show 1 + 1 ≤ _ ∧ 8 + (1 + 11) + 28 * 1 ≤ _; omega), ht _ f6, ht _ f7⟩ ⟨PWK_blind g _ h _, hcell, fun U hU hW => ⟨rfl, (PW_now (y := yX5_kept) (As := [.ref (gB g + 64)]) C hP hS U hU hW).2, hX.moved hW⟩⟩ rfl rfl hl.1 rfl (lv_room hcat) hd hr
  intro T hT X0
  obtain ⟨v9, st₀, t, T', L, h0, X', hL, e1, e2, ⟨a, a0, a1, a2, hv, hp, hd9, hz, hk⟩, st9⟩ := hr0 T hT X0
  cases hv
  rw [h0] at hz hk
  have hA : ∀ q, AA g H.size q → AA g s.heap.size q := fun q hq => AA_mono hS.1 hq
  obtain ⟨t2, b1, b2⟩ := kk a a0 a1 a2 T'.heap (locs ++ L) ls (by rw [e1]; exact hp) ⟨hd9.1, fun k q hq => hA _ (hd9.2 k q hq)⟩
    ⟨Nat.le_trans hS.1 (by rw [e1]; exact hz), fun q h1 h2 => by rw [e1, hk q (Nat.lt_of_lt_of_le h1 hS.1) (fun z => h2 (hA q z))]; exact hS.2.1 q h1 h2, fun q hq => by
      rcases List.mem_append.mp hq with h3 | h3
      · exact hS.2.2 q h3
      · exact hA _ (hL q h3)⟩ hl T' rfl X'
  exact ⟨t2, st9 t2 b1, b2⟩
theorem ww_callB (C : CX g p s m args meth c cc nL own) {a a0 a1 a2 : Nat} {hk : Hp} (hM : BT g l a a0 a1 a2 h hk) (hX : X = xK g a a0 a1 a2 hk) {idx : Nat} (hlink : Cond.methodLink own idx yX5_bringBack ∈ TT) (hcat : (st.map fun v => v.category).sum ≤ 8) (hfr : 2 ≤ R.frames ∧ 50 ≤ R.locals) (hr : cells ≤ R.cells ∧ slots ≤ R.slots) (hd : decode cc pc = .ok (.invokevirtual idx, 3))
    (kk : WW g p l e R s m args below meth c nL X (m_back h hk) lv cells slots Q (pc + 3) st) : WW g p l e R s m args below meth c nL X h lv cells slots Q pc (.ref a :: .ref (gB g + 64) :: st) := by
  intro H locs ls hP hD hS hl
  subst hX
  have ht := C.2.2.2.2.1
  obtain ⟨⟨f1, f2, ⟨f3, f4, f5⟩, -⟩, f6, f7⟩ := mf_X5_bringBack
  have hcell : ∃ cellB : Cell, H[gB g + 64]? = some cellB ∧ cellB.vm.isStatics = false ∧ s.vm.findClass yX5_bringBack.cls = some cellB.cls :=
    va_recv C.2.2.2.2.2.1 hP (show vwCl[5]? = some _ from rfl) (show (wl g (xK g a a0 a1 a2 hk) h)[64]? = some (gB g + 64, .inr (5, _)) by rw [wl_get (by omega)]; rfl)
  have hr0 := va_runV (Ts := TT) (own := own) (C := yX5_bringBack.cls) (As := [.ref a]) (rest := st) (R := R) (e := e) (args := args) (meth := meth) (below := below) (cells := cells) (slots := slots) (locs := locs) ⟨C.1, C.2.1, C.2.2.1, C.2.2.2.1, ht⟩ (hM (AA g s.heap.size) H.size hD) ⟨callB_of 1 ht (ws_good (own := own) (idx := idx) f1) rfl rfl rfl (ht _ f2) (ht _ hlink) ⟨f3, f4, f5⟩ (by show 1 + 1 ≤ _ ∧ 8 + (2 + 11) + 28 * 1 ≤ _; omega), ht _ f6, ht _ f7⟩ ⟨PB_blind g _ _ h _, hcell, fun U hU hW => ⟨rfl, by rw [hU], Nat.le_trans C.2.2.2.2.2.2.2 hS.1, by rw [hU]; exact hP, va_K.moved hW.alike C.2.2.2.2.2.1⟩⟩ rfl rfl hl.1 rfl (lv_room hcat) hd hr
  intro T hT X0
  obtain ⟨v9, st₀, t, T', L, h0, X', hL, e1, e2, ⟨hv, hp, hz, hk9⟩, st9⟩ := hr0 T hT X0
  cases hv
  rw [h0] at hz hk9
  obtain ⟨t2, b1, b2⟩ := kk T'.heap (locs ++ L) ls (by rw [e1]; exact hp) (wl_D _ hD)
    ⟨Nat.le_trans hS.1 (by rw [e1]; exact hz), fun q h1 h2 => by rw [e1, hk9 q (Nat.lt_of_lt_of_le h1 hS.1) h2]; exact hS.2.1 q h1 h2, fun q hq => by
      rcases List.mem_append.mp hq with h3 | h3
      · exact hS.2.2 q h3
      · exact hL q h3⟩ hl T' rfl X'
  exact ⟨t2, st9 t2 b1, b2⟩
end GXK
set_option maxRecDepth 100000 in
set_option maxHeartbeats 1600000 in
theorem kt_X5 {g : gW} {l : Launch} {h : Hp} : KT g l h := by
  refine KT.of ?_
  intro p e s m below meth c C hX hr
  refine ww_iconst (v := 3) C dX5_kept_0 (by decide) ?_
  refine ww_newA C hX (N := 3) rfl (by omega) q_k_X5_141 ⟨(Nat.le_of_ble_eq_true rfl), (Nat.le_of_ble_eq_true rfl)⟩ dX5_kept_1 (fun q => ?_)
  refine ww_dup C dX5_kept_4 rfl ?_
  refine ww_iconst (v := 0) C dX5_kept_5 (by decide) ?_
  refine ww_aload_n C dX5_kept_6 0 rfl rfl ?_
  refine ww_getMt C q_f_X5_16 dX5_kept_7 ?_
  refine ww_cloneI C hX (o := 67) (n := 50) (by omega) (fun r => rfl) q_m_X5_142 (Nat.le_of_ble_eq_true rfl) (Nat.le_of_ble_eq_true rfl) (Nat.le_of_ble_eq_true rfl) ⟨(Nat.le_of_ble_eq_true rfl), (Nat.le_of_ble_eq_true rfl)⟩ dX5_kept_10 (fun q67 => ?_)
  refine ww_castX C 1 rfl q_k_X5_141 dX5_kept_13 ?_
  refine ww_astA C hX 0 1 rfl rfl (j := 0) rfl (by omega) (by omega) dX5_kept_16 ?_
  refine ww_dup C dX5_kept_17 rfl ?_
  refine ww_iconst (v := 1) C dX5_kept_18 (by decide) ?_
  refine ww_aload_n C dX5_kept_19 0 rfl rfl ?_
  refine ww_getMh C q_f_X5_19 dX5_kept_20 ?_
  refine ww_cloneI C hX (o := 68) (n := 35) (by omega) (fun r => rfl) q_m_X5_142 (Nat.le_of_ble_eq_true rfl) (Nat.le_of_ble_eq_true rfl) (Nat.le_of_ble_eq_true rfl) ⟨(Nat.le_of_ble_eq_true rfl), (Nat.le_of_ble_eq_true rfl)⟩ dX5_kept_23 (fun q68 => ?_)
  refine ww_castX C 2 rfl q_k_X5_141 dX5_kept_26 ?_
  refine ww_astA C hX 0 2 rfl rfl (j := 1) rfl (by omega) (by omega) dX5_kept_29 ?_
  refine ww_dup C dX5_kept_30 rfl ?_
  refine ww_iconst (v := 2) C dX5_kept_31 (by decide) ?_
  refine ww_aload_n C dX5_kept_32 0 rfl rfl ?_
  refine ww_getMn C q_f_X5_22 dX5_kept_33 ?_
  refine ww_cloneI C hX (o := 69) (n := 2) (by omega) (fun r => rfl) q_m_X5_142 (Nat.le_of_ble_eq_true rfl) (Nat.le_of_ble_eq_true rfl) (Nat.le_of_ble_eq_true rfl) ⟨(Nat.le_of_ble_eq_true rfl), (Nat.le_of_ble_eq_true rfl)⟩ dX5_kept_36 (fun q69 => ?_)
  refine ww_castX C 3 rfl q_k_X5_141 dX5_kept_39 ?_
  refine ww_astA C hX 0 3 rfl rfl (j := 2) rfl (by omega) (by omega) dX5_kept_42 ?_
  exact ww_kret C (a := q) (a0 := q67) (a1 := q68) (a2 := q69) rfl hr dX5_kept_43
