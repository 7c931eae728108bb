/-! METHODS THAT ANSWER A DOUBLE, whose NaN may be drawn -/
def QD (g : gW) (sz : Nat) (P : UInt64 → Prop) (h2 : Hp) : Array Value → State → Outcome → State → Prop := fun _ st oc t => ∃ r, P r ∧ oc = .returned (some (.double r)) ∧ va_P (gD g) vwCl (wl g [] h2) t.heap ∧ va_F (AA g sz) st t
def DT (g : gW) (l : Launch) (y : MethodName) (cc : ByteArray) (nL k : Nat) (As : List Value) (h : Hp) (P : UInt64 → Prop) (h2 : Hp) : Prop :=
  ∀ sz : Nat, MetD lw_cs l y (ws_ y cc nL (some .double)) (rK k 0 0) (va_Pc As (PW g h sz)) (QD g sz P h2) 0 0 (AA g sz)
section GXD
variable {g : gW} {p : Program} {l : Launch} {e : Env} {R : Room} {s : State} {m : MethodId} {args : Array Value} {below : List Frame} {meth : Method} {c : Code} {cc : ByteArray} {nL : Nat} {own : String} {X : va_W} {h : Hp} {lv : List (Nat × Value)} {cells slots : Nat} {Q : State → Prop} {pc : Nat} {st : List Value} {d0 : Drawn}
theorem DT.of {y : MethodName} {k : Nat} {As : List Value} {P : UInt64 → Prop} {h2 : Hp} {lv0 : List (Nat × Value)} (hy : plainName y.cls = true) (hn : (lg_sl As).length ≤ nL) (hl0 : lv_args 0 As = lv0)
    (body : ∀ (p : Program) (e : Env) (s : State) (m : MethodId) (below : List Frame) (meth : Method) (c : Code), CX g p (s.setDrawn s.drawn) m As.toArray meth c cc nL y.cls → s.drawn.sameBut s.drawn lw_cs → meth.sig.returnType = some .double →
      WW g p l e (rK k 0 0) (s.setDrawn s.drawn) m As.toArray below meth c nL [] h lv0 0 0 (MQD lw_cs below (QD g s.heap.size P h2) As.toArray s 0 0 (AA g s.heap.size)) 0 []) : DT g l y cc nL k As h P h2 := by
  intro sz
  refine MetD.ofW (cc := cc) (maxL := nL) (ret := some .double) (ws' := TT) hy rfl ?_
  intro p e s m args below meth c s₁ B hml hv hd0
  obtain ⟨rfl, hsz, hb71, hP, hK⟩ := hv
  subst hsz
  have hts := atoms_spec (ws := ws_ y cc nL (some .double)) B.pre
  have hown : s.vm.findClass y.cls = some m.cls := findClass_of_methodNamed B.named
  have hl := lv_entry As (n := nL) hn
  rw [lg_entry_eq]
  rw [hl0] at hl
  exact body p e s m below meth c ⟨B.exec, B.bytes, hml, hown, fun w hw => dr_words hts _ w (List.mem_cons_of_mem _ hw), hK, B.notSynchronized, hb71⟩ hd0 B.returns s.heap [] _ hP (wl_D0 (fun q hq => Or.inl hq)) va_S.rf hl
theorem ww_dc0 (C : CX g p s m args meth c cc nL own) (hd : decode cc pc = .ok (.dconst 0, 1)) (k : WW g p l e R s m args below meth c nL X h lv cells slots Q (pc + 1) (.double FP.dconst0 :: st)) : WW g p l e R s m args below meth c nL X h lv cells slots Q pc st :=
  fun H locs ls hP hD hS hl => lv_dconst0 C.1 C.2.1 hd (k H locs ls hP hD hS hl)
theorem ww_i2d (C : CX g p s m args meth c cc nL own) {x : Int32} (hd : decode cc pc = .ok (.i2d, 1)) (k : WW g p l e R s m args below meth c nL X h lv cells slots Q (pc + 1) (.double (FP.i2d x) :: st)) : WW g p l e R s m args below meth c nL X h lv cells slots Q pc (.int x :: st) :=
  fun H locs ls hP hD hS hl => lv_i2d C.1 C.2.1 hd (k H locs ls hP hD hS hl)
theorem ww_dret (C : CX g p (s.setDrawn d0) m args meth c cc nL own) (hd0 : s.drawn.sameBut d0 lw_cs) {P : UInt64 → Prop} {h2 : Hp} {r : UInt64} (hr : meth.sig.returnType = some .double) (hp : P r) (hh : h2 = h) (hd : decode cc pc = .ok (.dreturn, 1)) : WW g p l e R (s.setDrawn d0) m args below meth c nL X h lv cells slots (MQD lw_cs below (QD g s.heap.size P h2) args s cells slots (AA g s.heap.size)) pc [.double r] := by
  intro H locs ls hP hD hS hl
  subst hh
  refine W.endD hd0 ?_
  exact W.dret C.1 C.2.1 hr (fun t ht _ => ⟨r, hp, rfl, by rw [ht]; exact wl_sub hP, hS.F ht⟩) hS.2.2 hd C.2.2.2.2.2.2.1
theorem ww_ddret (C : CX g p (s.setDrawn d0) m args meth c cc nL own) (hd0 : s.drawn.sameBut d0 lw_cs) {P : UInt64 → Prop} {h2 : Hp} {x y : UInt64} (hr : meth.sig.returnType = some .double) (hp : ∀ r, alike64 r (FP.ddiv x y) = true → P r) (hh : h2 = h) (hd : decode cc pc = .ok (.ddiv, 1)) (hd2 : decode cc (pc + 1) = .ok (.dreturn, 1)) : WW g p l e R (s.setDrawn d0) m args below meth c nL X h lv cells slots (MQD lw_cs below (QD g s.heap.size P h2) args s cells slots (AA g s.heap.size)) pc [.double y, .double x] := by
  intro H locs ls hP hD hS hl
  subst hh
  refine lv_ddiv_any hd0 lw_bits C.1 C.2.1 hd (fun r d1 hal hd1 => ?_)
  refine W.endD hd1 ?_
  exact W.dret C.1 C.2.1 hr (fun t ht _ => ⟨r, hp r hal, rfl, by rw [ht]; exact wl_sub hP, hS.F ht⟩) hS.2.2 hd2 C.2.2.2.2.2.2.1
end GXD
def x_full (n : Nat) (h : Hp) (r : UInt64) : Prop := if d_hold h 1 n = 0 then r = FP.dconst0 else alike64 r (FP.ddiv (FP.i2d (d_all h 1 n)) (FP.i2d (d_hold h 1 n))) = true
def y_full (n : Nat) (h : Hp) (r : UInt64) : Prop := if h 64 1 = 0 then r = FP.dconst0 else alike64 r (FP.ddiv (FP.i2d (m_all h n)) (FP.i2d (m_hold h n))) = true

set_option maxRecDepth 100000 in
set_option maxHeartbeats 1600000 in
theorem dt_X4_full {g : gW} {l : Launch} {h : Hp} {n f : Nat} (H : OK 1 n f h) : DT g l yX4_full cX4_full 2 3 [.ref (gB g + 0)] h (x_full n h) h := by
  have hd : isD 1 := Or.inl rfl
  have hn := H.1
  have hn10 := H.2.1
  refine DT.of (lv0 := [(0, .ref (gB g + 0))]) (by decide +kernel) (Nat.le_of_ble_eq_true rfl) rfl ?_
  intro p e s m below meth c C hd0 hr
  refine ww_aload_n C dX4_full_0 0 rfl rfl ?_
  refine ww_getXd C q_f_X4_14 dX4_full_1 ?_
  refine ww_callD C mf_X0_allHold dX4_full_4 (ct_X0_allHold hd hn hn10) q_m_X4_221 (by assumption) rfl rfl rfl (Nat.le_of_ble_eq_true rfl) (by exact ⟨Nat.le_of_ble_eq_true rfl, Nat.le_of_ble_eq_true rfl⟩) (by exact ⟨Nat.le_of_ble_eq_true rfl, Nat.le_of_ble_eq_true rfl⟩) ?_
  refine ww_istore_n C dX4_full_7 1 rfl (by decide) ?_
  refine ww_iload_n C dX4_full_8 1 rfl rfl ?_
  refine ww_if_ne C dX4_full_9 16 (by decide) (fun c9 => ?_) (fun c9 => ?_)
  · refine ww_aload_n C dX4_full_16 0 rfl rfl ?_
    refine ww_getXd C q_f_X4_14 dX4_full_17 ?_
    refine ww_callD C mf_X0_allWater dX4_full_20 (ct_X0_allWater hd hn hn10) q_m_X4_195 (by assumption) rfl rfl rfl (Nat.le_of_ble_eq_true rfl) (by exact ⟨Nat.le_of_ble_eq_true rfl, Nat.le_of_ble_eq_true rfl⟩) (by exact ⟨Nat.le_of_ble_eq_true rfl, Nat.le_of_ble_eq_true rfl⟩) ?_
    refine ww_i2d C dX4_full_23 ?_
    refine ww_iload_n C dX4_full_24 1 rfl rfl ?_
    refine ww_i2d C dX4_full_25 ?_
    exact ww_ddret C hd0 hr (fun r hal => by unfold x_full; rw [if_neg c9]; exact hal) (rfl) dX4_full_26 dX4_full_27
  · refine ww_dc0 C dX4_full_12 ?_
    refine ww_goto C dX4_full_13 27 (by decide) ?_
    exact ww_dret C hd0 hr (by unfold x_full; rw [if_pos c9]) (rfl) dX4_full_27
set_option maxRecDepth 100000 in
set_option maxHeartbeats 1600000 in
theorem dt_X5_full {g : gW} {l : Launch} {h : Hp} {n f : Nat} (H : OM n f h) : DT g l yX5_full cX5_full 3 3 [.ref (gB g + 64)] h (y_full n (y0 h)) (y0 h) := by
  have hn : y0 h 64 1 = nI n := H.yy.1
  have hn10 := H.2.1
  have hf : y0 h 64 3 = nI f := H.yy.2.2.1
  refine DT.of (lv0 := [(0, .ref (gB g + 64))]) (by decide +kernel) (Nat.le_of_ble_eq_true rfl) rfl ?_
  intro p e s m below meth c C hd0 hr
  have L : ∀ (fu j : Nat), j ≤ n → n < fu + j → WW g p l e (rK 3 0 0) (s.setDrawn s.drawn) m ([.ref (gB g + 64)] : List Value).toArray below meth c 3 [] (y0 h) [(0, .ref (gB g + 64)), (1, .int (m_hold (y0 h) j)), (2, .int (nI j))] 0 0 (MQD lw_cs below (QD g s.heap.size (y_full n (y0 h)) (y0 h)) ([.ref (gB g + 64)] : List Value).toArray s 0 0 (AA g s.heap.size)) 9 [] := by
    intro fu
    induction fu with
    | zero => intro j h1 h2; omega
    | succ fu ih =>
      intro j hj hfu
      refine ww_iload_n C dX5_full_9 2 rfl rfl ?_
      refine ww_aload_n C dX5_full_10 0 rfl rfl ?_
      refine ww_getM C 1 (by decide) q_f_X5_29 dX5_full_11 ?_
      refine ww_icmp_ge C dX5_full_14 31 (by decide) (fun q => ?_) (fun q => ?_)
      · have hjn := lp_exit hn q hj (by omega)
        subst hjn
        refine ww_aload_n C dX5_full_31 0 rfl rfl ?_
        refine ww_getM C 1 (by decide) q_f_X5_29 dX5_full_32 ?_
        refine ww_if_ne C dX5_full_35 42 (by decide) (fun c35 => ?_) (fun c35 => ?_)
        · refine ww_aload_n C dX5_full_42 0 rfl rfl ?_
          refine ww_callM C mf_X5_allWater dX5_full_43 (ct_X5_allWater H.yy) q_m_X5_135 rfl rfl rfl (Nat.le_of_ble_eq_true rfl) (by exact ⟨Nat.le_of_ble_eq_true rfl, Nat.le_of_ble_eq_true rfl⟩) (by exact ⟨Nat.le_of_ble_eq_true rfl, Nat.le_of_ble_eq_true rfl⟩) ?_
          refine ww_i2d C dX5_full_46 ?_
          refine ww_iload_n C dX5_full_47 1 rfl rfl ?_
          refine ww_i2d C dX5_full_48 ?_
          exact ww_ddret C hd0 hr (fun r hal => by unfold y_full; rw [if_neg c35]; exact hal) (rfl) dX5_full_49 dX5_full_50
        · refine ww_dc0 C dX5_full_38 ?_
          refine ww_goto C dX5_full_39 50 (by decide) ?_
          exact ww_dret C hd0 hr (by unfold y_full; rw [if_pos c35]) (rfl) dX5_full_50
      · have hjn := lp_body hn q hj (by omega)
        have hx : isN 10 (nI j) := ⟨j, by omega, rfl⟩
        refine ww_iload_n C dX5_full_17 1 rfl rfl ?_
        refine ww_aload_n C dX5_full_18 0 rfl rfl ?_
        refine ww_iload_n C dX5_full_19 2 rfl rfl ?_
        refine ww_callM C mf_X5_holds dX5_full_20 (ct_X5_holds hx) q_m_X5_69 rfl rfl rfl (Nat.le_of_ble_eq_true rfl) (by exact ⟨Nat.le_of_ble_eq_true rfl, Nat.le_of_ble_eq_true rfl⟩) (by exact ⟨Nat.le_of_ble_eq_true rfl, Nat.le_of_ble_eq_true rfl⟩) ?_
        refine ww_iadd C dX5_full_23 ?_
        refine ww_istore_n C dX5_full_24 1 rfl (by decide) ?_
        refine ww_iinc (v := nI (j + 1)) C dX5_full_25 rfl (nI_inc _) (by decide) ?_
        refine ww_goto C dX5_full_28 9 (by decide) ?_
        refine ww_lv [(0, .ref (gB g + 64)), (1, .int (m_hold (y0 h) (j + 1))), (2, .int (nI (j + 1)))] ⟨rfl, rfl, rfl, trivial⟩ ?_
        exact ih (j + 1) hjn (by omega)
  refine ww_aload_n C dX5_full_0 0 rfl rfl ?_
  refine ww_iconst (v := 0) C dX5_full_1 (by decide) ?_
  refine ww_putM C 0 (by decide) q_f_X5_25 dX5_full_2 ?_
  refine ww_heap (h2 := y0 h) rfl ?_
  refine ww_iconst (v := 0) C dX5_full_5 (by decide) ?_
  refine ww_istore_n C dX5_full_6 1 rfl (by decide) ?_
  refine ww_iconst (v := 0) C dX5_full_7 (by decide) ?_
  refine ww_istore_n C dX5_full_8 2 rfl (by decide) ?_
  refine ww_lv [(0, .ref (gB g + 64)), (1, .int (m_hold (y0 h) 0)), (2, .int (nI 0))] ⟨rfl, rfl, rfl, trivial⟩ ?_
  exact L (n + 1) 0 (Nat.zero_le _) (by omega)
