/-! A CONSTRUCTOR'S CONTRACT: from N cells with contents cp to N2 cells with contents cp2 -/
def PC (g : gW) (N : Nat) (cp : Nat → va_E) : State → Prop := fun U => U.heap.size = gB g + N ∧ va_P (gD g) vwCl (vl g N cp) U.heap ∧ va_K (gD g) vwCl (gT g) U ∧ KC U
def QC (g : gW) (N2 : Nat) (cp2 : Nat → va_E) : Array Value → State → Outcome → State → Prop := fun _ st oc t => oc = .returned none ∧ va_P (gD g) vwCl (vl g N2 cp2) t.heap ∧ va_F (AG g) st t
def CC (g : gW) (l : Launch) (y : MethodName) (cc : ByteArray) (nL k mc ms : Nat) (As : List Value) (N : Nat) (cp : Nat → va_E) (N2 : Nat) (cp2 : Nat → va_E) : Prop :=
  Met l y (ws_ y cc nL none) (rK k mc ms) (va_Pc As (PC g N cp)) (QC g N2 cp2) mc ms (AG g)
theorem kc_tab {U : State} (h : KC U) (gg : JFrame) (mk : FrameMark) (a : Array Value) : True := trivial
