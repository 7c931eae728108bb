set_option maxRecDepth 100000 in
set_option maxHeartbeats 4000000 in
/-- new DewPond(), the object at gB g + 0 -/
theorem cc_X4_init {g : gW} {l : Launch} {cp0 : Nat → va_E} (h0 : cp0 0 = .inr (4, [.null, .null])) : CC g l yX4_init cX4_init 1 3 63 414 [.ref (gB g + 0)] 1 cp0 64 (fun o => if o = 0 then .inr (4, [.ref (gB g + 1), .ref (gB g + 32)]) else if o < 32 then dn g (dz 1 o) 1 6 o else dn g (dz 32 o) 32 7 o) := by
  refine CC.of (lv0 := [(0, .ref (gB g + 0))]) mf_X4_init.2.2.2 rfl (Nat.le_of_ble_eq_true rfl) rfl ?_
  intro p e s m below meth c C hin hr
  refine vv_aload_n C dX4_init_0 0 rfl rfl ?_
  refine vv_oinit C q_m_X4_1 dX4_init_1 (Nat.le_of_ble_eq_true rfl) (Nat.le_of_ble_eq_true rfl) ?_
  refine vv_aload_n C dX4_init_4 0 rfl rfl ?_
  refine vv_new (T := TX0) (Nf := 8) (ci := 0) (fs := [.null, .null, .null, .null, .int 0, .int 0, .int 0, .int 0]) C rfl inX0 tyX0 tyX0_ok q_k_X4_7 q_a_X0 q_n_X0 (by decide +kernel) rfl ⟨(Nat.le_of_ble_eq_true rfl), (Nat.le_of_ble_eq_true rfl)⟩ dX4_init_5 ?_
  refine vv_dup C dX4_init_8 rfl ?_
  refine vv_bipush (v := nI 6) C dX4_init_9 (by decide) ?_
  refine vv_callC (As := [.int (nI 6)]) (N2 := 32) C mf_X0_init rfl q_i_X0_init (cc_X0_init (d := 1) (k := 6) (by omega) cu_eq) q_m_X4_11 rfl rfl rfl (Nat.le_of_ble_eq_true rfl) ⟨(Nat.le_of_ble_eq_true rfl), (Nat.le_of_ble_eq_true rfl)⟩ ⟨(Nat.le_of_ble_eq_true rfl), (Nat.le_of_ble_eq_true rfl)⟩ dX4_init_11 ?_
  refine vv_putF (T := TX4) (Nf := 2) (fs := [.null, .null]) C hin (show 0 < 32 by omega) (by unfold dC; rw [if_pos (by omega), cu_ne (by omega)]; exact h0) rfl inX4 tyX4 tyX4_ok nmX4 0 (by decide) q_f_X4_14 rfl rfl rfl rfl (Nat.le_of_ble_eq_true rfl) dX4_init_14 ?_
  refine vv_aload_n C dX4_init_17 0 rfl rfl ?_
  refine vv_new (T := TX0) (Nf := 8) (ci := 0) (fs := [.null, .null, .null, .null, .int 0, .int 0, .int 0, .int 0]) C rfl inX0 tyX0 tyX0_ok q_k_X4_7 q_a_X0 q_n_X0 (by decide +kernel) rfl ⟨(Nat.le_of_ble_eq_true rfl), (Nat.le_of_ble_eq_true rfl)⟩ dX4_init_18 ?_
  refine vv_dup C dX4_init_21 rfl ?_
  refine vv_bipush (v := nI 7) C dX4_init_22 (by decide) ?_
  refine vv_callC (As := [.int (nI 7)]) (N2 := 64) C mf_X0_init rfl q_i_X0_init (cc_X0_init (d := 32) (k := 7) (by omega) cu_eq) q_m_X4_11 rfl rfl rfl (Nat.le_of_ble_eq_true rfl) ⟨(Nat.le_of_ble_eq_true rfl), (Nat.le_of_ble_eq_true rfl)⟩ ⟨(Nat.le_of_ble_eq_true rfl), (Nat.le_of_ble_eq_true rfl)⟩ dX4_init_24 ?_
  refine vv_putF (T := TX4) (Nf := 2) (fs := [.ref (gB g + 1), .null]) C hin (show 0 < 64 by omega) (by unfold dC; rw [if_pos (by omega), cu_ne (by omega), cu_eq]; rfl) rfl inX4 tyX4 tyX4_ok nmX4 1 (by decide) q_f_X4_18 rfl rfl rfl rfl (Nat.le_of_ble_eq_true rfl) dX4_init_27 ?_
  refine vv_vret C hr rfl (fun o ho => ?_) dX4_init_30
  by_cases e0 : o = 0
  · subst e0
    rw [cu_eq, if_pos rfl]
    rfl
  rw [cu_ne e0, if_neg e0]
  unfold dC
  by_cases e1 : o < 32
  · rw [if_pos e1, if_pos e1, cu_ne (by omega), cu_ne e0, if_neg (by omega)]
  · rw [if_neg e1, if_neg e1]
