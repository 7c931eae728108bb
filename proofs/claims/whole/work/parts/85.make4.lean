set_option maxRecDepth 100000 in
set_option maxHeartbeats 4000000 in
/-- new DewPond(), the object at gB g + 0 -/
theorem cc_X4_init {g : gW} {l : Launch} {cp0 : Nat → va_E} (h0 : cp0 0 = .inr (4, [.null, .null])) : CC g l yX4_init cX4_init 1 3 63 414 [.ref (gB g + 0)] 1 cp0 64 (fun o => if o = 0 then .inr (4, [.ref (gB g + 1), .ref (gB g + 32)]) else if o < 32 then dn g (dz 1 o) 1 6 o else dn g (dz 32 o) 32 7 o) := by
  refine CC.of (lv0 := [(0, .ref (gB g + 0))]) mf_X4_init.2.2.2 rfl (Nat.le_of_ble_eq_true rfl) rfl ?_
  intro p e s m below meth c C hin hr
  refine vv_aload_n C dX4_init_0 0 rfl rfl ?_
  refine vv_oinit C q_m_X4_1 dX4_init_1 (Nat.le_of_ble_eq_true rfl) (Nat.le_of_ble_eq_true rfl) ?_
  refine vv_aload_n C dX4_init_4 0 rfl rfl ?_
  refine vv_new (T := TX0) (Nf := 8) (ci := 0) (fs := [.null, .null, .null, .null, .int 0, .int 0, .int 0, .int 0]) C rfl inX0 tyX0 tyX0_ok q_k_X4_7 q_a_X0 q_n_X0 (by decide +kernel) rfl ⟨(Nat.le_of_ble_eq_true rfl), (Nat.le_of_ble_eq_true rfl)⟩ dX4_init_5 ?_
  refine vv_dup C dX4_init_8 rfl ?_
  refine vv_bipush (v := nI 6) C dX4_init_9 (by decide) ?_
  refine vv_callC (As := [.int (nI 6)]) (N2 := 32) C mf_X0_init rfl q_i_X0_init (cc_X0_init (d := 1) (k := 6) (by omega) cu_eq) q_m_X4_11 rfl rfl rfl (Nat.le_of_ble_eq_true rfl) ⟨(Nat.le_of_ble_eq_true rfl), (Nat.le_of_ble_eq_true rfl)⟩ ⟨(Nat.le_of_ble_eq_true rfl), (Nat.le_of_ble_eq_true rfl)⟩ dX4_init_11 ?_
  refine vv_putF (T := TX4) (Nf := 2) (fs := [.null, .null]) C hin (show 0 < 32 by omega) (by unfold dC; rw [if_pos (by omega), cu_ne (by omega)]; exact h0) rfl inX4 tyX4 tyX4_ok nmX4 0 (by decide) q_f_X4_14 rfl rfl rfl rfl (Nat.le_of_ble_eq_true rfl) dX4_init_14 ?_
  refine vv_aload_n C dX4_init_17 0 rfl rfl ?_
  refine vv_new (T := TX0) (Nf := 8) (ci := 0) (fs := [.null, .null, .null, .null, .int 0, .int 0, .int 0, .int 0]) C rfl inX0 tyX0 tyX0_ok q_k_X4_7 q_a_X0 q_n_X0 (by decide +kernel) rfl ⟨(Nat.le_of_ble_eq_true rfl), (Nat.le_of_ble_eq_true rfl)⟩ dX4_init_18 ?_
  refine vv_dup C dX4_init_21 rfl ?_
  refine vv_bipush (v := nI 7) C dX4_init_22 (by decide) ?_
  refine vv_callC (As := [.int (nI 7)]) (N2 := 64) C mf_X0_init rfl q_i_X0_init (cc_X0_init (d := 32) (k := 7) (by omega) cu_eq) q_m_X4_11 rfl rfl rfl (Nat.le_of_ble_eq_true rfl) ⟨(Nat.le_of_ble_eq_true rfl), (Nat.le_of_ble_eq_true rfl)⟩ ⟨(Nat.le_of_ble_eq_true rfl), (Nat.le_of_ble_eq_true rfl)⟩ dX4_init_24 ?_
  refine vv_putF (T := TX4) (Nf := 2) (fs := [.ref (gB g + 1), .null]) C hin (show 0 < 64 by omega) (by unfold dC; rw [if_pos (by omega), cu_ne (by omega), cu_eq]; rfl) rfl inX4 tyX4 tyX4_ok nmX4 1 (by decide) q_f_X4_18 rfl rfl rfl rfl (Nat.le_of_ble_eq_true rfl) dX4_init_27 ?_
  refine vv_vret C hr rfl (fun o ho => ?_) dX4_init_30
  by_cases e0 : o = 0
  · subst e0
    rw [cu_eq, if_pos rfl]
    rfl
  rw [cu_ne e0, if_neg e0]
  unfold dC
  by_cases e1 : o < 32
  · rw [if_pos e1, if_pos e1, cu_ne (by omega), cu_ne e0, if_neg (by omega)]
  · rw [if_neg e1, if_neg e1]
set_option maxRecDepth 100000 in
set_option maxHeartbeats 4000000 in
/-- new DewPondModel(), the object at gB g + 64 -/
theorem cc_X5_init {g : gW} {l : Launch} {cp0 : Nat → va_E} (h0 : cp0 64 = .inr (5, [.int 0, .int 0, .null, .int 0, .null, .null, .null, .null])) : CC g l yX5_init cX5_init 1 1 5 167 [.ref (gB g + 64)] 65 cp0 70 (fun o => if o < 64 then cp0 o else ce g (fun k => if o = 69 ∧ k = 1 then 100 else 0) o) := by
  refine CC.of (lv0 := [(0, .ref (gB g + 64))]) mf_X5_init.2.2.2 rfl (Nat.le_of_ble_eq_true rfl) rfl ?_
  intro p e s m below meth c C hin hr
  refine vv_aload_n C dX5_init_0 0 rfl rfl ?_
  refine vv_oinit C q_m_X5_1 dX5_init_1 (Nat.le_of_ble_eq_true rfl) (Nat.le_of_ble_eq_true rfl) ?_
  refine vv_aload_n C dX5_init_4 0 rfl rfl ?_
  refine vv_bipush (v := nI 50) C dX5_init_5 (by decide) ?_
  refine vv_newi (k := 50) C rfl (by omega) rfl ⟨(Nat.le_of_ble_eq_true rfl), (Nat.le_of_ble_eq_true rfl)⟩ dX5_init_7 ?_
  refine vv_putF (T := TX5) (Nf := 8) (fs := [.int 0, .int 0, .null, .int 0, .null, .null, .null, .null]) C hin (show 64 < 66 by omega) (by rw [cu_ne (by omega)]; exact h0) rfl inX5 tyX5 tyX5_ok nmX5 2 (by decide) q_f_X5_9 rfl rfl rfl rfl (Nat.le_of_ble_eq_true rfl) dX5_init_9 ?_
  refine vv_aload_n C dX5_init_12 0 rfl rfl ?_
  refine vv_bipush (v := nI 30) C dX5_init_13 (by decide) ?_
  refine vv_newi (k := 30) C rfl (by omega) rfl ⟨(Nat.le_of_ble_eq_true rfl), (Nat.le_of_ble_eq_true rfl)⟩ dX5_init_15 ?_
  refine vv_putF (T := TX5) (Nf := 8) (fs := [.int 0, .int 0, .ref (gB g + 65), .int 0, .null, .null, .null, .null]) C hin (show 64 < 67 by omega) (by rw [cu_ne (by omega), cu_eq]; rfl) rfl inX5 tyX5 tyX5_ok nmX5 4 (by decide) q_f_X5_13 rfl rfl rfl rfl (Nat.le_of_ble_eq_true rfl) dX5_init_17 ?_
  refine vv_aload_n C dX5_init_20 0 rfl rfl ?_
  refine vv_bipush (v := nI 50) C dX5_init_21 (by decide) ?_
  refine vv_newi (k := 50) C rfl (by omega) rfl ⟨(Nat.le_of_ble_eq_true rfl), (Nat.le_of_ble_eq_true rfl)⟩ dX5_init_23 ?_
  refine vv_putF (T := TX5) (Nf := 8) (fs := [.int 0, .int 0, .ref (gB g + 65), .int 0, .ref (gB g + 66), .null, .null, .null]) C hin (show 64 < 68 by omega) (by rw [cu_ne (by omega), cu_eq]; rfl) rfl inX5 tyX5 tyX5_ok nmX5 5 (by decide) q_f_X5_16 rfl rfl rfl rfl (Nat.le_of_ble_eq_true rfl) dX5_init_25 ?_
  refine vv_aload_n C dX5_init_28 0 rfl rfl ?_
  refine vv_bipush (v := nI 35) C dX5_init_29 (by decide) ?_
  refine vv_newi (k := 35) C rfl (by omega) rfl ⟨(Nat.le_of_ble_eq_true rfl), (Nat.le_of_ble_eq_true rfl)⟩ dX5_init_31 ?_
  refine vv_putF (T := TX5) (Nf := 8) (fs := [.int 0, .int 0, .ref (gB g + 65), .int 0, .ref (gB g + 66), .ref (gB g + 67), .null, .null]) C hin (show 64 < 69 by omega) (by rw [cu_ne (by omega), cu_eq]; rfl) rfl inX5 tyX5 tyX5_ok nmX5 6 (by decide) q_f_X5_19 rfl rfl rfl rfl (Nat.le_of_ble_eq_true rfl) dX5_init_33 ?_
  refine vv_aload_n C dX5_init_36 0 rfl rfl ?_
  refine vv_iconst (v := nI 2) C dX5_init_37 (by decide) ?_
  refine vv_newi (k := 2) C rfl (by omega) rfl ⟨(Nat.le_of_ble_eq_true rfl), (Nat.le_of_ble_eq_true rfl)⟩ dX5_init_38 ?_
  refine vv_dup C dX5_init_40 rfl ?_
  refine vv_iconst (v := nI 0) C dX5_init_41 (by decide) ?_
  refine vv_iconst (v := 0) C dX5_init_42 (by decide) ?_
  refine vv_iast (n := 2) (f := fun _ => 0) C (show 69 < 70 by omega) cu_eq rfl (by omega) (by omega) dX5_init_43 ?_
  refine vv_dup C dX5_init_44 rfl ?_
  refine vv_iconst (v := nI 1) C dX5_init_45 (by decide) ?_
  refine vv_bipush (v := 100) C dX5_init_46 (by decide) ?_
  refine vv_iast (n := 2) (f := upd (fun _ => 0) 0 0) C (show 69 < 70 by omega) cu_eq rfl (by omega) (by omega) dX5_init_48 ?_
  refine vv_putF (T := TX5) (Nf := 8) (fs := [.int 0, .int 0, .ref (gB g + 65), .int 0, .ref (gB g + 66), .ref (gB g + 67), .ref (gB g + 68), .null]) C hin (show 64 < 70 by omega) (by rw [cu_ne (by omega), cu_ne (by omega), cu_ne (by omega), cu_eq]; rfl) rfl inX5 tyX5 tyX5_ok nmX5 7 (by decide) q_f_X5_22 rfl rfl rfl rfl (Nat.le_of_ble_eq_true rfl) dX5_init_49 ?_
  refine vv_vret C hr rfl (fun o ho => ?_) dX5_init_52
  by_cases e0 : o < 64
  · rw [if_pos e0]
    simp only [cu, show ¬ o = 64 by omega, show ¬ o = 65 by omega, show ¬ o = 66 by omega, show ¬ o = 67 by omega, show ¬ o = 68 by omega, show ¬ o = 69 by omega, if_false]
  rw [if_neg e0]
  have hcase : o = 64 ∨ o = 65 ∨ o = 66 ∨ o = 67 ∨ o = 68 ∨ o = 69 := by omega
  rcases hcase with rfl | rfl | rfl | rfl | rfl | rfl
  · rfl
  · rfl
  · rfl
  · rfl
  · rfl
  · rw [cu_ne (by omega), cu_eq]
    have e : upd (upd (fun _ => (0 : Int32)) 0 0) 1 100 = fun k => if 69 = 69 ∧ k = 1 then (100 : Int32) else 0 := by
      funext k
      unfold upd
      by_cases h1 : k = 1 <;> simp [h1]
    show (Sum.inl (gA g 0, 2, Sum.inl (upd (upd (fun _ => 0) 0 0) 1 100)) : va_E) = Sum.inl (gA g 0, 2, Sum.inl (fun k => if 69 = 69 ∧ k = 1 then 100 else 0))
    rw [e]
