set_option maxRecDepth 100000 in
set_option maxHeartbeats 4000000 in
theorem ct_X5_fail {g : gW} {l : Launch} {h : Hp} {x : Int32} : CT g l yX5_fail cX5_fail 2 (some FieldType.int) 0 0 0 [.ref (gB g + 64), .int x] h (some (.int 0)) (hp_up h 64 0 x) := by
  refine CT.of (lv0 := [(0, .ref (gB g + 64)), (1, .int x)]) mf_X5_fail.1.2.2.2 (Nat.le_of_ble_eq_true rfl) rfl ?_
  intro p e s m below meth c C hr
  refine ww_aload_n C dX5_fail_0 0 rfl rfl ?_
  refine ww_iload_n C dX5_fail_1 1 rfl rfl ?_
  refine ww_putM C 0 (by decide) q_f_X5_25 dX5_fail_2 ?_
  refine ww_iconst (v := 0) C dX5_fail_5 (by decide) ?_
  exact ww_iret C hr rfl rfl dX5_fail_6
set_option maxRecDepth 100000 in
set_option maxHeartbeats 4000000 in
theorem ct_X5_thrown {g : gW} {l : Launch} {h : Hp}  : CT g l yX5_thrown cX5_thrown 1 (some FieldType.int) 0 0 0 [.ref (gB g + 64)] h (some (.int (h 64 0))) h := by
  refine CT.of (lv0 := [(0, .ref (gB g + 64))]) mf_X5_thrown.1.2.2.2 (Nat.le_of_ble_eq_true rfl) rfl ?_
  intro p e s m below meth c C hr
  refine ww_aload_n C dX5_thrown_0 0 rfl rfl ?_
  refine ww_getM C 0 (by decide) q_f_X5_25 dX5_thrown_1 ?_
  exact ww_iret C hr rfl rfl dX5_thrown_4
set_option maxRecDepth 100000 in
set_option maxHeartbeats 4000000 in
theorem ct_X5_isIn {g : gW} {l : Launch} {h : Hp} {x a b : Int32} : CT g l yX5_isIn cX5_isIn 3 (some FieldType.boolean) 0 0 0 [.int x, .int a, .int b] h (some (.int (bI (a ≤ x ∧ x ≤ b)))) h := by
  refine CT.of (lv0 := [(0, .int x), (1, .int a), (2, .int b)]) mf_X5_isIn.1.2.2.2 (Nat.le_of_ble_eq_true rfl) rfl ?_
  intro p e s m below meth c C hr
  refine ww_iload_n C dX5_isIn_0 0 rfl rfl ?_
  refine ww_iload_n C dX5_isIn_1 1 rfl rfl ?_
  refine ww_icmp_lt C dX5_isIn_2 14 (by decide) (fun c2 => ?_) (fun c2 => ?_)
  · refine ww_iconst (v := 0) C dX5_isIn_14 (by decide) ?_
    exact ww_zret C hr (by first | exact Or.inl rfl | exact Or.inr rfl | assumption) (by first | (rw [bIt (in_range c2 c7)]; done) | (rw [bIf (fun z => absurd c2 (Int32.not_lt.mpr z.1))]; done) | (rw [bIf (fun z => absurd c7 (Int32.not_lt.mpr z.2))]; done)) rfl dX5_isIn_15
  · refine ww_iload_n C dX5_isIn_5 0 rfl rfl ?_
    refine ww_iload_n C dX5_isIn_6 2 rfl rfl ?_
    refine ww_icmp_gt C dX5_isIn_7 14 (by decide) (fun c7 => ?_) (fun c7 => ?_)
    · refine ww_iconst (v := 0) C dX5_isIn_14 (by decide) ?_
      exact ww_zret C hr (by first | exact Or.inl rfl | exact Or.inr rfl | assumption) (by first | (rw [bIt (in_range c2 c7)]; done) | (rw [bIf (fun z => absurd c2 (Int32.not_lt.mpr z.1))]; done) | (rw [bIf (fun z => absurd c7 (Int32.not_lt.mpr z.2))]; done)) rfl dX5_isIn_15
    · refine ww_iconst (v := 1) C dX5_isIn_10 (by decide) ?_
      refine ww_goto C dX5_isIn_11 15 (by decide) ?_
      exact ww_zret C hr (by first | exact Or.inl rfl | exact Or.inr rfl | assumption) (by first | (rw [bIt (in_range c2 c7)]; done) | (rw [bIf (fun z => absurd c2 (Int32.not_lt.mpr z.1))]; done) | (rw [bIf (fun z => absurd c7 (Int32.not_lt.mpr z.2))]; done)) rfl dX5_isIn_15
set_option maxRecDepth 100000 in
set_option maxHeartbeats 4000000 in
theorem ct_X5_isPond {g : gW} {l : Launch} {h : Hp} {x : Int32} : CT g l yX5_isPond cX5_isPond 2 (some FieldType.boolean) 1 0 0 [.ref (gB g + 64), .int x] h (some (.int (bI (0 ≤ x ∧ x ≤ h 64 1 - 1)))) h := by
  refine CT.of (lv0 := [(0, .ref (gB g + 64)), (1, .int x)]) mf_X5_isPond.1.2.2.2 (Nat.le_of_ble_eq_true rfl) rfl ?_
  intro p e s m below meth c C hr
  refine ww_iload_n C dX5_isPond_0 1 rfl rfl ?_
  refine ww_iconst (v := 0) C dX5_isPond_1 (by decide) ?_
  refine ww_aload_n C dX5_isPond_2 0 rfl rfl ?_
  refine ww_getM C 1 (by decide) q_f_X5_29 dX5_isPond_3 ?_
  refine ww_iconst (v := 1) C dX5_isPond_6 (by decide) ?_
  refine ww_isub C dX5_isPond_7 ?_
  refine ww_callS C mf_X5_isIn ct_X5_isIn q_m_X5_32 rfl rfl (Nat.le_of_ble_eq_true rfl) (by exact ⟨Nat.le_of_ble_eq_true rfl, Nat.le_of_ble_eq_true rfl⟩) (by exact ⟨Nat.le_of_ble_eq_true rfl, Nat.le_of_ble_eq_true rfl⟩) dX5_isPond_8 ?_
  exact ww_zret C hr (bI_01 _) rfl rfl dX5_isPond_11
set_option maxRecDepth 100000 in
set_option maxHeartbeats 4000000 in
theorem ct_X5_isFlock {g : gW} {l : Launch} {h : Hp} {x : Int32} : CT g l yX5_isFlock cX5_isFlock 2 (some FieldType.boolean) 1 0 0 [.ref (gB g + 64), .int x] h (some (.int (bI (0 ≤ x ∧ x ≤ h 64 3 - 1)))) h := by
  refine CT.of (lv0 := [(0, .ref (gB g + 64)), (1, .int x)]) mf_X5_isFlock.1.2.2.2 (Nat.le_of_ble_eq_true rfl) rfl ?_
  intro p e s m below meth c C hr
  refine ww_iload_n C dX5_isFlock_0 1 rfl rfl ?_
  refine ww_iconst (v := 0) C dX5_isFlock_1 (by decide) ?_
  refine ww_aload_n C dX5_isFlock_2 0 rfl rfl ?_
  refine ww_getM C 3 (by decide) q_f_X5_36 dX5_isFlock_3 ?_
  refine ww_iconst (v := 1) C dX5_isFlock_6 (by decide) ?_
  refine ww_isub C dX5_isFlock_7 ?_
  refine ww_callS C mf_X5_isIn ct_X5_isIn q_m_X5_32 rfl rfl (Nat.le_of_ble_eq_true rfl) (by exact ⟨Nat.le_of_ble_eq_true rfl, Nat.le_of_ble_eq_true rfl⟩) (by exact ⟨Nat.le_of_ble_eq_true rfl, Nat.le_of_ble_eq_true rfl⟩) dX5_isFlock_8 ?_
  exact ww_zret C hr (bI_01 _) rfl rfl dX5_isFlock_11
set_option maxRecDepth 100000 in
set_option maxHeartbeats 4000000 in
theorem ct_X5_fx {g : gW} {l : Launch} {h : Hp} {x y : Int32} (hi : isI 50 x y) : CT g l yX5_fx cX5_fx 3 (some FieldType.int) 0 0 0 [.ref (gB g + 64), .int x, .int y] h (some (.int (m_fx h x y))) h := by
  refine CT.of (lv0 := [(0, .ref (gB g + 64)), (1, .int x), (2, .int y)]) mf_X5_fx.1.2.2.2 (Nat.le_of_ble_eq_true rfl) rfl ?_
  intro p e s m below meth c C hr
  obtain ⟨e1, e2⟩ := isI_at (by omega) hi
  refine ww_aload_n C dX5_fx_0 0 rfl rfl ?_
  refine ww_getMf C q_f_X5_9 dX5_fx_1 ?_
  refine ww_iconst (v := 5) C dX5_fx_4 (by decide) ?_
  refine ww_iload_n C dX5_fx_5 1 rfl rfl ?_
  refine ww_imul C dX5_fx_6 ?_
  refine ww_iload_n C dX5_fx_7 2 rfl rfl ?_
  refine ww_iadd C dX5_fx_8 ?_
  refine ww_top e1 ?_
  refine ww_iald (o := 65) (n := 50) C (by omega) (fun r => rfl) e2 (by omega) dX5_fx_9 ?_
  exact ww_iret C hr rfl rfl dX5_fx_10
set_option maxRecDepth 100000 in
set_option maxHeartbeats 4000000 in
theorem ct_X5_po {g : gW} {l : Launch} {h : Hp} {x y : Int32} (hi : isI 50 x y) : CT g l yX5_po cX5_po 3 (some FieldType.int) 0 0 0 [.ref (gB g + 64), .int x, .int y] h (some (.int (m_po h x y))) h := by
  refine CT.of (lv0 := [(0, .ref (gB g + 64)), (1, .int x), (2, .int y)]) mf_X5_po.1.2.2.2 (Nat.le_of_ble_eq_true rfl) rfl ?_
  intro p e s m below meth c C hr
  obtain ⟨e1, e2⟩ := isI_at (by omega) hi
  refine ww_aload_n C dX5_po_0 0 rfl rfl ?_
  refine ww_getMt C q_f_X5_16 dX5_po_1 ?_
  refine ww_iconst (v := 5) C dX5_po_4 (by decide) ?_
  refine ww_iload_n C dX5_po_5 1 rfl rfl ?_
  refine ww_imul C dX5_po_6 ?_
  refine ww_iload_n C dX5_po_7 2 rfl rfl ?_
  refine ww_iadd C dX5_po_8 ?_
  refine ww_top e1 ?_
  refine ww_iald (o := 67) (n := 50) C (by omega) (fun r => rfl) e2 (by omega) dX5_po_9 ?_
  exact ww_iret C hr rfl rfl dX5_po_10
set_option maxRecDepth 100000 in
set_option maxHeartbeats 4000000 in
theorem ct_X5_fl {g : gW} {l : Launch} {h : Hp} {x y : Int32} (hi : isI 35 x y) : CT g l yX5_fl cX5_fl 3 (some FieldType.int) 0 0 0 [.ref (gB g + 64), .int x, .int y] h (some (.int (m_fl h x y))) h := by
  refine CT.of (lv0 := [(0, .ref (gB g + 64)), (1, .int x), (2, .int y)]) mf_X5_fl.1.2.2.2 (Nat.le_of_ble_eq_true rfl) rfl ?_
  intro p e s m below meth c C hr
  obtain ⟨e1, e2⟩ := isI_at (by omega) hi
  refine ww_aload_n C dX5_fl_0 0 rfl rfl ?_
  refine ww_getMh C q_f_X5_19 dX5_fl_1 ?_
  refine ww_iconst (v := 5) C dX5_fl_4 (by decide) ?_
  refine ww_iload_n C dX5_fl_5 1 rfl rfl ?_
  refine ww_imul C dX5_fl_6 ?_
  refine ww_iload_n C dX5_fl_7 2 rfl rfl ?_
  refine ww_iadd C dX5_fl_8 ?_
  refine ww_top e1 ?_
  refine ww_iald (o := 68) (n := 35) C (by omega) (fun r => rfl) e2 (by omega) dX5_fl_9 ?_
  exact ww_iret C hr rfl rfl dX5_fl_10
set_option maxRecDepth 100000 in
set_option maxHeartbeats 4000000 in
theorem ct_X5_set {g : gW} {l : Launch} {h : Hp} {x y v : Int32} (hi : isI 50 x y) : CT g l yX5_set cX5_set 4 none 0 0 0 [.ref (gB g + 64), .int x, .int y, .int v] h none (m_set h x y v) := by
  refine CT.of (lv0 := [(0, .ref (gB g + 64)), (1, .int x), (2, .int y), (3, .int v)]) mf_X5_set.1.2.2.2 (Nat.le_of_ble_eq_true rfl) rfl ?_
  intro p e s m below meth c C hr
  obtain ⟨e1, e2⟩ := isI_at (by omega) hi
  refine ww_aload_n C dX5_set_0 0 rfl rfl ?_
  refine ww_getMt C q_f_X5_16 dX5_set_1 ?_
  refine ww_iconst (v := 5) C dX5_set_4 (by decide) ?_
  refine ww_iload_n C dX5_set_5 1 rfl rfl ?_
  refine ww_imul C dX5_set_6 ?_
  refine ww_iload_n C dX5_set_7 2 rfl rfl ?_
  refine ww_iadd C dX5_set_8 ?_
  refine ww_top e1 ?_
  refine ww_iload_n C dX5_set_9 3 rfl rfl ?_
  refine ww_iast (o := 67) (n := 50) C (by omega) (fun r => rfl) e2 (by omega) dX5_set_10 ?_
  exact ww_vret C hr rfl rfl dX5_set_11
set_option maxRecDepth 100000 in
set_option maxHeartbeats 4000000 in
theorem ct_X5_setFl {g : gW} {l : Launch} {h : Hp} {x y v : Int32} (hi : isI 35 x y) : CT g l yX5_setFl cX5_setFl 4 none 0 0 0 [.ref (gB g + 64), .int x, .int y, .int v] h none (m_setFl h x y v) := by
  refine CT.of (lv0 := [(0, .ref (gB g + 64)), (1, .int x), (2, .int y), (3, .int v)]) mf_X5_setFl.1.2.2.2 (Nat.le_of_ble_eq_true rfl) rfl ?_
  intro p e s m below meth c C hr
  obtain ⟨e1, e2⟩ := isI_at (by omega) hi
  refine ww_aload_n C dX5_setFl_0 0 rfl rfl ?_
  refine ww_getMh C q_f_X5_19 dX5_setFl_1 ?_
  refine ww_iconst (v := 5) C dX5_setFl_4 (by decide) ?_
  refine ww_iload_n C dX5_setFl_5 1 rfl rfl ?_
  refine ww_imul C dX5_setFl_6 ?_
  refine ww_iload_n C dX5_setFl_7 2 rfl rfl ?_
  refine ww_iadd C dX5_setFl_8 ?_
  refine ww_top e1 ?_
  refine ww_iload_n C dX5_setFl_9 3 rfl rfl ?_
  refine ww_iast (o := 68) (n := 35) C (by omega) (fun r => rfl) e2 (by omega) dX5_setFl_10 ?_
  exact ww_vret C hr rfl rfl dX5_setFl_11
set_option maxRecDepth 100000 in
set_option maxHeartbeats 4000000 in
theorem ct_X5_holds {g : gW} {l : Launch} {h : Hp} {x : Int32} (hx : isN 10 x) : CT g l yX5_holds cX5_holds 2 (some FieldType.int) 1 0 0 [.ref (gB g + 64), .int x] h (some (.int (m_holds h x))) h := by
  refine CT.of (lv0 := [(0, .ref (gB g + 64)), (1, .int x)]) mf_X5_holds.1.2.2.2 (Nat.le_of_ble_eq_true rfl) rfl ?_
  intro p e s m below meth c C hr
  refine ww_aload_n C dX5_holds_0 0 rfl rfl ?_
  refine ww_iload_n C dX5_holds_1 1 rfl rfl ?_
  refine ww_iconst (v := 3) C dX5_holds_2 (by decide) ?_
  refine ww_callM C mf_X5_fx dX5_holds_3 (ct_X5_fx (by first | exact ix_0 (by assumption) | exact ix_1 (by assumption) | exact ix_2 (by assumption) | exact ix_3 (by assumption) | exact ix_4 (by assumption))) q_m_X5_39 rfl rfl rfl (Nat.le_of_ble_eq_true rfl) (by exact ⟨Nat.le_of_ble_eq_true rfl, Nat.le_of_ble_eq_true rfl⟩) (by exact ⟨Nat.le_of_ble_eq_true rfl, Nat.le_of_ble_eq_true rfl⟩) ?_
  refine ww_aload_n C dX5_holds_6 0 rfl rfl ?_
  refine ww_iload_n C dX5_holds_7 1 rfl rfl ?_
  refine ww_iconst (v := 4) C dX5_holds_8 (by decide) ?_
  refine ww_callM C mf_X5_fx dX5_holds_9 (ct_X5_fx (by first | exact ix_0 (by assumption) | exact ix_1 (by assumption) | exact ix_2 (by assumption) | exact ix_3 (by assumption) | exact ix_4 (by assumption))) q_m_X5_39 rfl rfl rfl (Nat.le_of_ble_eq_true rfl) (by exact ⟨Nat.le_of_ble_eq_true rfl, Nat.le_of_ble_eq_true rfl⟩) (by exact ⟨Nat.le_of_ble_eq_true rfl, Nat.le_of_ble_eq_true rfl⟩) ?_
  refine ww_imul C dX5_holds_12 ?_
  refine ww_bipush (v := 10) C dX5_holds_13 (by decide) ?_
  refine ww_imul C dX5_holds_15 ?_
  exact ww_iret C hr rfl rfl dX5_holds_16
set_option maxRecDepth 100000 in
set_option maxHeartbeats 4000000 in
theorem ct_X5_far {g : gW} {l : Launch} {h : Hp} {x y : Int32} (hx : isN 10 x) (hy : isN 10 y) : CT g l yX5_far cX5_far 3 (some FieldType.int) 1 0 0 [.ref (gB g + 64), .int x, .int y] h (some (.int (m_far h x y))) h := by
  refine CT.of (lv0 := [(0, .ref (gB g + 64)), (1, .int x), (2, .int y)]) mf_X5_far.1.2.2.2 (Nat.le_of_ble_eq_true rfl) rfl ?_
  intro p e s m below meth c C hr
  refine ww_aload_n C dX5_far_0 0 rfl rfl ?_
  refine ww_iload_n C dX5_far_1 1 rfl rfl ?_
  refine ww_iconst (v := 0) C dX5_far_2 (by decide) ?_
  refine ww_callM C mf_X5_fx dX5_far_3 (ct_X5_fx (by first | exact ix_0 (by assumption) | exact ix_1 (by assumption) | exact ix_2 (by assumption) | exact ix_3 (by assumption) | exact ix_4 (by assumption))) q_m_X5_39 rfl rfl rfl (Nat.le_of_ble_eq_true rfl) (by exact ⟨Nat.le_of_ble_eq_true rfl, Nat.le_of_ble_eq_true rfl⟩) (by exact ⟨Nat.le_of_ble_eq_true rfl, Nat.le_of_ble_eq_true rfl⟩) ?_
  refine ww_aload_n C dX5_far_6 0 rfl rfl ?_
  refine ww_iload_n C dX5_far_7 2 rfl rfl ?_
  refine ww_iconst (v := 0) C dX5_far_8 (by decide) ?_
  refine ww_callM C mf_X5_fx dX5_far_9 (ct_X5_fx (by first | exact ix_0 (by assumption) | exact ix_1 (by assumption) | exact ix_2 (by assumption) | exact ix_3 (by assumption) | exact ix_4 (by assumption))) q_m_X5_39 rfl rfl rfl (Nat.le_of_ble_eq_true rfl) (by exact ⟨Nat.le_of_ble_eq_true rfl, Nat.le_of_ble_eq_true rfl⟩) (by exact ⟨Nat.le_of_ble_eq_true rfl, Nat.le_of_ble_eq_true rfl⟩) ?_
  refine ww_isub C dX5_far_12 ?_
  refine ww_mabs C q_m_X5_43 (Nat.le_of_ble_eq_true rfl) (Nat.le_of_ble_eq_true rfl) (by first | exact Nat.le_of_ble_eq_true rfl | omega) (by first | exact Nat.le_of_ble_eq_true rfl | omega) dX5_far_13 ?_
  refine ww_aload_n C dX5_far_16 0 rfl rfl ?_
  refine ww_iload_n C dX5_far_17 1 rfl rfl ?_
  refine ww_iconst (v := 1) C dX5_far_18 (by decide) ?_
  refine ww_callM C mf_X5_fx dX5_far_19 (ct_X5_fx (by first | exact ix_0 (by assumption) | exact ix_1 (by assumption) | exact ix_2 (by assumption) | exact ix_3 (by assumption) | exact ix_4 (by assumption))) q_m_X5_39 rfl rfl rfl (Nat.le_of_ble_eq_true rfl) (by exact ⟨Nat.le_of_ble_eq_true rfl, Nat.le_of_ble_eq_true rfl⟩) (by exact ⟨Nat.le_of_ble_eq_true rfl, Nat.le_of_ble_eq_true rfl⟩) ?_
  refine ww_aload_n C dX5_far_22 0 rfl rfl ?_
  refine ww_iload_n C dX5_far_23 2 rfl rfl ?_
  refine ww_iconst (v := 1) C dX5_far_24 (by decide) ?_
  refine ww_callM C mf_X5_fx dX5_far_25 (ct_X5_fx (by first | exact ix_0 (by assumption) | exact ix_1 (by assumption) | exact ix_2 (by assumption) | exact ix_3 (by assumption) | exact ix_4 (by assumption))) q_m_X5_39 rfl rfl rfl (Nat.le_of_ble_eq_true rfl) (by exact ⟨Nat.le_of_ble_eq_true rfl, Nat.le_of_ble_eq_true rfl⟩) (by exact ⟨Nat.le_of_ble_eq_true rfl, Nat.le_of_ble_eq_true rfl⟩) ?_
  refine ww_isub C dX5_far_28 ?_
  refine ww_mabs C q_m_X5_43 (Nat.le_of_ble_eq_true rfl) (Nat.le_of_ble_eq_true rfl) (by first | exact Nat.le_of_ble_eq_true rfl | omega) (by first | exact Nat.le_of_ble_eq_true rfl | omega) dX5_far_29 ?_
  refine ww_iadd C dX5_far_32 ?_
  exact ww_iret C hr rfl rfl dX5_far_33
set_option maxRecDepth 100000 in
set_option maxHeartbeats 4000000 in
theorem ct_X5_isLow {g : gW} {l : Launch} {h : Hp} {x : Int32} (hx : isN 10 x) : CT g l yX5_isLow cX5_isLow 2 (some FieldType.boolean) 2 0 0 [.ref (gB g + 64), .int x] h (some (.int (bI (m_po h x 0 ≤ m_holds h x / 4)))) h := by
  refine CT.of (lv0 := [(0, .ref (gB g + 64)), (1, .int x)]) mf_X5_isLow.1.2.2.2 (Nat.le_of_ble_eq_true rfl) rfl ?_
  intro p e s m below meth c C hr
  refine ww_aload_n C dX5_isLow_0 0 rfl rfl ?_
  refine ww_iload_n C dX5_isLow_1 1 rfl rfl ?_
  refine ww_iconst (v := 0) C dX5_isLow_2 (by decide) ?_
  refine ww_callM C mf_X5_po dX5_isLow_3 (ct_X5_po (by first | exact ix_0 (by assumption) | exact ix_1 (by assumption) | exact ix_2 (by assumption) | exact ix_3 (by assumption) | exact ix_4 (by assumption))) q_m_X5_66 rfl rfl rfl (Nat.le_of_ble_eq_true rfl) (by exact ⟨Nat.le_of_ble_eq_true rfl, Nat.le_of_ble_eq_true rfl⟩) (by exact ⟨Nat.le_of_ble_eq_true rfl, Nat.le_of_ble_eq_true rfl⟩) ?_
  refine ww_aload_n C dX5_isLow_6 0 rfl rfl ?_
  refine ww_iload_n C dX5_isLow_7 1 rfl rfl ?_
  refine ww_callM C mf_X5_holds dX5_isLow_8 (ct_X5_holds (by assumption)) q_m_X5_69 rfl rfl rfl (Nat.le_of_ble_eq_true rfl) (by exact ⟨Nat.le_of_ble_eq_true rfl, Nat.le_of_ble_eq_true rfl⟩) (by exact ⟨Nat.le_of_ble_eq_true rfl, Nat.le_of_ble_eq_true rfl⟩) ?_
  refine ww_iconst (v := 4) C dX5_isLow_11 (by decide) ?_
  refine ww_idiv C dX5_isLow_12 (by decide) ?_
  refine ww_icmp_gt C dX5_isLow_13 20 (by decide) (fun c13 => ?_) (fun c13 => ?_)
  · refine ww_iconst (v := 0) C dX5_isLow_20 (by decide) ?_
    exact ww_zret C hr (by first | exact Or.inl rfl | exact Or.inr rfl | assumption) (by first | (rw [bIt (by simpa using c13)]; done) | (rw [bIf (by simpa using c13)]; done)) rfl dX5_isLow_21
  · refine ww_iconst (v := 1) C dX5_isLow_16 (by decide) ?_
    refine ww_goto C dX5_isLow_17 21 (by decide) ?_
    exact ww_zret C hr (by first | exact Or.inl rfl | exact Or.inr rfl | assumption) (by first | (rw [bIt (by simpa using c13)]; done) | (rw [bIf (by simpa using c13)]; done)) rfl dX5_isLow_21
set_option maxRecDepth 100000 in
set_option maxHeartbeats 4000000 in
theorem ct_X5_use {g : gW} {l : Launch} {h : Hp} {x y : Int32} (hx : isN 10 x) : CT g l yX5_use cX5_use 4 (some FieldType.int) 1 0 0 [.ref (gB g + 64), .int x, .int y] h (some (.int (m_use h x y))) (m_useH h x y) := by
  refine CT.of (lv0 := [(0, .ref (gB g + 64)), (1, .int x), (2, .int y)]) mf_X5_use.1.2.2.2 (Nat.le_of_ble_eq_true rfl) rfl ?_
  intro p e s m below meth c C hr
  refine ww_iload_n C dX5_use_0 2 rfl rfl ?_
  refine ww_bipush (v := 100) C dX5_use_1 (by decide) ?_
  refine ww_aload_n C dX5_use_3 0 rfl rfl ?_
  refine ww_iload_n C dX5_use_4 1 rfl rfl ?_
  refine ww_iconst (v := 1) C dX5_use_5 (by decide) ?_
  refine ww_callM C mf_X5_po dX5_use_6 (ct_X5_po (by first | exact ix_0 (by assumption) | exact ix_1 (by assumption) | exact ix_2 (by assumption) | exact ix_3 (by assumption) | exact ix_4 (by assumption))) q_m_X5_66 rfl rfl rfl (Nat.le_of_ble_eq_true rfl) (by exact ⟨Nat.le_of_ble_eq_true rfl, Nat.le_of_ble_eq_true rfl⟩) (by exact ⟨Nat.le_of_ble_eq_true rfl, Nat.le_of_ble_eq_true rfl⟩) ?_
  refine ww_isub C dX5_use_9 ?_
  refine ww_aload_n C dX5_use_10 0 rfl rfl ?_
  refine ww_getMn C q_f_X5_22 dX5_use_11 ?_
  refine ww_iconst (v := 1) C dX5_use_14 (by decide) ?_
  refine ww_iald (o := 69) (n := 2) (j := 1) C (by omega) (fun r => rfl) (by omega) (by omega) dX5_use_15 ?_
  refine ww_mmin C q_m_X5_72 (Nat.le_of_ble_eq_true rfl) (Nat.le_of_ble_eq_true rfl) (by first | exact Nat.le_of_ble_eq_true rfl | omega) (by first | exact Nat.le_of_ble_eq_true rfl | omega) dX5_use_16 ?_
  refine ww_mmin C q_m_X5_72 (Nat.le_of_ble_eq_true rfl) (Nat.le_of_ble_eq_true rfl) (by first | exact Nat.le_of_ble_eq_true rfl | omega) (by first | exact Nat.le_of_ble_eq_true rfl | omega) dX5_use_19 ?_
  refine ww_istore_n C dX5_use_22 3 rfl (by decide) ?_
  refine ww_aload_n C dX5_use_23 0 rfl rfl ?_
  refine ww_iload_n C dX5_use_24 1 rfl rfl ?_
  refine ww_iconst (v := 1) C dX5_use_25 (by decide) ?_
  refine ww_aload_n C dX5_use_26 0 rfl rfl ?_
  refine ww_iload_n C dX5_use_27 1 rfl rfl ?_
  refine ww_iconst (v := 1) C dX5_use_28 (by decide) ?_
  refine ww_callM C mf_X5_po dX5_use_29 (ct_X5_po (by first | exact ix_0 (by assumption) | exact ix_1 (by assumption) | exact ix_2 (by assumption) | exact ix_3 (by assumption) | exact ix_4 (by assumption))) q_m_X5_66 rfl rfl rfl (Nat.le_of_ble_eq_true rfl) (by exact ⟨Nat.le_of_ble_eq_true rfl, Nat.le_of_ble_eq_true rfl⟩) (by exact ⟨Nat.le_of_ble_eq_true rfl, Nat.le_of_ble_eq_true rfl⟩) ?_
  refine ww_iload_n C dX5_use_32 3 rfl rfl ?_
  refine ww_iadd C dX5_use_33 ?_
  refine ww_callM C mf_X5_set dX5_use_34 (ct_X5_set (by first | exact ix_0 (by assumption) | exact ix_1 (by assumption) | exact ix_2 (by assumption) | exact ix_3 (by assumption) | exact ix_4 (by assumption))) q_m_X5_58 rfl rfl rfl (Nat.le_of_ble_eq_true rfl) (by exact ⟨Nat.le_of_ble_eq_true rfl, Nat.le_of_ble_eq_true rfl⟩) (by exact ⟨Nat.le_of_ble_eq_true rfl, Nat.le_of_ble_eq_true rfl⟩) ?_
  refine ww_aload_n C dX5_use_37 0 rfl rfl ?_
  refine ww_getMn C q_f_X5_22 dX5_use_38 ?_
  refine ww_iconst (v := 1) C dX5_use_41 (by decide) ?_
  refine ww_dup2 C dX5_use_42 rfl rfl ?_
  refine ww_iald (o := 69) (n := 2) (j := 1) C (by omega) (fun r => rfl) (by omega) (by omega) dX5_use_43 ?_
  refine ww_iload_n C dX5_use_44 3 rfl rfl ?_
  refine ww_isub C dX5_use_45 ?_
  refine ww_iast (o := 69) (n := 2) (j := 1) C (by omega) (fun r => rfl) (by omega) (by omega) dX5_use_46 ?_
  refine ww_iload_n C dX5_use_47 3 rfl rfl ?_
  exact ww_iret C hr rfl rfl dX5_use_48
set_option maxRecDepth 100000 in
set_option maxHeartbeats 4000000 in
theorem ct_X5_change {g : gW} {l : Launch} {h : Hp} {x y : Int32} (hx : isN 10 x) : CT g l yX5_change cX5_change 3 none 1 0 0 [.ref (gB g + 64), .int x, .int y] h none (m_change h x y) := by
  refine CT.of (lv0 := [(0, .ref (gB g + 64)), (1, .int x), (2, .int y)]) mf_X5_change.1.2.2.2 (Nat.le_of_ble_eq_true rfl) rfl ?_
  intro p e s m below meth c C hr
  refine ww_aload_n C dX5_change_0 0 rfl rfl ?_
  refine ww_iload_n C dX5_change_1 1 rfl rfl ?_
  refine ww_iconst (v := 0) C dX5_change_2 (by decide) ?_
  refine ww_iconst (v := 0) C dX5_change_3 (by decide) ?_
  refine ww_aload_n C dX5_change_4 0 rfl rfl ?_
  refine ww_iload_n C dX5_change_5 1 rfl rfl ?_
  refine ww_iconst (v := 0) C dX5_change_6 (by decide) ?_
  refine ww_callM C mf_X5_po dX5_change_7 (ct_X5_po (by first | exact ix_0 (by assumption) | exact ix_1 (by assumption) | exact ix_2 (by assumption) | exact ix_3 (by assumption) | exact ix_4 (by assumption))) q_m_X5_66 rfl rfl rfl (Nat.le_of_ble_eq_true rfl) (by exact ⟨Nat.le_of_ble_eq_true rfl, Nat.le_of_ble_eq_true rfl⟩) (by exact ⟨Nat.le_of_ble_eq_true rfl, Nat.le_of_ble_eq_true rfl⟩) ?_
  refine ww_iload_n C dX5_change_10 2 rfl rfl ?_
  refine ww_iadd C dX5_change_11 ?_
  refine ww_mmax C q_m_X5_81 (Nat.le_of_ble_eq_true rfl) (Nat.le_of_ble_eq_true rfl) (by first | exact Nat.le_of_ble_eq_true rfl | omega) (by first | exact Nat.le_of_ble_eq_true rfl | omega) dX5_change_12 ?_
  refine ww_callM C mf_X5_set dX5_change_15 (ct_X5_set (by first | exact ix_0 (by assumption) | exact ix_1 (by assumption) | exact ix_2 (by assumption) | exact ix_3 (by assumption) | exact ix_4 (by assumption))) q_m_X5_58 rfl rfl rfl (Nat.le_of_ble_eq_true rfl) (by exact ⟨Nat.le_of_ble_eq_true rfl, Nat.le_of_ble_eq_true rfl⟩) (by exact ⟨Nat.le_of_ble_eq_true rfl, Nat.le_of_ble_eq_true rfl⟩) ?_
  exact ww_vret C hr rfl rfl dX5_change_18
set_option maxRecDepth 100000 in
set_option maxHeartbeats 4000000 in
theorem ct_X5_isLost {g : gW} {l : Launch} {h : Hp} {x : Int32} (hx : isN 7 x) : CT g l yX5_isLost cX5_isLost 2 (some FieldType.boolean) 1 0 0 [.ref (gB g + 64), .int x] h (some (.int (bI (m_fl h x 2 = 10)))) h := by
  refine CT.of (lv0 := [(0, .ref (gB g + 64)), (1, .int x)]) mf_X5_isLost.1.2.2.2 (Nat.le_of_ble_eq_true rfl) rfl ?_
  intro p e s m below meth c C hr
  refine ww_aload_n C dX5_isLost_0 0 rfl rfl ?_
  refine ww_iload_n C dX5_isLost_1 1 rfl rfl ?_
  refine ww_iconst (v := 2) C dX5_isLost_2 (by decide) ?_
  refine ww_callM C mf_X5_fl dX5_isLost_3 (ct_X5_fl (by first | exact jx_0 (by assumption) | exact jx_1 (by assumption) | exact jx_2 (by assumption) | exact jx_3 (by assumption) | exact jx_4 (by assumption))) q_m_X5_84 rfl rfl rfl (Nat.le_of_ble_eq_true rfl) (by exact ⟨Nat.le_of_ble_eq_true rfl, Nat.le_of_ble_eq_true rfl⟩) (by exact ⟨Nat.le_of_ble_eq_true rfl, Nat.le_of_ble_eq_true rfl⟩) ?_
  refine ww_bipush (v := 10) C dX5_isLost_6 (by decide) ?_
  refine ww_icmp_ne C dX5_isLost_8 15 (by decide) (fun c8 => ?_) (fun c8 => ?_)
  · refine ww_iconst (v := 0) C dX5_isLost_15 (by decide) ?_
    exact ww_zret C hr (by first | exact Or.inl rfl | exact Or.inr rfl | assumption) (by first | (rw [bIt c8]; done) | (rw [bIf c8]; done)) rfl dX5_isLost_16
  · refine ww_iconst (v := 1) C dX5_isLost_11 (by decide) ?_
    refine ww_goto C dX5_isLost_12 16 (by decide) ?_
    exact ww_zret C hr (by first | exact Or.inl rfl | exact Or.inr rfl | assumption) (by first | (rw [bIt c8]; done) | (rw [bIf c8]; done)) rfl dX5_isLost_16
set_option maxRecDepth 100000 in
set_option maxHeartbeats 4000000 in
theorem ct_X5_allWater {g : gW} {l : Launch} {h : Hp} {n f : Nat} (H : OM n f h) : CT g l yX5_allWater cX5_allWater 3 (some FieldType.int) 1 0 0 [.ref (gB g + 64)] h (some (.int (m_all h n))) h := by
  refine CT.of (lv0 := [(0, .ref (gB g + 64))]) mf_X5_allWater.1.2.2.2 (Nat.le_of_ble_eq_true rfl) rfl ?_
  intro p e s m below meth c C hr
  have hn := H.1
  have hn10 := H.2.1
  have hf := H.2.2.1
  have hf7 := H.2.2.2.1
  have L : ∀ (fu j : Nat), j ≤ n → n < fu + j → WW g p l e (rK 1 0 0) s m ([.ref (gB g + 64)] : List Value).toArray below meth c 3 [] h [(0, .ref (gB g + 64)), (1, .int (m_all h j)), (2, .int (nI j))] 0 0 (MQ below (QW g s.heap.size (some (.int (m_all h n))) h) ([.ref (gB g + 64)] : List Value).toArray s 0 0 (AA g s.heap.size)) 4 [] := by
    intro fu
    induction fu with
    | zero => intro j h1 h2; omega
    | succ fu ih =>
      intro j hj hfu
      refine ww_iload_n C dX5_allWater_4 2 rfl rfl ?_
      refine ww_aload_n C dX5_allWater_5 0 rfl rfl ?_
      refine ww_getM C 1 (by decide) q_f_X5_29 dX5_allWater_6 ?_
      refine ww_icmp_ge C dX5_allWater_9 27 (by decide) (fun q => ?_) (fun q => ?_)
      · have hjn := lp_exit hn q hj (by omega)
        subst hjn
        refine ww_iload_n C dX5_allWater_27 1 rfl rfl ?_
        exact ww_iret C hr rfl rfl dX5_allWater_28
      · have hjn := lp_body hn q hj (by omega)
        have hx : isN 10 (nI j) := ⟨j, by omega, rfl⟩
        refine ww_iload_n C dX5_allWater_12 1 rfl rfl ?_
        refine ww_aload_n C dX5_allWater_13 0 rfl rfl ?_
        refine ww_iload_n C dX5_allWater_14 2 rfl rfl ?_
        refine ww_iconst (v := 0) C dX5_allWater_15 (by decide) ?_
        refine ww_callM C mf_X5_po dX5_allWater_16 (ct_X5_po (by first | exact ix_0 (by assumption) | exact ix_1 (by assumption) | exact ix_2 (by assumption) | exact ix_3 (by assumption) | exact ix_4 (by assumption))) q_m_X5_66 rfl rfl rfl (Nat.le_of_ble_eq_true rfl) (by exact ⟨Nat.le_of_ble_eq_true rfl, Nat.le_of_ble_eq_true rfl⟩) (by exact ⟨Nat.le_of_ble_eq_true rfl, Nat.le_of_ble_eq_true rfl⟩) ?_
        refine ww_iadd C dX5_allWater_19 ?_
        refine ww_istore_n C dX5_allWater_20 1 rfl (by decide) ?_
        refine ww_iinc (v := nI (j + 1)) C dX5_allWater_21 rfl (nI_inc _) (by decide) ?_
        refine ww_goto C dX5_allWater_24 4 (by decide) ?_
        refine ww_lv [(0, .ref (gB g + 64)), (1, .int (m_all h (j + 1))), (2, .int (nI (j + 1)))] ⟨rfl, rfl, rfl, trivial⟩ ?_
        exact ih (j + 1) hjn (by omega)
  refine ww_iconst (v := 0) C dX5_allWater_0 (by decide) ?_
  refine ww_istore_n C dX5_allWater_1 1 rfl (by decide) ?_
  refine ww_iconst (v := 0) C dX5_allWater_2 (by decide) ?_
  refine ww_istore_n C dX5_allWater_3 2 rfl (by decide) ?_
  refine ww_lv [(0, .ref (gB g + 64)), (1, .int (m_all h 0)), (2, .int (nI 0))] ⟨rfl, rfl, rfl, trivial⟩ ?_
  exact L (n + 1) 0 (Nat.zero_le _) (by omega)
set_option maxRecDepth 100000 in
set_option maxHeartbeats 4000000 in
theorem ct_X5_flocksAt {g : gW} {l : Launch} {h : Hp} {n f : Nat} (H : OM n f h) {x : Int32} : CT g l yX5_flocksAt cX5_flocksAt 4 (some FieldType.int) 2 0 0 [.ref (gB g + 64), .int x] h (some (.int (m_at h f x))) h := by
  refine CT.of (lv0 := [(0, .ref (gB g + 64)), (1, .int x)]) mf_X5_flocksAt.1.2.2.2 (Nat.le_of_ble_eq_true rfl) rfl ?_
  intro p e s m below meth c C hr
  have hn := H.1
  have hn10 := H.2.1
  have hf := H.2.2.1
  have hf7 := H.2.2.2.1
  have L : ∀ (fu j : Nat), j ≤ f → f < fu + j → WW g p l e (rK 2 0 0) s m ([.ref (gB g + 64), .int x] : List Value).toArray below meth c 4 [] h [(0, .ref (gB g + 64)), (1, .int x), (2, .int (m_at h j x)), (3, .int (nI j))] 0 0 (MQ below (QW g s.heap.size (some (.int (m_at h f x))) h) ([.ref (gB g + 64), .int x] : List Value).toArray s 0 0 (AA g s.heap.size)) 4 [] := by
    intro fu
    induction fu with
    | zero => intro j h1 h2; omega
    | succ fu ih =>
      intro j hj hfu
      refine ww_iload_n C dX5_flocksAt_4 3 rfl rfl ?_
      refine ww_aload_n C dX5_flocksAt_5 0 rfl rfl ?_
      refine ww_getM C 3 (by decide) q_f_X5_36 dX5_flocksAt_6 ?_
      refine ww_icmp_ge C dX5_flocksAt_9 44 (by decide) (fun q => ?_) (fun q => ?_)
      · have hjn := lp_exit hf q hj (by omega)
        subst hjn
        refine ww_iload_n C dX5_flocksAt_44 2 rfl rfl ?_
        exact ww_iret C hr rfl rfl dX5_flocksAt_45
      · have hjn := lp_body hf q hj (by omega)
        have hx : isN 7 (nI j) := ⟨j, by omega, rfl⟩
        refine ww_iload_n C dX5_flocksAt_12 2 rfl rfl ?_
        refine ww_aload_n C dX5_flocksAt_13 0 rfl rfl ?_
        refine ww_iload_n C dX5_flocksAt_14 3 rfl rfl ?_
        refine ww_iconst (v := 1) C dX5_flocksAt_15 (by decide) ?_
        refine ww_callM C mf_X5_fl dX5_flocksAt_16 (ct_X5_fl (by first | exact jx_0 (by assumption) | exact jx_1 (by assumption) | exact jx_2 (by assumption) | exact jx_3 (by assumption) | exact jx_4 (by assumption))) q_m_X5_84 rfl rfl rfl (Nat.le_of_ble_eq_true rfl) (by exact ⟨Nat.le_of_ble_eq_true rfl, Nat.le_of_ble_eq_true rfl⟩) (by exact ⟨Nat.le_of_ble_eq_true rfl, Nat.le_of_ble_eq_true rfl⟩) ?_
        refine ww_iload_n C dX5_flocksAt_19 1 rfl rfl ?_
        refine ww_icmp_ne C dX5_flocksAt_20 35 (by decide) (fun c20 => ?_) (fun c20 => ?_)
        · refine ww_iconst (v := 0) C dX5_flocksAt_35 (by decide) ?_
          refine ww_iadd C dX5_flocksAt_36 ?_
          refine ww_istore_n C dX5_flocksAt_37 2 rfl (by decide) ?_
          refine ww_iinc (v := nI (j + 1)) C dX5_flocksAt_38 rfl (nI_inc _) (by decide) ?_
          refine ww_goto C dX5_flocksAt_41 4 (by decide) ?_
          refine ww_lv [(0, .ref (gB g + 64)), (1, .int x), (2, .int (m_at h (j + 1) x)), (3, .int (nI (j + 1)))] ⟨rfl, rfl, (by show some (Value.int _) = some (Value.int (_ + (if _ then (if _ then _ else _) else _))); first | (rw [if_neg c20]; try rfl; done) | (rw [if_pos c20, if_pos (bI1 c28)]; try rfl; done) | (rw [if_pos c20, if_neg (bI0 c28)]; try rfl; done)), rfl, trivial⟩ ?_
          exact ih (j + 1) hjn (by omega)
        · refine ww_aload_n C dX5_flocksAt_23 0 rfl rfl ?_
          refine ww_iload_n C dX5_flocksAt_24 3 rfl rfl ?_
          refine ww_callM C mf_X5_isLost dX5_flocksAt_25 (ct_X5_isLost (by assumption)) q_m_X5_87 rfl rfl rfl (Nat.le_of_ble_eq_true rfl) (by exact ⟨Nat.le_of_ble_eq_true rfl, Nat.le_of_ble_eq_true rfl⟩) (by exact ⟨Nat.le_of_ble_eq_true rfl, Nat.le_of_ble_eq_true rfl⟩) ?_
          refine ww_if_ne C dX5_flocksAt_28 35 (by decide) (fun c28 => ?_) (fun c28 => ?_)
          · refine ww_iconst (v := 0) C dX5_flocksAt_35 (by decide) ?_
            refine ww_iadd C dX5_flocksAt_36 ?_
            refine ww_istore_n C dX5_flocksAt_37 2 rfl (by decide) ?_
            refine ww_iinc (v := nI (j + 1)) C dX5_flocksAt_38 rfl (nI_inc _) (by decide) ?_
            refine ww_goto C dX5_flocksAt_41 4 (by decide) ?_
            refine ww_lv [(0, .ref (gB g + 64)), (1, .int x), (2, .int (m_at h (j + 1) x)), (3, .int (nI (j + 1)))] ⟨rfl, rfl, (by show some (Value.int _) = some (Value.int (_ + (if _ then (if _ then _ else _) else _))); first | (rw [if_neg c20]; try rfl; done) | (rw [if_pos c20, if_pos (bI1 c28)]; try rfl; done) | (rw [if_pos c20, if_neg (bI0 c28)]; try rfl; done)), rfl, trivial⟩ ?_
            exact ih (j + 1) hjn (by omega)
          · refine ww_iconst (v := 1) C dX5_flocksAt_31 (by decide) ?_
            refine ww_goto C dX5_flocksAt_32 36 (by decide) ?_
            refine ww_iadd C dX5_flocksAt_36 ?_
            refine ww_istore_n C dX5_flocksAt_37 2 rfl (by decide) ?_
            refine ww_iinc (v := nI (j + 1)) C dX5_flocksAt_38 rfl (nI_inc _) (by decide) ?_
            refine ww_goto C dX5_flocksAt_41 4 (by decide) ?_
            refine ww_lv [(0, .ref (gB g + 64)), (1, .int x), (2, .int (m_at h (j + 1) x)), (3, .int (nI (j + 1)))] ⟨rfl, rfl, (by show some (Value.int _) = some (Value.int (_ + (if _ then (if _ then _ else _) else _))); first | (rw [if_neg c20]; try rfl; done) | (rw [if_pos c20, if_pos (bI1 c28)]; try rfl; done) | (rw [if_pos c20, if_neg (bI0 c28)]; try rfl; done)), rfl, trivial⟩ ?_
            exact ih (j + 1) hjn (by omega)
  refine ww_iconst (v := 0) C dX5_flocksAt_0 (by decide) ?_
  refine ww_istore_n C dX5_flocksAt_1 2 rfl (by decide) ?_
  refine ww_iconst (v := 0) C dX5_flocksAt_2 (by decide) ?_
  refine ww_istore_n C dX5_flocksAt_3 3 rfl (by decide) ?_
  refine ww_lv [(0, .ref (gB g + 64)), (1, .int x), (2, .int (m_at h 0 x)), (3, .int (nI 0))] ⟨rfl, rfl, rfl, rfl, trivial⟩ ?_
  exact L (f + 1) 0 (Nat.zero_le _) (by omega)
