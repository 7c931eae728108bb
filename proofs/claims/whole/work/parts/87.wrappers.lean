/-! THE LAW'S WRAPPERS, one by one -/
def LR (ks : List (String × Int32)) (r : RS) (h : Hp) (v : Int32) (h2 : Hp) : Prop := (∃ w z, r = rI w z ∧ v = 0 ∧ h2 = hp_up z 70 0 w) ∨ ∃ E, r = .inr E ∧ (E, v) ∈ ks ∧ h2 = h
def LRb (ks : List (String × Int32)) (r : RS) (h : Hp) (v : Int32) (h2 : Hp) : Prop := (∃ w z, r = rI w z ∧ v = 0 ∧ h2 = hp_up z 70 0 (if w = 0 then 0 else 1)) ∨ ∃ E, r = .inr E ∧ (E, v) ∈ ks ∧ h2 = h

theorem q_x_L_dig : (Cond.codeWith yL_dig cL_dig 8 (some .int) [(0, 16, 19, 13), (0, 16, 23, 15)]) ∈ TT := tt_r (List.mem_of_getElem? (i := 337) (by decide +kernel)) (by decide +kernel)
set_option maxRecDepth 100000 in
set_option maxHeartbeats 1600000 in
theorem lt_dig {g : gW} {l : Launch} {h h2 : Hp} {r : RS} {v a1 a2 a3 a4 a5 : Int32} (hM : XT g l yX4_dig cX4_dig 6 (some FieldType.int) 7 [.ref (gB g + 0), .int a1, .int a2, .int a3, .int a4, .int a5] h r) (ho : LR [(E_A, 1), (E_S, 2)] r h v h2) : LT g l yL_dig cL_dig 8 [(0, 16, 19, 13), (0, 16, 23, 15)] 8 [.ref (gB g + 0), .int a1, .int a2, .int a3, .int a4, .int a5, .ref (gB g + 70)] h v h2 := by
  refine LT.of (lv0 := [(0, .ref (gB g + 0)), (1, .int a1), (2, .int a2), (3, .int a3), (4, .int a4), (5, .int a5), (6, .ref (gB g + 70))]) (by decide +kernel) (Nat.le_of_ble_eq_true rfl) rfl ?_
  intro p e s m below meth c C hE hNC htab hr
  refine ww_aload C dL_dig_0 rfl ?_
  refine ww_iconst (v := 0) C dL_dig_2 (by decide) ?_
  refine ww_aload_n C dL_dig_3 0 rfl rfl ?_
  refine ww_iload_n C dL_dig_4 1 rfl rfl ?_
  refine ww_iload_n C dL_dig_5 2 rfl rfl ?_
  refine ww_iload_n C dL_dig_6 3 rfl rfl ?_
  refine ww_iload C dL_dig_7 rfl ?_
  refine ww_iload C dL_dig_9 rfl ?_
  refine ww_callVc (As := [.int a1, .int a2, .int a3, .int a4, .int a5]) (rest := [.int 0, .ref (gB g + 70)]) C hE htab mf_X4_dig dL_dig_11 hM q_m_L_7 rfl rfl rfl (Nat.le_of_ble_eq_true rfl) ⟨(Nat.le_of_ble_eq_true rfl), (Nat.le_of_ble_eq_true rfl)⟩ ⟨(Nat.le_of_ble_eq_true rfl), (Nat.le_of_ble_eq_true rfl)⟩ (fun v9 z9 e9 => ?_) (fun E e9 => ?_)
  · rcases ho with ⟨w, z, e2, rfl, rfl⟩ | ⟨E, e2, -, -⟩
    · cases e9.symm.trans e2
      refine ww_i2l C dL_dig_14 ?_
      refine ww_last C rfl dL_dig_15 ?_
      refine ww_goto C dL_dig_16 27 (by decide) ?_
      refine ww_iconst (v := 0) C dL_dig_27 (by decide) ?_
      exact ww_iret C hr rfl rfl dL_dig_28
    · cases e9.symm.trans e2
  · rcases ho with ⟨w, z, e2, -, -⟩ | ⟨E2, e2, hm, rfl⟩
    · cases e9.symm.trans e2
    · cases e9.symm.trans e2
      simp only [List.mem_cons, List.not_mem_nil, or_false, Prod.mk.injEq] at hm
      rcases hm with ⟨rfl, rfl⟩ | ⟨rfl, rfl⟩
      · refine ⟨19, ⟨[], ⟨0, 16, 19, 13⟩, [⟨0, 16, 23, 15⟩], rfl, ?_, rfl, by decide, C.2.2.2.2.1 _ q_k_L_13, va_Nw.use rfl (hE.1 _ (List.mem_of_getElem? (i := 1) rfl)), rfl⟩, fun q => ?_⟩
        · intro z hz; cases hz
        · refine ww_astore C dL_dig_19 (by omega) ?_
          refine ww_iconst (v := 1) C dL_dig_21 (by decide) ?_
          exact ww_iret C hr rfl rfl dL_dig_22
      · refine ⟨23, ⟨[⟨0, 16, 19, 13⟩], ⟨0, 16, 23, 15⟩, [], rfl, ?_, rfl, by decide, C.2.2.2.2.1 _ q_k_L_15, va_Nw.use rfl (hE.1 _ (List.mem_of_getElem? (i := 2) rfl)), rfl⟩, fun q => ?_⟩
        · intro z hz; simp only [List.mem_cons, List.not_mem_nil, or_false] at hz; subst hz; exact Or.inr ⟨by decide, _, C.2.2.2.2.1 _ q_k_L_13, hNC.2.2⟩
        · refine ww_astore C dL_dig_23 (by omega) ?_
          refine ww_iconst (v := 2) C dL_dig_25 (by decide) ?_
          exact ww_iret C hr rfl rfl dL_dig_26
theorem q_x_L_link : (Cond.codeWith yL_link cL_link 5 (some .int) [(0, 10, 13, 21), (0, 10, 17, 13)]) ∈ TT := tt_r (List.mem_of_getElem? (i := 391) (by decide +kernel)) (by decide +kernel)
set_option maxRecDepth 100000 in
set_option maxHeartbeats 1600000 in
theorem lt_link {g : gW} {l : Launch} {h h2 : Hp} {r : RS} {v a1 a2 : Int32} (hM : XT g l yX4_link cX4_link 5 (some FieldType.int) 7 [.ref (gB g + 0), .int a1, .int a2] h r) (ho : LR [(E_I, 1), (E_A, 2)] r h v h2) : LT g l yL_link cL_link 5 [(0, 10, 13, 21), (0, 10, 17, 13)] 8 [.ref (gB g + 0), .int a1, .int a2, .ref (gB g + 70)] h v h2 := by
  refine LT.of (lv0 := [(0, .ref (gB g + 0)), (1, .int a1), (2, .int a2), (3, .ref (gB g + 70))]) (by decide +kernel) (Nat.le_of_ble_eq_true rfl) rfl ?_
  intro p e s m below meth c C hE hNC htab hr
  refine ww_aload_n C dL_link_0 3 rfl rfl ?_
  refine ww_iconst (v := 0) C dL_link_1 (by decide) ?_
  refine ww_aload_n C dL_link_2 0 rfl rfl ?_
  refine ww_iload_n C dL_link_3 1 rfl rfl ?_
  refine ww_iload_n C dL_link_4 2 rfl rfl ?_
  refine ww_callVc (As := [.int a1, .int a2]) (rest := [.int 0, .ref (gB g + 70)]) C hE htab mf_X4_link dL_link_5 hM q_m_L_17 rfl rfl rfl (Nat.le_of_ble_eq_true rfl) ⟨(Nat.le_of_ble_eq_true rfl), (Nat.le_of_ble_eq_true rfl)⟩ ⟨(Nat.le_of_ble_eq_true rfl), (Nat.le_of_ble_eq_true rfl)⟩ (fun v9 z9 e9 => ?_) (fun E e9 => ?_)
  · rcases ho with ⟨w, z, e2, rfl, rfl⟩ | ⟨E, e2, -, -⟩
    · cases e9.symm.trans e2
      refine ww_i2l C dL_link_8 ?_
      refine ww_last C rfl dL_link_9 ?_
      refine ww_goto C dL_link_10 21 (by decide) ?_
      refine ww_iconst (v := 0) C dL_link_21 (by decide) ?_
      exact ww_iret C hr rfl rfl dL_link_22
    · cases e9.symm.trans e2
  · rcases ho with ⟨w, z, e2, -, -⟩ | ⟨E2, e2, hm, rfl⟩
    · cases e9.symm.trans e2
    · cases e9.symm.trans e2
      simp only [List.mem_cons, List.not_mem_nil, or_false, Prod.mk.injEq] at hm
      rcases hm with ⟨rfl, rfl⟩ | ⟨rfl, rfl⟩
      · refine ⟨13, ⟨[], ⟨0, 10, 13, 21⟩, [⟨0, 10, 17, 13⟩], rfl, ?_, rfl, by decide, C.2.2.2.2.1 _ q_k_L_21, va_Nw.use rfl (hE.1 _ (List.mem_of_getElem? (i := 0) rfl)), rfl⟩, fun q => ?_⟩
        · intro z hz; cases hz
        · refine ww_astore C dL_link_13 (by omega) ?_
          refine ww_iconst (v := 1) C dL_link_15 (by decide) ?_
          exact ww_iret C hr rfl rfl dL_link_16
      · refine ⟨17, ⟨[⟨0, 10, 13, 21⟩], ⟨0, 10, 17, 13⟩, [], rfl, ?_, rfl, by decide, C.2.2.2.2.1 _ q_k_L_13, va_Nw.use rfl (hE.1 _ (List.mem_of_getElem? (i := 1) rfl)), rfl⟩, fun q => ?_⟩
        · intro z hz; simp only [List.mem_cons, List.not_mem_nil, or_false] at hz; subst hz; exact Or.inr ⟨by decide, _, C.2.2.2.2.1 _ q_k_L_21, hNC.1⟩
        · refine ww_astore C dL_link_17 (by omega) ?_
          refine ww_iconst (v := 2) C dL_link_19 (by decide) ?_
          exact ww_iret C hr rfl rfl dL_link_20
theorem q_x_L_puddle : (Cond.codeWith yL_puddle cL_puddle 5 (some .int) [(0, 10, 13, 21), (0, 10, 17, 13), (0, 10, 21, 15)]) ∈ TT := tt_r (List.mem_of_getElem? (i := 400) (by decide +kernel)) (by decide +kernel)
set_option maxRecDepth 100000 in
set_option maxHeartbeats 1600000 in
theorem lt_puddle {g : gW} {l : Launch} {h h2 : Hp} {r : RS} {v a1 a2 : Int32} (hM : XT g l yX4_puddle cX4_puddle 5 (some FieldType.int) 7 [.ref (gB g + 0), .int a1, .int a2] h r) (ho : LR [(E_I, 1), (E_A, 2), (E_S, 3)] r h v h2) : LT g l yL_puddle cL_puddle 5 [(0, 10, 13, 21), (0, 10, 17, 13), (0, 10, 21, 15)] 8 [.ref (gB g + 0), .int a1, .int a2, .ref (gB g + 70)] h v h2 := by
  refine LT.of (lv0 := [(0, .ref (gB g + 0)), (1, .int a1), (2, .int a2), (3, .ref (gB g + 70))]) (by decide +kernel) (Nat.le_of_ble_eq_true rfl) rfl ?_
  intro p e s m below meth c C hE hNC htab hr
  refine ww_aload_n C dL_puddle_0 3 rfl rfl ?_
  refine ww_iconst (v := 0) C dL_puddle_1 (by decide) ?_
  refine ww_aload_n C dL_puddle_2 0 rfl rfl ?_
  refine ww_iload_n C dL_puddle_3 1 rfl rfl ?_
  refine ww_iload_n C dL_puddle_4 2 rfl rfl ?_
  refine ww_callVc (As := [.int a1, .int a2]) (rest := [.int 0, .ref (gB g + 70)]) C hE htab mf_X4_puddle dL_puddle_5 hM q_m_L_23 rfl rfl rfl (Nat.le_of_ble_eq_true rfl) ⟨(Nat.le_of_ble_eq_true rfl), (Nat.le_of_ble_eq_true rfl)⟩ ⟨(Nat.le_of_ble_eq_true rfl), (Nat.le_of_ble_eq_true rfl)⟩ (fun v9 z9 e9 => ?_) (fun E e9 => ?_)
  · rcases ho with ⟨w, z, e2, rfl, rfl⟩ | ⟨E, e2, -, -⟩
    · cases e9.symm.trans e2
      refine ww_i2l C dL_puddle_8 ?_
      refine ww_last C rfl dL_puddle_9 ?_
      refine ww_goto C dL_puddle_10 25 (by decide) ?_
      refine ww_iconst (v := 0) C dL_puddle_25 (by decide) ?_
      exact ww_iret C hr rfl rfl dL_puddle_26
    · cases e9.symm.trans e2
  · rcases ho with ⟨w, z, e2, -, -⟩ | ⟨E2, e2, hm, rfl⟩
    · cases e9.symm.trans e2
    · cases e9.symm.trans e2
      simp only [List.mem_cons, List.not_mem_nil, or_false, Prod.mk.injEq] at hm
      rcases hm with ⟨rfl, rfl⟩ | ⟨rfl, rfl⟩ | ⟨rfl, rfl⟩
      · refine ⟨13, ⟨[], ⟨0, 10, 13, 21⟩, [⟨0, 10, 17, 13⟩, ⟨0, 10, 21, 15⟩], rfl, ?_, rfl, by decide, C.2.2.2.2.1 _ q_k_L_21, va_Nw.use rfl (hE.1 _ (List.mem_of_getElem? (i := 0) rfl)), rfl⟩, fun q => ?_⟩
        · intro z hz; cases hz
        · refine ww_astore C dL_puddle_13 (by omega) ?_
          refine ww_iconst (v := 1) C dL_puddle_15 (by decide) ?_
          exact ww_iret C hr rfl rfl dL_puddle_16
      · refine ⟨17, ⟨[⟨0, 10, 13, 21⟩], ⟨0, 10, 17, 13⟩, [⟨0, 10, 21, 15⟩], rfl, ?_, rfl, by decide, C.2.2.2.2.1 _ q_k_L_13, va_Nw.use rfl (hE.1 _ (List.mem_of_getElem? (i := 1) rfl)), rfl⟩, fun q => ?_⟩
        · intro z hz; simp only [List.mem_cons, List.not_mem_nil, or_false] at hz; subst hz; exact Or.inr ⟨by decide, _, C.2.2.2.2.1 _ q_k_L_21, hNC.1⟩
        · refine ww_astore C dL_puddle_17 (by omega) ?_
          refine ww_iconst (v := 2) C dL_puddle_19 (by decide) ?_
          exact ww_iret C hr rfl rfl dL_puddle_20
      · refine ⟨21, ⟨[⟨0, 10, 13, 21⟩, ⟨0, 10, 17, 13⟩], ⟨0, 10, 21, 15⟩, [], rfl, ?_, rfl, by decide, C.2.2.2.2.1 _ q_k_L_15, va_Nw.use rfl (hE.1 _ (List.mem_of_getElem? (i := 2) rfl)), rfl⟩, fun q => ?_⟩
        · intro z hz
          simp only [List.mem_cons, List.not_mem_nil, or_false] at hz
          rcases hz with rfl | rfl
          · exact Or.inr ⟨by decide, _, C.2.2.2.2.1 _ q_k_L_21, hNC.2.1⟩
          · exact Or.inr ⟨by decide, _, C.2.2.2.2.1 _ q_k_L_13, hNC.2.2⟩
        · refine ww_astore C dL_puddle_21 (by omega) ?_
          refine ww_iconst (v := 3) C dL_puddle_23 (by decide) ?_
          exact ww_iret C hr rfl rfl dL_puddle_24
theorem q_x_L_strew : (Cond.codeWith yL_strew cL_strew 5 (some .int) [(0, 17, 20, 21)]) ∈ TT := tt_r (List.mem_of_getElem? (i := 424) (by decide +kernel)) (by decide +kernel)
set_option maxRecDepth 100000 in
set_option maxHeartbeats 1600000 in
theorem lt_strew {g : gW} {l : Launch} {h h2 : Hp} {r : RS} {v a1 a2 : Int32} (hM : XT g l yX4_strew cX4_strew 5 (some FieldType.boolean) 7 [.ref (gB g + 0), .int a1, .int a2] h r) (ho : LRb [(E_I, 1)] r h v h2) : LT g l yL_strew cL_strew 5 [(0, 17, 20, 21)] 8 [.ref (gB g + 0), .int a1, .int a2, .ref (gB g + 70)] h v h2 := by
  refine LT.of (lv0 := [(0, .ref (gB g + 0)), (1, .int a1), (2, .int a2), (3, .ref (gB g + 70))]) (by decide +kernel) (Nat.le_of_ble_eq_true rfl) rfl ?_
  intro p e s m below meth c C hE hNC htab hr
  refine ww_aload_n C dL_strew_0 3 rfl rfl ?_
  refine ww_iconst (v := 0) C dL_strew_1 (by decide) ?_
  refine ww_aload_n C dL_strew_2 0 rfl rfl ?_
  refine ww_iload_n C dL_strew_3 1 rfl rfl ?_
  refine ww_iload_n C dL_strew_4 2 rfl rfl ?_
  refine ww_callVc (As := [.int a1, .int a2]) (rest := [.int 0, .ref (gB g + 70)]) C hE htab mf_X4_strew dL_strew_5 hM q_m_L_26 rfl rfl rfl (Nat.le_of_ble_eq_true rfl) ⟨(Nat.le_of_ble_eq_true rfl), (Nat.le_of_ble_eq_true rfl)⟩ ⟨(Nat.le_of_ble_eq_true rfl), (Nat.le_of_ble_eq_true rfl)⟩ (fun v9 z9 e9 => ?_) (fun E e9 => ?_)
  · rcases ho with ⟨w, z, e2, rfl, rfl⟩ | ⟨E, e2, -, -⟩
    · cases e9.symm.trans e2
      refine ww_if_eq C dL_strew_8 15 (by decide) (fun c0 => ?_) (fun c0 => ?_)
      · rw [if_pos c0]
        refine ww_lconst (v := (0 : Int32).toInt64) C dL_strew_15 (by decide) ?_
        refine ww_last C rfl dL_strew_16 ?_
        refine ww_goto C dL_strew_17 24 (by decide) ?_
        refine ww_iconst (v := 0) C dL_strew_24 (by decide) ?_
        exact ww_iret C hr rfl rfl dL_strew_25
      · rw [if_neg c0]
        refine ww_lconst (v := (1 : Int32).toInt64) C dL_strew_11 (by decide) ?_
        refine ww_goto C dL_strew_12 16 (by decide) ?_
        refine ww_last C rfl dL_strew_16 ?_
        refine ww_goto C dL_strew_17 24 (by decide) ?_
        refine ww_iconst (v := 0) C dL_strew_24 (by decide) ?_
        exact ww_iret C hr rfl rfl dL_strew_25
    · cases e9.symm.trans e2
  · rcases ho with ⟨w, z, e2, -, -⟩ | ⟨E2, e2, hm, rfl⟩
    · cases e9.symm.trans e2
    · cases e9.symm.trans e2
      simp only [List.mem_cons, List.not_mem_nil, or_false, Prod.mk.injEq] at hm
      obtain ⟨rfl, rfl⟩ := hm
      refine ⟨20, ⟨[], ⟨0, 17, 20, 21⟩, [], rfl, ?_, rfl, by decide, C.2.2.2.2.1 _ q_k_L_21, va_Nw.use rfl (hE.1 _ (List.mem_of_getElem? (i := 0) rfl)), rfl⟩, fun q => ?_⟩
      · intro z hz; cases hz
      · refine ww_astore C dL_strew_20 (by omega) ?_
        refine ww_iconst (v := 1) C dL_strew_22 (by decide) ?_
        exact ww_iret C hr rfl rfl dL_strew_23
theorem q_x_L_pour : (Cond.codeWith yL_pour cL_pour 5 (some .int) [(0, 10, 13, 21), (0, 10, 17, 13)]) ∈ TT := tt_r (List.mem_of_getElem? (i := 431) (by decide +kernel)) (by decide +kernel)
set_option maxRecDepth 100000 in
set_option maxHeartbeats 1600000 in
theorem lt_pour {g : gW} {l : Launch} {h h2 : Hp} {r : RS} {v a1 a2 : Int32} (hM : XT g l yX4_pour cX4_pour 4 (some FieldType.int) 7 [.ref (gB g + 0), .int a1, .int a2] h r) (ho : LR [(E_I, 1), (E_A, 2)] r h v h2) : LT g l yL_pour cL_pour 5 [(0, 10, 13, 21), (0, 10, 17, 13)] 8 [.ref (gB g + 0), .int a1, .int a2, .ref (gB g + 70)] h v h2 := by
  refine LT.of (lv0 := [(0, .ref (gB g + 0)), (1, .int a1), (2, .int a2), (3, .ref (gB g + 70))]) (by decide +kernel) (Nat.le_of_ble_eq_true rfl) rfl ?_
  intro p e s m below meth c C hE hNC htab hr
  refine ww_aload_n C dL_pour_0 3 rfl rfl ?_
  refine ww_iconst (v := 0) C dL_pour_1 (by decide) ?_
  refine ww_aload_n C dL_pour_2 0 rfl rfl ?_
  refine ww_iload_n C dL_pour_3 1 rfl rfl ?_
  refine ww_iload_n C dL_pour_4 2 rfl rfl ?_
  refine ww_callVc (As := [.int a1, .int a2]) (rest := [.int 0, .ref (gB g + 70)]) C hE htab mf_X4_pour dL_pour_5 hM q_m_L_30 rfl rfl rfl (Nat.le_of_ble_eq_true rfl) ⟨(Nat.le_of_ble_eq_true rfl), (Nat.le_of_ble_eq_true rfl)⟩ ⟨(Nat.le_of_ble_eq_true rfl), (Nat.le_of_ble_eq_true rfl)⟩ (fun v9 z9 e9 => ?_) (fun E e9 => ?_)
  · rcases ho with ⟨w, z, e2, rfl, rfl⟩ | ⟨E, e2, -, -⟩
    · cases e9.symm.trans e2
      refine ww_i2l C dL_pour_8 ?_
      refine ww_last C rfl dL_pour_9 ?_
      refine ww_goto C dL_pour_10 21 (by decide) ?_
      refine ww_iconst (v := 0) C dL_pour_21 (by decide) ?_
      exact ww_iret C hr rfl rfl dL_pour_22
    · cases e9.symm.trans e2
  · rcases ho with ⟨w, z, e2, -, -⟩ | ⟨E2, e2, hm, rfl⟩
    · cases e9.symm.trans e2
    · cases e9.symm.trans e2
      simp only [List.mem_cons, List.not_mem_nil, or_false, Prod.mk.injEq] at hm
      rcases hm with ⟨rfl, rfl⟩ | ⟨rfl, rfl⟩
      · refine ⟨13, ⟨[], ⟨0, 10, 13, 21⟩, [⟨0, 10, 17, 13⟩], rfl, ?_, rfl, by decide, C.2.2.2.2.1 _ q_k_L_21, va_Nw.use rfl (hE.1 _ (List.mem_of_getElem? (i := 0) rfl)), rfl⟩, fun q => ?_⟩
        · intro z hz; cases hz
        · refine ww_astore C dL_pour_13 (by omega) ?_
          refine ww_iconst (v := 1) C dL_pour_15 (by decide) ?_
          exact ww_iret C hr rfl rfl dL_pour_16
      · refine ⟨17, ⟨[⟨0, 10, 13, 21⟩], ⟨0, 10, 17, 13⟩, [], rfl, ?_, rfl, by decide, C.2.2.2.2.1 _ q_k_L_13, va_Nw.use rfl (hE.1 _ (List.mem_of_getElem? (i := 1) rfl)), rfl⟩, fun q => ?_⟩
        · intro z hz; simp only [List.mem_cons, List.not_mem_nil, or_false] at hz; subst hz; exact Or.inr ⟨by decide, _, C.2.2.2.2.1 _ q_k_L_21, hNC.1⟩
        · refine ww_astore C dL_pour_17 (by omega) ?_
          refine ww_iconst (v := 2) C dL_pour_19 (by decide) ?_
          exact ww_iret C hr rfl rfl dL_pour_20
theorem q_x_L_pond : (Cond.codeWith yL_pond cL_pond 5 (some .int) [(0, 10, 13, 21)]) ∈ TT := tt_r (List.mem_of_getElem? (i := 440) (by decide +kernel)) (by decide +kernel)
set_option maxRecDepth 100000 in
set_option maxHeartbeats 1600000 in
theorem lt_pond {g : gW} {l : Launch} {h h2 : Hp} {r : RS} {v a1 a2 : Int32} (hM : XT g l yX4_pond cX4_pond 4 (some FieldType.int) 7 [.ref (gB g + 0), .int a1, .int a2] h r) (ho : LR [(E_I, 1)] r h v h2) : LT g l yL_pond cL_pond 5 [(0, 10, 13, 21)] 8 [.ref (gB g + 0), .int a1, .int a2, .ref (gB g + 70)] h v h2 := by
  refine LT.of (lv0 := [(0, .ref (gB g + 0)), (1, .int a1), (2, .int a2), (3, .ref (gB g + 70))]) (by decide +kernel) (Nat.le_of_ble_eq_true rfl) rfl ?_
  intro p e s m below meth c C hE hNC htab hr
  refine ww_aload_n C dL_pond_0 3 rfl rfl ?_
  refine ww_iconst (v := 0) C dL_pond_1 (by decide) ?_
  refine ww_aload_n C dL_pond_2 0 rfl rfl ?_
  refine ww_iload_n C dL_pond_3 1 rfl rfl ?_
  refine ww_iload_n C dL_pond_4 2 rfl rfl ?_
  refine ww_callVc (As := [.int a1, .int a2]) (rest := [.int 0, .ref (gB g + 70)]) C hE htab mf_X4_pond dL_pond_5 hM q_m_L_33 rfl rfl rfl (Nat.le_of_ble_eq_true rfl) ⟨(Nat.le_of_ble_eq_true rfl), (Nat.le_of_ble_eq_true rfl)⟩ ⟨(Nat.le_of_ble_eq_true rfl), (Nat.le_of_ble_eq_true rfl)⟩ (fun v9 z9 e9 => ?_) (fun E e9 => ?_)
  · rcases ho with ⟨w, z, e2, rfl, rfl⟩ | ⟨E, e2, -, -⟩
    · cases e9.symm.trans e2
      refine ww_i2l C dL_pond_8 ?_
      refine ww_last C rfl dL_pond_9 ?_
      refine ww_goto C dL_pond_10 17 (by decide) ?_
      refine ww_iconst (v := 0) C dL_pond_17 (by decide) ?_
      exact ww_iret C hr rfl rfl dL_pond_18
    · cases e9.symm.trans e2
  · rcases ho with ⟨w, z, e2, -, -⟩ | ⟨E2, e2, hm, rfl⟩
    · cases e9.symm.trans e2
    · cases e9.symm.trans e2
      simp only [List.mem_cons, List.not_mem_nil, or_false, Prod.mk.injEq] at hm
      obtain ⟨rfl, rfl⟩ := hm
      refine ⟨13, ⟨[], ⟨0, 10, 13, 21⟩, [], rfl, ?_, rfl, by decide, C.2.2.2.2.1 _ q_k_L_21, va_Nw.use rfl (hE.1 _ (List.mem_of_getElem? (i := 0) rfl)), rfl⟩, fun q => ?_⟩
      · intro z hz; cases hz
      · refine ww_astore C dL_pond_13 (by omega) ?_
        refine ww_iconst (v := 1) C dL_pond_15 (by decide) ?_
        exact ww_iret C hr rfl rfl dL_pond_16
theorem q_x_L_setWeather : (Cond.codeWith yL_setWeather cL_setWeather 7 (some .int) [(0, 14, 17, 21), (0, 14, 21, 13)]) ∈ TT := tt_r (List.mem_of_getElem? (i := 444) (by decide +kernel)) (by decide +kernel)
set_option maxRecDepth 100000 in
set_option maxHeartbeats 1600000 in
theorem lt_setWeather {g : gW} {l : Launch} {h h2 : Hp} {r : RS} {v a1 a2 a3 a4 : Int32} (hM : XT g l yX4_setWeather cX4_setWeather 7 (some FieldType.int) 7 [.ref (gB g + 0), .int a1, .int a2, .int a3, .int a4] h r) (ho : LR [(E_I, 1), (E_A, 2)] r h v h2) : LT g l yL_setWeather cL_setWeather 7 [(0, 14, 17, 21), (0, 14, 21, 13)] 8 [.ref (gB g + 0), .int a1, .int a2, .int a3, .int a4, .ref (gB g + 70)] h v h2 := by
  refine LT.of (lv0 := [(0, .ref (gB g + 0)), (1, .int a1), (2, .int a2), (3, .int a3), (4, .int a4), (5, .ref (gB g + 70))]) (by decide +kernel) (Nat.le_of_ble_eq_true rfl) rfl ?_
  intro p e s m below meth c C hE hNC htab hr
  refine ww_aload C dL_setWeather_0 rfl ?_
  refine ww_iconst (v := 0) C dL_setWeather_2 (by decide) ?_
  refine ww_aload_n C dL_setWeather_3 0 rfl rfl ?_
  refine ww_iload_n C dL_setWeather_4 1 rfl rfl ?_
  refine ww_iload_n C dL_setWeather_5 2 rfl rfl ?_
  refine ww_iload_n C dL_setWeather_6 3 rfl rfl ?_
  refine ww_iload C dL_setWeather_7 rfl ?_
  refine ww_callVc (As := [.int a1, .int a2, .int a3, .int a4]) (rest := [.int 0, .ref (gB g + 70)]) C hE htab mf_X4_setWeather dL_setWeather_9 hM q_m_L_36 rfl rfl rfl (Nat.le_of_ble_eq_true rfl) ⟨(Nat.le_of_ble_eq_true rfl), (Nat.le_of_ble_eq_true rfl)⟩ ⟨(Nat.le_of_ble_eq_true rfl), (Nat.le_of_ble_eq_true rfl)⟩ (fun v9 z9 e9 => ?_) (fun E e9 => ?_)
  · rcases ho with ⟨w, z, e2, rfl, rfl⟩ | ⟨E, e2, -, -⟩
    · cases e9.symm.trans e2
      refine ww_i2l C dL_setWeather_12 ?_
      refine ww_last C rfl dL_setWeather_13 ?_
      refine ww_goto C dL_setWeather_14 25 (by decide) ?_
      refine ww_iconst (v := 0) C dL_setWeather_25 (by decide) ?_
      exact ww_iret C hr rfl rfl dL_setWeather_26
    · cases e9.symm.trans e2
  · rcases ho with ⟨w, z, e2, -, -⟩ | ⟨E2, e2, hm, rfl⟩
    · cases e9.symm.trans e2
    · cases e9.symm.trans e2
      simp only [List.mem_cons, List.not_mem_nil, or_false, Prod.mk.injEq] at hm
      rcases hm with ⟨rfl, rfl⟩ | ⟨rfl, rfl⟩
      · refine ⟨17, ⟨[], ⟨0, 14, 17, 21⟩, [⟨0, 14, 21, 13⟩], rfl, ?_, rfl, by decide, C.2.2.2.2.1 _ q_k_L_21, va_Nw.use rfl (hE.1 _ (List.mem_of_getElem? (i := 0) rfl)), rfl⟩, fun q => ?_⟩
        · intro z hz; cases hz
        · refine ww_astore C dL_setWeather_17 (by omega) ?_
          refine ww_iconst (v := 1) C dL_setWeather_19 (by decide) ?_
          exact ww_iret C hr rfl rfl dL_setWeather_20
      · refine ⟨21, ⟨[⟨0, 14, 17, 21⟩], ⟨0, 14, 21, 13⟩, [], rfl, ?_, rfl, by decide, C.2.2.2.2.1 _ q_k_L_13, va_Nw.use rfl (hE.1 _ (List.mem_of_getElem? (i := 1) rfl)), rfl⟩, fun q => ?_⟩
        · intro z hz; simp only [List.mem_cons, List.not_mem_nil, or_false] at hz; subst hz; exact Or.inr ⟨by decide, _, C.2.2.2.2.1 _ q_k_L_21, hNC.1⟩
        · refine ww_astore C dL_setWeather_21 (by omega) ?_
          refine ww_iconst (v := 2) C dL_setWeather_23 (by decide) ?_
          exact ww_iret C hr rfl rfl dL_setWeather_24
theorem q_x_L_bring : (Cond.codeWith yL_bring cL_bring 4 (some .int) [(0, 9, 12, 13), (0, 9, 15, 15)]) ∈ TT := tt_r (List.mem_of_getElem? (i := 452) (by decide +kernel)) (by decide +kernel)
set_option maxRecDepth 100000 in
set_option maxHeartbeats 1600000 in
theorem lt_bring {g : gW} {l : Launch} {h h2 : Hp} {r : RS} {v a1 : Int32} (hM : XT g l yX4_bring cX4_bring 2 (some FieldType.int) 7 [.ref (gB g + 0), .int a1] h r) (ho : LR [(E_A, 1), (E_S, 2)] r h v h2) : LT g l yL_bring cL_bring 4 [(0, 9, 12, 13), (0, 9, 15, 15)] 8 [.ref (gB g + 0), .int a1, .ref (gB g + 70)] h v h2 := by
  refine LT.of (lv0 := [(0, .ref (gB g + 0)), (1, .int a1), (2, .ref (gB g + 70))]) (by decide +kernel) (Nat.le_of_ble_eq_true rfl) rfl ?_
  intro p e s m below meth c C hE hNC htab hr
  refine ww_aload_n C dL_bring_0 2 rfl rfl ?_
  refine ww_iconst (v := 0) C dL_bring_1 (by decide) ?_
  refine ww_aload_n C dL_bring_2 0 rfl rfl ?_
  refine ww_iload_n C dL_bring_3 1 rfl rfl ?_
  refine ww_callVc (As := [.int a1]) (rest := [.int 0, .ref (gB g + 70)]) C hE htab mf_X4_bring dL_bring_4 hM q_m_L_40 rfl rfl rfl (Nat.le_of_ble_eq_true rfl) ⟨(Nat.le_of_ble_eq_true rfl), (Nat.le_of_ble_eq_true rfl)⟩ ⟨(Nat.le_of_ble_eq_true rfl), (Nat.le_of_ble_eq_true rfl)⟩ (fun v9 z9 e9 => ?_) (fun E e9 => ?_)
  · rcases ho with ⟨w, z, e2, rfl, rfl⟩ | ⟨E, e2, -, -⟩
    · cases e9.symm.trans e2
      refine ww_i2l C dL_bring_7 ?_
      refine ww_last C rfl dL_bring_8 ?_
      refine ww_goto C dL_bring_9 18 (by decide) ?_
      refine ww_iconst (v := 0) C dL_bring_18 (by decide) ?_
      exact ww_iret C hr rfl rfl dL_bring_19
    · cases e9.symm.trans e2
  · rcases ho with ⟨w, z, e2, -, -⟩ | ⟨E2, e2, hm, rfl⟩
    · cases e9.symm.trans e2
    · cases e9.symm.trans e2
      simp only [List.mem_cons, List.not_mem_nil, or_false, Prod.mk.injEq] at hm
      rcases hm with ⟨rfl, rfl⟩ | ⟨rfl, rfl⟩
      · refine ⟨12, ⟨[], ⟨0, 9, 12, 13⟩, [⟨0, 9, 15, 15⟩], rfl, ?_, rfl, by decide, C.2.2.2.2.1 _ q_k_L_13, va_Nw.use rfl (hE.1 _ (List.mem_of_getElem? (i := 1) rfl)), rfl⟩, fun q => ?_⟩
        · intro z hz; cases hz
        · refine ww_astore_n C dL_bring_12 3 rfl (by omega) ?_
          refine ww_iconst (v := 1) C dL_bring_13 (by decide) ?_
          exact ww_iret C hr rfl rfl dL_bring_14
      · refine ⟨15, ⟨[⟨0, 9, 12, 13⟩], ⟨0, 9, 15, 15⟩, [], rfl, ?_, rfl, by decide, C.2.2.2.2.1 _ q_k_L_15, va_Nw.use rfl (hE.1 _ (List.mem_of_getElem? (i := 2) rfl)), rfl⟩, fun q => ?_⟩
        · intro z hz; simp only [List.mem_cons, List.not_mem_nil, or_false] at hz; subst hz; exact Or.inr ⟨by decide, _, C.2.2.2.2.1 _ q_k_L_13, hNC.2.2⟩
        · refine ww_astore_n C dL_bring_15 3 rfl (by omega) ?_
          refine ww_iconst (v := 2) C dL_bring_16 (by decide) ?_
          exact ww_iret C hr rfl rfl dL_bring_17
theorem q_x_L_addFlock : (Cond.codeWith yL_addFlock cL_addFlock 5 (some .int) [(0, 10, 13, 21), (0, 10, 17, 13), (0, 10, 21, 15)]) ∈ TT := tt_r (List.mem_of_getElem? (i := 460) (by decide +kernel)) (by decide +kernel)
set_option maxRecDepth 100000 in
set_option maxHeartbeats 1600000 in
theorem lt_addFlock {g : gW} {l : Launch} {h h2 : Hp} {r : RS} {v a1 a2 : Int32} (hM : XT g l yX4_addFlock cX4_addFlock 3 (some FieldType.int) 7 [.ref (gB g + 0), .int a1, .int a2] h r) (ho : LR [(E_I, 1), (E_A, 2), (E_S, 3)] r h v h2) : LT g l yL_addFlock cL_addFlock 5 [(0, 10, 13, 21), (0, 10, 17, 13), (0, 10, 21, 15)] 8 [.ref (gB g + 0), .int a1, .int a2, .ref (gB g + 70)] h v h2 := by
  refine LT.of (lv0 := [(0, .ref (gB g + 0)), (1, .int a1), (2, .int a2), (3, .ref (gB g + 70))]) (by decide +kernel) (Nat.le_of_ble_eq_true rfl) rfl ?_
  intro p e s m below meth c C hE hNC htab hr
  refine ww_aload_n C dL_addFlock_0 3 rfl rfl ?_
  refine ww_iconst (v := 0) C dL_addFlock_1 (by decide) ?_
  refine ww_aload_n C dL_addFlock_2 0 rfl rfl ?_
  refine ww_iload_n C dL_addFlock_3 1 rfl rfl ?_
  refine ww_iload_n C dL_addFlock_4 2 rfl rfl ?_
  refine ww_callVc (As := [.int a1, .int a2]) (rest := [.int 0, .ref (gB g + 70)]) C hE htab mf_X4_addFlock dL_addFlock_5 hM q_m_L_44 rfl rfl rfl (Nat.le_of_ble_eq_true rfl) ⟨(Nat.le_of_ble_eq_true rfl), (Nat.le_of_ble_eq_true rfl)⟩ ⟨(Nat.le_of_ble_eq_true rfl), (Nat.le_of_ble_eq_true rfl)⟩ (fun v9 z9 e9 => ?_) (fun E e9 => ?_)
  · rcases ho with ⟨w, z, e2, rfl, rfl⟩ | ⟨E, e2, -, -⟩
    · cases e9.symm.trans e2
      refine ww_i2l C dL_addFlock_8 ?_
      refine ww_last C rfl dL_addFlock_9 ?_
      refine ww_goto C dL_addFlock_10 25 (by decide) ?_
      refine ww_iconst (v := 0) C dL_addFlock_25 (by decide) ?_
      exact ww_iret C hr rfl rfl dL_addFlock_26
    · cases e9.symm.trans e2
  · rcases ho with ⟨w, z, e2, -, -⟩ | ⟨E2, e2, hm, rfl⟩
    · cases e9.symm.trans e2
    · cases e9.symm.trans e2
      simp only [List.mem_cons, List.not_mem_nil, or_false, Prod.mk.injEq] at hm
      rcases hm with ⟨rfl, rfl⟩ | ⟨rfl, rfl⟩ | ⟨rfl, rfl⟩
      · refine ⟨13, ⟨[], ⟨0, 10, 13, 21⟩, [⟨0, 10, 17, 13⟩, ⟨0, 10, 21, 15⟩], rfl, ?_, rfl, by decide, C.2.2.2.2.1 _ q_k_L_21, va_Nw.use rfl (hE.1 _ (List.mem_of_getElem? (i := 0) rfl)), rfl⟩, fun q => ?_⟩
        · intro z hz; cases hz
        · refine ww_astore C dL_addFlock_13 (by omega) ?_
          refine ww_iconst (v := 1) C dL_addFlock_15 (by decide) ?_
          exact ww_iret C hr rfl rfl dL_addFlock_16
      · refine ⟨17, ⟨[⟨0, 10, 13, 21⟩], ⟨0, 10, 17, 13⟩, [⟨0, 10, 21, 15⟩], rfl, ?_, rfl, by decide, C.2.2.2.2.1 _ q_k_L_13, va_Nw.use rfl (hE.1 _ (List.mem_of_getElem? (i := 1) rfl)), rfl⟩, fun q => ?_⟩
        · intro z hz; simp only [List.mem_cons, List.not_mem_nil, or_false] at hz; subst hz; exact Or.inr ⟨by decide, _, C.2.2.2.2.1 _ q_k_L_21, hNC.1⟩
        · refine ww_astore C dL_addFlock_17 (by omega) ?_
          refine ww_iconst (v := 2) C dL_addFlock_19 (by decide) ?_
          exact ww_iret C hr rfl rfl dL_addFlock_20
      · refine ⟨21, ⟨[⟨0, 10, 13, 21⟩, ⟨0, 10, 17, 13⟩], ⟨0, 10, 21, 15⟩, [], rfl, ?_, rfl, by decide, C.2.2.2.2.1 _ q_k_L_15, va_Nw.use rfl (hE.1 _ (List.mem_of_getElem? (i := 2) rfl)), rfl⟩, fun q => ?_⟩
        · intro z hz
          simp only [List.mem_cons, List.not_mem_nil, or_false] at hz
          rcases hz with rfl | rfl
          · exact Or.inr ⟨by decide, _, C.2.2.2.2.1 _ q_k_L_21, hNC.2.1⟩
          · exact Or.inr ⟨by decide, _, C.2.2.2.2.1 _ q_k_L_13, hNC.2.2⟩
        · refine ww_astore C dL_addFlock_21 (by omega) ?_
          refine ww_iconst (v := 3) C dL_addFlock_23 (by decide) ?_
          exact ww_iret C hr rfl rfl dL_addFlock_24
theorem q_x_L_drive : (Cond.codeWith yL_drive cL_drive 5 (some .int) [(0, 10, 13, 21), (0, 10, 17, 15)]) ∈ TT := tt_r (List.mem_of_getElem? (i := 477) (by decide +kernel)) (by decide +kernel)
set_option maxRecDepth 100000 in
set_option maxHeartbeats 1600000 in
theorem lt_drive {g : gW} {l : Launch} {h h2 : Hp} {r : RS} {v a1 a2 : Int32} (hM : XT g l yX4_drive cX4_drive 6 (some FieldType.int) 7 [.ref (gB g + 0), .int a1, .int a2] h r) (ho : LR [(E_I, 1), (E_S, 2)] r h v h2) : LT g l yL_drive cL_drive 5 [(0, 10, 13, 21), (0, 10, 17, 15)] 8 [.ref (gB g + 0), .int a1, .int a2, .ref (gB g + 70)] h v h2 := by
  refine LT.of (lv0 := [(0, .ref (gB g + 0)), (1, .int a1), (2, .int a2), (3, .ref (gB g + 70))]) (by decide +kernel) (Nat.le_of_ble_eq_true rfl) rfl ?_
  intro p e s m below meth c C hE hNC htab hr
  refine ww_aload_n C dL_drive_0 3 rfl rfl ?_
  refine ww_iconst (v := 0) C dL_drive_1 (by decide) ?_
  refine ww_aload_n C dL_drive_2 0 rfl rfl ?_
  refine ww_iload_n C dL_drive_3 1 rfl rfl ?_
  refine ww_iload_n C dL_drive_4 2 rfl rfl ?_
  refine ww_callVc (As := [.int a1, .int a2]) (rest := [.int 0, .ref (gB g + 70)]) C hE htab mf_X4_drive dL_drive_5 hM q_m_L_47 rfl rfl rfl (Nat.le_of_ble_eq_true rfl) ⟨(Nat.le_of_ble_eq_true rfl), (Nat.le_of_ble_eq_true rfl)⟩ ⟨(Nat.le_of_ble_eq_true rfl), (Nat.le_of_ble_eq_true rfl)⟩ (fun v9 z9 e9 => ?_) (fun E e9 => ?_)
  · rcases ho with ⟨w, z, e2, rfl, rfl⟩ | ⟨E, e2, -, -⟩
    · cases e9.symm.trans e2
      refine ww_i2l C dL_drive_8 ?_
      refine ww_last C rfl dL_drive_9 ?_
      refine ww_goto C dL_drive_10 21 (by decide) ?_
      refine ww_iconst (v := 0) C dL_drive_21 (by decide) ?_
      exact ww_iret C hr rfl rfl dL_drive_22
    · cases e9.symm.trans e2
  · rcases ho with ⟨w, z, e2, -, -⟩ | ⟨E2, e2, hm, rfl⟩
    · cases e9.symm.trans e2
    · cases e9.symm.trans e2
      simp only [List.mem_cons, List.not_mem_nil, or_false, Prod.mk.injEq] at hm
      rcases hm with ⟨rfl, rfl⟩ | ⟨rfl, rfl⟩
      · refine ⟨13, ⟨[], ⟨0, 10, 13, 21⟩, [⟨0, 10, 17, 15⟩], rfl, ?_, rfl, by decide, C.2.2.2.2.1 _ q_k_L_21, va_Nw.use rfl (hE.1 _ (List.mem_of_getElem? (i := 0) rfl)), rfl⟩, fun q => ?_⟩
        · intro z hz; cases hz
        · refine ww_astore C dL_drive_13 (by omega) ?_
          refine ww_iconst (v := 1) C dL_drive_15 (by decide) ?_
          exact ww_iret C hr rfl rfl dL_drive_16
      · refine ⟨17, ⟨[⟨0, 10, 13, 21⟩], ⟨0, 10, 17, 15⟩, [], rfl, ?_, rfl, by decide, C.2.2.2.2.1 _ q_k_L_15, va_Nw.use rfl (hE.1 _ (List.mem_of_getElem? (i := 2) rfl)), rfl⟩, fun q => ?_⟩
        · intro z hz; simp only [List.mem_cons, List.not_mem_nil, or_false] at hz; subst hz; exact Or.inr ⟨by decide, _, C.2.2.2.2.1 _ q_k_L_21, hNC.2.1⟩
        · refine ww_astore C dL_drive_17 (by omega) ?_
          refine ww_iconst (v := 2) C dL_drive_19 (by decide) ?_
          exact ww_iret C hr rfl rfl dL_drive_20
theorem q_x_L_setRoams : (Cond.codeWith yL_setRoams cL_setRoams 5 (some .int) [(0, 17, 20, 21)]) ∈ TT := tt_r (List.mem_of_getElem? (i := 492) (by decide +kernel)) (by decide +kernel)
set_option maxRecDepth 100000 in
set_option maxHeartbeats 1600000 in
theorem lt_setRoams {g : gW} {l : Launch} {h h2 : Hp} {r : RS} {v a1 a2 : Int32} (hM : XT g l yX4_setRoams cX4_setRoams 5 (some FieldType.boolean) 7 [.ref (gB g + 0), .int a1, .int a2] h r) (ho : LRb [(E_I, 1)] r h v h2) : LT g l yL_setRoams cL_setRoams 5 [(0, 17, 20, 21)] 8 [.ref (gB g + 0), .int a1, .int a2, .ref (gB g + 70)] h v h2 := by
  refine LT.of (lv0 := [(0, .ref (gB g + 0)), (1, .int a1), (2, .int a2), (3, .ref (gB g + 70))]) (by decide +kernel) (Nat.le_of_ble_eq_true rfl) rfl ?_
  intro p e s m below meth c C hE hNC htab hr
  refine ww_aload_n C dL_setRoams_0 3 rfl rfl ?_
  refine ww_iconst (v := 0) C dL_setRoams_1 (by decide) ?_
  refine ww_aload_n C dL_setRoams_2 0 rfl rfl ?_
  refine ww_iload_n C dL_setRoams_3 1 rfl rfl ?_
  refine ww_iload_n C dL_setRoams_4 2 rfl rfl ?_
  refine ww_callVc (As := [.int a1, .int a2]) (rest := [.int 0, .ref (gB g + 70)]) C hE htab mf_X4_setRoams dL_setRoams_5 hM q_m_L_50 rfl rfl rfl (Nat.le_of_ble_eq_true rfl) ⟨(Nat.le_of_ble_eq_true rfl), (Nat.le_of_ble_eq_true rfl)⟩ ⟨(Nat.le_of_ble_eq_true rfl), (Nat.le_of_ble_eq_true rfl)⟩ (fun v9 z9 e9 => ?_) (fun E e9 => ?_)
  · rcases ho with ⟨w, z, e2, rfl, rfl⟩ | ⟨E, e2, -, -⟩
    · cases e9.symm.trans e2
      refine ww_if_eq C dL_setRoams_8 15 (by decide) (fun c0 => ?_) (fun c0 => ?_)
      · rw [if_pos c0]
        refine ww_lconst (v := (0 : Int32).toInt64) C dL_setRoams_15 (by decide) ?_
        refine ww_last C rfl dL_setRoams_16 ?_
        refine ww_goto C dL_setRoams_17 24 (by decide) ?_
        refine ww_iconst (v := 0) C dL_setRoams_24 (by decide) ?_
        exact ww_iret C hr rfl rfl dL_setRoams_25
      · rw [if_neg c0]
        refine ww_lconst (v := (1 : Int32).toInt64) C dL_setRoams_11 (by decide) ?_
        refine ww_goto C dL_setRoams_12 16 (by decide) ?_
        refine ww_last C rfl dL_setRoams_16 ?_
        refine ww_goto C dL_setRoams_17 24 (by decide) ?_
        refine ww_iconst (v := 0) C dL_setRoams_24 (by decide) ?_
        exact ww_iret C hr rfl rfl dL_setRoams_25
    · cases e9.symm.trans e2
  · rcases ho with ⟨w, z, e2, -, -⟩ | ⟨E2, e2, hm, rfl⟩
    · cases e9.symm.trans e2
    · cases e9.symm.trans e2
      simp only [List.mem_cons, List.not_mem_nil, or_false, Prod.mk.injEq] at hm
      obtain ⟨rfl, rfl⟩ := hm
      refine ⟨20, ⟨[], ⟨0, 17, 20, 21⟩, [], rfl, ?_, rfl, by decide, C.2.2.2.2.1 _ q_k_L_21, va_Nw.use rfl (hE.1 _ (List.mem_of_getElem? (i := 0) rfl)), rfl⟩, fun q => ?_⟩
      · intro z hz; cases hz
      · refine ww_astore C dL_setRoams_20 (by omega) ?_
        refine ww_iconst (v := 1) C dL_setRoams_22 (by decide) ?_
        exact ww_iret C hr rfl rfl dL_setRoams_23
theorem q_x_L_flock : (Cond.codeWith yL_flock cL_flock 5 (some .int) [(0, 10, 13, 21)]) ∈ TT := tt_r (List.mem_of_getElem? (i := 499) (by decide +kernel)) (by decide +kernel)
set_option maxRecDepth 100000 in
set_option maxHeartbeats 1600000 in
theorem lt_flock {g : gW} {l : Launch} {h h2 : Hp} {r : RS} {v a1 a2 : Int32} (hM : XT g l yX4_flock cX4_flock 4 (some FieldType.int) 7 [.ref (gB g + 0), .int a1, .int a2] h r) (ho : LR [(E_I, 1)] r h v h2) : LT g l yL_flock cL_flock 5 [(0, 10, 13, 21)] 8 [.ref (gB g + 0), .int a1, .int a2, .ref (gB g + 70)] h v h2 := by
  refine LT.of (lv0 := [(0, .ref (gB g + 0)), (1, .int a1), (2, .int a2), (3, .ref (gB g + 70))]) (by decide +kernel) (Nat.le_of_ble_eq_true rfl) rfl ?_
  intro p e s m below meth c C hE hNC htab hr
  refine ww_aload_n C dL_flock_0 3 rfl rfl ?_
  refine ww_iconst (v := 0) C dL_flock_1 (by decide) ?_
  refine ww_aload_n C dL_flock_2 0 rfl rfl ?_
  refine ww_iload_n C dL_flock_3 1 rfl rfl ?_
  refine ww_iload_n C dL_flock_4 2 rfl rfl ?_
  refine ww_callVc (As := [.int a1, .int a2]) (rest := [.int 0, .ref (gB g + 70)]) C hE htab mf_X4_flock dL_flock_5 hM q_m_L_53 rfl rfl rfl (Nat.le_of_ble_eq_true rfl) ⟨(Nat.le_of_ble_eq_true rfl), (Nat.le_of_ble_eq_true rfl)⟩ ⟨(Nat.le_of_ble_eq_true rfl), (Nat.le_of_ble_eq_true rfl)⟩ (fun v9 z9 e9 => ?_) (fun E e9 => ?_)
  · rcases ho with ⟨w, z, e2, rfl, rfl⟩ | ⟨E, e2, -, -⟩
    · cases e9.symm.trans e2
      refine ww_i2l C dL_flock_8 ?_
      refine ww_last C rfl dL_flock_9 ?_
      refine ww_goto C dL_flock_10 17 (by decide) ?_
      refine ww_iconst (v := 0) C dL_flock_17 (by decide) ?_
      exact ww_iret C hr rfl rfl dL_flock_18
    · cases e9.symm.trans e2
  · rcases ho with ⟨w, z, e2, -, -⟩ | ⟨E2, e2, hm, rfl⟩
    · cases e9.symm.trans e2
    · cases e9.symm.trans e2
      simp only [List.mem_cons, List.not_mem_nil, or_false, Prod.mk.injEq] at hm
      obtain ⟨rfl, rfl⟩ := hm
      refine ⟨13, ⟨[], ⟨0, 10, 13, 21⟩, [], rfl, ?_, rfl, by decide, C.2.2.2.2.1 _ q_k_L_21, va_Nw.use rfl (hE.1 _ (List.mem_of_getElem? (i := 0) rfl)), rfl⟩, fun q => ?_⟩
      · intro z hz; cases hz
      · refine ww_astore C dL_flock_13 (by omega) ?_
        refine ww_iconst (v := 1) C dL_flock_15 (by decide) ?_
        exact ww_iret C hr rfl rfl dL_flock_16
theorem q_x_L_pass : (Cond.codeWith yL_pass cL_pass 4 (some .int) [(0, 9, 12, 13)]) ∈ TT := tt_r (List.mem_of_getElem? (i := 503) (by decide +kernel)) (by decide +kernel)
set_option maxRecDepth 100000 in
set_option maxHeartbeats 1600000 in
theorem lt_pass {g : gW} {l : Launch} {h h2 : Hp} {r : RS} {v a1 : Int32} (hM : XT g l yX4_pass cX4_pass 2 (some FieldType.int) 7 [.ref (gB g + 0), .int a1] h r) (ho : LR [(E_A, 1)] r h v h2) : LT g l yL_pass cL_pass 4 [(0, 9, 12, 13)] 8 [.ref (gB g + 0), .int a1, .ref (gB g + 70)] h v h2 := by
  refine LT.of (lv0 := [(0, .ref (gB g + 0)), (1, .int a1), (2, .ref (gB g + 70))]) (by decide +kernel) (Nat.le_of_ble_eq_true rfl) rfl ?_
  intro p e s m below meth c C hE hNC htab hr
  refine ww_aload_n C dL_pass_0 2 rfl rfl ?_
  refine ww_iconst (v := 0) C dL_pass_1 (by decide) ?_
  refine ww_aload_n C dL_pass_2 0 rfl rfl ?_
  refine ww_iload_n C dL_pass_3 1 rfl rfl ?_
  refine ww_callVc (As := [.int a1]) (rest := [.int 0, .ref (gB g + 70)]) C hE htab mf_X4_pass dL_pass_4 hM q_m_L_56 rfl rfl rfl (Nat.le_of_ble_eq_true rfl) ⟨(Nat.le_of_ble_eq_true rfl), (Nat.le_of_ble_eq_true rfl)⟩ ⟨(Nat.le_of_ble_eq_true rfl), (Nat.le_of_ble_eq_true rfl)⟩ (fun v9 z9 e9 => ?_) (fun E e9 => ?_)
  · rcases ho with ⟨w, z, e2, rfl, rfl⟩ | ⟨E, e2, -, -⟩
    · cases e9.symm.trans e2
      refine ww_i2l C dL_pass_7 ?_
      refine ww_last C rfl dL_pass_8 ?_
      refine ww_goto C dL_pass_9 15 (by decide) ?_
      refine ww_iconst (v := 0) C dL_pass_15 (by decide) ?_
      exact ww_iret C hr rfl rfl dL_pass_16
    · cases e9.symm.trans e2
  · rcases ho with ⟨w, z, e2, -, -⟩ | ⟨E2, e2, hm, rfl⟩
    · cases e9.symm.trans e2
    · cases e9.symm.trans e2
      simp only [List.mem_cons, List.not_mem_nil, or_false, Prod.mk.injEq] at hm
      obtain ⟨rfl, rfl⟩ := hm
      refine ⟨12, ⟨[], ⟨0, 9, 12, 13⟩, [], rfl, ?_, rfl, by decide, C.2.2.2.2.1 _ q_k_L_13, va_Nw.use rfl (hE.1 _ (List.mem_of_getElem? (i := 1) rfl)), rfl⟩, fun q => ?_⟩
      · intro z hz; cases hz
      · refine ww_astore_n C dL_pass_12 3 rfl (by omega) ?_
        refine ww_iconst (v := 1) C dL_pass_13 (by decide) ?_
        exact ww_iret C hr rfl rfl dL_pass_14
theorem q_x_L_count : (Cond.codeWith yL_count cL_count 4 (some .int) [(0, 9, 12, 21)]) ∈ TT := tt_r (List.mem_of_getElem? (i := 581) (by decide +kernel)) (by decide +kernel)
set_option maxRecDepth 100000 in
set_option maxHeartbeats 1600000 in
theorem lt_count {g : gW} {l : Launch} {h h2 : Hp} {r : RS} {v a1 : Int32} (hM : XT g l yX4_count cX4_count 2 (some FieldType.int) 7 [.ref (gB g + 0), .int a1] h r) (ho : LR [(E_I, 1)] r h v h2) : LT g l yL_count cL_count 4 [(0, 9, 12, 21)] 8 [.ref (gB g + 0), .int a1, .ref (gB g + 70)] h v h2 := by
  refine LT.of (lv0 := [(0, .ref (gB g + 0)), (1, .int a1), (2, .ref (gB g + 70))]) (by decide +kernel) (Nat.le_of_ble_eq_true rfl) rfl ?_
  intro p e s m below meth c C hE hNC htab hr
  refine ww_aload_n C dL_count_0 2 rfl rfl ?_
  refine ww_iconst (v := 0) C dL_count_1 (by decide) ?_
  refine ww_aload_n C dL_count_2 0 rfl rfl ?_
  refine ww_iload_n C dL_count_3 1 rfl rfl ?_
  refine ww_callVc (As := [.int a1]) (rest := [.int 0, .ref (gB g + 70)]) C hE htab mf_X4_count dL_count_4 hM q_m_L_59 rfl rfl rfl (Nat.le_of_ble_eq_true rfl) ⟨(Nat.le_of_ble_eq_true rfl), (Nat.le_of_ble_eq_true rfl)⟩ ⟨(Nat.le_of_ble_eq_true rfl), (Nat.le_of_ble_eq_true rfl)⟩ (fun v9 z9 e9 => ?_) (fun E e9 => ?_)
  · rcases ho with ⟨w, z, e2, rfl, rfl⟩ | ⟨E, e2, -, -⟩
    · cases e9.symm.trans e2
      refine ww_i2l C dL_count_7 ?_
      refine ww_last C rfl dL_count_8 ?_
      refine ww_goto C dL_count_9 15 (by decide) ?_
      refine ww_iconst (v := 0) C dL_count_15 (by decide) ?_
      exact ww_iret C hr rfl rfl dL_count_16
    · cases e9.symm.trans e2
  · rcases ho with ⟨w, z, e2, -, -⟩ | ⟨E2, e2, hm, rfl⟩
    · cases e9.symm.trans e2
    · cases e9.symm.trans e2
      simp only [List.mem_cons, List.not_mem_nil, or_false, Prod.mk.injEq] at hm
      obtain ⟨rfl, rfl⟩ := hm
      refine ⟨12, ⟨[], ⟨0, 9, 12, 21⟩, [], rfl, ?_, rfl, by decide, C.2.2.2.2.1 _ q_k_L_21, va_Nw.use rfl (hE.1 _ (List.mem_of_getElem? (i := 0) rfl)), rfl⟩, fun q => ?_⟩
      · intro z hz; cases hz
      · refine ww_astore_n C dL_count_12 3 rfl (by omega) ?_
        refine ww_iconst (v := 1) C dL_count_13 (by decide) ?_
        exact ww_iret C hr rfl rfl dL_count_14
theorem q_x_L_foresee : (Cond.codeWith yL_foresee cL_foresee 5 (some .int) [(0, 10, 13, 21), (0, 10, 17, 13)]) ∈ TT := tt_r (List.mem_of_getElem? (i := 585) (by decide +kernel)) (by decide +kernel)
set_option maxRecDepth 100000 in
set_option maxHeartbeats 1600000 in
theorem lt_foresee {g : gW} {l : Launch} {h h2 : Hp} {r : RS} {v a1 a2 : Int32} (hM : XT g l yX4_foresee cX4_foresee 3 (some FieldType.int) 7 [.ref (gB g + 0), .int a1, .int a2] h r) (ho : LR [(E_I, 1), (E_A, 2)] r h v h2) : LT g l yL_foresee cL_foresee 5 [(0, 10, 13, 21), (0, 10, 17, 13)] 8 [.ref (gB g + 0), .int a1, .int a2, .ref (gB g + 70)] h v h2 := by
  refine LT.of (lv0 := [(0, .ref (gB g + 0)), (1, .int a1), (2, .int a2), (3, .ref (gB g + 70))]) (by decide +kernel) (Nat.le_of_ble_eq_true rfl) rfl ?_
  intro p e s m below meth c C hE hNC htab hr
  refine ww_aload_n C dL_foresee_0 3 rfl rfl ?_
  refine ww_iconst (v := 0) C dL_foresee_1 (by decide) ?_
  refine ww_aload_n C dL_foresee_2 0 rfl rfl ?_
  refine ww_iload_n C dL_foresee_3 1 rfl rfl ?_
  refine ww_iload_n C dL_foresee_4 2 rfl rfl ?_
  refine ww_callVc (As := [.int a1, .int a2]) (rest := [.int 0, .ref (gB g + 70)]) C hE htab mf_X4_foresee dL_foresee_5 hM q_m_L_62 rfl rfl rfl (Nat.le_of_ble_eq_true rfl) ⟨(Nat.le_of_ble_eq_true rfl), (Nat.le_of_ble_eq_true rfl)⟩ ⟨(Nat.le_of_ble_eq_true rfl), (Nat.le_of_ble_eq_true rfl)⟩ (fun v9 z9 e9 => ?_) (fun E e9 => ?_)
  · rcases ho with ⟨w, z, e2, rfl, rfl⟩ | ⟨E, e2, -, -⟩
    · cases e9.symm.trans e2
      refine ww_i2l C dL_foresee_8 ?_
      refine ww_last C rfl dL_foresee_9 ?_
      refine ww_goto C dL_foresee_10 21 (by decide) ?_
      refine ww_iconst (v := 0) C dL_foresee_21 (by decide) ?_
      exact ww_iret C hr rfl rfl dL_foresee_22
    · cases e9.symm.trans e2
  · rcases ho with ⟨w, z, e2, -, -⟩ | ⟨E2, e2, hm, rfl⟩
    · cases e9.symm.trans e2
    · cases e9.symm.trans e2
      simp only [List.mem_cons, List.not_mem_nil, or_false, Prod.mk.injEq] at hm
      rcases hm with ⟨rfl, rfl⟩ | ⟨rfl, rfl⟩
      · refine ⟨13, ⟨[], ⟨0, 10, 13, 21⟩, [⟨0, 10, 17, 13⟩], rfl, ?_, rfl, by decide, C.2.2.2.2.1 _ q_k_L_21, va_Nw.use rfl (hE.1 _ (List.mem_of_getElem? (i := 0) rfl)), rfl⟩, fun q => ?_⟩
        · intro z hz; cases hz
        · refine ww_astore C dL_foresee_13 (by omega) ?_
          refine ww_iconst (v := 1) C dL_foresee_15 (by decide) ?_
          exact ww_iret C hr rfl rfl dL_foresee_16
      · refine ⟨17, ⟨[⟨0, 10, 13, 21⟩], ⟨0, 10, 17, 13⟩, [], rfl, ?_, rfl, by decide, C.2.2.2.2.1 _ q_k_L_13, va_Nw.use rfl (hE.1 _ (List.mem_of_getElem? (i := 1) rfl)), rfl⟩, fun q => ?_⟩
        · intro z hz; simp only [List.mem_cons, List.not_mem_nil, or_false] at hz; subst hz; exact Or.inr ⟨by decide, _, C.2.2.2.2.1 _ q_k_L_21, hNC.1⟩
        · refine ww_astore C dL_foresee_17 (by omega) ?_
          refine ww_iconst (v := 2) C dL_foresee_19 (by decide) ?_
          exact ww_iret C hr rfl rfl dL_foresee_20
theorem q_x_L_lasts : (Cond.codeWith yL_lasts cL_lasts 4 (some .int) [(0, 9, 12, 21)]) ∈ TT := tt_r (List.mem_of_getElem? (i := 609) (by decide +kernel)) (by decide +kernel)
set_option maxRecDepth 100000 in
set_option maxHeartbeats 1600000 in
theorem lt_lasts {g : gW} {l : Launch} {h h2 : Hp} {r : RS} {v a1 : Int32} (hM : XT g l yX4_lasts cX4_lasts 4 (some FieldType.int) 7 [.ref (gB g + 0), .int a1] h r) (ho : LR [(E_I, 1)] r h v h2) : LT g l yL_lasts cL_lasts 4 [(0, 9, 12, 21)] 8 [.ref (gB g + 0), .int a1, .ref (gB g + 70)] h v h2 := by
  refine LT.of (lv0 := [(0, .ref (gB g + 0)), (1, .int a1), (2, .ref (gB g + 70))]) (by decide +kernel) (Nat.le_of_ble_eq_true rfl) rfl ?_
  intro p e s m below meth c C hE hNC htab hr
  refine ww_aload_n C dL_lasts_0 2 rfl rfl ?_
  refine ww_iconst (v := 0) C dL_lasts_1 (by decide) ?_
  refine ww_aload_n C dL_lasts_2 0 rfl rfl ?_
  refine ww_iload_n C dL_lasts_3 1 rfl rfl ?_
  refine ww_callVc (As := [.int a1]) (rest := [.int 0, .ref (gB g + 70)]) C hE htab mf_X4_lasts dL_lasts_4 hM q_m_L_65 rfl rfl rfl (Nat.le_of_ble_eq_true rfl) ⟨(Nat.le_of_ble_eq_true rfl), (Nat.le_of_ble_eq_true rfl)⟩ ⟨(Nat.le_of_ble_eq_true rfl), (Nat.le_of_ble_eq_true rfl)⟩ (fun v9 z9 e9 => ?_) (fun E e9 => ?_)
  · rcases ho with ⟨w, z, e2, rfl, rfl⟩ | ⟨E, e2, -, -⟩
    · cases e9.symm.trans e2
      refine ww_i2l C dL_lasts_7 ?_
      refine ww_last C rfl dL_lasts_8 ?_
      refine ww_goto C dL_lasts_9 15 (by decide) ?_
      refine ww_iconst (v := 0) C dL_lasts_15 (by decide) ?_
      exact ww_iret C hr rfl rfl dL_lasts_16
    · cases e9.symm.trans e2
  · rcases ho with ⟨w, z, e2, -, -⟩ | ⟨E2, e2, hm, rfl⟩
    · cases e9.symm.trans e2
    · cases e9.symm.trans e2
      simp only [List.mem_cons, List.not_mem_nil, or_false, Prod.mk.injEq] at hm
      obtain ⟨rfl, rfl⟩ := hm
      refine ⟨12, ⟨[], ⟨0, 9, 12, 21⟩, [], rfl, ?_, rfl, by decide, C.2.2.2.2.1 _ q_k_L_21, va_Nw.use rfl (hE.1 _ (List.mem_of_getElem? (i := 0) rfl)), rfl⟩, fun q => ?_⟩
      · intro z hz; cases hz
      · refine ww_astore_n C dL_lasts_12 3 rfl (by omega) ?_
        refine ww_iconst (v := 1) C dL_lasts_13 (by decide) ?_
        exact ww_iret C hr rfl rfl dL_lasts_14
theorem q_x_L_keep : (Cond.codeWith yL_keep cL_keep 5 (some .int) [(0, 10, 13, 21), (0, 10, 17, 13)]) ∈ TT := tt_r (List.mem_of_getElem? (i := 617) (by decide +kernel)) (by decide +kernel)
set_option maxRecDepth 100000 in
set_option maxHeartbeats 1600000 in
theorem lt_keep {g : gW} {l : Launch} {h h2 : Hp} {r : RS} {v a1 a2 : Int32} (hM : XT g l yX4_keep cX4_keep 4 (some FieldType.int) 7 [.ref (gB g + 0), .int a1, .int a2] h r) (ho : LR [(E_I, 1), (E_A, 2)] r h v h2) : LT g l yL_keep cL_keep 5 [(0, 10, 13, 21), (0, 10, 17, 13)] 8 [.ref (gB g + 0), .int a1, .int a2, .ref (gB g + 70)] h v h2 := by
  refine LT.of (lv0 := [(0, .ref (gB g + 0)), (1, .int a1), (2, .int a2), (3, .ref (gB g + 70))]) (by decide +kernel) (Nat.le_of_ble_eq_true rfl) rfl ?_
  intro p e s m below meth c C hE hNC htab hr
  refine ww_aload_n C dL_keep_0 3 rfl rfl ?_
  refine ww_iconst (v := 0) C dL_keep_1 (by decide) ?_
  refine ww_aload_n C dL_keep_2 0 rfl rfl ?_
  refine ww_iload_n C dL_keep_3 1 rfl rfl ?_
  refine ww_iload_n C dL_keep_4 2 rfl rfl ?_
  refine ww_callVc (As := [.int a1, .int a2]) (rest := [.int 0, .ref (gB g + 70)]) C hE htab mf_X4_keep dL_keep_5 hM q_m_L_68 rfl rfl rfl (Nat.le_of_ble_eq_true rfl) ⟨(Nat.le_of_ble_eq_true rfl), (Nat.le_of_ble_eq_true rfl)⟩ ⟨(Nat.le_of_ble_eq_true rfl), (Nat.le_of_ble_eq_true rfl)⟩ (fun v9 z9 e9 => ?_) (fun E e9 => ?_)
  · rcases ho with ⟨w, z, e2, rfl, rfl⟩ | ⟨E, e2, -, -⟩
    · cases e9.symm.trans e2
      refine ww_i2l C dL_keep_8 ?_
      refine ww_last C rfl dL_keep_9 ?_
      refine ww_goto C dL_keep_10 21 (by decide) ?_
      refine ww_iconst (v := 0) C dL_keep_21 (by decide) ?_
      exact ww_iret C hr rfl rfl dL_keep_22
    · cases e9.symm.trans e2
  · rcases ho with ⟨w, z, e2, -, -⟩ | ⟨E2, e2, hm, rfl⟩
    · cases e9.symm.trans e2
    · cases e9.symm.trans e2
      simp only [List.mem_cons, List.not_mem_nil, or_false, Prod.mk.injEq] at hm
      rcases hm with ⟨rfl, rfl⟩ | ⟨rfl, rfl⟩
      · refine ⟨13, ⟨[], ⟨0, 10, 13, 21⟩, [⟨0, 10, 17, 13⟩], rfl, ?_, rfl, by decide, C.2.2.2.2.1 _ q_k_L_21, va_Nw.use rfl (hE.1 _ (List.mem_of_getElem? (i := 0) rfl)), rfl⟩, fun q => ?_⟩
        · intro z hz; cases hz
        · refine ww_astore C dL_keep_13 (by omega) ?_
          refine ww_iconst (v := 1) C dL_keep_15 (by decide) ?_
          exact ww_iret C hr rfl rfl dL_keep_16
      · refine ⟨17, ⟨[⟨0, 10, 13, 21⟩], ⟨0, 10, 17, 13⟩, [], rfl, ?_, rfl, by decide, C.2.2.2.2.1 _ q_k_L_13, va_Nw.use rfl (hE.1 _ (List.mem_of_getElem? (i := 1) rfl)), rfl⟩, fun q => ?_⟩
        · intro z hz; simp only [List.mem_cons, List.not_mem_nil, or_false] at hz; subst hz; exact Or.inr ⟨by decide, _, C.2.2.2.2.1 _ q_k_L_21, hNC.1⟩
        · refine ww_astore C dL_keep_17 (by omega) ?_
          refine ww_iconst (v := 2) C dL_keep_19 (by decide) ?_
          exact ww_iret C hr rfl rfl dL_keep_20
theorem q_x_L_advise : (Cond.codeWith yL_advise cL_advise 4 (some .int) [(0, 9, 12, 13)]) ∈ TT := tt_r (List.mem_of_getElem? (i := 629) (by decide +kernel)) (by decide +kernel)
set_option maxRecDepth 100000 in
set_option maxHeartbeats 1600000 in
theorem lt_advise {g : gW} {l : Launch} {h h2 : Hp} {r : RS} {v a1 : Int32} (hM : XT g l yX4_advise cX4_advise 6 (some FieldType.int) 7 [.ref (gB g + 0), .int a1] h r) (ho : LR [(E_A, 1)] r h v h2) : LT g l yL_advise cL_advise 4 [(0, 9, 12, 13)] 8 [.ref (gB g + 0), .int a1, .ref (gB g + 70)] h v h2 := by
  refine LT.of (lv0 := [(0, .ref (gB g + 0)), (1, .int a1), (2, .ref (gB g + 70))]) (by decide +kernel) (Nat.le_of_ble_eq_true rfl) rfl ?_
  intro p e s m below meth c C hE hNC htab hr
  refine ww_aload_n C dL_advise_0 2 rfl rfl ?_
  refine ww_iconst (v := 0) C dL_advise_1 (by decide) ?_
  refine ww_aload_n C dL_advise_2 0 rfl rfl ?_
  refine ww_iload_n C dL_advise_3 1 rfl rfl ?_
  refine ww_callVc (As := [.int a1]) (rest := [.int 0, .ref (gB g + 70)]) C hE htab mf_X4_advise dL_advise_4 hM q_m_L_71 rfl rfl rfl (Nat.le_of_ble_eq_true rfl) ⟨(Nat.le_of_ble_eq_true rfl), (Nat.le_of_ble_eq_true rfl)⟩ ⟨(Nat.le_of_ble_eq_true rfl), (Nat.le_of_ble_eq_true rfl)⟩ (fun v9 z9 e9 => ?_) (fun E e9 => ?_)
  · rcases ho with ⟨w, z, e2, rfl, rfl⟩ | ⟨E, e2, -, -⟩
    · cases e9.symm.trans e2
      refine ww_i2l C dL_advise_7 ?_
      refine ww_last C rfl dL_advise_8 ?_
      refine ww_goto C dL_advise_9 15 (by decide) ?_
      refine ww_iconst (v := 0) C dL_advise_15 (by decide) ?_
      exact ww_iret C hr rfl rfl dL_advise_16
    · cases e9.symm.trans e2
  · rcases ho with ⟨w, z, e2, -, -⟩ | ⟨E2, e2, hm, rfl⟩
    · cases e9.symm.trans e2
    · cases e9.symm.trans e2
      simp only [List.mem_cons, List.not_mem_nil, or_false, Prod.mk.injEq] at hm
      obtain ⟨rfl, rfl⟩ := hm
      refine ⟨12, ⟨[], ⟨0, 9, 12, 13⟩, [], rfl, ?_, rfl, by decide, C.2.2.2.2.1 _ q_k_L_13, va_Nw.use rfl (hE.1 _ (List.mem_of_getElem? (i := 1) rfl)), rfl⟩, fun q => ?_⟩
      · intro z hz; cases hz
      · refine ww_astore_n C dL_advise_12 3 rfl (by omega) ?_
        refine ww_iconst (v := 1) C dL_advise_13 (by decide) ?_
        exact ww_iret C hr rfl rfl dL_advise_14
