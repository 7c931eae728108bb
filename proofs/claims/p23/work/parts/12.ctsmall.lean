set_option maxRecDepth 100000 in
set_option maxHeartbeats 4000000 in
theorem ct_X2_holds {g : gW} {l : Launch} {h : Hp} {o : Nat} (ho : isP o) : CT g l yX2_holds cX2_holds 1 (some FieldType.int) 0 0 0 [.ref (gB g + o)] h (some (.int (p_holds h o))) h := by
  refine CT.of (lv0 := [(0, .ref (gB g + o))]) mf_X2_holds.1.2.2.2 (Nat.le_of_ble_eq_true rfl) rfl ?_
  intro p e s m below meth c C hr
  refine ww_aload_n C dX2_holds_0 0 rfl rfl ?_
  refine ww_getP C (by assumption) 3 (by decide) q_f_X2_24 dX2_holds_1 ?_
  refine ww_aload_n C dX2_holds_4 0 rfl rfl ?_
  refine ww_getP C (by assumption) 4 (by decide) q_f_X2_27 dX2_holds_5 ?_
  refine ww_imul C dX2_holds_8 ?_
  refine ww_bipush (v := 10) C dX2_holds_9 (by decide) ?_
  refine ww_imul C dX2_holds_11 ?_
  exact ww_iret C hr rfl rfl dX2_holds_12
set_option maxRecDepth 100000 in
set_option maxHeartbeats 4000000 in
theorem ct_X2_distanceTo {g : gW} {l : Launch} {h : Hp} {o o2 : Nat} (ho : isP o) (ho2 : isP o2) : CT g l yX2_distanceTo cX2_distanceTo 2 (some FieldType.int) 1 0 0 [.ref (gB g + o), .ref (gB g + o2)] h (some (.int (p_dist h o o2))) h := by
  refine CT.of (lv0 := [(0, .ref (gB g + o)), (1, .ref (gB g + o2))]) mf_X2_distanceTo.1.2.2.2 (Nat.le_of_ble_eq_true rfl) rfl ?_
  intro p e s m below meth c C hr
  refine ww_aload_n C dX2_distanceTo_0 0 rfl rfl ?_
  refine ww_getP C (by assumption) 0 (by decide) q_f_X2_15 dX2_distanceTo_1 ?_
  refine ww_aload_n C dX2_distanceTo_4 1 rfl rfl ?_
  refine ww_getP C (by assumption) 0 (by decide) q_f_X2_15 dX2_distanceTo_5 ?_
  refine ww_isub C dX2_distanceTo_8 ?_
  refine ww_mabs C q_m_X2_43 (Nat.le_of_ble_eq_true rfl) (Nat.le_of_ble_eq_true rfl) (by first | exact Nat.le_of_ble_eq_true rfl | omega) (by first | exact Nat.le_of_ble_eq_true rfl | omega) dX2_distanceTo_9 ?_
  refine ww_aload_n C dX2_distanceTo_12 0 rfl rfl ?_
  refine ww_getP C (by assumption) 1 (by decide) q_f_X2_18 dX2_distanceTo_13 ?_
  refine ww_aload_n C dX2_distanceTo_16 1 rfl rfl ?_
  refine ww_getP C (by assumption) 1 (by decide) q_f_X2_18 dX2_distanceTo_17 ?_
  refine ww_isub C dX2_distanceTo_20 ?_
  refine ww_mabs C q_m_X2_43 (Nat.le_of_ble_eq_true rfl) (Nat.le_of_ble_eq_true rfl) (by first | exact Nat.le_of_ble_eq_true rfl | omega) (by first | exact Nat.le_of_ble_eq_true rfl | omega) dX2_distanceTo_21 ?_
  refine ww_iadd C dX2_distanceTo_24 ?_
  exact ww_iret C hr rfl rfl dX2_distanceTo_25
set_option maxRecDepth 100000 in
set_option maxHeartbeats 4000000 in
theorem ct_X2_isLowEnoughToPuddle {g : gW} {l : Launch} {h : Hp} {o : Nat} (ho : isP o) : CT g l yX2_isLowEnoughToPuddle cX2_isLowEnoughToPuddle 1 (some FieldType.boolean) 1 0 0 [.ref (gB g + o)] h (some (.int (bI (h o 5 ≤ p_holds h o / 4)))) h := by
  refine CT.of (lv0 := [(0, .ref (gB g + o))]) mf_X2_isLowEnoughToPuddle.1.2.2.2 (Nat.le_of_ble_eq_true rfl) rfl ?_
  intro p e s m below meth c C hr
  refine ww_aload_n C dX2_isLowEnoughToPuddle_0 0 rfl rfl ?_
  refine ww_getP C (by assumption) 5 (by decide) q_f_X2_30 dX2_isLowEnoughToPuddle_1 ?_
  refine ww_aload_n C dX2_isLowEnoughToPuddle_4 0 rfl rfl ?_
  refine ww_callP C mf_X2_holds dX2_isLowEnoughToPuddle_5 (ct_X2_holds ho) q_m_X2_49 (by assumption) rfl rfl rfl (Nat.le_of_ble_eq_true rfl) (by exact ⟨Nat.le_of_ble_eq_true rfl, Nat.le_of_ble_eq_true rfl⟩) (by exact ⟨Nat.le_of_ble_eq_true rfl, Nat.le_of_ble_eq_true rfl⟩) ?_
  refine ww_iconst (v := 4) C dX2_isLowEnoughToPuddle_8 (by decide) ?_
  refine ww_idiv C dX2_isLowEnoughToPuddle_9 (by decide) ?_
  refine ww_icmp_gt C dX2_isLowEnoughToPuddle_10 17 (by decide) (fun c10_1 => ?_) (fun c10_1 => ?_)
  · refine ww_iconst (v := 0) C dX2_isLowEnoughToPuddle_17 (by decide) ?_
    exact ww_zret C hr (by first | exact Or.inl rfl | exact Or.inr rfl | assumption) (by simp only [bI]; first | (rw [if_pos (by simpa using c10_1)]; done) | (rw [if_neg (by simpa using c10_1)]; done)) rfl dX2_isLowEnoughToPuddle_18
  · refine ww_iconst (v := 1) C dX2_isLowEnoughToPuddle_13 (by decide) ?_
    refine ww_goto C dX2_isLowEnoughToPuddle_14 18 (by decide) ?_
    exact ww_zret C hr (by first | exact Or.inl rfl | exact Or.inr rfl | assumption) (by simp only [bI]; first | (rw [if_pos (by simpa using c10_1)]; done) | (rw [if_neg (by simpa using c10_1)]; done)) rfl dX2_isLowEnoughToPuddle_18
set_option maxRecDepth 100000 in
set_option maxHeartbeats 4000000 in
theorem ct_X2_lineWith {g : gW} {l : Launch} {h : Hp} {o : Nat} (ho : isP o) {x : Int32} : CT g l yX2_lineWith cX2_lineWith 3 (some FieldType.int) 1 0 0 [.ref (gB g + o), .int x] h (some (.int (p_use h o x))) (p_line h o x) := by
  refine CT.of (lv0 := [(0, .ref (gB g + o)), (1, .int x)]) mf_X2_lineWith.1.2.2.2 (Nat.le_of_ble_eq_true rfl) rfl ?_
  intro p e s m below meth c C hr
  refine ww_iload_n C dX2_lineWith_0 1 rfl rfl ?_
  refine ww_bipush (v := 100) C dX2_lineWith_1 (by decide) ?_
  refine ww_aload_n C dX2_lineWith_3 0 rfl rfl ?_
  refine ww_getP C (by assumption) 6 (by decide) q_f_X2_33 dX2_lineWith_4 ?_
  refine ww_isub C dX2_lineWith_7 ?_
  refine ww_mmin C q_m_X2_53 (Nat.le_of_ble_eq_true rfl) (Nat.le_of_ble_eq_true rfl) (by first | exact Nat.le_of_ble_eq_true rfl | omega) (by first | exact Nat.le_of_ble_eq_true rfl | omega) dX2_lineWith_8 ?_
  refine ww_istore_n C dX2_lineWith_11 2 rfl (by decide) ?_
  refine ww_aload_n C dX2_lineWith_12 0 rfl rfl ?_
  refine ww_dup C dX2_lineWith_13 rfl ?_
  refine ww_getP C (by assumption) 6 (by decide) q_f_X2_33 dX2_lineWith_14 ?_
  refine ww_iload_n C dX2_lineWith_17 2 rfl rfl ?_
  refine ww_iadd C dX2_lineWith_18 ?_
  refine ww_putP C (by assumption) 6 (by decide) q_f_X2_33 dX2_lineWith_19 ?_
  refine ww_iload_n C dX2_lineWith_22 2 rfl rfl ?_
  exact ww_iret C hr rfl rfl dX2_lineWith_23
set_option maxRecDepth 100000 in
set_option maxHeartbeats 4000000 in
theorem ct_X2_takeMist {g : gW} {l : Launch} {h : Hp} {o : Nat} (ho : isP o) {x : Int32} : CT g l yX2_takeMist cX2_takeMist 3 none 0 0 0 [.ref (gB g + o), .int x] h none (p_mist h o x) := by
  refine CT.of (lv0 := [(0, .ref (gB g + o)), (1, .int x)]) mf_X2_takeMist.1.2.2.2 (Nat.le_of_ble_eq_true rfl) rfl ?_
  intro p e s m below meth c C hr
  refine ww_iload_n C dX2_takeMist_0 1 rfl rfl ?_
  refine ww_aload_n C dX2_takeMist_1 0 rfl rfl ?_
  refine ww_getP C (by assumption) 3 (by decide) q_f_X2_24 dX2_takeMist_2 ?_
  refine ww_imul C dX2_takeMist_5 ?_
  refine ww_iconst (v := 4) C dX2_takeMist_6 (by decide) ?_
  refine ww_idiv C dX2_takeMist_7 (by decide) ?_
  refine ww_istore_n C dX2_takeMist_8 2 rfl (by decide) ?_
  refine ww_aload_n C dX2_takeMist_9 0 rfl rfl ?_
  refine ww_dup C dX2_takeMist_10 rfl ?_
  refine ww_getP C (by assumption) 5 (by decide) q_f_X2_30 dX2_takeMist_11 ?_
  refine ww_aload_n C dX2_takeMist_14 0 rfl rfl ?_
  refine ww_getP C (by assumption) 2 (by decide) q_f_X2_21 dX2_takeMist_15 ?_
  refine ww_sipush (v := 150) C dX2_takeMist_18 (by decide) ?_
  refine ww_icmp_lt C dX2_takeMist_21 30 (by decide) (fun c21_1 => ?_) (fun c21_1 => ?_)
  · refine ww_iload_n C dX2_takeMist_30 2 rfl rfl ?_
    refine ww_iadd C dX2_takeMist_31 ?_
    refine ww_putP C (by assumption) 5 (by decide) q_f_X2_30 dX2_takeMist_32 ?_
    exact ww_vret C hr rfl (by first | rfl | (simp only [p_mist, c21_1, if_true, if_false]; done) | (simp [p_mist, c21_1]; done)) dX2_takeMist_35
  · refine ww_iconst (v := 2) C dX2_takeMist_24 (by decide) ?_
    refine ww_iload_n C dX2_takeMist_25 2 rfl rfl ?_
    refine ww_imul C dX2_takeMist_26 ?_
    refine ww_goto C dX2_takeMist_27 31 (by decide) ?_
    refine ww_iadd C dX2_takeMist_31 ?_
    refine ww_putP C (by assumption) 5 (by decide) q_f_X2_30 dX2_takeMist_32 ?_
    exact ww_vret C hr rfl (by first | rfl | (simp only [p_mist, c21_1, if_true, if_false]; done) | (simp [p_mist, c21_1]; done)) dX2_takeMist_35
set_option maxRecDepth 100000 in
set_option maxHeartbeats 4000000 in
theorem ct_X2_takeRain {g : gW} {l : Launch} {h : Hp} {o : Nat} (ho : isP o) {x : Int32} : CT g l yX2_takeRain cX2_takeRain 2 none 0 0 0 [.ref (gB g + o), .int x] h none (p_rain h o x) := by
  refine CT.of (lv0 := [(0, .ref (gB g + o)), (1, .int x)]) mf_X2_takeRain.1.2.2.2 (Nat.le_of_ble_eq_true rfl) rfl ?_
  intro p e s m below meth c C hr
  refine ww_aload_n C dX2_takeRain_0 0 rfl rfl ?_
  refine ww_dup C dX2_takeRain_1 rfl ?_
  refine ww_getP C (by assumption) 5 (by decide) q_f_X2_30 dX2_takeRain_2 ?_
  refine ww_iload_n C dX2_takeRain_5 1 rfl rfl ?_
  refine ww_aload_n C dX2_takeRain_6 0 rfl rfl ?_
  refine ww_getP C (by assumption) 3 (by decide) q_f_X2_24 dX2_takeRain_7 ?_
  refine ww_imul C dX2_takeRain_10 ?_
  refine ww_iconst (v := 2) C dX2_takeRain_11 (by decide) ?_
  refine ww_idiv C dX2_takeRain_12 (by decide) ?_
  refine ww_iadd C dX2_takeRain_13 ?_
  refine ww_putP C (by assumption) 5 (by decide) q_f_X2_30 dX2_takeRain_14 ?_
  exact ww_vret C hr rfl rfl dX2_takeRain_17
set_option maxRecDepth 100000 in
set_option maxHeartbeats 4000000 in
theorem ct_X2_giveDrink {g : gW} {l : Launch} {h : Hp} {o : Nat} (ho : isP o) {x : Int32} : CT g l yX2_giveDrink cX2_giveDrink 3 (some FieldType.int) 1 0 0 [.ref (gB g + o), .int x] h (some (.int (mnI x (h o 5)))) (p_give h o x) := by
  refine CT.of (lv0 := [(0, .ref (gB g + o)), (1, .int x)]) mf_X2_giveDrink.1.2.2.2 (Nat.le_of_ble_eq_true rfl) rfl ?_
  intro p e s m below meth c C hr
  refine ww_iload_n C dX2_giveDrink_0 1 rfl rfl ?_
  refine ww_aload_n C dX2_giveDrink_1 0 rfl rfl ?_
  refine ww_getP C (by assumption) 5 (by decide) q_f_X2_30 dX2_giveDrink_2 ?_
  refine ww_mmin C q_m_X2_53 (Nat.le_of_ble_eq_true rfl) (Nat.le_of_ble_eq_true rfl) (by first | exact Nat.le_of_ble_eq_true rfl | omega) (by first | exact Nat.le_of_ble_eq_true rfl | omega) dX2_giveDrink_5 ?_
  refine ww_istore_n C dX2_giveDrink_8 2 rfl (by decide) ?_
  refine ww_aload_n C dX2_giveDrink_9 0 rfl rfl ?_
  refine ww_dup C dX2_giveDrink_10 rfl ?_
  refine ww_getP C (by assumption) 5 (by decide) q_f_X2_30 dX2_giveDrink_11 ?_
  refine ww_iload_n C dX2_giveDrink_14 2 rfl rfl ?_
  refine ww_isub C dX2_giveDrink_15 ?_
  refine ww_putP C (by assumption) 5 (by decide) q_f_X2_30 dX2_giveDrink_16 ?_
  refine ww_iload_n C dX2_giveDrink_19 2 rfl rfl ?_
  exact ww_iret C hr rfl rfl dX2_giveDrink_20
set_option maxRecDepth 100000 in
set_option maxHeartbeats 4000000 in
theorem ct_X2_treadBy {g : gW} {l : Launch} {h : Hp} {o : Nat} (ho : isP o) {x : Int32} : CT g l yX2_treadBy cX2_treadBy 2 none 1 0 0 [.ref (gB g + o), .int x] h none (p_tread h o x) := by
  refine CT.of (lv0 := [(0, .ref (gB g + o)), (1, .int x)]) mf_X2_treadBy.1.2.2.2 (Nat.le_of_ble_eq_true rfl) rfl ?_
  intro p e s m below meth c C hr
  refine ww_aload_n C dX2_treadBy_0 0 rfl rfl ?_
  refine ww_getP C (by assumption) 7 (by decide) q_f_X2_36 dX2_treadBy_1 ?_
  refine ww_if_ne C dX2_treadBy_4 24 (by decide) (fun c4_1 => ?_) (fun c4_1 => ?_)
  · exact ww_vret C hr rfl (by first | rfl | (simp only [p_tread, c4_1, if_true, if_false]; done) | (simp [p_tread, c4_1]; done)) dX2_treadBy_24
  · refine ww_aload_n C dX2_treadBy_7 0 rfl rfl ?_
    refine ww_iconst (v := 0) C dX2_treadBy_8 (by decide) ?_
    refine ww_aload_n C dX2_treadBy_9 0 rfl rfl ?_
    refine ww_getP C (by assumption) 6 (by decide) q_f_X2_33 dX2_treadBy_10 ?_
    refine ww_iload_n C dX2_treadBy_13 1 rfl rfl ?_
    refine ww_bipush (v := 10) C dX2_treadBy_14 (by decide) ?_
    refine ww_idiv C dX2_treadBy_16 (by decide) ?_
    refine ww_isub C dX2_treadBy_17 ?_
    refine ww_mmax C q_m_X2_57 (Nat.le_of_ble_eq_true rfl) (Nat.le_of_ble_eq_true rfl) (by first | exact Nat.le_of_ble_eq_true rfl | omega) (by first | exact Nat.le_of_ble_eq_true rfl | omega) dX2_treadBy_18 ?_
    refine ww_putP C (by assumption) 6 (by decide) q_f_X2_33 dX2_treadBy_21 ?_
    exact ww_vret C hr rfl (by first | rfl | (simp only [p_tread, c4_1, if_true, if_false]; done) | (simp [p_tread, c4_1]; done)) dX2_treadBy_24
set_option maxRecDepth 100000 in
set_option maxHeartbeats 4000000 in
theorem ct_X2_dryBy {g : gW} {l : Launch} {h : Hp} {o : Nat} (ho : isP o) {x : Int32} : CT g l yX2_dryBy cX2_dryBy 3 none 1 0 0 [.ref (gB g + o), .int x] h none (p_dry h o x) := by
  refine CT.of (lv0 := [(0, .ref (gB g + o)), (1, .int x)]) mf_X2_dryBy.1.2.2.2 (Nat.le_of_ble_eq_true rfl) rfl ?_
  intro p e s m below meth c C hr
  refine ww_iload_n C dX2_dryBy_0 1 rfl rfl ?_
  refine ww_aload_n C dX2_dryBy_1 0 rfl rfl ?_
  refine ww_getP C (by assumption) 3 (by decide) q_f_X2_24 dX2_dryBy_2 ?_
  refine ww_imul C dX2_dryBy_5 ?_
  refine ww_iconst (v := 5) C dX2_dryBy_6 (by decide) ?_
  refine ww_idiv C dX2_dryBy_7 (by decide) ?_
  refine ww_istore_n C dX2_dryBy_8 2 rfl (by decide) ?_
  refine ww_aload_n C dX2_dryBy_9 0 rfl rfl ?_
  refine ww_dup C dX2_dryBy_10 rfl ?_
  refine ww_getP C (by assumption) 5 (by decide) q_f_X2_30 dX2_dryBy_11 ?_
  refine ww_aload_n C dX2_dryBy_14 0 rfl rfl ?_
  refine ww_getP C (by assumption) 5 (by decide) q_f_X2_30 dX2_dryBy_15 ?_
  refine ww_aload_n C dX2_dryBy_18 0 rfl rfl ?_
  refine ww_getP C (by assumption) 7 (by decide) q_f_X2_36 dX2_dryBy_19 ?_
  refine ww_if_eq C dX2_dryBy_22 31 (by decide) (fun c22_1 => ?_) (fun c22_1 => ?_)
  · refine ww_iload_n C dX2_dryBy_31 2 rfl rfl ?_
    refine ww_mmin C q_m_X2_53 (Nat.le_of_ble_eq_true rfl) (Nat.le_of_ble_eq_true rfl) (by first | exact Nat.le_of_ble_eq_true rfl | omega) (by first | exact Nat.le_of_ble_eq_true rfl | omega) dX2_dryBy_32 ?_
    refine ww_isub C dX2_dryBy_35 ?_
    refine ww_putP C (by assumption) 5 (by decide) q_f_X2_30 dX2_dryBy_36 ?_
    exact ww_vret C hr rfl (by first | rfl | (simp only [p_dry, c22_1, if_true, if_false]; done) | (simp [p_dry, c22_1]; done)) dX2_dryBy_39
  · refine ww_iload_n C dX2_dryBy_25 2 rfl rfl ?_
    refine ww_iconst (v := 2) C dX2_dryBy_26 (by decide) ?_
    refine ww_idiv C dX2_dryBy_27 (by decide) ?_
    refine ww_goto C dX2_dryBy_28 32 (by decide) ?_
    refine ww_mmin C q_m_X2_53 (Nat.le_of_ble_eq_true rfl) (Nat.le_of_ble_eq_true rfl) (by first | exact Nat.le_of_ble_eq_true rfl | omega) (by first | exact Nat.le_of_ble_eq_true rfl | omega) dX2_dryBy_32 ?_
    refine ww_isub C dX2_dryBy_35 ?_
    refine ww_putP C (by assumption) 5 (by decide) q_f_X2_30 dX2_dryBy_36 ?_
    exact ww_vret C hr rfl (by first | rfl | (simp only [p_dry, c22_1, if_true, if_false]; done) | (simp [p_dry, c22_1]; done)) dX2_dryBy_39
set_option maxRecDepth 100000 in
set_option maxHeartbeats 4000000 in
theorem ct_X2_leak {g : gW} {l : Launch} {h : Hp} {o : Nat} (ho : isP o) : CT g l yX2_leak cX2_leak 1 none 0 0 0 [.ref (gB g + o)] h none (p_leak h o) := by
  refine CT.of (lv0 := [(0, .ref (gB g + o))]) mf_X2_leak.1.2.2.2 (Nat.le_of_ble_eq_true rfl) rfl ?_
  intro p e s m below meth c C hr
  refine ww_aload_n C dX2_leak_0 0 rfl rfl ?_
  refine ww_dup C dX2_leak_1 rfl ?_
  refine ww_getP C (by assumption) 5 (by decide) q_f_X2_30 dX2_leak_2 ?_
  refine ww_aload_n C dX2_leak_5 0 rfl rfl ?_
  refine ww_getP C (by assumption) 5 (by decide) q_f_X2_30 dX2_leak_6 ?_
  refine ww_bipush (v := 100) C dX2_leak_9 (by decide) ?_
  refine ww_aload_n C dX2_leak_11 0 rfl rfl ?_
  refine ww_getP C (by assumption) 6 (by decide) q_f_X2_33 dX2_leak_12 ?_
  refine ww_isub C dX2_leak_15 ?_
  refine ww_imul C dX2_leak_16 ?_
  refine ww_sipush (v := 200) C dX2_leak_17 (by decide) ?_
  refine ww_idiv C dX2_leak_20 (by decide) ?_
  refine ww_isub C dX2_leak_21 ?_
  refine ww_putP C (by assumption) 5 (by decide) q_f_X2_30 dX2_leak_22 ?_
  exact ww_vret C hr rfl rfl dX2_leak_25
set_option maxRecDepth 100000 in
set_option maxHeartbeats 4000000 in
theorem ct_X2_spill {g : gW} {l : Launch} {h : Hp} {o : Nat} (ho : isP o) : CT g l yX2_spill cX2_spill 2 (some FieldType.int) 1 0 0 [.ref (gB g + o)] h (some (.int (p_over h o))) (p_spill h o) := by
  refine CT.of (lv0 := [(0, .ref (gB g + o))]) mf_X2_spill.1.2.2.2 (Nat.le_of_ble_eq_true rfl) rfl ?_
  intro p e s m below meth c C hr
  refine ww_iconst (v := 0) C dX2_spill_0 (by decide) ?_
  refine ww_aload_n C dX2_spill_1 0 rfl rfl ?_
  refine ww_getP C (by assumption) 5 (by decide) q_f_X2_30 dX2_spill_2 ?_
  refine ww_aload_n C dX2_spill_5 0 rfl rfl ?_
  refine ww_callP C mf_X2_holds dX2_spill_6 (ct_X2_holds ho) q_m_X2_49 (by assumption) rfl rfl rfl (Nat.le_of_ble_eq_true rfl) (by exact ⟨Nat.le_of_ble_eq_true rfl, Nat.le_of_ble_eq_true rfl⟩) (by exact ⟨Nat.le_of_ble_eq_true rfl, Nat.le_of_ble_eq_true rfl⟩) ?_
  refine ww_isub C dX2_spill_9 ?_
  refine ww_mmax C q_m_X2_57 (Nat.le_of_ble_eq_true rfl) (Nat.le_of_ble_eq_true rfl) (by first | exact Nat.le_of_ble_eq_true rfl | omega) (by first | exact Nat.le_of_ble_eq_true rfl | omega) dX2_spill_10 ?_
  refine ww_istore_n C dX2_spill_13 1 rfl (by decide) ?_
  refine ww_aload_n C dX2_spill_14 0 rfl rfl ?_
  refine ww_dup C dX2_spill_15 rfl ?_
  refine ww_getP C (by assumption) 5 (by decide) q_f_X2_30 dX2_spill_16 ?_
  refine ww_iload_n C dX2_spill_19 1 rfl rfl ?_
  refine ww_isub C dX2_spill_20 ?_
  refine ww_putP C (by assumption) 5 (by decide) q_f_X2_30 dX2_spill_21 ?_
  refine ww_aload_n C dX2_spill_24 0 rfl rfl ?_
  refine ww_dup C dX2_spill_25 rfl ?_
  refine ww_getP C (by assumption) 9 (by decide) q_f_X2_40 dX2_spill_26 ?_
  refine ww_iload_n C dX2_spill_29 1 rfl rfl ?_
  refine ww_iadd C dX2_spill_30 ?_
  refine ww_putP C (by assumption) 9 (by decide) q_f_X2_40 dX2_spill_31 ?_
  refine ww_iload_n C dX2_spill_34 1 rfl rfl ?_
  exact ww_iret C hr rfl rfl dX2_spill_35
set_option maxRecDepth 100000 in
set_option maxHeartbeats 4000000 in
theorem ct_X2_becomeLike {g : gW} {l : Launch} {h : Hp} {o o2 : Nat} (ho : isP o) (ho2 : isP o2) (hb : h o2 7 = 0 ∨ h o2 7 = 1) : CT g l yX2_becomeLike cX2_becomeLike 2 none 0 0 0 [.ref (gB g + o), .ref (gB g + o2)] h none (p_copy h o o2) := by
  refine CT.of (lv0 := [(0, .ref (gB g + o)), (1, .ref (gB g + o2))]) mf_X2_becomeLike.1.2.2.2 (Nat.le_of_ble_eq_true rfl) rfl ?_
  intro p e s m below meth c C hr
  have hz : cpk (cpk (cpk (cpk (cpk (cpk (cpk h o o2 0) o o2 1) o o2 2) o o2 3) o o2 4) o o2 5) o o2 6 o2 7 = 0 ∨ cpk (cpk (cpk (cpk (cpk (cpk (cpk h o o2 0) o o2 1) o o2 2) o o2 3) o o2 4) o o2 5) o o2 6 o2 7 = 1 := by
    by_cases e : o2 = o
    · subst e; simpa [cpk, hp_up, upd] using hb
    · simpa [cpk, hp_up, upd, e] using hb
  refine ww_aload_n C dX2_becomeLike_0 0 rfl rfl ?_
  refine ww_aload_n C dX2_becomeLike_1 1 rfl rfl ?_
  refine ww_getP C (by assumption) 0 (by decide) q_f_X2_15 dX2_becomeLike_2 ?_
  refine ww_putP C (by assumption) 0 (by decide) q_f_X2_15 dX2_becomeLike_5 ?_
  refine ww_aload_n C dX2_becomeLike_8 0 rfl rfl ?_
  refine ww_aload_n C dX2_becomeLike_9 1 rfl rfl ?_
  refine ww_getP C (by assumption) 1 (by decide) q_f_X2_18 dX2_becomeLike_10 ?_
  refine ww_putP C (by assumption) 1 (by decide) q_f_X2_18 dX2_becomeLike_13 ?_
  refine ww_aload_n C dX2_becomeLike_16 0 rfl rfl ?_
  refine ww_aload_n C dX2_becomeLike_17 1 rfl rfl ?_
  refine ww_getP C (by assumption) 2 (by decide) q_f_X2_21 dX2_becomeLike_18 ?_
  refine ww_putP C (by assumption) 2 (by decide) q_f_X2_21 dX2_becomeLike_21 ?_
  refine ww_aload_n C dX2_becomeLike_24 0 rfl rfl ?_
  refine ww_aload_n C dX2_becomeLike_25 1 rfl rfl ?_
  refine ww_getP C (by assumption) 3 (by decide) q_f_X2_24 dX2_becomeLike_26 ?_
  refine ww_putP C (by assumption) 3 (by decide) q_f_X2_24 dX2_becomeLike_29 ?_
  refine ww_aload_n C dX2_becomeLike_32 0 rfl rfl ?_
  refine ww_aload_n C dX2_becomeLike_33 1 rfl rfl ?_
  refine ww_getP C (by assumption) 4 (by decide) q_f_X2_27 dX2_becomeLike_34 ?_
  refine ww_putP C (by assumption) 4 (by decide) q_f_X2_27 dX2_becomeLike_37 ?_
  refine ww_aload_n C dX2_becomeLike_40 0 rfl rfl ?_
  refine ww_aload_n C dX2_becomeLike_41 1 rfl rfl ?_
  refine ww_getP C (by assumption) 5 (by decide) q_f_X2_30 dX2_becomeLike_42 ?_
  refine ww_putP C (by assumption) 5 (by decide) q_f_X2_30 dX2_becomeLike_45 ?_
  refine ww_aload_n C dX2_becomeLike_48 0 rfl rfl ?_
  refine ww_aload_n C dX2_becomeLike_49 1 rfl rfl ?_
  refine ww_getP C (by assumption) 6 (by decide) q_f_X2_33 dX2_becomeLike_50 ?_
  refine ww_putP C (by assumption) 6 (by decide) q_f_X2_33 dX2_becomeLike_53 ?_
  refine ww_aload_n C dX2_becomeLike_56 0 rfl rfl ?_
  refine ww_aload_n C dX2_becomeLike_57 1 rfl rfl ?_
  refine ww_getP C (by assumption) 7 (by decide) q_f_X2_36 dX2_becomeLike_58 ?_
  refine ww_putPb C (by assumption) hz q_f_X2_36 dX2_becomeLike_61 ?_
  refine ww_aload_n C dX2_becomeLike_64 0 rfl rfl ?_
  refine ww_aload_n C dX2_becomeLike_65 1 rfl rfl ?_
  refine ww_getP C (by assumption) 8 (by decide) q_f_X2_9 dX2_becomeLike_66 ?_
  refine ww_putP C (by assumption) 8 (by decide) q_f_X2_9 dX2_becomeLike_69 ?_
  refine ww_aload_n C dX2_becomeLike_72 0 rfl rfl ?_
  refine ww_aload_n C dX2_becomeLike_73 1 rfl rfl ?_
  refine ww_getP C (by assumption) 9 (by decide) q_f_X2_40 dX2_becomeLike_74 ?_
  refine ww_putP C (by assumption) 9 (by decide) q_f_X2_40 dX2_becomeLike_77 ?_
  exact ww_vret C hr rfl rfl dX2_becomeLike_80
set_option maxRecDepth 100000 in
set_option maxHeartbeats 4000000 in
theorem ct_X1_becomeLike {g : gW} {l : Launch} {h : Hp} {o o2 : Nat} (ho : isF o) (ho2 : isF o2) (hb : h o2 3 = 0 ∨ h o2 3 = 1) : CT g l yX1_becomeLike cX1_becomeLike 2 none 0 0 0 [.ref (gB g + o), .ref (gB g + o2)] h none (f_copy h o o2) := by
  refine CT.of (lv0 := [(0, .ref (gB g + o)), (1, .ref (gB g + o2))]) mf_X1_becomeLike.1.2.2.2 (Nat.le_of_ble_eq_true rfl) rfl ?_
  intro p e s m below meth c C hr
  have hz : cpk (cpk (cpk h o o2 0) o o2 1) o o2 2 o2 3 = 0 ∨ cpk (cpk (cpk h o o2 0) o o2 1) o o2 2 o2 3 = 1 := by
    by_cases e : o2 = o
    · subst e; simpa [cpk, hp_up, upd] using hb
    · simpa [cpk, hp_up, upd, e] using hb
  refine ww_aload_n C dX1_becomeLike_0 0 rfl rfl ?_
  refine ww_aload_n C dX1_becomeLike_1 1 rfl rfl ?_
  refine ww_getF C (by assumption) 0 (by decide) q_f_X1_9 dX1_becomeLike_2 ?_
  refine ww_putF C (by assumption) 0 (by decide) q_f_X1_9 dX1_becomeLike_5 ?_
  refine ww_aload_n C dX1_becomeLike_8 0 rfl rfl ?_
  refine ww_aload_n C dX1_becomeLike_9 1 rfl rfl ?_
  refine ww_getF C (by assumption) 1 (by decide) q_f_X1_15 dX1_becomeLike_10 ?_
  refine ww_putF C (by assumption) 1 (by decide) q_f_X1_15 dX1_becomeLike_13 ?_
  refine ww_aload_n C dX1_becomeLike_16 0 rfl rfl ?_
  refine ww_aload_n C dX1_becomeLike_17 1 rfl rfl ?_
  refine ww_getF C (by assumption) 2 (by decide) q_f_X1_18 dX1_becomeLike_18 ?_
  refine ww_putF C (by assumption) 2 (by decide) q_f_X1_18 dX1_becomeLike_21 ?_
  refine ww_aload_n C dX1_becomeLike_24 0 rfl rfl ?_
  refine ww_aload_n C dX1_becomeLike_25 1 rfl rfl ?_
  refine ww_getF C (by assumption) 3 (by decide) q_f_X1_21 dX1_becomeLike_26 ?_
  refine ww_putFb C (by assumption) hz q_f_X1_21 dX1_becomeLike_29 ?_
  refine ww_aload_n C dX1_becomeLike_32 0 rfl rfl ?_
  refine ww_aload_n C dX1_becomeLike_33 1 rfl rfl ?_
  refine ww_getF C (by assumption) 4 (by decide) q_f_X1_25 dX1_becomeLike_34 ?_
  refine ww_putF C (by assumption) 4 (by decide) q_f_X1_25 dX1_becomeLike_37 ?_
  exact ww_vret C hr rfl rfl dX1_becomeLike_40
set_option maxRecDepth 100000 in
set_option maxHeartbeats 4000000 in
theorem ct_X1_startAt {g : gW} {l : Launch} {h : Hp} {o : Nat} (ho : isF o) {x y : Int32} : CT g l yX1_startAt cX1_startAt 3 none 0 0 0 [.ref (gB g + o), .int x, .int y] h none (f_start h o x y) := by
  refine CT.of (lv0 := [(0, .ref (gB g + o)), (1, .int x), (2, .int y)]) mf_X1_startAt.1.2.2.2 (Nat.le_of_ble_eq_true rfl) rfl ?_
  intro p e s m below meth c C hr
  refine ww_aload_n C dX1_startAt_0 0 rfl rfl ?_
  refine ww_iload_n C dX1_startAt_1 2 rfl rfl ?_
  refine ww_putF C (by assumption) 0 (by decide) q_f_X1_9 dX1_startAt_2 ?_
  refine ww_aload_n C dX1_startAt_5 0 rfl rfl ?_
  refine ww_iload_n C dX1_startAt_6 1 rfl rfl ?_
  refine ww_putF C (by assumption) 1 (by decide) q_f_X1_15 dX1_startAt_7 ?_
  refine ww_aload_n C dX1_startAt_10 0 rfl rfl ?_
  refine ww_iconst (v := 0) C dX1_startAt_11 (by decide) ?_
  refine ww_putF C (by assumption) 2 (by decide) q_f_X1_18 dX1_startAt_12 ?_
  refine ww_aload_n C dX1_startAt_15 0 rfl rfl ?_
  refine ww_iconst (v := 0) C dX1_startAt_16 (by decide) ?_
  refine ww_putFb C (by assumption) (by first | exact Or.inl rfl | exact Or.inr rfl | assumption) q_f_X1_21 dX1_startAt_17 ?_
  refine ww_aload_n C dX1_startAt_20 0 rfl rfl ?_
  refine ww_iconst (v := 0) C dX1_startAt_21 (by decide) ?_
  refine ww_putF C (by assumption) 4 (by decide) q_f_X1_25 dX1_startAt_22 ?_
  exact ww_vret C hr rfl rfl dX1_startAt_25
set_option maxRecDepth 100000 in
set_option maxHeartbeats 4000000 in
theorem ct_X1_isLost {g : gW} {l : Launch} {h : Hp} {o : Nat} (ho : isF o) : CT g l yX1_isLost cX1_isLost 1 (some FieldType.boolean) 0 0 0 [.ref (gB g + o)] h (some (.int (bI (10 ≤ h o 2)))) h := by
  refine CT.of (lv0 := [(0, .ref (gB g + o))]) mf_X1_isLost.1.2.2.2 (Nat.le_of_ble_eq_true rfl) rfl ?_
  intro p e s m below meth c C hr
  refine ww_aload_n C dX1_isLost_0 0 rfl rfl ?_
  refine ww_getF C (by assumption) 2 (by decide) q_f_X1_18 dX1_isLost_1 ?_
  refine ww_bipush (v := 10) C dX1_isLost_4 (by decide) ?_
  refine ww_icmp_lt C dX1_isLost_6 13 (by decide) (fun c6_1 => ?_) (fun c6_1 => ?_)
  · refine ww_iconst (v := 0) C dX1_isLost_13 (by decide) ?_
    exact ww_zret C hr (by first | exact Or.inl rfl | exact Or.inr rfl | assumption) (by simp only [bI]; first | (rw [if_pos (by simpa using c6_1)]; done) | (rw [if_neg (by simpa using c6_1)]; done)) rfl dX1_isLost_14
  · refine ww_iconst (v := 1) C dX1_isLost_9 (by decide) ?_
    refine ww_goto C dX1_isLost_10 14 (by decide) ?_
    exact ww_zret C hr (by first | exact Or.inl rfl | exact Or.inr rfl | assumption) (by simp only [bI]; first | (rw [if_pos (by simpa using c6_1)]; done) | (rw [if_neg (by simpa using c6_1)]; done)) rfl dX1_isLost_14
set_option maxRecDepth 100000 in
set_option maxHeartbeats 4000000 in
theorem ct_X1_need {g : gW} {l : Launch} {h : Hp} {o : Nat} (ho : isF o) : CT g l yX1_need cX1_need 1 (some FieldType.int) 0 0 0 [.ref (gB g + o)] h (some (.int (f_need h o))) h := by
  refine CT.of (lv0 := [(0, .ref (gB g + o))]) mf_X1_need.1.2.2.2 (Nat.le_of_ble_eq_true rfl) rfl ?_
  intro p e s m below meth c C hr
  refine ww_iconst (v := 2) C dX1_need_0 (by decide) ?_
  refine ww_aload_n C dX1_need_1 0 rfl rfl ?_
  refine ww_getF C (by assumption) 0 (by decide) q_f_X1_9 dX1_need_2 ?_
  refine ww_imul C dX1_need_5 ?_
  exact ww_iret C hr rfl rfl dX1_need_6
set_option maxRecDepth 100000 in
set_option maxHeartbeats 4000000 in
theorem ct_X1_drink {g : gW} {l : Launch} {h : Hp} {o : Nat} (ho : isF o) {x : Int32} : CT g l yX1_drink cX1_drink 2 none 1 0 0 [.ref (gB g + o), .int x] h none (f_drink h o x) := by
  refine CT.of (lv0 := [(0, .ref (gB g + o)), (1, .int x)]) mf_X1_drink.1.2.2.2 (Nat.le_of_ble_eq_true rfl) rfl ?_
  intro p e s m below meth c C hr
  refine ww_aload_n C dX1_drink_0 0 rfl rfl ?_
  refine ww_dup C dX1_drink_1 rfl ?_
  refine ww_getF C (by assumption) 4 (by decide) q_f_X1_25 dX1_drink_2 ?_
  refine ww_iload_n C dX1_drink_5 1 rfl rfl ?_
  refine ww_iadd C dX1_drink_6 ?_
  refine ww_putF C (by assumption) 4 (by decide) q_f_X1_25 dX1_drink_7 ?_
  refine ww_iload_n C dX1_drink_10 1 rfl rfl ?_
  refine ww_aload_n C dX1_drink_11 0 rfl rfl ?_
  refine ww_callF C mf_X1_need dX1_drink_12 (ct_X1_need ho) q_m_X1_28 (by assumption) rfl rfl rfl (Nat.le_of_ble_eq_true rfl) (by exact ⟨Nat.le_of_ble_eq_true rfl, Nat.le_of_ble_eq_true rfl⟩) (by exact ⟨Nat.le_of_ble_eq_true rfl, Nat.le_of_ble_eq_true rfl⟩) ?_
  refine ww_icmp_lt C dX1_drink_15 35 (by decide) (fun c15_1 => ?_) (fun c15_1 => ?_)
  · refine ww_aload_n C dX1_drink_35 0 rfl rfl ?_
    refine ww_bipush (v := 10) C dX1_drink_36 (by decide) ?_
    refine ww_aload_n C dX1_drink_38 0 rfl rfl ?_
    refine ww_getF C (by assumption) 2 (by decide) q_f_X1_18 dX1_drink_39 ?_
    refine ww_iconst (v := 3) C dX1_drink_42 (by decide) ?_
    refine ww_iadd C dX1_drink_43 ?_
    refine ww_mmin C q_m_X1_38 (Nat.le_of_ble_eq_true rfl) (Nat.le_of_ble_eq_true rfl) (by first | exact Nat.le_of_ble_eq_true rfl | omega) (by first | exact Nat.le_of_ble_eq_true rfl | omega) dX1_drink_44 ?_
    refine ww_putF C (by assumption) 2 (by decide) q_f_X1_18 dX1_drink_47 ?_
    exact ww_vret C hr rfl (by unfold f_drink; first | exact if_pos c15_1 | exact if_neg c15_1) dX1_drink_50
  · refine ww_aload_n C dX1_drink_18 0 rfl rfl ?_
    refine ww_iconst (v := 0) C dX1_drink_19 (by decide) ?_
    refine ww_aload_n C dX1_drink_20 0 rfl rfl ?_
    refine ww_getF C (by assumption) 2 (by decide) q_f_X1_18 dX1_drink_21 ?_
    refine ww_iconst (v := 2) C dX1_drink_24 (by decide) ?_
    refine ww_isub C dX1_drink_25 ?_
    refine ww_mmax C q_m_X1_32 (Nat.le_of_ble_eq_true rfl) (Nat.le_of_ble_eq_true rfl) (by first | exact Nat.le_of_ble_eq_true rfl | omega) (by first | exact Nat.le_of_ble_eq_true rfl | omega) dX1_drink_26 ?_
    refine ww_putF C (by assumption) 2 (by decide) q_f_X1_18 dX1_drink_29 ?_
    refine ww_goto C dX1_drink_32 50 (by decide) ?_
    exact ww_vret C hr rfl (by unfold f_drink; first | exact if_pos c15_1 | exact if_neg c15_1) dX1_drink_50
set_option maxRecDepth 100000 in
set_option maxHeartbeats 4000000 in
theorem ct_X3_becomeLike {g : gW} {l : Launch} {h : Hp} {o o2 : Nat} (ho : isWt o) (ho2 : isWt o2) : CT g l yX3_becomeLike cX3_becomeLike 2 none 0 0 0 [.ref (gB g + o), .ref (gB g + o2)] h none (w_copy h o o2) := by
  refine CT.of (lv0 := [(0, .ref (gB g + o)), (1, .ref (gB g + o2))]) mf_X3_becomeLike.1.2.2.2 (Nat.le_of_ble_eq_true rfl) rfl ?_
  intro p e s m below meth c C hr
  refine ww_aload_n C dX3_becomeLike_0 0 rfl rfl ?_
  refine ww_aload_n C dX3_becomeLike_1 1 rfl rfl ?_
  refine ww_getW C (by assumption) 0 (by decide) q_f_X3_7 dX3_becomeLike_2 ?_
  refine ww_putW C (by assumption) 0 (by decide) q_f_X3_7 dX3_becomeLike_5 ?_
  refine ww_aload_n C dX3_becomeLike_8 0 rfl rfl ?_
  refine ww_aload_n C dX3_becomeLike_9 1 rfl rfl ?_
  refine ww_getW C (by assumption) 1 (by decide) q_f_X3_13 dX3_becomeLike_10 ?_
  refine ww_putW C (by assumption) 1 (by decide) q_f_X3_13 dX3_becomeLike_13 ?_
  refine ww_aload_n C dX3_becomeLike_16 0 rfl rfl ?_
  refine ww_aload_n C dX3_becomeLike_17 1 rfl rfl ?_
  refine ww_getW C (by assumption) 2 (by decide) q_f_X3_16 dX3_becomeLike_18 ?_
  refine ww_putW C (by assumption) 2 (by decide) q_f_X3_16 dX3_becomeLike_21 ?_
  exact ww_vret C hr rfl rfl dX3_becomeLike_24
set_option maxRecDepth 100000 in
set_option maxHeartbeats 4000000 in
theorem ct_X3_asNumber {g : gW} {l : Launch} {h : Hp} {o : Nat} (ho : isWt o) : CT g l yX3_asNumber cX3_asNumber 1 (some FieldType.int) 0 0 0 [.ref (gB g + o)] h (some (.int (w_num h o))) h := by
  refine CT.of (lv0 := [(0, .ref (gB g + o))]) mf_X3_asNumber.1.2.2.2 (Nat.le_of_ble_eq_true rfl) rfl ?_
  intro p e s m below meth c C hr
  refine ww_bipush (v := 100) C dX3_asNumber_0 (by decide) ?_
  refine ww_aload_n C dX3_asNumber_2 0 rfl rfl ?_
  refine ww_getW C (by assumption) 0 (by decide) q_f_X3_7 dX3_asNumber_3 ?_
  refine ww_imul C dX3_asNumber_6 ?_
  refine ww_bipush (v := 10) C dX3_asNumber_7 (by decide) ?_
  refine ww_aload_n C dX3_asNumber_9 0 rfl rfl ?_
  refine ww_getW C (by assumption) 1 (by decide) q_f_X3_13 dX3_asNumber_10 ?_
  refine ww_imul C dX3_asNumber_13 ?_
  refine ww_iadd C dX3_asNumber_14 ?_
  refine ww_aload_n C dX3_asNumber_15 0 rfl rfl ?_
  refine ww_getW C (by assumption) 2 (by decide) q_f_X3_16 dX3_asNumber_16 ?_
  refine ww_iadd C dX3_asNumber_19 ?_
  exact ww_iret C hr rfl rfl dX3_asNumber_20
