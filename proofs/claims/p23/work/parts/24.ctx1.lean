set_option maxRecDepth 100000 in
set_option maxHeartbeats 4000000 in
theorem xt_X4_bring {g : gW} {l : Launch} {h : Hp} (hst : l.stackTraces = false) {n f : Nat} (H : OK 1 n f h) {x : Int32} : XT g l yX4_bring cX4_bring 2 (some FieldType.int) 7 [.ref (gB g + 0), .int x] h (x_bring h x) := by
  refine XT.of (lv0 := [(0, .ref (gB g + 0)), (1, .int x)]) (by decide +kernel) (Nat.le_of_ble_eq_true rfl) rfl ?_
  intro p e s m below meth c C hE hex hr
  have hd : isD 1 := Or.inl rfl
  have hn := H.1
  have hn10 := H.2.1
  have hf := H.2.2.1
  have hf6 : f ≤ 6 := H.2.2.2.1
  refine ww_iload_n C dX4_bring_0 1 rfl rfl ?_
  refine ww_iconst (v := 1) C dX4_bring_1 (by decide) ?_
  refine ww_bipush (v := 100) C dX4_bring_2 (by decide) ?_
  refine ww_callS C mf_X4_isWithin (ct_X4_isWithin) q_m_X4_21 rfl rfl (Nat.le_of_ble_eq_true rfl) (by exact ⟨Nat.le_of_ble_eq_true rfl, Nat.le_of_ble_eq_true rfl⟩) (by exact ⟨Nat.le_of_ble_eq_true rfl, Nat.le_of_ble_eq_true rfl⟩) dX4_bring_4 ?_
  refine ww_if_ne C dX4_bring_7 20 (by decide) (fun c7 => ?_) (fun c7 => ?_)
  · refine ww_aload_n C dX4_bring_20 0 rfl rfl ?_
    refine ww_getXd C q_f_X4_14 dX4_bring_21 ?_
    refine ww_getD C (by assumption) 7 (by decide) q_f_X4_64 dX4_bring_24 ?_
    refine ww_iload_n C dX4_bring_27 1 rfl rfl ?_
    refine ww_iadd C dX4_bring_28 ?_
    refine ww_sipush (v := 500) C dX4_bring_29 (by decide) ?_
    refine ww_icmp_le C dX4_bring_32 45 (by decide) (fun c32 => ?_) (fun c32 => ?_)
    · refine ww_aload_n C dX4_bring_45 0 rfl rfl ?_
      refine ww_getXd C q_f_X4_14 dX4_bring_46 ?_
      refine ww_dup C dX4_bring_49 rfl ?_
      refine ww_getD C (by assumption) 7 (by decide) q_f_X4_64 dX4_bring_50 ?_
      refine ww_iload_n C dX4_bring_53 1 rfl rfl ?_
      refine ww_iadd C dX4_bring_54 ?_
      refine ww_putD C (by assumption) 7 (by decide) q_f_X4_64 dX4_bring_55 ?_
      refine ww_aload_n C dX4_bring_58 0 rfl rfl ?_
      refine ww_getXd C q_f_X4_14 dX4_bring_59 ?_
      refine ww_getD C (by assumption) 7 (by decide) q_f_X4_64 dX4_bring_62 ?_
      exact ww_xret (mc := 1) (ms := 6) (by simp only [x_bring, rI, c7, c32, not_false_eq_true, and_self, if_true, if_false]; try rfl; done) (ww_wide 1 6 (Nat.le_of_ble_eq_true rfl) (Nat.le_of_ble_eq_true rfl) (ww_iret C hr rfl rfl dX4_bring_65))
    · exact ww_throw (cls := E_S) (text := "there would be more than 500 on the heap") C hE hex hst (by simp only [x_bring, rI, c7, c32, not_false_eq_true, and_self, if_true, if_false]; try rfl; done) (by decide +kernel) q_k_X4_59 q_n_E_S (by decide +kernel) gx_X4_63 gy_X4_63 dX4_bring_35 dX4_bring_38 dX4_bring_39 dX4_bring_41 dX4_bring_44 (Nat.le_of_ble_eq_true rfl) (Nat.le_of_ble_eq_true rfl) (Nat.le_of_ble_eq_true rfl) (Nat.le_of_ble_eq_true rfl) (Nat.le_of_ble_eq_true rfl) (Nat.le_of_ble_eq_true rfl)
  · exact ww_throw (cls := E_A) (text := "clay is not 1 to 100") C hE hex hst (by simp only [x_bring, rI, c7, not_false_eq_true, and_self, if_true, if_false]; try rfl; done) (by decide +kernel) q_k_X4_25 q_n_E_A (by decide +kernel) gx_X4_29 gy_X4_29 dX4_bring_10 dX4_bring_13 dX4_bring_14 dX4_bring_16 dX4_bring_19 (Nat.le_of_ble_eq_true rfl) (Nat.le_of_ble_eq_true rfl) (Nat.le_of_ble_eq_true rfl) (Nat.le_of_ble_eq_true rfl) (Nat.le_of_ble_eq_true rfl) (Nat.le_of_ble_eq_true rfl)
set_option maxRecDepth 100000 in
set_option maxHeartbeats 4000000 in
theorem xt_X4_strew {g : gW} {l : Launch} {h : Hp} (hst : l.stackTraces = false) {n f : Nat} (H : OK 1 n f h) {x b : Int32} (hb : b = 0 ∨ b = 1) : XT g l yX4_strew cX4_strew 5 (some FieldType.boolean) 7 [.ref (gB g + 0), .int x, .int b] h (x_strew n h x b) := by
  refine XT.of (lv0 := [(0, .ref (gB g + 0)), (1, .int x), (2, .int b)]) (by decide +kernel) (Nat.le_of_ble_eq_true rfl) rfl ?_
  intro p e s m below meth c C hE hex hr
  have hd : isD 1 := Or.inl rfl
  have hn := H.1
  have hn10 := H.2.1
  have hf := H.2.2.1
  have hf6 : f ≤ 6 := H.2.2.2.1
  refine ww_aload_n C dX4_strew_0 0 rfl rfl ?_
  refine ww_getXd C q_f_X4_14 dX4_strew_1 ?_
  refine ww_iload_n C dX4_strew_4 1 rfl rfl ?_
  by_cases hv : ¬ x < 0 ∧ x < nI n
  · refine ww_callD C mf_X0_pondAt dX4_strew_5 (ok_X0_pondAt hd hn hn10 (inN_is (by omega) hv)) q_m_X4_38 (by assumption) rfl rfl rfl (Nat.le_of_ble_eq_true rfl) (by exact ⟨Nat.le_of_ble_eq_true rfl, Nat.le_of_ble_eq_true rfl⟩) (by exact ⟨Nat.le_of_ble_eq_true rfl, Nat.le_of_ble_eq_true rfl⟩) ?_
    have hPhv := isP_x hd hn10 (inN_is (by omega) hv)
    obtain ⟨q, hq, eq⟩ := inN_is (by omega) hv
    have e9 : x.toNatClampNeg = q := by rw [eq]; exact nI_clamp (by omega)
    have hz : h (1 + 14 + x.toNatClampNeg) 7 = 0 ∨ h (1 + 14 + x.toNatClampNeg) 7 = 1 := by rw [e9]; exact H.2.2.2.2.2.2.2.1 q hq
    refine ww_astore_n C dX4_strew_8 3 rfl (by decide) ?_
    refine ww_aload_n C dX4_strew_9 3 rfl rfl ?_
    refine ww_getP C (by assumption) 7 (by decide) q_f_X4_77 dX4_strew_10 ?_
    refine ww_istore C dX4_strew_13 (by decide) ?_
    refine ww_aload_n C dX4_strew_15 3 rfl rfl ?_
    refine ww_iload_n C dX4_strew_16 2 rfl rfl ?_
    refine ww_putPb C (by assumption) (by first | exact Or.inl rfl | exact Or.inr rfl | assumption) q_f_X4_77 dX4_strew_17 ?_
    refine ww_iload C dX4_strew_20 rfl ?_
    exact ww_xret (mc := 1) (ms := 6) (by simp only [x_strew, rI, hv, not_false_eq_true, and_self, if_true, if_false]; try rfl; done) (ww_wide 1 6 (Nat.le_of_ble_eq_true rfl) (Nat.le_of_ble_eq_true rfl) (ww_zret C hr hz rfl rfl dX4_strew_22))
  · exact ww_callVx C hE hex (by simp only [x_strew, rI, hv, not_false_eq_true, and_self, if_true, if_false]; try rfl; done) mf_X0_pondAt dX4_strew_5 (xt_X0_pondAt hst hd hn hn10 (fun z => hv (is_inN (by omega) z))) q_m_X4_38 (isD_lt (by assumption)) (ci := 0) rfl rfl ⟨_, ce_D (by assumption)⟩ rfl rfl (Nat.le_of_ble_eq_true rfl) (by exact ⟨Nat.le_of_ble_eq_true rfl, Nat.le_of_ble_eq_true rfl⟩) (by exact ⟨Nat.le_of_ble_eq_true rfl, Nat.le_of_ble_eq_true rfl⟩) (Nat.le_of_ble_eq_true rfl) (Nat.le_of_ble_eq_true rfl)
set_option maxRecDepth 100000 in
set_option maxHeartbeats 4000000 in
theorem xt_X4_setRoams {g : gW} {l : Launch} {h : Hp} (hst : l.stackTraces = false) {n f : Nat} (H : OK 1 n f h) {x b : Int32} (hb : b = 0 ∨ b = 1) : XT g l yX4_setRoams cX4_setRoams 5 (some FieldType.boolean) 7 [.ref (gB g + 0), .int x, .int b] h (x_setRoams f h x b) := by
  refine XT.of (lv0 := [(0, .ref (gB g + 0)), (1, .int x), (2, .int b)]) (by decide +kernel) (Nat.le_of_ble_eq_true rfl) rfl ?_
  intro p e s m below meth c C hE hex hr
  have hd : isD 1 := Or.inl rfl
  have hn := H.1
  have hn10 := H.2.1
  have hf := H.2.2.1
  have hf6 : f ≤ 6 := H.2.2.2.1
  refine ww_aload_n C dX4_setRoams_0 0 rfl rfl ?_
  refine ww_getXd C q_f_X4_14 dX4_setRoams_1 ?_
  refine ww_iload_n C dX4_setRoams_4 1 rfl rfl ?_
  by_cases hv : ¬ x < 0 ∧ x < nI f
  · refine ww_callD C mf_X0_flockAt dX4_setRoams_5 (ok_X0_flockAt hd hf H.2.2.2.1 (inN_is (by omega) hv)) q_m_X4_146 (by assumption) rfl rfl rfl (Nat.le_of_ble_eq_true rfl) (by exact ⟨Nat.le_of_ble_eq_true rfl, Nat.le_of_ble_eq_true rfl⟩) (by exact ⟨Nat.le_of_ble_eq_true rfl, Nat.le_of_ble_eq_true rfl⟩) ?_
    have hPhv := isF_x hd H.2.2.2.1 (inN_is (by omega) hv)
    obtain ⟨q, hq, eq⟩ := inN_is (by omega) hv
    have e9 : x.toNatClampNeg = q := by rw [eq]; exact nI_clamp (by omega)
    have hz : h (1 + 25 + x.toNatClampNeg) 3 = 0 ∨ h (1 + 25 + x.toNatClampNeg) 3 = 1 := by rw [e9]; exact H.2.2.2.2.2.2.2.2 q hq
    refine ww_astore_n C dX4_setRoams_8 3 rfl (by decide) ?_
    refine ww_aload_n C dX4_setRoams_9 3 rfl rfl ?_
    refine ww_getF C (by assumption) 3 (by decide) q_f_X4_164 dX4_setRoams_10 ?_
    refine ww_istore C dX4_setRoams_13 (by decide) ?_
    refine ww_aload_n C dX4_setRoams_15 3 rfl rfl ?_
    refine ww_iload_n C dX4_setRoams_16 2 rfl rfl ?_
    refine ww_putFb C (by assumption) (by first | exact Or.inl rfl | exact Or.inr rfl | assumption) q_f_X4_164 dX4_setRoams_17 ?_
    refine ww_iload C dX4_setRoams_20 rfl ?_
    exact ww_xret (mc := 1) (ms := 6) (by simp only [x_setRoams, rI, hv, not_false_eq_true, and_self, if_true, if_false]; try rfl; done) (ww_wide 1 6 (Nat.le_of_ble_eq_true rfl) (Nat.le_of_ble_eq_true rfl) (ww_zret C hr hz rfl rfl dX4_setRoams_22))
  · exact ww_callVx C hE hex (by simp only [x_setRoams, rI, hv, not_false_eq_true, and_self, if_true, if_false]; try rfl; done) mf_X0_flockAt dX4_setRoams_5 (xt_X0_flockAt hst hd hf H.2.2.2.1 (fun z => hv (is_inN (by omega) z))) q_m_X4_146 (isD_lt (by assumption)) (ci := 0) rfl rfl ⟨_, ce_D (by assumption)⟩ rfl rfl (Nat.le_of_ble_eq_true rfl) (by exact ⟨Nat.le_of_ble_eq_true rfl, Nat.le_of_ble_eq_true rfl⟩) (by exact ⟨Nat.le_of_ble_eq_true rfl, Nat.le_of_ble_eq_true rfl⟩) (Nat.le_of_ble_eq_true rfl) (Nat.le_of_ble_eq_true rfl)
set_option maxRecDepth 100000 in
set_option maxHeartbeats 4000000 in
theorem xt_X4_pour {g : gW} {l : Launch} {h : Hp} (hst : l.stackTraces = false) {n f : Nat} (H : OK 1 n f h) {x b : Int32} : XT g l yX4_pour cX4_pour 4 (some FieldType.int) 7 [.ref (gB g + 0), .int x, .int b] h (x_pour n h x b) := by
  refine XT.of (lv0 := [(0, .ref (gB g + 0)), (1, .int x), (2, .int b)]) (by decide +kernel) (Nat.le_of_ble_eq_true rfl) rfl ?_
  intro p e s m below meth c C hE hex hr
  have hd : isD 1 := Or.inl rfl
  have hn := H.1
  have hn10 := H.2.1
  have hf := H.2.2.1
  have hf6 : f ≤ 6 := H.2.2.2.1
  refine ww_aload_n C dX4_pour_0 0 rfl rfl ?_
  refine ww_getXd C q_f_X4_14 dX4_pour_1 ?_
  refine ww_iload_n C dX4_pour_4 1 rfl rfl ?_
  by_cases hv : ¬ x < 0 ∧ x < nI n
  · refine ww_callD C mf_X0_pondAt dX4_pour_5 (ok_X0_pondAt hd hn hn10 (inN_is (by omega) hv)) q_m_X4_38 (by assumption) rfl rfl rfl (Nat.le_of_ble_eq_true rfl) (by exact ⟨Nat.le_of_ble_eq_true rfl, Nat.le_of_ble_eq_true rfl⟩) (by exact ⟨Nat.le_of_ble_eq_true rfl, Nat.le_of_ble_eq_true rfl⟩) ?_
    have hPhv := isP_x hd hn10 (inN_is (by omega) hv)
    refine ww_astore_n C dX4_pour_8 3 rfl (by decide) ?_
    refine ww_iload_n C dX4_pour_9 2 rfl rfl ?_
    refine ww_sipush (v := (-10000)) C dX4_pour_10 (by decide) ?_
    refine ww_sipush (v := 10000) C dX4_pour_13 (by decide) ?_
    refine ww_callS C mf_X4_isWithin (ct_X4_isWithin) q_m_X4_21 rfl rfl (Nat.le_of_ble_eq_true rfl) (by exact ⟨Nat.le_of_ble_eq_true rfl, Nat.le_of_ble_eq_true rfl⟩) (by exact ⟨Nat.le_of_ble_eq_true rfl, Nat.le_of_ble_eq_true rfl⟩) dX4_pour_16 ?_
    refine ww_if_ne C dX4_pour_19 32 (by decide) (fun c19 => ?_) (fun c19 => ?_)
    · refine ww_aload_n C dX4_pour_32 3 rfl rfl ?_
      refine ww_iconst (v := 0) C dX4_pour_33 (by decide) ?_
      refine ww_aload_n C dX4_pour_34 3 rfl rfl ?_
      refine ww_getP C (by assumption) 5 (by decide) q_f_X4_83 dX4_pour_35 ?_
      refine ww_iload_n C dX4_pour_38 2 rfl rfl ?_
      refine ww_iadd C dX4_pour_39 ?_
      refine ww_aload_n C dX4_pour_40 3 rfl rfl ?_
      refine ww_callP C mf_X2_holds dX4_pour_41 (ct_X2_holds hPhv) q_m_X4_86 (by assumption) rfl rfl rfl (Nat.le_of_ble_eq_true rfl) (by exact ⟨Nat.le_of_ble_eq_true rfl, Nat.le_of_ble_eq_true rfl⟩) (by exact ⟨Nat.le_of_ble_eq_true rfl, Nat.le_of_ble_eq_true rfl⟩) ?_
      refine ww_mmin C q_m_X4_67 (Nat.le_of_ble_eq_true rfl) (Nat.le_of_ble_eq_true rfl) (by first | exact Nat.le_of_ble_eq_true rfl | omega) (by first | exact Nat.le_of_ble_eq_true rfl | omega) dX4_pour_44 ?_
      refine ww_mmax C q_m_X4_90 (Nat.le_of_ble_eq_true rfl) (Nat.le_of_ble_eq_true rfl) (by first | exact Nat.le_of_ble_eq_true rfl | omega) (by first | exact Nat.le_of_ble_eq_true rfl | omega) dX4_pour_47 ?_
      refine ww_putP C (by assumption) 5 (by decide) q_f_X4_83 dX4_pour_50 ?_
      refine ww_aload_n C dX4_pour_53 3 rfl rfl ?_
      refine ww_getP C (by assumption) 5 (by decide) q_f_X4_83 dX4_pour_54 ?_
      exact ww_xret (mc := 1) (ms := 6) (by simp only [x_pour, rI, hv, c19, not_false_eq_true, and_self, if_true, if_false]; try rfl; done) (ww_wide 1 6 (Nat.le_of_ble_eq_true rfl) (Nat.le_of_ble_eq_true rfl) (ww_iret C hr rfl rfl dX4_pour_57))
    · exact ww_throw (cls := E_A) (text := "by is not -10000 to 10000") C hE hex hst (by simp only [x_pour, rI, hv, c19, not_false_eq_true, and_self, if_true, if_false]; try rfl; done) (by decide +kernel) q_k_X4_25 q_n_E_A (by decide +kernel) gx_X4_29 gy_X4_29 dX4_pour_22 dX4_pour_25 dX4_pour_26 dX4_pour_28 dX4_pour_31 (Nat.le_of_ble_eq_true rfl) (Nat.le_of_ble_eq_true rfl) (Nat.le_of_ble_eq_true rfl) (Nat.le_of_ble_eq_true rfl) (Nat.le_of_ble_eq_true rfl) (Nat.le_of_ble_eq_true rfl)
  · exact ww_callVx C hE hex (by simp only [x_pour, rI, hv, not_false_eq_true, and_self, if_true, if_false]; try rfl; done) mf_X0_pondAt dX4_pour_5 (xt_X0_pondAt hst hd hn hn10 (fun z => hv (is_inN (by omega) z))) q_m_X4_38 (isD_lt (by assumption)) (ci := 0) rfl rfl ⟨_, ce_D (by assumption)⟩ rfl rfl (Nat.le_of_ble_eq_true rfl) (by exact ⟨Nat.le_of_ble_eq_true rfl, Nat.le_of_ble_eq_true rfl⟩) (by exact ⟨Nat.le_of_ble_eq_true rfl, Nat.le_of_ble_eq_true rfl⟩) (Nat.le_of_ble_eq_true rfl) (Nat.le_of_ble_eq_true rfl)
set_option maxRecDepth 100000 in
set_option maxHeartbeats 4000000 in
theorem xt_X4_puddle {g : gW} {l : Launch} {h : Hp} (hst : l.stackTraces = false) {n f : Nat} (H : OK 1 n f h) {x b : Int32} : XT g l yX4_puddle cX4_puddle 5 (some FieldType.int) 7 [.ref (gB g + 0), .int x, .int b] h (x_puddle n h x b) := by
  refine XT.of (lv0 := [(0, .ref (gB g + 0)), (1, .int x), (2, .int b)]) (by decide +kernel) (Nat.le_of_ble_eq_true rfl) rfl ?_
  intro p e s m below meth c C hE hex hr
  have hd : isD 1 := Or.inl rfl
  have hn := H.1
  have hn10 := H.2.1
  have hf := H.2.2.1
  have hf6 : f ≤ 6 := H.2.2.2.1
  refine ww_aload_n C dX4_puddle_0 0 rfl rfl ?_
  refine ww_getXd C q_f_X4_14 dX4_puddle_1 ?_
  refine ww_iload_n C dX4_puddle_4 1 rfl rfl ?_
  by_cases hv : ¬ x < 0 ∧ x < nI n
  · refine ww_callD C mf_X0_pondAt dX4_puddle_5 (ok_X0_pondAt hd hn hn10 (inN_is (by omega) hv)) q_m_X4_38 (by assumption) rfl rfl rfl (Nat.le_of_ble_eq_true rfl) (by exact ⟨Nat.le_of_ble_eq_true rfl, Nat.le_of_ble_eq_true rfl⟩) (by exact ⟨Nat.le_of_ble_eq_true rfl, Nat.le_of_ble_eq_true rfl⟩) ?_
    have hPhv := isP_x hd hn10 (inN_is (by omega) hv)
    refine ww_astore_n C dX4_puddle_8 3 rfl (by decide) ?_
    refine ww_iload_n C dX4_puddle_9 2 rfl rfl ?_
    refine ww_iconst (v := 1) C dX4_puddle_10 (by decide) ?_
    refine ww_bipush (v := 100) C dX4_puddle_11 (by decide) ?_
    refine ww_callS C mf_X4_isWithin (ct_X4_isWithin) q_m_X4_21 rfl rfl (Nat.le_of_ble_eq_true rfl) (by exact ⟨Nat.le_of_ble_eq_true rfl, Nat.le_of_ble_eq_true rfl⟩) (by exact ⟨Nat.le_of_ble_eq_true rfl, Nat.le_of_ble_eq_true rfl⟩) dX4_puddle_13 ?_
    refine ww_if_ne C dX4_puddle_16 29 (by decide) (fun c16 => ?_) (fun c16 => ?_)
    · refine ww_aload_n C dX4_puddle_29 3 rfl rfl ?_
      refine ww_callP C mf_X2_isLowEnoughToPuddle dX4_puddle_30 (ct_X2_isLowEnoughToPuddle hPhv) q_m_X4_55 (by assumption) rfl rfl rfl (Nat.le_of_ble_eq_true rfl) (by exact ⟨Nat.le_of_ble_eq_true rfl, Nat.le_of_ble_eq_true rfl⟩) (by exact ⟨Nat.le_of_ble_eq_true rfl, Nat.le_of_ble_eq_true rfl⟩) ?_
      refine ww_if_ne C dX4_puddle_33 46 (by decide) (fun c33 => ?_) (fun c33 => ?_)
      · refine ww_aload_n C dX4_puddle_46 3 rfl rfl ?_
        refine ww_iload_n C dX4_puddle_47 2 rfl rfl ?_
        refine ww_aload_n C dX4_puddle_48 0 rfl rfl ?_
        refine ww_getXd C q_f_X4_14 dX4_puddle_49 ?_
        refine ww_getD C (by assumption) 7 (by decide) q_f_X4_64 dX4_puddle_52 ?_
        refine ww_mmin C q_m_X4_67 (Nat.le_of_ble_eq_true rfl) (Nat.le_of_ble_eq_true rfl) (by first | exact Nat.le_of_ble_eq_true rfl | omega) (by first | exact Nat.le_of_ble_eq_true rfl | omega) dX4_puddle_55 ?_
        refine ww_callP C mf_X2_lineWith dX4_puddle_58 (ct_X2_lineWith hPhv) q_m_X4_73 (by assumption) rfl rfl rfl (Nat.le_of_ble_eq_true rfl) (by exact ⟨Nat.le_of_ble_eq_true rfl, Nat.le_of_ble_eq_true rfl⟩) (by exact ⟨Nat.le_of_ble_eq_true rfl, Nat.le_of_ble_eq_true rfl⟩) ?_
        refine ww_istore C dX4_puddle_61 (by decide) ?_
        refine ww_aload_n C dX4_puddle_63 0 rfl rfl ?_
        refine ww_getXd C q_f_X4_14 dX4_puddle_64 ?_
        refine ww_dup C dX4_puddle_67 rfl ?_
        refine ww_getD C (by assumption) 7 (by decide) q_f_X4_64 dX4_puddle_68 ?_
        refine ww_iload C dX4_puddle_71 rfl ?_
        refine ww_isub C dX4_puddle_73 ?_
        refine ww_putD C (by assumption) 7 (by decide) q_f_X4_64 dX4_puddle_74 ?_
        refine ww_iload C dX4_puddle_77 rfl ?_
        exact ww_xret (mc := 1) (ms := 6) (by simp only [x_puddle, rI, hv, c16, c33, not_false_eq_true, and_self, if_true, if_false]; try rfl; done) (ww_wide 1 6 (Nat.le_of_ble_eq_true rfl) (Nat.le_of_ble_eq_true rfl) (ww_iret C hr rfl rfl dX4_puddle_79))
      · exact ww_throw (cls := E_S) (text := "there is too much water in the pond") C hE hex hst (by simp only [x_puddle, rI, hv, c16, c33, not_false_eq_true, and_self, if_true, if_false]; try rfl; done) (by decide +kernel) q_k_X4_59 q_n_E_S (by decide +kernel) gx_X4_63 gy_X4_63 dX4_puddle_36 dX4_puddle_39 dX4_puddle_40 dX4_puddle_42 dX4_puddle_45 (Nat.le_of_ble_eq_true rfl) (Nat.le_of_ble_eq_true rfl) (Nat.le_of_ble_eq_true rfl) (Nat.le_of_ble_eq_true rfl) (Nat.le_of_ble_eq_true rfl) (Nat.le_of_ble_eq_true rfl)
    · exact ww_throw (cls := E_A) (text := "clay is not 1 to 100") C hE hex hst (by simp only [x_puddle, rI, hv, c16, not_false_eq_true, and_self, if_true, if_false]; try rfl; done) (by decide +kernel) q_k_X4_25 q_n_E_A (by decide +kernel) gx_X4_29 gy_X4_29 dX4_puddle_19 dX4_puddle_22 dX4_puddle_23 dX4_puddle_25 dX4_puddle_28 (Nat.le_of_ble_eq_true rfl) (Nat.le_of_ble_eq_true rfl) (Nat.le_of_ble_eq_true rfl) (Nat.le_of_ble_eq_true rfl) (Nat.le_of_ble_eq_true rfl) (Nat.le_of_ble_eq_true rfl)
  · exact ww_callVx C hE hex (by simp only [x_puddle, rI, hv, not_false_eq_true, and_self, if_true, if_false]; try rfl; done) mf_X0_pondAt dX4_puddle_5 (xt_X0_pondAt hst hd hn hn10 (fun z => hv (is_inN (by omega) z))) q_m_X4_38 (isD_lt (by assumption)) (ci := 0) rfl rfl ⟨_, ce_D (by assumption)⟩ rfl rfl (Nat.le_of_ble_eq_true rfl) (by exact ⟨Nat.le_of_ble_eq_true rfl, Nat.le_of_ble_eq_true rfl⟩) (by exact ⟨Nat.le_of_ble_eq_true rfl, Nat.le_of_ble_eq_true rfl⟩) (Nat.le_of_ble_eq_true rfl) (Nat.le_of_ble_eq_true rfl)
set_option maxRecDepth 100000 in
set_option maxHeartbeats 4000000 in
theorem xt_X4_link {g : gW} {l : Launch} {h : Hp} (hst : l.stackTraces = false) {n f : Nat} (H : OK 1 n f h) {x o : Int32} : XT g l yX4_link cX4_link 5 (some FieldType.int) 7 [.ref (gB g + 0), .int x, .int o] h (x_link n h x o) := by
  refine XT.of (lv0 := [(0, .ref (gB g + 0)), (1, .int x), (2, .int o)]) (by decide +kernel) (Nat.le_of_ble_eq_true rfl) rfl ?_
  intro p e s m below meth c C hE hex hr
  have hd : isD 1 := Or.inl rfl
  have hn := H.1
  have hn10 := H.2.1
  have hf := H.2.2.1
  have hf6 : f ≤ 6 := H.2.2.2.1
  refine ww_aload_n C dX4_link_0 0 rfl rfl ?_
  refine ww_getXd C q_f_X4_14 dX4_link_1 ?_
  refine ww_iload_n C dX4_link_4 1 rfl rfl ?_
  by_cases hv : ¬ x < 0 ∧ x < nI n
  · refine ww_callD C mf_X0_pondAt dX4_link_5 (ok_X0_pondAt hd hn hn10 (inN_is (by omega) hv)) q_m_X4_38 (by assumption) rfl rfl rfl (Nat.le_of_ble_eq_true rfl) (by exact ⟨Nat.le_of_ble_eq_true rfl, Nat.le_of_ble_eq_true rfl⟩) (by exact ⟨Nat.le_of_ble_eq_true rfl, Nat.le_of_ble_eq_true rfl⟩) ?_
    have hPhv := isP_x hd hn10 (inN_is (by omega) hv)
    refine ww_astore_n C dX4_link_8 3 rfl (by decide) ?_
    refine ww_iload_n C dX4_link_9 2 rfl rfl ?_
    refine ww_iconst (v := (-1)) C dX4_link_10 (by decide) ?_
    refine ww_icmp_eq C dX4_link_11 42 (by decide) (fun c11 => ?_) (fun c11 => ?_)
    · refine ww_aload_n C dX4_link_42 3 rfl rfl ?_
      refine ww_getP C (by assumption) 8 (by decide) q_f_X4_50 dX4_link_43 ?_
      refine ww_istore C dX4_link_46 (by decide) ?_
      refine ww_aload_n C dX4_link_48 3 rfl rfl ?_
      refine ww_iload_n C dX4_link_49 2 rfl rfl ?_
      refine ww_putP C (by assumption) 8 (by decide) q_f_X4_50 dX4_link_50 ?_
      refine ww_iload C dX4_link_53 rfl ?_
      exact ww_xret (mc := 1) (ms := 6) (by simp only [x_link, rI, hv, c11, not_false_eq_true, and_self, if_true, if_false]; try rfl; done) (ww_wide 1 6 (Nat.le_of_ble_eq_true rfl) (Nat.le_of_ble_eq_true rfl) (ww_iret C hr rfl rfl dX4_link_55))
    · refine ww_aload_n C dX4_link_14 0 rfl rfl ?_
      refine ww_getXd C q_f_X4_14 dX4_link_15 ?_
      refine ww_iload_n C dX4_link_18 2 rfl rfl ?_
      by_cases ho : ¬ o < 0 ∧ o < nI n
      · refine ww_callD C mf_X0_pondAt dX4_link_19 (ok_X0_pondAt hd hn hn10 (inN_is (by omega) ho)) q_m_X4_38 (by assumption) rfl rfl rfl (Nat.le_of_ble_eq_true rfl) (by exact ⟨Nat.le_of_ble_eq_true rfl, Nat.le_of_ble_eq_true rfl⟩) (by exact ⟨Nat.le_of_ble_eq_true rfl, Nat.le_of_ble_eq_true rfl⟩) ?_
        have hPho := isP_x hd hn10 (inN_is (by omega) ho)
        refine ww_getP C (by assumption) 2 (by decide) q_f_X4_42 dX4_link_22 ?_
        refine ww_aload_n C dX4_link_25 3 rfl rfl ?_
        refine ww_getP C (by assumption) 2 (by decide) q_f_X4_42 dX4_link_26 ?_
        refine ww_icmp_lt C dX4_link_29 42 (by decide) (fun c29 => ?_) (fun c29 => ?_)
        · refine ww_aload_n C dX4_link_42 3 rfl rfl ?_
          refine ww_getP C (by assumption) 8 (by decide) q_f_X4_50 dX4_link_43 ?_
          refine ww_istore C dX4_link_46 (by decide) ?_
          refine ww_aload_n C dX4_link_48 3 rfl rfl ?_
          refine ww_iload_n C dX4_link_49 2 rfl rfl ?_
          refine ww_putP C (by assumption) 8 (by decide) q_f_X4_50 dX4_link_50 ?_
          refine ww_iload C dX4_link_53 rfl ?_
          exact ww_xret (mc := 1) (ms := 6) (by simp only [x_link, rI, hv, c11, ho, c29, not_false_eq_true, and_self, if_true, if_false]; try rfl; done) (ww_wide 1 6 (Nat.le_of_ble_eq_true rfl) (Nat.le_of_ble_eq_true rfl) (ww_iret C hr rfl rfl dX4_link_55))
        · exact ww_throw (cls := E_A) (text := "the other pond does not lie lower") C hE hex hst (by simp only [x_link, rI, hv, c11, ho, c29, not_false_eq_true, and_self, if_true, if_false]; try rfl; done) (by decide +kernel) q_k_X4_25 q_n_E_A (by decide +kernel) gx_X4_29 gy_X4_29 dX4_link_32 dX4_link_35 dX4_link_36 dX4_link_38 dX4_link_41 (Nat.le_of_ble_eq_true rfl) (Nat.le_of_ble_eq_true rfl) (Nat.le_of_ble_eq_true rfl) (Nat.le_of_ble_eq_true rfl) (Nat.le_of_ble_eq_true rfl) (Nat.le_of_ble_eq_true rfl)
      · exact ww_callVx C hE hex (by simp only [x_link, rI, hv, c11, ho, not_false_eq_true, and_self, if_true, if_false]; try rfl; done) mf_X0_pondAt dX4_link_19 (xt_X0_pondAt hst hd hn hn10 (fun z => ho (is_inN (by omega) z))) q_m_X4_38 (isD_lt (by assumption)) (ci := 0) rfl rfl ⟨_, ce_D (by assumption)⟩ rfl rfl (Nat.le_of_ble_eq_true rfl) (by exact ⟨Nat.le_of_ble_eq_true rfl, Nat.le_of_ble_eq_true rfl⟩) (by exact ⟨Nat.le_of_ble_eq_true rfl, Nat.le_of_ble_eq_true rfl⟩) (Nat.le_of_ble_eq_true rfl) (Nat.le_of_ble_eq_true rfl)
  · exact ww_callVx C hE hex (by simp only [x_link, rI, hv, not_false_eq_true, and_self, if_true, if_false]; try rfl; done) mf_X0_pondAt dX4_link_5 (xt_X0_pondAt hst hd hn hn10 (fun z => hv (is_inN (by omega) z))) q_m_X4_38 (isD_lt (by assumption)) (ci := 0) rfl rfl ⟨_, ce_D (by assumption)⟩ rfl rfl (Nat.le_of_ble_eq_true rfl) (by exact ⟨Nat.le_of_ble_eq_true rfl, Nat.le_of_ble_eq_true rfl⟩) (by exact ⟨Nat.le_of_ble_eq_true rfl, Nat.le_of_ble_eq_true rfl⟩) (Nat.le_of_ble_eq_true rfl) (Nat.le_of_ble_eq_true rfl)
set_option maxRecDepth 100000 in
set_option maxHeartbeats 4000000 in
theorem xt_X4_setWeather {g : gW} {l : Launch} {h : Hp} (hst : l.stackTraces = false) {x a b d : Int32} : XT g l yX4_setWeather cX4_setWeather 7 (some FieldType.int) 7 [.ref (gB g + 0), .int x, .int a, .int b, .int d] h (x_setW h x a b d) := by
  refine XT.of (lv0 := [(0, .ref (gB g + 0)), (1, .int x), (2, .int a), (3, .int b), (4, .int d)]) (by decide +kernel) (Nat.le_of_ble_eq_true rfl) rfl ?_
  intro p e s m below meth c C hE hex hr
  have hd : isD 1 := Or.inl rfl
  refine ww_aload_n C dX4_setWeather_0 0 rfl rfl ?_
  refine ww_getXd C q_f_X4_14 dX4_setWeather_1 ?_
  refine ww_iload_n C dX4_setWeather_4 1 rfl rfl ?_
  by_cases hv : ¬ x < 0 ∧ x < nI 10
  · refine ww_callD C mf_X0_weatherAt dX4_setWeather_5 (ok_X0_weatherAt hd (inN_is (by omega) hv)) q_m_X4_119 (by assumption) rfl rfl rfl (Nat.le_of_ble_eq_true rfl) (by exact ⟨Nat.le_of_ble_eq_true rfl, Nat.le_of_ble_eq_true rfl⟩) (by exact ⟨Nat.le_of_ble_eq_true rfl, Nat.le_of_ble_eq_true rfl⟩) ?_
    have hPhv := isWt_x hd (inN_is (by omega) hv)
    refine ww_astore C dX4_setWeather_8 (by decide) ?_
    refine ww_iload_n C dX4_setWeather_10 2 rfl rfl ?_
    refine ww_iconst (v := 0) C dX4_setWeather_11 (by decide) ?_
    refine ww_bipush (v := 9) C dX4_setWeather_12 (by decide) ?_
    refine ww_callS C mf_X4_isWithin (ct_X4_isWithin) q_m_X4_21 rfl rfl (Nat.le_of_ble_eq_true rfl) (by exact ⟨Nat.le_of_ble_eq_true rfl, Nat.le_of_ble_eq_true rfl⟩) (by exact ⟨Nat.le_of_ble_eq_true rfl, Nat.le_of_ble_eq_true rfl⟩) dX4_setWeather_14 ?_
    refine ww_if_eq C dX4_setWeather_17 41 (by decide) (fun c17 => ?_) (fun c17 => ?_)
    · exact ww_throw (cls := E_A) (text := "mist, rain or sun is not 0 to 9") C hE hex hst (by simp only [x_setW, rI, hv, c17, not_false_eq_true, and_self, if_true, if_false]; try rfl; done) (by decide +kernel) q_k_X4_25 q_n_E_A (by decide +kernel) gx_X4_29 gy_X4_29 dX4_setWeather_41 dX4_setWeather_44 dX4_setWeather_45 dX4_setWeather_47 dX4_setWeather_50 (Nat.le_of_ble_eq_true rfl) (Nat.le_of_ble_eq_true rfl) (Nat.le_of_ble_eq_true rfl) (Nat.le_of_ble_eq_true rfl) (Nat.le_of_ble_eq_true rfl) (Nat.le_of_ble_eq_true rfl)
    · refine ww_iload_n C dX4_setWeather_20 3 rfl rfl ?_
      refine ww_iconst (v := 0) C dX4_setWeather_21 (by decide) ?_
      refine ww_bipush (v := 9) C dX4_setWeather_22 (by decide) ?_
      refine ww_callS C mf_X4_isWithin (ct_X4_isWithin) q_m_X4_21 rfl rfl (Nat.le_of_ble_eq_true rfl) (by exact ⟨Nat.le_of_ble_eq_true rfl, Nat.le_of_ble_eq_true rfl⟩) (by exact ⟨Nat.le_of_ble_eq_true rfl, Nat.le_of_ble_eq_true rfl⟩) dX4_setWeather_24 ?_
      refine ww_if_eq C dX4_setWeather_27 41 (by decide) (fun c27 => ?_) (fun c27 => ?_)
      · exact ww_throw (cls := E_A) (text := "mist, rain or sun is not 0 to 9") C hE hex hst (by simp only [x_setW, rI, hv, c17, c27, not_false_eq_true, and_self, if_true, if_false]; try rfl; done) (by decide +kernel) q_k_X4_25 q_n_E_A (by decide +kernel) gx_X4_29 gy_X4_29 dX4_setWeather_41 dX4_setWeather_44 dX4_setWeather_45 dX4_setWeather_47 dX4_setWeather_50 (Nat.le_of_ble_eq_true rfl) (Nat.le_of_ble_eq_true rfl) (Nat.le_of_ble_eq_true rfl) (Nat.le_of_ble_eq_true rfl) (Nat.le_of_ble_eq_true rfl) (Nat.le_of_ble_eq_true rfl)
      · refine ww_iload C dX4_setWeather_30 rfl ?_
        refine ww_iconst (v := 0) C dX4_setWeather_32 (by decide) ?_
        refine ww_bipush (v := 9) C dX4_setWeather_33 (by decide) ?_
        refine ww_callS C mf_X4_isWithin (ct_X4_isWithin) q_m_X4_21 rfl rfl (Nat.le_of_ble_eq_true rfl) (by exact ⟨Nat.le_of_ble_eq_true rfl, Nat.le_of_ble_eq_true rfl⟩) (by exact ⟨Nat.le_of_ble_eq_true rfl, Nat.le_of_ble_eq_true rfl⟩) dX4_setWeather_35 ?_
        refine ww_if_ne C dX4_setWeather_38 51 (by decide) (fun c38 => ?_) (fun c38 => ?_)
        · refine ww_aload C dX4_setWeather_51 rfl ?_
          refine ww_callW C mf_X3_asNumber dX4_setWeather_53 (ct_X3_asNumber hPhv) q_m_X4_125 (by assumption) rfl rfl rfl (Nat.le_of_ble_eq_true rfl) (by exact ⟨Nat.le_of_ble_eq_true rfl, Nat.le_of_ble_eq_true rfl⟩) (by exact ⟨Nat.le_of_ble_eq_true rfl, Nat.le_of_ble_eq_true rfl⟩) ?_
          refine ww_istore C dX4_setWeather_56 (by decide) ?_
          refine ww_aload C dX4_setWeather_58 rfl ?_
          refine ww_iload_n C dX4_setWeather_60 2 rfl rfl ?_
          refine ww_putW C (by assumption) 0 (by decide) q_f_X4_130 dX4_setWeather_61 ?_
          refine ww_aload C dX4_setWeather_64 rfl ?_
          refine ww_iload_n C dX4_setWeather_66 3 rfl rfl ?_
          refine ww_putW C (by assumption) 1 (by decide) q_f_X4_133 dX4_setWeather_67 ?_
          refine ww_aload C dX4_setWeather_70 rfl ?_
          refine ww_iload C dX4_setWeather_72 rfl ?_
          refine ww_putW C (by assumption) 2 (by decide) q_f_X4_136 dX4_setWeather_74 ?_
          refine ww_iload C dX4_setWeather_77 rfl ?_
          exact ww_xret (mc := 1) (ms := 6) (by simp only [x_setW, rI, hv, c17, c27, c38, not_false_eq_true, and_self, if_true, if_false]; try rfl; done) (ww_wide 1 6 (Nat.le_of_ble_eq_true rfl) (Nat.le_of_ble_eq_true rfl) (ww_iret C hr rfl rfl dX4_setWeather_79))
        · exact ww_throw (cls := E_A) (text := "mist, rain or sun is not 0 to 9") C hE hex hst (by simp only [x_setW, rI, hv, c17, c27, c38, not_false_eq_true, and_self, if_true, if_false]; try rfl; done) (by decide +kernel) q_k_X4_25 q_n_E_A (by decide +kernel) gx_X4_29 gy_X4_29 dX4_setWeather_41 dX4_setWeather_44 dX4_setWeather_45 dX4_setWeather_47 dX4_setWeather_50 (Nat.le_of_ble_eq_true rfl) (Nat.le_of_ble_eq_true rfl) (Nat.le_of_ble_eq_true rfl) (Nat.le_of_ble_eq_true rfl) (Nat.le_of_ble_eq_true rfl) (Nat.le_of_ble_eq_true rfl)
  · exact ww_callVx C hE hex (by simp only [x_setW, rI, hv, not_false_eq_true, and_self, if_true, if_false]; try rfl; done) mf_X0_weatherAt dX4_setWeather_5 (xt_X0_weatherAt hst hd (fun z => hv (is_inN (by omega) z))) q_m_X4_119 (isD_lt (by assumption)) (ci := 0) rfl rfl ⟨_, ce_D (by assumption)⟩ rfl rfl (Nat.le_of_ble_eq_true rfl) (by exact ⟨Nat.le_of_ble_eq_true rfl, Nat.le_of_ble_eq_true rfl⟩) (by exact ⟨Nat.le_of_ble_eq_true rfl, Nat.le_of_ble_eq_true rfl⟩) (Nat.le_of_ble_eq_true rfl) (Nat.le_of_ble_eq_true rfl)
set_option maxRecDepth 100000 in
set_option maxHeartbeats 4000000 in
theorem xt_X4_drive {g : gW} {l : Launch} {h : Hp} (hst : l.stackTraces = false) {n f : Nat} (H : OK 1 n f h) {x a : Int32} : XT g l yX4_drive cX4_drive 6 (some FieldType.int) 7 [.ref (gB g + 0), .int x, .int a] h (x_drive n f h x a) := by
  refine XT.of (lv0 := [(0, .ref (gB g + 0)), (1, .int x), (2, .int a)]) (by decide +kernel) (Nat.le_of_ble_eq_true rfl) rfl ?_
  intro p e s m below meth c C hE hex hr
  have hd : isD 1 := Or.inl rfl
  have hn := H.1
  have hn10 := H.2.1
  have hf := H.2.2.1
  have hf6 : f ≤ 6 := H.2.2.2.1
  refine ww_aload_n C dX4_drive_0 0 rfl rfl ?_
  refine ww_getXd C q_f_X4_14 dX4_drive_1 ?_
  refine ww_iload_n C dX4_drive_4 1 rfl rfl ?_
  by_cases hv : ¬ x < 0 ∧ x < nI f
  · refine ww_callD C mf_X0_flockAt dX4_drive_5 (ok_X0_flockAt hd hf H.2.2.2.1 (inN_is (by omega) hv)) q_m_X4_146 (by assumption) rfl rfl rfl (Nat.le_of_ble_eq_true rfl) (by exact ⟨Nat.le_of_ble_eq_true rfl, Nat.le_of_ble_eq_true rfl⟩) (by exact ⟨Nat.le_of_ble_eq_true rfl, Nat.le_of_ble_eq_true rfl⟩) ?_
    have hPhv := isF_x hd H.2.2.2.1 (inN_is (by omega) hv)
    obtain ⟨q, hq, eq⟩ := inN_is (by omega) hv
    have e9 : x.toNatClampNeg = q := by rw [eq]; exact nI_clamp (by omega)
    have hfp : isN n (h (1 + 25 + x.toNatClampNeg) 1) := by rw [e9]; exact H.2.2.2.2.2.1 q hq
    have hPf := isP_x hd hn10 hfp
    refine ww_astore_n C dX4_drive_8 3 rfl (by decide) ?_
    refine ww_aload_n C dX4_drive_9 0 rfl rfl ?_
    refine ww_getXd C q_f_X4_14 dX4_drive_10 ?_
    refine ww_iload_n C dX4_drive_13 2 rfl rfl ?_
    by_cases hp : ¬ a < 0 ∧ a < nI n
    · refine ww_callD C mf_X0_pondAt dX4_drive_14 (ok_X0_pondAt hd hn hn10 (inN_is (by omega) hp)) q_m_X4_38 (by assumption) rfl rfl rfl (Nat.le_of_ble_eq_true rfl) (by exact ⟨Nat.le_of_ble_eq_true rfl, Nat.le_of_ble_eq_true rfl⟩) (by exact ⟨Nat.le_of_ble_eq_true rfl, Nat.le_of_ble_eq_true rfl⟩) ?_
      have hPhp := isP_x hd hn10 (inN_is (by omega) hp)
      refine ww_astore C dX4_drive_17 (by decide) ?_
      refine ww_aload_n C dX4_drive_19 3 rfl rfl ?_
      refine ww_callF C mf_X1_isLost dX4_drive_20 (ct_X1_isLost hPhv) q_m_X4_150 (by assumption) rfl rfl rfl (Nat.le_of_ble_eq_true rfl) (by exact ⟨Nat.le_of_ble_eq_true rfl, Nat.le_of_ble_eq_true rfl⟩) (by exact ⟨Nat.le_of_ble_eq_true rfl, Nat.le_of_ble_eq_true rfl⟩) ?_
      refine ww_if_eq C dX4_drive_23 36 (by decide) (fun c23 => ?_) (fun c23 => ?_)
      · refine ww_aload_n C dX4_drive_36 0 rfl rfl ?_
        refine ww_getXd C q_f_X4_14 dX4_drive_37 ?_
        refine ww_aload_n C dX4_drive_40 3 rfl rfl ?_
        refine ww_getF C (by assumption) 1 (by decide) q_f_X4_157 dX4_drive_41 ?_
        refine ww_callD C mf_X0_pondAt dX4_drive_44 (ok_X0_pondAt hd hn hn10 hfp) q_m_X4_38 (by assumption) rfl rfl rfl (Nat.le_of_ble_eq_true rfl) (by exact ⟨Nat.le_of_ble_eq_true rfl, Nat.le_of_ble_eq_true rfl⟩) (by exact ⟨Nat.le_of_ble_eq_true rfl, Nat.le_of_ble_eq_true rfl⟩) ?_
        refine ww_aload C dX4_drive_47 rfl ?_
        refine ww_callP C mf_X2_distanceTo dX4_drive_49 (ct_X2_distanceTo hPf hPhp) q_m_X4_160 (by assumption) rfl rfl rfl (Nat.le_of_ble_eq_true rfl) (by exact ⟨Nat.le_of_ble_eq_true rfl, Nat.le_of_ble_eq_true rfl⟩) (by exact ⟨Nat.le_of_ble_eq_true rfl, Nat.le_of_ble_eq_true rfl⟩) ?_
        refine ww_istore C dX4_drive_52 (by decide) ?_
        refine ww_aload_n C dX4_drive_54 3 rfl rfl ?_
        refine ww_iload_n C dX4_drive_55 2 rfl rfl ?_
        refine ww_putF C (by assumption) 1 (by decide) q_f_X4_157 dX4_drive_56 ?_
        refine ww_iload C dX4_drive_59 rfl ?_
        exact ww_xret (mc := 1) (ms := 6) (by simp only [x_drive, rI, hv, hp, c23, not_false_eq_true, and_self, if_true, if_false]; try rfl; done) (ww_wide 1 6 (Nat.le_of_ble_eq_true rfl) (Nat.le_of_ble_eq_true rfl) (ww_iret C hr rfl rfl dX4_drive_61))
      · exact ww_throw (cls := E_S) (text := "the flock is lost") C hE hex hst (by simp only [x_drive, rI, hv, hp, c23, not_false_eq_true, and_self, if_true, if_false]; try rfl; done) (by decide +kernel) q_k_X4_59 q_n_E_S (by decide +kernel) gx_X4_63 gy_X4_63 dX4_drive_26 dX4_drive_29 dX4_drive_30 dX4_drive_32 dX4_drive_35 (Nat.le_of_ble_eq_true rfl) (Nat.le_of_ble_eq_true rfl) (Nat.le_of_ble_eq_true rfl) (Nat.le_of_ble_eq_true rfl) (Nat.le_of_ble_eq_true rfl) (Nat.le_of_ble_eq_true rfl)
    · exact ww_callVx C hE hex (by simp only [x_drive, rI, hv, hp, not_false_eq_true, and_self, if_true, if_false]; try rfl; done) mf_X0_pondAt dX4_drive_14 (xt_X0_pondAt hst hd hn hn10 (fun z => hp (is_inN (by omega) z))) q_m_X4_38 (isD_lt (by assumption)) (ci := 0) rfl rfl ⟨_, ce_D (by assumption)⟩ rfl rfl (Nat.le_of_ble_eq_true rfl) (by exact ⟨Nat.le_of_ble_eq_true rfl, Nat.le_of_ble_eq_true rfl⟩) (by exact ⟨Nat.le_of_ble_eq_true rfl, Nat.le_of_ble_eq_true rfl⟩) (Nat.le_of_ble_eq_true rfl) (Nat.le_of_ble_eq_true rfl)
  · exact ww_callVx C hE hex (by simp only [x_drive, rI, hv, not_false_eq_true, and_self, if_true, if_false]; try rfl; done) mf_X0_flockAt dX4_drive_5 (xt_X0_flockAt hst hd hf H.2.2.2.1 (fun z => hv (is_inN (by omega) z))) q_m_X4_146 (isD_lt (by assumption)) (ci := 0) rfl rfl ⟨_, ce_D (by assumption)⟩ rfl rfl (Nat.le_of_ble_eq_true rfl) (by exact ⟨Nat.le_of_ble_eq_true rfl, Nat.le_of_ble_eq_true rfl⟩) (by exact ⟨Nat.le_of_ble_eq_true rfl, Nat.le_of_ble_eq_true rfl⟩) (Nat.le_of_ble_eq_true rfl) (Nat.le_of_ble_eq_true rfl)
set_option maxRecDepth 100000 in
set_option maxHeartbeats 4000000 in
theorem xt_X4_pass {g : gW} {l : Launch} {h : Hp} (hst : l.stackTraces = false) {n f t : Nat} {x : Int32} (H : OK 1 n f h) (ht : h 1 6 = nI t) (ht31 : t + 100 < 2 ^ 31) : XT g l yX4_pass cX4_pass 2 (some FieldType.int) 7 [.ref (gB g + 0), .int x] h (x_pass n f t h x) := by
  refine XT.of (lv0 := [(0, .ref (gB g + 0)), (1, .int x)]) (by decide +kernel) (Nat.le_of_ble_eq_true rfl) rfl ?_
  intro p e s m below meth c C hE hex hr
  have hd : isD 1 := Or.inl rfl
  have hn := H.1
  have hn10 := H.2.1
  have hf := H.2.2.1
  have hf6 : f ≤ 6 := H.2.2.2.1
  refine ww_iload_n C dX4_pass_0 1 rfl rfl ?_
  refine ww_iconst (v := 1) C dX4_pass_1 (by decide) ?_
  refine ww_bipush (v := 100) C dX4_pass_2 (by decide) ?_
  refine ww_callS C mf_X4_isWithin (ct_X4_isWithin) q_m_X4_21 rfl rfl (Nat.le_of_ble_eq_true rfl) (by exact ⟨Nat.le_of_ble_eq_true rfl, Nat.le_of_ble_eq_true rfl⟩) (by exact ⟨Nat.le_of_ble_eq_true rfl, Nat.le_of_ble_eq_true rfl⟩) dX4_pass_4 ?_
  refine ww_if_ne C dX4_pass_7 20 (by decide) (fun c7 => ?_) (fun c7 => ?_)
  · refine ww_aload_n C dX4_pass_20 0 rfl rfl ?_
    refine ww_getXd C q_f_X4_14 dX4_pass_21 ?_
    refine ww_iload_n C dX4_pass_24 1 rfl rfl ?_
    obtain ⟨j, hj, ej⟩ := nI_of2 (M := 100) (n := 100) rfl (Int32.not_lt.mpr (Int32.le_trans (by decide : (0 : Int32) ≤ 1) (bI1 c7).1)) (bI1 c7).2
    have e9 : x.toNatClampNeg = j := by rw [ej]; exact nI_clamp (by omega)
    refine ww_top ej ?_
    refine ww_callD C mf_X0_liveDays dX4_pass_25 (ct_X0_liveDays hd H ht (by omega)) q_m_X4_180 (by assumption) rfl rfl rfl (Nat.le_of_ble_eq_true rfl) (by exact ⟨Nat.le_of_ble_eq_true rfl, Nat.le_of_ble_eq_true rfl⟩) (by exact ⟨Nat.le_of_ble_eq_true rfl, Nat.le_of_ble_eq_true rfl⟩) ?_
    exact ww_xret (mc := 1) (ms := 6) (by simp only [x_pass, e9, rI, c7, not_false_eq_true, and_self, if_true, if_false]; try rfl; done) (ww_wide 1 6 (Nat.le_of_ble_eq_true rfl) (Nat.le_of_ble_eq_true rfl) (ww_iret C hr rfl rfl dX4_pass_28))
  · exact ww_throw (cls := E_A) (text := "days is not 1 to 100") C hE hex hst (by simp only [x_pass, rI, c7, not_false_eq_true, and_self, if_true, if_false]; try rfl; done) (by decide +kernel) q_k_X4_25 q_n_E_A (by decide +kernel) gx_X4_29 gy_X4_29 dX4_pass_10 dX4_pass_13 dX4_pass_14 dX4_pass_16 dX4_pass_19 (Nat.le_of_ble_eq_true rfl) (Nat.le_of_ble_eq_true rfl) (Nat.le_of_ble_eq_true rfl) (Nat.le_of_ble_eq_true rfl) (Nat.le_of_ble_eq_true rfl) (Nat.le_of_ble_eq_true rfl)
