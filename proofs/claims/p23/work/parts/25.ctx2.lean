theorem XT.to {g : gW} {l : Launch} {y : MethodName} {cc : ByteArray} {nL : Nat} {rt : Option FieldType} {k : Nat} {As : List Value} {h : Hp} {r r2 : (Option Value × Hp) ⊕ String} (hx : XT g l y cc nL rt k As h r) (he : r = r2) : XT g l y cc nL rt k As h r2 := he ▸ hx
set_option maxRecDepth 100000 in
set_option maxHeartbeats 4000000 in
theorem xt_X4_pond {g : gW} {l : Launch} {h : Hp} (hst : l.stackTraces = false) {n f : Nat} (H : OK 1 n f h) {x w : Int32} : XT g l yX4_pond cX4_pond 4 (some FieldType.int) 7 [.ref (gB g + 0), .int x, .int w] h (x_pond n f h x w) := by
  refine XT.of (lv0 := [(0, .ref (gB g + 0)), (1, .int x), (2, .int w)]) (by decide +kernel) (Nat.le_of_ble_eq_true rfl) rfl ?_
  intro p e s m below meth c C hE hex hr
  have hd : isD 1 := Or.inl rfl
  have hn := H.1
  have hn10 := H.2.1
  have hf := H.2.2.1
  have hf6 : f ≤ 6 := H.2.2.2.1
  refine ww_aload_n C dX4_pond_0 0 rfl rfl ?_
  refine ww_getXd C q_f_X4_14 dX4_pond_1 ?_
  refine ww_iload_n C dX4_pond_4 1 rfl rfl ?_
  by_cases hv : ¬ x < 0 ∧ x < nI n
  · refine ww_callD C mf_X0_pondAt dX4_pond_5 (ok_X0_pondAt hd hn hn10 (inN_is (by omega) hv)) q_m_X4_38 (by assumption) rfl rfl rfl (Nat.le_of_ble_eq_true rfl) (by exact ⟨Nat.le_of_ble_eq_true rfl, Nat.le_of_ble_eq_true rfl⟩) (by exact ⟨Nat.le_of_ble_eq_true rfl, Nat.le_of_ble_eq_true rfl⟩) ?_
    have hPhv := isP_x hd hn10 (inN_is (by omega) hv)
    refine ww_astore_n C dX4_pond_8 3 rfl (by decide) ?_
    refine ww_iload_n C dX4_pond_9 2 rfl rfl ?_
    by_cases hw : ¬ w < 0 ∧ w < nI 12
    · obtain ⟨k, hk, ek, ck⟩ := sw_cases (by omega) hw
      subst ek
      rcases (show k = 0 ∨ k = 1 ∨ k = 2 ∨ k = 3 ∨ k = 4 ∨ k = 5 ∨ k = 6 ∨ k = 7 ∨ k = 8 ∨ k = 9 ∨ k = 10 ∨ k = 11 by omega) with rfl | rfl | rfl | rfl | rfl | rfl | rfl | rfl | rfl | rfl | rfl | rfl
      · refine ww_tabIn C dX4_pond_10 62 72 (by decide) (by decide) (by decide) (by decide) ?_
        refine ww_aload_n C dX4_pond_72 3 rfl rfl ?_
        refine ww_getP C (by assumption) 0 (by decide) q_f_X4_93 dX4_pond_73 ?_
        exact ww_xret (mc := 1) (ms := 6) (by simp only [x_pond, x_pondV, rI, hv, hw, ck, not_false_eq_true, and_self, if_true, if_false]; try rfl; done) (ww_wide 1 6 (Nat.le_of_ble_eq_true rfl) (Nat.le_of_ble_eq_true rfl) (ww_iret C hr rfl rfl dX4_pond_76))
      · refine ww_tabIn C dX4_pond_10 67 77 (by decide) (by decide) (by decide) (by decide) ?_
        refine ww_aload_n C dX4_pond_77 3 rfl rfl ?_
        refine ww_getP C (by assumption) 1 (by decide) q_f_X4_96 dX4_pond_78 ?_
        exact ww_xret (mc := 1) (ms := 6) (by simp only [x_pond, x_pondV, rI, hv, hw, ck, not_false_eq_true, and_self, if_true, if_false]; try rfl; done) (ww_wide 1 6 (Nat.le_of_ble_eq_true rfl) (Nat.le_of_ble_eq_true rfl) (ww_iret C hr rfl rfl dX4_pond_81))
      · refine ww_tabIn C dX4_pond_10 72 82 (by decide) (by decide) (by decide) (by decide) ?_
        refine ww_aload_n C dX4_pond_82 3 rfl rfl ?_
        refine ww_getP C (by assumption) 2 (by decide) q_f_X4_42 dX4_pond_83 ?_
        exact ww_xret (mc := 1) (ms := 6) (by simp only [x_pond, x_pondV, rI, hv, hw, ck, not_false_eq_true, and_self, if_true, if_false]; try rfl; done) (ww_wide 1 6 (Nat.le_of_ble_eq_true rfl) (Nat.le_of_ble_eq_true rfl) (ww_iret C hr rfl rfl dX4_pond_86))
      · refine ww_tabIn C dX4_pond_10 77 87 (by decide) (by decide) (by decide) (by decide) ?_
        refine ww_aload_n C dX4_pond_87 3 rfl rfl ?_
        refine ww_getP C (by assumption) 3 (by decide) q_f_X4_99 dX4_pond_88 ?_
        exact ww_xret (mc := 1) (ms := 6) (by simp only [x_pond, x_pondV, rI, hv, hw, ck, not_false_eq_true, and_self, if_true, if_false]; try rfl; done) (ww_wide 1 6 (Nat.le_of_ble_eq_true rfl) (Nat.le_of_ble_eq_true rfl) (ww_iret C hr rfl rfl dX4_pond_91))
      · refine ww_tabIn C dX4_pond_10 82 92 (by decide) (by decide) (by decide) (by decide) ?_
        refine ww_aload_n C dX4_pond_92 3 rfl rfl ?_
        refine ww_callP C mf_X2_holds dX4_pond_93 (ct_X2_holds hPhv) q_m_X4_86 (by assumption) rfl rfl rfl (Nat.le_of_ble_eq_true rfl) (by exact ⟨Nat.le_of_ble_eq_true rfl, Nat.le_of_ble_eq_true rfl⟩) (by exact ⟨Nat.le_of_ble_eq_true rfl, Nat.le_of_ble_eq_true rfl⟩) ?_
        exact ww_xret (mc := 1) (ms := 6) (by simp only [x_pond, x_pondV, rI, hv, hw, ck, not_false_eq_true, and_self, if_true, if_false]; try rfl; done) (ww_wide 1 6 (Nat.le_of_ble_eq_true rfl) (Nat.le_of_ble_eq_true rfl) (ww_iret C hr rfl rfl dX4_pond_96))
      · refine ww_tabIn C dX4_pond_10 87 97 (by decide) (by decide) (by decide) (by decide) ?_
        refine ww_aload_n C dX4_pond_97 3 rfl rfl ?_
        refine ww_getP C (by assumption) 5 (by decide) q_f_X4_83 dX4_pond_98 ?_
        exact ww_xret (mc := 1) (ms := 6) (by simp only [x_pond, x_pondV, rI, hv, hw, ck, not_false_eq_true, and_self, if_true, if_false]; try rfl; done) (ww_wide 1 6 (Nat.le_of_ble_eq_true rfl) (Nat.le_of_ble_eq_true rfl) (ww_iret C hr rfl rfl dX4_pond_101))
      · refine ww_tabIn C dX4_pond_10 92 102 (by decide) (by decide) (by decide) (by decide) ?_
        refine ww_aload_n C dX4_pond_102 3 rfl rfl ?_
        refine ww_getP C (by assumption) 6 (by decide) q_f_X4_102 dX4_pond_103 ?_
        exact ww_xret (mc := 1) (ms := 6) (by simp only [x_pond, x_pondV, rI, hv, hw, ck, not_false_eq_true, and_self, if_true, if_false]; try rfl; done) (ww_wide 1 6 (Nat.le_of_ble_eq_true rfl) (Nat.le_of_ble_eq_true rfl) (ww_iret C hr rfl rfl dX4_pond_106))
      · refine ww_tabIn C dX4_pond_10 97 107 (by decide) (by decide) (by decide) (by decide) ?_
        refine ww_aload_n C dX4_pond_107 3 rfl rfl ?_
        refine ww_getP C (by assumption) 7 (by decide) q_f_X4_77 dX4_pond_108 ?_
        refine ww_if_eq C dX4_pond_111 118 (by decide) (fun c111 => ?_) (fun c111 => ?_)
        · refine ww_iconst (v := 0) C dX4_pond_118 (by decide) ?_
          exact ww_xret (mc := 1) (ms := 6) (by simp only [x_pond, x_pondV, rI, hv, hw, ck, c111, not_false_eq_true, and_self, if_true, if_false]; try rfl; done) (ww_wide 1 6 (Nat.le_of_ble_eq_true rfl) (Nat.le_of_ble_eq_true rfl) (ww_iret C hr rfl rfl dX4_pond_119))
        · refine ww_iconst (v := 1) C dX4_pond_114 (by decide) ?_
          refine ww_goto C dX4_pond_115 119 (by decide) ?_
          exact ww_xret (mc := 1) (ms := 6) (by simp only [x_pond, x_pondV, rI, hv, hw, ck, c111, not_false_eq_true, and_self, if_true, if_false]; try rfl; done) (ww_wide 1 6 (Nat.le_of_ble_eq_true rfl) (Nat.le_of_ble_eq_true rfl) (ww_iret C hr rfl rfl dX4_pond_119))
      · refine ww_tabIn C dX4_pond_10 110 120 (by decide) (by decide) (by decide) (by decide) ?_
        refine ww_aload_n C dX4_pond_120 3 rfl rfl ?_
        refine ww_getP C (by assumption) 8 (by decide) q_f_X4_50 dX4_pond_121 ?_
        exact ww_xret (mc := 1) (ms := 6) (by simp only [x_pond, x_pondV, rI, hv, hw, ck, not_false_eq_true, and_self, if_true, if_false]; try rfl; done) (ww_wide 1 6 (Nat.le_of_ble_eq_true rfl) (Nat.le_of_ble_eq_true rfl) (ww_iret C hr rfl rfl dX4_pond_124))
      · refine ww_tabIn C dX4_pond_10 115 125 (by decide) (by decide) (by decide) (by decide) ?_
        refine ww_aload_n C dX4_pond_125 0 rfl rfl ?_
        refine ww_getXd C q_f_X4_14 dX4_pond_126 ?_
        refine ww_iload_n C dX4_pond_129 1 rfl rfl ?_
        refine ww_callD C mf_X0_flocksAt dX4_pond_130 (ct_X0_flocksAt hd hf H.2.2.2.1) q_m_X4_105 (by assumption) rfl rfl rfl (Nat.le_of_ble_eq_true rfl) (by exact ⟨Nat.le_of_ble_eq_true rfl, Nat.le_of_ble_eq_true rfl⟩) (by exact ⟨Nat.le_of_ble_eq_true rfl, Nat.le_of_ble_eq_true rfl⟩) ?_
        exact ww_xret (mc := 1) (ms := 6) (by simp only [x_pond, x_pondV, rI, hv, hw, ck, not_false_eq_true, and_self, if_true, if_false]; try rfl; done) (ww_wide 1 6 (Nat.le_of_ble_eq_true rfl) (Nat.le_of_ble_eq_true rfl) (ww_iret C hr rfl rfl dX4_pond_133))
      · refine ww_tabIn C dX4_pond_10 124 134 (by decide) (by decide) (by decide) (by decide) ?_
        refine ww_aload_n C dX4_pond_134 3 rfl rfl ?_
        refine ww_getP C (by assumption) 9 (by decide) q_f_X4_108 dX4_pond_135 ?_
        exact ww_xret (mc := 1) (ms := 6) (by simp only [x_pond, x_pondV, rI, hv, hw, ck, not_false_eq_true, and_self, if_true, if_false]; try rfl; done) (ww_wide 1 6 (Nat.le_of_ble_eq_true rfl) (Nat.le_of_ble_eq_true rfl) (ww_iret C hr rfl rfl dX4_pond_138))
      · refine ww_tabIn C dX4_pond_10 129 139 (by decide) (by decide) (by decide) (by decide) ?_
        refine ww_aload_n C dX4_pond_139 0 rfl rfl ?_
        refine ww_getXd C q_f_X4_14 dX4_pond_140 ?_
        refine ww_iload_n C dX4_pond_143 1 rfl rfl ?_
        refine ww_callD C mf_X0_sourcesOf dX4_pond_144 (ct_X0_sourcesOf hd H) q_m_X4_111 (by assumption) rfl rfl rfl (Nat.le_of_ble_eq_true rfl) (by exact ⟨Nat.le_of_ble_eq_true rfl, Nat.le_of_ble_eq_true rfl⟩) (by exact ⟨Nat.le_of_ble_eq_true rfl, Nat.le_of_ble_eq_true rfl⟩) ?_
        exact ww_xret (mc := 1) (ms := 6) (by simp only [x_pond, x_pondV, rI, hv, hw, ck, not_false_eq_true, and_self, if_true, if_false]; try rfl; done) (ww_wide 1 6 (Nat.le_of_ble_eq_true rfl) (Nat.le_of_ble_eq_true rfl) (ww_iret C hr rfl rfl dX4_pond_147))
    · refine ww_tabOut C dX4_pond_10 148 (sw_out (n := 12) (by omega) rfl hw) (by decide) ?_
      exact ww_throw (cls := E_I) (text := "what is not 0 to 11") C hE hex hst (by simp only [x_pond, x_pondV, rI, hv, hw, not_false_eq_true, and_self, if_true, if_false]; try rfl; done) (by decide +kernel) q_k_X4_114 q_n_E_I (by decide +kernel) gx_X4_118 gy_X4_118 dX4_pond_148 dX4_pond_151 dX4_pond_152 dX4_pond_154 dX4_pond_157 (Nat.le_of_ble_eq_true rfl) (Nat.le_of_ble_eq_true rfl) (Nat.le_of_ble_eq_true rfl) (Nat.le_of_ble_eq_true rfl) (Nat.le_of_ble_eq_true rfl) (Nat.le_of_ble_eq_true rfl)
  · exact ww_callVx C hE hex (by simp only [x_pond, rI, hv, not_false_eq_true, and_self, if_true, if_false]; try rfl; done) mf_X0_pondAt dX4_pond_5 (xt_X0_pondAt hst hd hn hn10 (fun z => hv (is_inN (by omega) z))) q_m_X4_38 (isD_lt (by assumption)) (ci := 0) rfl rfl ⟨_, ce_D (by assumption)⟩ rfl rfl (Nat.le_of_ble_eq_true rfl) (by exact ⟨Nat.le_of_ble_eq_true rfl, Nat.le_of_ble_eq_true rfl⟩) (by exact ⟨Nat.le_of_ble_eq_true rfl, Nat.le_of_ble_eq_true rfl⟩) (Nat.le_of_ble_eq_true rfl) (Nat.le_of_ble_eq_true rfl)
set_option maxRecDepth 100000 in
set_option maxHeartbeats 4000000 in
theorem ok_X4_pond {g : gW} {l : Launch} {h : Hp} {n f : Nat} (H : OK 1 n f h) {x : Int32} {k : Nat} (hx : isN n x) (hk : k < 12) : CT g l yX4_pond cX4_pond 4 (some FieldType.int) 4 0 0 [.ref (gB g + 0), .int x, .int (nI k)] h (some (.int (x_pondV n f h x k))) h := by
  refine CT.of (lv0 := [(0, .ref (gB g + 0)), (1, .int x), (2, .int (nI k))]) mf_X4_pond.1.2.2.2 (Nat.le_of_ble_eq_true rfl) rfl ?_
  intro p e s m below meth c C hr
  have hd : isD 1 := Or.inl rfl
  have hn := H.1
  have hn10 := H.2.1
  have hf := H.2.2.1
  have hf6 : f ≤ 6 := H.2.2.2.1
  have hPhv := isP_x hd hn10 hx
  refine ww_aload_n C dX4_pond_0 0 rfl rfl ?_
  refine ww_getXd C q_f_X4_14 dX4_pond_1 ?_
  refine ww_iload_n C dX4_pond_4 1 rfl rfl ?_
  refine ww_callD C mf_X0_pondAt dX4_pond_5 (ok_X0_pondAt hd hn hn10 hx) q_m_X4_38 (by assumption) rfl rfl rfl (Nat.le_of_ble_eq_true rfl) (by exact ⟨Nat.le_of_ble_eq_true rfl, Nat.le_of_ble_eq_true rfl⟩) (by exact ⟨Nat.le_of_ble_eq_true rfl, Nat.le_of_ble_eq_true rfl⟩) ?_
  refine ww_astore_n C dX4_pond_8 3 rfl (by decide) ?_
  refine ww_iload_n C dX4_pond_9 2 rfl rfl ?_
  rcases (show k = 0 ∨ k = 1 ∨ k = 2 ∨ k = 3 ∨ k = 4 ∨ k = 5 ∨ k = 6 ∨ k = 7 ∨ k = 8 ∨ k = 9 ∨ k = 10 ∨ k = 11 by omega) with rfl | rfl | rfl | rfl | rfl | rfl | rfl | rfl | rfl | rfl | rfl | rfl
  · refine ww_tabIn C dX4_pond_10 62 72 (by decide) (by decide) (by decide) (by decide) ?_
    refine ww_aload_n C dX4_pond_72 3 rfl rfl ?_
    refine ww_getP C (by assumption) 0 (by decide) q_f_X4_93 dX4_pond_73 ?_
    exact ww_iret C hr (by simp only [x_pondV, if_true, if_false]) rfl dX4_pond_76
  · refine ww_tabIn C dX4_pond_10 67 77 (by decide) (by decide) (by decide) (by decide) ?_
    refine ww_aload_n C dX4_pond_77 3 rfl rfl ?_
    refine ww_getP C (by assumption) 1 (by decide) q_f_X4_96 dX4_pond_78 ?_
    exact ww_iret C hr (by simp only [x_pondV, if_true, if_false]) rfl dX4_pond_81
  · refine ww_tabIn C dX4_pond_10 72 82 (by decide) (by decide) (by decide) (by decide) ?_
    refine ww_aload_n C dX4_pond_82 3 rfl rfl ?_
    refine ww_getP C (by assumption) 2 (by decide) q_f_X4_42 dX4_pond_83 ?_
    exact ww_iret C hr (by simp only [x_pondV, if_true, if_false]) rfl dX4_pond_86
  · refine ww_tabIn C dX4_pond_10 77 87 (by decide) (by decide) (by decide) (by decide) ?_
    refine ww_aload_n C dX4_pond_87 3 rfl rfl ?_
    refine ww_getP C (by assumption) 3 (by decide) q_f_X4_99 dX4_pond_88 ?_
    exact ww_iret C hr (by simp only [x_pondV, if_true, if_false]) rfl dX4_pond_91
  · refine ww_tabIn C dX4_pond_10 82 92 (by decide) (by decide) (by decide) (by decide) ?_
    refine ww_aload_n C dX4_pond_92 3 rfl rfl ?_
    refine ww_callP C mf_X2_holds dX4_pond_93 (ct_X2_holds hPhv) q_m_X4_86 (by assumption) rfl rfl rfl (Nat.le_of_ble_eq_true rfl) (by exact ⟨Nat.le_of_ble_eq_true rfl, Nat.le_of_ble_eq_true rfl⟩) (by exact ⟨Nat.le_of_ble_eq_true rfl, Nat.le_of_ble_eq_true rfl⟩) ?_
    exact ww_iret C hr (by simp only [x_pondV, if_true, if_false]) rfl dX4_pond_96
  · refine ww_tabIn C dX4_pond_10 87 97 (by decide) (by decide) (by decide) (by decide) ?_
    refine ww_aload_n C dX4_pond_97 3 rfl rfl ?_
    refine ww_getP C (by assumption) 5 (by decide) q_f_X4_83 dX4_pond_98 ?_
    exact ww_iret C hr (by simp only [x_pondV, if_true, if_false]) rfl dX4_pond_101
  · refine ww_tabIn C dX4_pond_10 92 102 (by decide) (by decide) (by decide) (by decide) ?_
    refine ww_aload_n C dX4_pond_102 3 rfl rfl ?_
    refine ww_getP C (by assumption) 6 (by decide) q_f_X4_102 dX4_pond_103 ?_
    exact ww_iret C hr (by simp only [x_pondV, if_true, if_false]) rfl dX4_pond_106
  · refine ww_tabIn C dX4_pond_10 97 107 (by decide) (by decide) (by decide) (by decide) ?_
    refine ww_aload_n C dX4_pond_107 3 rfl rfl ?_
    refine ww_getP C (by assumption) 7 (by decide) q_f_X4_77 dX4_pond_108 ?_
    refine ww_if_eq C dX4_pond_111 118 (by decide) (fun c111 => ?_) (fun c111 => ?_)
    · refine ww_iconst (v := 0) C dX4_pond_118 (by decide) ?_
      exact ww_iret C hr (by simp only [x_pondV, c111, if_true, if_false]) rfl dX4_pond_119
    · refine ww_iconst (v := 1) C dX4_pond_114 (by decide) ?_
      refine ww_goto C dX4_pond_115 119 (by decide) ?_
      exact ww_iret C hr (by simp only [x_pondV, c111, if_true, if_false]) rfl dX4_pond_119
  · refine ww_tabIn C dX4_pond_10 110 120 (by decide) (by decide) (by decide) (by decide) ?_
    refine ww_aload_n C dX4_pond_120 3 rfl rfl ?_
    refine ww_getP C (by assumption) 8 (by decide) q_f_X4_50 dX4_pond_121 ?_
    exact ww_iret C hr (by simp only [x_pondV, if_true, if_false]) rfl dX4_pond_124
  · refine ww_tabIn C dX4_pond_10 115 125 (by decide) (by decide) (by decide) (by decide) ?_
    refine ww_aload_n C dX4_pond_125 0 rfl rfl ?_
    refine ww_getXd C q_f_X4_14 dX4_pond_126 ?_
    refine ww_iload_n C dX4_pond_129 1 rfl rfl ?_
    refine ww_callD C mf_X0_flocksAt dX4_pond_130 (ct_X0_flocksAt hd hf H.2.2.2.1) q_m_X4_105 (by assumption) rfl rfl rfl (Nat.le_of_ble_eq_true rfl) (by exact ⟨Nat.le_of_ble_eq_true rfl, Nat.le_of_ble_eq_true rfl⟩) (by exact ⟨Nat.le_of_ble_eq_true rfl, Nat.le_of_ble_eq_true rfl⟩) ?_
    exact ww_iret C hr (by simp only [x_pondV, if_true, if_false]) rfl dX4_pond_133
  · refine ww_tabIn C dX4_pond_10 124 134 (by decide) (by decide) (by decide) (by decide) ?_
    refine ww_aload_n C dX4_pond_134 3 rfl rfl ?_
    refine ww_getP C (by assumption) 9 (by decide) q_f_X4_108 dX4_pond_135 ?_
    exact ww_iret C hr (by simp only [x_pondV, if_true, if_false]) rfl dX4_pond_138
  · refine ww_tabIn C dX4_pond_10 129 139 (by decide) (by decide) (by decide) (by decide) ?_
    refine ww_aload_n C dX4_pond_139 0 rfl rfl ?_
    refine ww_getXd C q_f_X4_14 dX4_pond_140 ?_
    refine ww_iload_n C dX4_pond_143 1 rfl rfl ?_
    refine ww_callD C mf_X0_sourcesOf dX4_pond_144 (ct_X0_sourcesOf hd H) q_m_X4_111 (by assumption) rfl rfl rfl (Nat.le_of_ble_eq_true rfl) (by exact ⟨Nat.le_of_ble_eq_true rfl, Nat.le_of_ble_eq_true rfl⟩) (by exact ⟨Nat.le_of_ble_eq_true rfl, Nat.le_of_ble_eq_true rfl⟩) ?_
    exact ww_iret C hr (by simp only [x_pondV, if_true, if_false]) rfl dX4_pond_147
set_option maxRecDepth 100000 in
set_option maxHeartbeats 4000000 in
theorem xt_X4_flock {g : gW} {l : Launch} {h : Hp} (hst : l.stackTraces = false) {n f : Nat} (H : OK 1 n f h) {x w : Int32} : XT g l yX4_flock cX4_flock 4 (some FieldType.int) 7 [.ref (gB g + 0), .int x, .int w] h (x_flock f h x w) := by
  refine XT.of (lv0 := [(0, .ref (gB g + 0)), (1, .int x), (2, .int w)]) (by decide +kernel) (Nat.le_of_ble_eq_true rfl) rfl ?_
  intro p e s m below meth c C hE hex hr
  have hd : isD 1 := Or.inl rfl
  have hn := H.1
  have hn10 := H.2.1
  have hf := H.2.2.1
  have hf6 : f ≤ 6 := H.2.2.2.1
  refine ww_aload_n C dX4_flock_0 0 rfl rfl ?_
  refine ww_getXd C q_f_X4_14 dX4_flock_1 ?_
  refine ww_iload_n C dX4_flock_4 1 rfl rfl ?_
  by_cases hv : ¬ x < 0 ∧ x < nI f
  · refine ww_callD C mf_X0_flockAt dX4_flock_5 (ok_X0_flockAt hd hf H.2.2.2.1 (inN_is (by omega) hv)) q_m_X4_146 (by assumption) rfl rfl rfl (Nat.le_of_ble_eq_true rfl) (by exact ⟨Nat.le_of_ble_eq_true rfl, Nat.le_of_ble_eq_true rfl⟩) (by exact ⟨Nat.le_of_ble_eq_true rfl, Nat.le_of_ble_eq_true rfl⟩) ?_
    have hPhv := isF_x hd H.2.2.2.1 (inN_is (by omega) hv)
    refine ww_astore_n C dX4_flock_8 3 rfl (by decide) ?_
    refine ww_iload_n C dX4_flock_9 2 rfl rfl ?_
    by_cases hw : ¬ w < 0 ∧ w < nI 6
    · obtain ⟨k, hk, ek, ck⟩ := sw_cases (by omega) hw
      subst ek
      rcases (show k = 0 ∨ k = 1 ∨ k = 2 ∨ k = 3 ∨ k = 4 ∨ k = 5 by omega) with rfl | rfl | rfl | rfl | rfl | rfl
      · refine ww_tabIn C dX4_flock_10 38 48 (by decide) (by decide) (by decide) (by decide) ?_
        refine ww_aload_n C dX4_flock_48 3 rfl rfl ?_
        refine ww_getF C (by assumption) 0 (by decide) q_f_X4_167 dX4_flock_49 ?_
        exact ww_xret (mc := 1) (ms := 6) (by simp only [x_flock, x_flockV, rI, hv, hw, ck, not_false_eq_true, and_self, if_true, if_false]; try rfl; done) (ww_wide 1 6 (Nat.le_of_ble_eq_true rfl) (Nat.le_of_ble_eq_true rfl) (ww_iret C hr rfl rfl dX4_flock_52))
      · refine ww_tabIn C dX4_flock_10 43 53 (by decide) (by decide) (by decide) (by decide) ?_
        refine ww_aload_n C dX4_flock_53 3 rfl rfl ?_
        refine ww_getF C (by assumption) 1 (by decide) q_f_X4_157 dX4_flock_54 ?_
        exact ww_xret (mc := 1) (ms := 6) (by simp only [x_flock, x_flockV, rI, hv, hw, ck, not_false_eq_true, and_self, if_true, if_false]; try rfl; done) (ww_wide 1 6 (Nat.le_of_ble_eq_true rfl) (Nat.le_of_ble_eq_true rfl) (ww_iret C hr rfl rfl dX4_flock_57))
      · refine ww_tabIn C dX4_flock_10 48 58 (by decide) (by decide) (by decide) (by decide) ?_
        refine ww_aload_n C dX4_flock_58 3 rfl rfl ?_
        refine ww_getF C (by assumption) 2 (by decide) q_f_X4_170 dX4_flock_59 ?_
        exact ww_xret (mc := 1) (ms := 6) (by simp only [x_flock, x_flockV, rI, hv, hw, ck, not_false_eq_true, and_self, if_true, if_false]; try rfl; done) (ww_wide 1 6 (Nat.le_of_ble_eq_true rfl) (Nat.le_of_ble_eq_true rfl) (ww_iret C hr rfl rfl dX4_flock_62))
      · refine ww_tabIn C dX4_flock_10 53 63 (by decide) (by decide) (by decide) (by decide) ?_
        refine ww_aload_n C dX4_flock_63 3 rfl rfl ?_
        refine ww_getF C (by assumption) 3 (by decide) q_f_X4_164 dX4_flock_64 ?_
        refine ww_if_eq C dX4_flock_67 74 (by decide) (fun c67 => ?_) (fun c67 => ?_)
        · refine ww_iconst (v := 0) C dX4_flock_74 (by decide) ?_
          exact ww_xret (mc := 1) (ms := 6) (by simp only [x_flock, x_flockV, rI, hv, hw, ck, c67, not_false_eq_true, and_self, if_true, if_false]; try rfl; done) (ww_wide 1 6 (Nat.le_of_ble_eq_true rfl) (Nat.le_of_ble_eq_true rfl) (ww_iret C hr rfl rfl dX4_flock_75))
        · refine ww_iconst (v := 1) C dX4_flock_70 (by decide) ?_
          refine ww_goto C dX4_flock_71 75 (by decide) ?_
          exact ww_xret (mc := 1) (ms := 6) (by simp only [x_flock, x_flockV, rI, hv, hw, ck, c67, not_false_eq_true, and_self, if_true, if_false]; try rfl; done) (ww_wide 1 6 (Nat.le_of_ble_eq_true rfl) (Nat.le_of_ble_eq_true rfl) (ww_iret C hr rfl rfl dX4_flock_75))
      · refine ww_tabIn C dX4_flock_10 66 76 (by decide) (by decide) (by decide) (by decide) ?_
        refine ww_aload_n C dX4_flock_76 3 rfl rfl ?_
        refine ww_callF C mf_X1_isLost dX4_flock_77 (ct_X1_isLost hPhv) q_m_X4_150 (by assumption) rfl rfl rfl (Nat.le_of_ble_eq_true rfl) (by exact ⟨Nat.le_of_ble_eq_true rfl, Nat.le_of_ble_eq_true rfl⟩) (by exact ⟨Nat.le_of_ble_eq_true rfl, Nat.le_of_ble_eq_true rfl⟩) ?_
        refine ww_if_eq C dX4_flock_80 87 (by decide) (fun c80 => ?_) (fun c80 => ?_)
        · refine ww_iconst (v := 0) C dX4_flock_87 (by decide) ?_
          exact ww_xret (mc := 1) (ms := 6) (by simp only [x_flock, x_flockV, rI, hv, hw, ck, c80, not_false_eq_true, and_self, if_true, if_false]; try rfl; done) (ww_wide 1 6 (Nat.le_of_ble_eq_true rfl) (Nat.le_of_ble_eq_true rfl) (ww_iret C hr rfl rfl dX4_flock_88))
        · refine ww_iconst (v := 1) C dX4_flock_83 (by decide) ?_
          refine ww_goto C dX4_flock_84 88 (by decide) ?_
          exact ww_xret (mc := 1) (ms := 6) (by simp only [x_flock, x_flockV, rI, hv, hw, ck, c80, not_false_eq_true, and_self, if_true, if_false]; try rfl; done) (ww_wide 1 6 (Nat.le_of_ble_eq_true rfl) (Nat.le_of_ble_eq_true rfl) (ww_iret C hr rfl rfl dX4_flock_88))
      · refine ww_tabIn C dX4_flock_10 79 89 (by decide) (by decide) (by decide) (by decide) ?_
        refine ww_aload_n C dX4_flock_89 3 rfl rfl ?_
        refine ww_getF C (by assumption) 4 (by decide) q_f_X4_173 dX4_flock_90 ?_
        exact ww_xret (mc := 1) (ms := 6) (by simp only [x_flock, x_flockV, rI, hv, hw, ck, not_false_eq_true, and_self, if_true, if_false]; try rfl; done) (ww_wide 1 6 (Nat.le_of_ble_eq_true rfl) (Nat.le_of_ble_eq_true rfl) (ww_iret C hr rfl rfl dX4_flock_93))
    · refine ww_tabOut C dX4_flock_10 94 (sw_out (n := 6) (by omega) rfl hw) (by decide) ?_
      exact ww_throw (cls := E_I) (text := "what is not 0 to 5") C hE hex hst (by simp only [x_flock, x_flockV, rI, hv, hw, not_false_eq_true, and_self, if_true, if_false]; try rfl; done) (by decide +kernel) q_k_X4_114 q_n_E_I (by decide +kernel) gx_X4_118 gy_X4_118 dX4_flock_94 dX4_flock_97 dX4_flock_98 dX4_flock_100 dX4_flock_103 (Nat.le_of_ble_eq_true rfl) (Nat.le_of_ble_eq_true rfl) (Nat.le_of_ble_eq_true rfl) (Nat.le_of_ble_eq_true rfl) (Nat.le_of_ble_eq_true rfl) (Nat.le_of_ble_eq_true rfl)
  · exact ww_callVx C hE hex (by simp only [x_flock, rI, hv, not_false_eq_true, and_self, if_true, if_false]; try rfl; done) mf_X0_flockAt dX4_flock_5 (xt_X0_flockAt hst hd hf H.2.2.2.1 (fun z => hv (is_inN (by omega) z))) q_m_X4_146 (isD_lt (by assumption)) (ci := 0) rfl rfl ⟨_, ce_D (by assumption)⟩ rfl rfl (Nat.le_of_ble_eq_true rfl) (by exact ⟨Nat.le_of_ble_eq_true rfl, Nat.le_of_ble_eq_true rfl⟩) (by exact ⟨Nat.le_of_ble_eq_true rfl, Nat.le_of_ble_eq_true rfl⟩) (Nat.le_of_ble_eq_true rfl) (Nat.le_of_ble_eq_true rfl)
set_option maxRecDepth 100000 in
set_option maxHeartbeats 4000000 in
theorem ok_X4_flock {g : gW} {l : Launch} {h : Hp} {n f : Nat} (H : OK 1 n f h) {x : Int32} {k : Nat} (hx : isN f x) (hk : k < 6) : CT g l yX4_flock cX4_flock 4 (some FieldType.int) 4 0 0 [.ref (gB g + 0), .int x, .int (nI k)] h (some (.int (x_flockV h x k))) h := by
  refine CT.of (lv0 := [(0, .ref (gB g + 0)), (1, .int x), (2, .int (nI k))]) mf_X4_flock.1.2.2.2 (Nat.le_of_ble_eq_true rfl) rfl ?_
  intro p e s m below meth c C hr
  have hd : isD 1 := Or.inl rfl
  have hn := H.1
  have hn10 := H.2.1
  have hf := H.2.2.1
  have hf6 : f ≤ 6 := H.2.2.2.1
  have hPhv := isF_x hd H.2.2.2.1 hx
  refine ww_aload_n C dX4_flock_0 0 rfl rfl ?_
  refine ww_getXd C q_f_X4_14 dX4_flock_1 ?_
  refine ww_iload_n C dX4_flock_4 1 rfl rfl ?_
  refine ww_callD C mf_X0_flockAt dX4_flock_5 (ok_X0_flockAt hd hf H.2.2.2.1 hx) q_m_X4_146 (by assumption) rfl rfl rfl (Nat.le_of_ble_eq_true rfl) (by exact ⟨Nat.le_of_ble_eq_true rfl, Nat.le_of_ble_eq_true rfl⟩) (by exact ⟨Nat.le_of_ble_eq_true rfl, Nat.le_of_ble_eq_true rfl⟩) ?_
  refine ww_astore_n C dX4_flock_8 3 rfl (by decide) ?_
  refine ww_iload_n C dX4_flock_9 2 rfl rfl ?_
  rcases (show k = 0 ∨ k = 1 ∨ k = 2 ∨ k = 3 ∨ k = 4 ∨ k = 5 by omega) with rfl | rfl | rfl | rfl | rfl | rfl
  · refine ww_tabIn C dX4_flock_10 38 48 (by decide) (by decide) (by decide) (by decide) ?_
    refine ww_aload_n C dX4_flock_48 3 rfl rfl ?_
    refine ww_getF C (by assumption) 0 (by decide) q_f_X4_167 dX4_flock_49 ?_
    exact ww_iret C hr (by simp only [x_flockV, if_true, if_false]) rfl dX4_flock_52
  · refine ww_tabIn C dX4_flock_10 43 53 (by decide) (by decide) (by decide) (by decide) ?_
    refine ww_aload_n C dX4_flock_53 3 rfl rfl ?_
    refine ww_getF C (by assumption) 1 (by decide) q_f_X4_157 dX4_flock_54 ?_
    exact ww_iret C hr (by simp only [x_flockV, if_true, if_false]) rfl dX4_flock_57
  · refine ww_tabIn C dX4_flock_10 48 58 (by decide) (by decide) (by decide) (by decide) ?_
    refine ww_aload_n C dX4_flock_58 3 rfl rfl ?_
    refine ww_getF C (by assumption) 2 (by decide) q_f_X4_170 dX4_flock_59 ?_
    exact ww_iret C hr (by simp only [x_flockV, if_true, if_false]) rfl dX4_flock_62
  · refine ww_tabIn C dX4_flock_10 53 63 (by decide) (by decide) (by decide) (by decide) ?_
    refine ww_aload_n C dX4_flock_63 3 rfl rfl ?_
    refine ww_getF C (by assumption) 3 (by decide) q_f_X4_164 dX4_flock_64 ?_
    refine ww_if_eq C dX4_flock_67 74 (by decide) (fun c67 => ?_) (fun c67 => ?_)
    · refine ww_iconst (v := 0) C dX4_flock_74 (by decide) ?_
      exact ww_iret C hr (by simp only [x_flockV, c67, if_true, if_false]) rfl dX4_flock_75
    · refine ww_iconst (v := 1) C dX4_flock_70 (by decide) ?_
      refine ww_goto C dX4_flock_71 75 (by decide) ?_
      exact ww_iret C hr (by simp only [x_flockV, c67, if_true, if_false]) rfl dX4_flock_75
  · refine ww_tabIn C dX4_flock_10 66 76 (by decide) (by decide) (by decide) (by decide) ?_
    refine ww_aload_n C dX4_flock_76 3 rfl rfl ?_
    refine ww_callF C mf_X1_isLost dX4_flock_77 (ct_X1_isLost hPhv) q_m_X4_150 (by assumption) rfl rfl rfl (Nat.le_of_ble_eq_true rfl) (by exact ⟨Nat.le_of_ble_eq_true rfl, Nat.le_of_ble_eq_true rfl⟩) (by exact ⟨Nat.le_of_ble_eq_true rfl, Nat.le_of_ble_eq_true rfl⟩) ?_
    refine ww_if_eq C dX4_flock_80 87 (by decide) (fun c80 => ?_) (fun c80 => ?_)
    · refine ww_iconst (v := 0) C dX4_flock_87 (by decide) ?_
      exact ww_iret C hr (by simp only [x_flockV, c80, if_true, if_false]) rfl dX4_flock_88
    · refine ww_iconst (v := 1) C dX4_flock_83 (by decide) ?_
      refine ww_goto C dX4_flock_84 88 (by decide) ?_
      exact ww_iret C hr (by simp only [x_flockV, c80, if_true, if_false]) rfl dX4_flock_88
  · refine ww_tabIn C dX4_flock_10 79 89 (by decide) (by decide) (by decide) (by decide) ?_
    refine ww_aload_n C dX4_flock_89 3 rfl rfl ?_
    refine ww_getF C (by assumption) 4 (by decide) q_f_X4_173 dX4_flock_90 ?_
    exact ww_iret C hr (by simp only [x_flockV, if_true, if_false]) rfl dX4_flock_93
set_option maxRecDepth 100000 in
set_option maxHeartbeats 4000000 in
theorem xt_X4_count {g : gW} {l : Launch} {h : Hp} (hst : l.stackTraces = false) {n f : Nat} (H : OK 1 n f h) {w : Int32} : XT g l yX4_count cX4_count 2 (some FieldType.int) 7 [.ref (gB g + 0), .int w] h (x_count n f h w) := by
  refine XT.of (lv0 := [(0, .ref (gB g + 0)), (1, .int w)]) (by decide +kernel) (Nat.le_of_ble_eq_true rfl) rfl ?_
  intro p e s m below meth c C hE hex hr
  have hd : isD 1 := Or.inl rfl
  have hn := H.1
  have hn10 := H.2.1
  have hf := H.2.2.1
  have hf6 : f ≤ 6 := H.2.2.2.1
  refine ww_iload_n C dX4_count_0 1 rfl rfl ?_
  by_cases hw : ¬ w < 0 ∧ w < nI 8
  · obtain ⟨k, hk, ek, ck⟩ := sw_cases (by omega) hw
    subst ek
    rcases (show k = 0 ∨ k = 1 ∨ k = 2 ∨ k = 3 ∨ k = 4 ∨ k = 5 ∨ k = 6 ∨ k = 7 by omega) with rfl | rfl | rfl | rfl | rfl | rfl | rfl | rfl
    · refine ww_tabIn C dX4_count_1 47 48 (by decide) (by decide) (by decide) (by decide) ?_
      refine ww_aload_n C dX4_count_48 0 rfl rfl ?_
      refine ww_getXd C q_f_X4_14 dX4_count_49 ?_
      refine ww_getD C (by assumption) 6 (by decide) q_f_X4_183 dX4_count_52 ?_
      exact ww_xret (mc := 1) (ms := 6) (by simp only [x_count, x_countV, rI, hw, ck, not_false_eq_true, and_self, if_true, if_false]; try rfl; done) (ww_wide 1 6 (Nat.le_of_ble_eq_true rfl) (Nat.le_of_ble_eq_true rfl) (ww_iret C hr rfl rfl dX4_count_55))
    · refine ww_tabIn C dX4_count_1 55 56 (by decide) (by decide) (by decide) (by decide) ?_
      refine ww_aload_n C dX4_count_56 0 rfl rfl ?_
      refine ww_getXd C q_f_X4_14 dX4_count_57 ?_
      refine ww_getD C (by assumption) 4 (by decide) q_f_X4_186 dX4_count_60 ?_
      exact ww_xret (mc := 1) (ms := 6) (by simp only [x_count, x_countV, rI, hw, ck, not_false_eq_true, and_self, if_true, if_false]; try rfl; done) (ww_wide 1 6 (Nat.le_of_ble_eq_true rfl) (Nat.le_of_ble_eq_true rfl) (ww_iret C hr rfl rfl dX4_count_63))
    · refine ww_tabIn C dX4_count_1 63 64 (by decide) (by decide) (by decide) (by decide) ?_
      refine ww_aload_n C dX4_count_64 0 rfl rfl ?_
      refine ww_getXd C q_f_X4_14 dX4_count_65 ?_
      refine ww_getD C (by assumption) 5 (by decide) q_f_X4_189 dX4_count_68 ?_
      exact ww_xret (mc := 1) (ms := 6) (by simp only [x_count, x_countV, rI, hw, ck, not_false_eq_true, and_self, if_true, if_false]; try rfl; done) (ww_wide 1 6 (Nat.le_of_ble_eq_true rfl) (Nat.le_of_ble_eq_true rfl) (ww_iret C hr rfl rfl dX4_count_71))
    · refine ww_tabIn C dX4_count_1 71 72 (by decide) (by decide) (by decide) (by decide) ?_
      refine ww_aload_n C dX4_count_72 0 rfl rfl ?_
      refine ww_getXd C q_f_X4_14 dX4_count_73 ?_
      refine ww_callD C mf_X0_lostFlocks dX4_count_76 (ct_X0_lostFlocks hd hf H.2.2.2.1) q_m_X4_192 (by assumption) rfl rfl rfl (Nat.le_of_ble_eq_true rfl) (by exact ⟨Nat.le_of_ble_eq_true rfl, Nat.le_of_ble_eq_true rfl⟩) (by exact ⟨Nat.le_of_ble_eq_true rfl, Nat.le_of_ble_eq_true rfl⟩) ?_
      exact ww_xret (mc := 1) (ms := 6) (by simp only [x_count, x_countV, rI, hw, ck, not_false_eq_true, and_self, if_true, if_false]; try rfl; done) (ww_wide 1 6 (Nat.le_of_ble_eq_true rfl) (Nat.le_of_ble_eq_true rfl) (ww_iret C hr rfl rfl dX4_count_79))
    · refine ww_tabIn C dX4_count_1 79 80 (by decide) (by decide) (by decide) (by decide) ?_
      refine ww_aload_n C dX4_count_80 0 rfl rfl ?_
      refine ww_getXd C q_f_X4_14 dX4_count_81 ?_
      refine ww_getD C (by assumption) 7 (by decide) q_f_X4_64 dX4_count_84 ?_
      exact ww_xret (mc := 1) (ms := 6) (by simp only [x_count, x_countV, rI, hw, ck, not_false_eq_true, and_self, if_true, if_false]; try rfl; done) (ww_wide 1 6 (Nat.le_of_ble_eq_true rfl) (Nat.le_of_ble_eq_true rfl) (ww_iret C hr rfl rfl dX4_count_87))
    · refine ww_tabIn C dX4_count_1 87 88 (by decide) (by decide) (by decide) (by decide) ?_
      refine ww_aload_n C dX4_count_88 0 rfl rfl ?_
      refine ww_getXd C q_f_X4_14 dX4_count_89 ?_
      refine ww_callD C mf_X0_allWater dX4_count_92 (ct_X0_allWater hd hn hn10) q_m_X4_195 (by assumption) rfl rfl rfl (Nat.le_of_ble_eq_true rfl) (by exact ⟨Nat.le_of_ble_eq_true rfl, Nat.le_of_ble_eq_true rfl⟩) (by exact ⟨Nat.le_of_ble_eq_true rfl, Nat.le_of_ble_eq_true rfl⟩) ?_
      exact ww_xret (mc := 1) (ms := 6) (by simp only [x_count, x_countV, rI, hw, ck, not_false_eq_true, and_self, if_true, if_false]; try rfl; done) (ww_wide 1 6 (Nat.le_of_ble_eq_true rfl) (Nat.le_of_ble_eq_true rfl) (ww_iret C hr rfl rfl dX4_count_95))
    · refine ww_tabIn C dX4_count_1 95 96 (by decide) (by decide) (by decide) (by decide) ?_
      refine ww_aload_n C dX4_count_96 0 rfl rfl ?_
      refine ww_getXd C q_f_X4_14 dX4_count_97 ?_
      refine ww_callD C mf_X0_emptyPonds dX4_count_100 (ct_X0_emptyPonds hd hn hn10) q_m_X4_198 (by assumption) rfl rfl rfl (Nat.le_of_ble_eq_true rfl) (by exact ⟨Nat.le_of_ble_eq_true rfl, Nat.le_of_ble_eq_true rfl⟩) (by exact ⟨Nat.le_of_ble_eq_true rfl, Nat.le_of_ble_eq_true rfl⟩) ?_
      exact ww_xret (mc := 1) (ms := 6) (by simp only [x_count, x_countV, rI, hw, ck, not_false_eq_true, and_self, if_true, if_false]; try rfl; done) (ww_wide 1 6 (Nat.le_of_ble_eq_true rfl) (Nat.le_of_ble_eq_true rfl) (ww_iret C hr rfl rfl dX4_count_103))
    · refine ww_tabIn C dX4_count_1 103 104 (by decide) (by decide) (by decide) (by decide) ?_
      refine ww_aload_n C dX4_count_104 0 rfl rfl ?_
      refine ww_getXd C q_f_X4_14 dX4_count_105 ?_
      refine ww_callD C mf_X0_livingSheep dX4_count_108 (ct_X0_livingSheep hd hf H.2.2.2.1) q_m_X4_201 (by assumption) rfl rfl rfl (Nat.le_of_ble_eq_true rfl) (by exact ⟨Nat.le_of_ble_eq_true rfl, Nat.le_of_ble_eq_true rfl⟩) (by exact ⟨Nat.le_of_ble_eq_true rfl, Nat.le_of_ble_eq_true rfl⟩) ?_
      exact ww_xret (mc := 1) (ms := 6) (by simp only [x_count, x_countV, rI, hw, ck, not_false_eq_true, and_self, if_true, if_false]; try rfl; done) (ww_wide 1 6 (Nat.le_of_ble_eq_true rfl) (Nat.le_of_ble_eq_true rfl) (ww_iret C hr rfl rfl dX4_count_111))
  · refine ww_tabOut C dX4_count_1 112 (sw_out (n := 8) (by omega) rfl hw) (by decide) ?_
    exact ww_throw (cls := E_I) (text := "what is not 0 to 7") C hE hex hst (by simp only [x_count, x_countV, rI, hw, not_false_eq_true, and_self, if_true, if_false]; try rfl; done) (by decide +kernel) q_k_X4_114 q_n_E_I (by decide +kernel) gx_X4_118 gy_X4_118 dX4_count_112 dX4_count_115 dX4_count_116 dX4_count_118 dX4_count_121 (Nat.le_of_ble_eq_true rfl) (Nat.le_of_ble_eq_true rfl) (Nat.le_of_ble_eq_true rfl) (Nat.le_of_ble_eq_true rfl) (Nat.le_of_ble_eq_true rfl) (Nat.le_of_ble_eq_true rfl)
set_option maxRecDepth 100000 in
set_option maxHeartbeats 4000000 in
theorem ok_X4_count {g : gW} {l : Launch} {h : Hp} {n f : Nat} (H : OK 1 n f h) {k : Nat} (hk : k < 8) : CT g l yX4_count cX4_count 2 (some FieldType.int) 4 0 0 [.ref (gB g + 0), .int (nI k)] h (some (.int (x_countV n f h k))) h := by
  refine CT.of (lv0 := [(0, .ref (gB g + 0)), (1, .int (nI k))]) mf_X4_count.1.2.2.2 (Nat.le_of_ble_eq_true rfl) rfl ?_
  intro p e s m below meth c C hr
  have hd : isD 1 := Or.inl rfl
  have hn := H.1
  have hn10 := H.2.1
  have hf := H.2.2.1
  have hf6 : f ≤ 6 := H.2.2.2.1
  refine ww_iload_n C dX4_count_0 1 rfl rfl ?_
  rcases (show k = 0 ∨ k = 1 ∨ k = 2 ∨ k = 3 ∨ k = 4 ∨ k = 5 ∨ k = 6 ∨ k = 7 by omega) with rfl | rfl | rfl | rfl | rfl | rfl | rfl | rfl
  · refine ww_tabIn C dX4_count_1 47 48 (by decide) (by decide) (by decide) (by decide) ?_
    refine ww_aload_n C dX4_count_48 0 rfl rfl ?_
    refine ww_getXd C q_f_X4_14 dX4_count_49 ?_
    refine ww_getD C (by assumption) 6 (by decide) q_f_X4_183 dX4_count_52 ?_
    exact ww_iret C hr (by simp only [x_countV, if_true, if_false]) rfl dX4_count_55
  · refine ww_tabIn C dX4_count_1 55 56 (by decide) (by decide) (by decide) (by decide) ?_
    refine ww_aload_n C dX4_count_56 0 rfl rfl ?_
    refine ww_getXd C q_f_X4_14 dX4_count_57 ?_
    refine ww_getD C (by assumption) 4 (by decide) q_f_X4_186 dX4_count_60 ?_
    exact ww_iret C hr (by simp only [x_countV, if_true, if_false]) rfl dX4_count_63
  · refine ww_tabIn C dX4_count_1 63 64 (by decide) (by decide) (by decide) (by decide) ?_
    refine ww_aload_n C dX4_count_64 0 rfl rfl ?_
    refine ww_getXd C q_f_X4_14 dX4_count_65 ?_
    refine ww_getD C (by assumption) 5 (by decide) q_f_X4_189 dX4_count_68 ?_
    exact ww_iret C hr (by simp only [x_countV, if_true, if_false]) rfl dX4_count_71
  · refine ww_tabIn C dX4_count_1 71 72 (by decide) (by decide) (by decide) (by decide) ?_
    refine ww_aload_n C dX4_count_72 0 rfl rfl ?_
    refine ww_getXd C q_f_X4_14 dX4_count_73 ?_
    refine ww_callD C mf_X0_lostFlocks dX4_count_76 (ct_X0_lostFlocks hd hf H.2.2.2.1) q_m_X4_192 (by assumption) rfl rfl rfl (Nat.le_of_ble_eq_true rfl) (by exact ⟨Nat.le_of_ble_eq_true rfl, Nat.le_of_ble_eq_true rfl⟩) (by exact ⟨Nat.le_of_ble_eq_true rfl, Nat.le_of_ble_eq_true rfl⟩) ?_
    exact ww_iret C hr (by simp only [x_countV, if_true, if_false]) rfl dX4_count_79
  · refine ww_tabIn C dX4_count_1 79 80 (by decide) (by decide) (by decide) (by decide) ?_
    refine ww_aload_n C dX4_count_80 0 rfl rfl ?_
    refine ww_getXd C q_f_X4_14 dX4_count_81 ?_
    refine ww_getD C (by assumption) 7 (by decide) q_f_X4_64 dX4_count_84 ?_
    exact ww_iret C hr (by simp only [x_countV, if_true, if_false]) rfl dX4_count_87
  · refine ww_tabIn C dX4_count_1 87 88 (by decide) (by decide) (by decide) (by decide) ?_
    refine ww_aload_n C dX4_count_88 0 rfl rfl ?_
    refine ww_getXd C q_f_X4_14 dX4_count_89 ?_
    refine ww_callD C mf_X0_allWater dX4_count_92 (ct_X0_allWater hd hn hn10) q_m_X4_195 (by assumption) rfl rfl rfl (Nat.le_of_ble_eq_true rfl) (by exact ⟨Nat.le_of_ble_eq_true rfl, Nat.le_of_ble_eq_true rfl⟩) (by exact ⟨Nat.le_of_ble_eq_true rfl, Nat.le_of_ble_eq_true rfl⟩) ?_
    exact ww_iret C hr (by simp only [x_countV, if_true, if_false]) rfl dX4_count_95
  · refine ww_tabIn C dX4_count_1 95 96 (by decide) (by decide) (by decide) (by decide) ?_
    refine ww_aload_n C dX4_count_96 0 rfl rfl ?_
    refine ww_getXd C q_f_X4_14 dX4_count_97 ?_
    refine ww_callD C mf_X0_emptyPonds dX4_count_100 (ct_X0_emptyPonds hd hn hn10) q_m_X4_198 (by assumption) rfl rfl rfl (Nat.le_of_ble_eq_true rfl) (by exact ⟨Nat.le_of_ble_eq_true rfl, Nat.le_of_ble_eq_true rfl⟩) (by exact ⟨Nat.le_of_ble_eq_true rfl, Nat.le_of_ble_eq_true rfl⟩) ?_
    exact ww_iret C hr (by simp only [x_countV, if_true, if_false]) rfl dX4_count_103
  · refine ww_tabIn C dX4_count_1 103 104 (by decide) (by decide) (by decide) (by decide) ?_
    refine ww_aload_n C dX4_count_104 0 rfl rfl ?_
    refine ww_getXd C q_f_X4_14 dX4_count_105 ?_
    refine ww_callD C mf_X0_livingSheep dX4_count_108 (ct_X0_livingSheep hd hf H.2.2.2.1) q_m_X4_201 (by assumption) rfl rfl rfl (Nat.le_of_ble_eq_true rfl) (by exact ⟨Nat.le_of_ble_eq_true rfl, Nat.le_of_ble_eq_true rfl⟩) (by exact ⟨Nat.le_of_ble_eq_true rfl, Nat.le_of_ble_eq_true rfl⟩) ?_
    exact ww_iret C hr (by simp only [x_countV, if_true, if_false]) rfl dX4_count_111
set_option maxRecDepth 100000 in
set_option maxHeartbeats 4000000 in
theorem xt_X4_dig {g : gW} {l : Launch} {h : Hp} (hst : l.stackTraces = false) {n f : Nat} (H : OK 1 n f h) {x y ht sz dp : Int32} : XT g l yX4_dig cX4_dig 6 (some FieldType.int) 7 [.ref (gB g + 0), .int x, .int y, .int ht, .int sz, .int dp] h (x_dig n h x y ht sz dp) := by
  refine XT.of (lv0 := [(0, .ref (gB g + 0)), (1, .int x), (2, .int y), (3, .int ht), (4, .int sz), (5, .int dp)]) (by decide +kernel) (Nat.le_of_ble_eq_true rfl) rfl ?_
  intro p e s m below meth c C hE hex hr
  have hd : isD 1 := Or.inl rfl
  have hn := H.1
  have hn10 := H.2.1
  have hf := H.2.2.1
  have hf6 : f ≤ 6 := H.2.2.2.1
  refine ww_iload_n C dX4_dig_0 1 rfl rfl ?_
  refine ww_iconst (v := 0) C dX4_dig_1 (by decide) ?_
  refine ww_bipush (v := 40) C dX4_dig_2 (by decide) ?_
  refine ww_callS C mf_X4_isWithin (ct_X4_isWithin) q_m_X4_21 rfl rfl (Nat.le_of_ble_eq_true rfl) (by exact ⟨Nat.le_of_ble_eq_true rfl, Nat.le_of_ble_eq_true rfl⟩) (by exact ⟨Nat.le_of_ble_eq_true rfl, Nat.le_of_ble_eq_true rfl⟩) dX4_dig_4 ?_
  refine ww_if_eq C dX4_dig_7 20 (by decide) (fun c7 => ?_) (fun c7 => ?_)
  · exact ww_throw (cls := E_A) (text := "x or y is not 0 to 40") C hE hex hst (by simp only [x_dig, rI, c7, not_false_eq_true, and_self, if_true, if_false]; try rfl; done) (by decide +kernel) q_k_X4_25 q_n_E_A (by decide +kernel) gx_X4_29 gy_X4_29 dX4_dig_20 dX4_dig_23 dX4_dig_24 dX4_dig_26 dX4_dig_29 (Nat.le_of_ble_eq_true rfl) (Nat.le_of_ble_eq_true rfl) (Nat.le_of_ble_eq_true rfl) (Nat.le_of_ble_eq_true rfl) (Nat.le_of_ble_eq_true rfl) (Nat.le_of_ble_eq_true rfl)
  · refine ww_iload_n C dX4_dig_10 2 rfl rfl ?_
    refine ww_iconst (v := 0) C dX4_dig_11 (by decide) ?_
    refine ww_bipush (v := 40) C dX4_dig_12 (by decide) ?_
    refine ww_callS C mf_X4_isWithin (ct_X4_isWithin) q_m_X4_21 rfl rfl (Nat.le_of_ble_eq_true rfl) (by exact ⟨Nat.le_of_ble_eq_true rfl, Nat.le_of_ble_eq_true rfl⟩) (by exact ⟨Nat.le_of_ble_eq_true rfl, Nat.le_of_ble_eq_true rfl⟩) dX4_dig_14 ?_
    refine ww_if_ne C dX4_dig_17 30 (by decide) (fun c17 => ?_) (fun c17 => ?_)
    · refine ww_iload_n C dX4_dig_30 3 rfl rfl ?_
      refine ww_iconst (v := 0) C dX4_dig_31 (by decide) ?_
      refine ww_sipush (v := 300) C dX4_dig_32 (by decide) ?_
      refine ww_callS C mf_X4_isWithin (ct_X4_isWithin) q_m_X4_21 rfl rfl (Nat.le_of_ble_eq_true rfl) (by exact ⟨Nat.le_of_ble_eq_true rfl, Nat.le_of_ble_eq_true rfl⟩) (by exact ⟨Nat.le_of_ble_eq_true rfl, Nat.le_of_ble_eq_true rfl⟩) dX4_dig_35 ?_
      refine ww_if_eq C dX4_dig_38 63 (by decide) (fun c38 => ?_) (fun c38 => ?_)
      · exact ww_throw (cls := E_A) (text := "height is not 0 to 300, size not 1 to 60, or depth not 1 to 9") C hE hex hst (by simp only [x_dig, rI, c7, c17, c38, not_false_eq_true, and_self, if_true, if_false]; try rfl; done) (by decide +kernel) q_k_X4_25 q_n_E_A (by decide +kernel) gx_X4_29 gy_X4_29 dX4_dig_63 dX4_dig_66 dX4_dig_67 dX4_dig_69 dX4_dig_72 (Nat.le_of_ble_eq_true rfl) (Nat.le_of_ble_eq_true rfl) (Nat.le_of_ble_eq_true rfl) (Nat.le_of_ble_eq_true rfl) (Nat.le_of_ble_eq_true rfl) (Nat.le_of_ble_eq_true rfl)
      · refine ww_iload C dX4_dig_41 rfl ?_
        refine ww_iconst (v := 1) C dX4_dig_43 (by decide) ?_
        refine ww_bipush (v := 60) C dX4_dig_44 (by decide) ?_
        refine ww_callS C mf_X4_isWithin (ct_X4_isWithin) q_m_X4_21 rfl rfl (Nat.le_of_ble_eq_true rfl) (by exact ⟨Nat.le_of_ble_eq_true rfl, Nat.le_of_ble_eq_true rfl⟩) (by exact ⟨Nat.le_of_ble_eq_true rfl, Nat.le_of_ble_eq_true rfl⟩) dX4_dig_46 ?_
        refine ww_if_eq C dX4_dig_49 63 (by decide) (fun c49 => ?_) (fun c49 => ?_)
        · exact ww_throw (cls := E_A) (text := "height is not 0 to 300, size not 1 to 60, or depth not 1 to 9") C hE hex hst (by simp only [x_dig, rI, c7, c17, c38, c49, not_false_eq_true, and_self, if_true, if_false]; try rfl; done) (by decide +kernel) q_k_X4_25 q_n_E_A (by decide +kernel) gx_X4_29 gy_X4_29 dX4_dig_63 dX4_dig_66 dX4_dig_67 dX4_dig_69 dX4_dig_72 (Nat.le_of_ble_eq_true rfl) (Nat.le_of_ble_eq_true rfl) (Nat.le_of_ble_eq_true rfl) (Nat.le_of_ble_eq_true rfl) (Nat.le_of_ble_eq_true rfl) (Nat.le_of_ble_eq_true rfl)
        · refine ww_iload C dX4_dig_52 rfl ?_
          refine ww_iconst (v := 1) C dX4_dig_54 (by decide) ?_
          refine ww_bipush (v := 9) C dX4_dig_55 (by decide) ?_
          refine ww_callS C mf_X4_isWithin (ct_X4_isWithin) q_m_X4_21 rfl rfl (Nat.le_of_ble_eq_true rfl) (by exact ⟨Nat.le_of_ble_eq_true rfl, Nat.le_of_ble_eq_true rfl⟩) (by exact ⟨Nat.le_of_ble_eq_true rfl, Nat.le_of_ble_eq_true rfl⟩) dX4_dig_57 ?_
          refine ww_if_ne C dX4_dig_60 73 (by decide) (fun c60 => ?_) (fun c60 => ?_)
          · refine ww_aload_n C dX4_dig_73 0 rfl rfl ?_
            refine ww_getXd C q_f_X4_14 dX4_dig_74 ?_
            refine ww_iload_n C dX4_dig_77 1 rfl rfl ?_
            refine ww_iload_n C dX4_dig_78 2 rfl rfl ?_
            refine ww_iload_n C dX4_dig_79 3 rfl rfl ?_
            refine ww_iload C dX4_dig_80 rfl ?_
            refine ww_iload C dX4_dig_82 rfl ?_
            by_cases hq1 : nI n < 10
            · by_cases hq2 : b01 (d_tk h 1 x y n) = 0
              · refine ww_callVr (ci := 0) C hE (show (d_makeR 1 n h x y ht sz dp) = .inl (some (.int (nI n)), d_make 1 n h x y ht sz dp) by simp only [d_makeR, hq1, hq2, if_true]) mf_X0_makePond dX4_dig_84 (xt_X0_makePond hst hd H) q_m_X4_34 (isD_lt hd) rfl rfl ⟨_, ce_D hd⟩ rfl rfl (Nat.le_of_ble_eq_true rfl) (by exact ⟨Nat.le_of_ble_eq_true rfl, Nat.le_of_ble_eq_true rfl⟩) (by exact ⟨Nat.le_of_ble_eq_true rfl, Nat.le_of_ble_eq_true rfl⟩) ?_
                exact ww_xret (mc := 1) (ms := 6) (by simp only [x_dig, d_makeR, hq1, hq2, c7, c17, c38, c49, c60, if_true, if_false]) (ww_iret C hr rfl rfl dX4_dig_87)
              · exact ww_callVx (ci := 0) C hE hex (E := E_S) (by simp only [x_dig, d_makeR, hq1, hq2, c7, c17, c38, c49, c60, if_true, if_false]) mf_X0_makePond dX4_dig_84 ((xt_X0_makePond hst hd H).to (by simp only [d_makeR, hq1, hq2, if_true, if_false])) q_m_X4_34 (isD_lt hd) rfl rfl ⟨_, ce_D hd⟩ rfl rfl (Nat.le_of_ble_eq_true rfl) (by exact ⟨Nat.le_of_ble_eq_true rfl, Nat.le_of_ble_eq_true rfl⟩) (by exact ⟨Nat.le_of_ble_eq_true rfl, Nat.le_of_ble_eq_true rfl⟩) (Nat.le_of_ble_eq_true rfl) (Nat.le_of_ble_eq_true rfl)
            · exact ww_callVx (ci := 0) C hE hex (E := E_S) (by simp only [x_dig, d_makeR, hq1, c7, c17, c38, c49, c60, if_true, if_false]) mf_X0_makePond dX4_dig_84 ((xt_X0_makePond hst hd H).to (by simp only [d_makeR, hq1, if_true, if_false])) q_m_X4_34 (isD_lt hd) rfl rfl ⟨_, ce_D hd⟩ rfl rfl (Nat.le_of_ble_eq_true rfl) (by exact ⟨Nat.le_of_ble_eq_true rfl, Nat.le_of_ble_eq_true rfl⟩) (by exact ⟨Nat.le_of_ble_eq_true rfl, Nat.le_of_ble_eq_true rfl⟩) (Nat.le_of_ble_eq_true rfl) (Nat.le_of_ble_eq_true rfl)
          · exact ww_throw (cls := E_A) (text := "height is not 0 to 300, size not 1 to 60, or depth not 1 to 9") C hE hex hst (by simp only [x_dig, rI, c7, c17, c38, c49, c60, not_false_eq_true, and_self, if_true, if_false]; try rfl; done) (by decide +kernel) q_k_X4_25 q_n_E_A (by decide +kernel) gx_X4_29 gy_X4_29 dX4_dig_63 dX4_dig_66 dX4_dig_67 dX4_dig_69 dX4_dig_72 (Nat.le_of_ble_eq_true rfl) (Nat.le_of_ble_eq_true rfl) (Nat.le_of_ble_eq_true rfl) (Nat.le_of_ble_eq_true rfl) (Nat.le_of_ble_eq_true rfl) (Nat.le_of_ble_eq_true rfl)
    · exact ww_throw (cls := E_A) (text := "x or y is not 0 to 40") C hE hex hst (by simp only [x_dig, rI, c7, c17, not_false_eq_true, and_self, if_true, if_false]; try rfl; done) (by decide +kernel) q_k_X4_25 q_n_E_A (by decide +kernel) gx_X4_29 gy_X4_29 dX4_dig_20 dX4_dig_23 dX4_dig_24 dX4_dig_26 dX4_dig_29 (Nat.le_of_ble_eq_true rfl) (Nat.le_of_ble_eq_true rfl) (Nat.le_of_ble_eq_true rfl) (Nat.le_of_ble_eq_true rfl) (Nat.le_of_ble_eq_true rfl) (Nat.le_of_ble_eq_true rfl)
set_option maxRecDepth 100000 in
set_option maxHeartbeats 4000000 in
theorem xt_X4_addFlock {g : gW} {l : Launch} {h : Hp} (hst : l.stackTraces = false) {n f : Nat} (H : OK 1 n f h) {x a : Int32} : XT g l yX4_addFlock cX4_addFlock 3 (some FieldType.int) 7 [.ref (gB g + 0), .int x, .int a] h (x_addFlock n f h x a) := by
  refine XT.of (lv0 := [(0, .ref (gB g + 0)), (1, .int x), (2, .int a)]) (by decide +kernel) (Nat.le_of_ble_eq_true rfl) rfl ?_
  intro p e s m below meth c C hE hex hr
  have hd : isD 1 := Or.inl rfl
  have hn := H.1
  have hn10 := H.2.1
  have hf := H.2.2.1
  have hf6 : f ≤ 6 := H.2.2.2.1
  refine ww_aload_n C dX4_addFlock_0 0 rfl rfl ?_
  refine ww_getXd C q_f_X4_14 dX4_addFlock_1 ?_
  refine ww_iload_n C dX4_addFlock_4 1 rfl rfl ?_
  by_cases hv : ¬ x < 0 ∧ x < nI n
  · refine ww_callD C mf_X0_pondAt dX4_addFlock_5 (ok_X0_pondAt hd hn hn10 (inN_is (by omega) hv)) q_m_X4_38 (by assumption) rfl rfl rfl (Nat.le_of_ble_eq_true rfl) (by exact ⟨Nat.le_of_ble_eq_true rfl, Nat.le_of_ble_eq_true rfl⟩) (by exact ⟨Nat.le_of_ble_eq_true rfl, Nat.le_of_ble_eq_true rfl⟩) ?_
    have hPhv := isP_x hd hn10 (inN_is (by omega) hv)
    refine ww_pop C dX4_addFlock_8 rfl ?_
    refine ww_iload_n C dX4_addFlock_9 2 rfl rfl ?_
    refine ww_iconst (v := 1) C dX4_addFlock_10 (by decide) ?_
    refine ww_bipush (v := 80) C dX4_addFlock_11 (by decide) ?_
    refine ww_callS C mf_X4_isWithin (ct_X4_isWithin) q_m_X4_21 rfl rfl (Nat.le_of_ble_eq_true rfl) (by exact ⟨Nat.le_of_ble_eq_true rfl, Nat.le_of_ble_eq_true rfl⟩) (by exact ⟨Nat.le_of_ble_eq_true rfl, Nat.le_of_ble_eq_true rfl⟩) dX4_addFlock_13 ?_
    refine ww_if_ne C dX4_addFlock_16 29 (by decide) (fun c16 => ?_) (fun c16 => ?_)
    · refine ww_aload_n C dX4_addFlock_29 0 rfl rfl ?_
      refine ww_getXd C q_f_X4_14 dX4_addFlock_30 ?_
      refine ww_iload_n C dX4_addFlock_33 1 rfl rfl ?_
      refine ww_iload_n C dX4_addFlock_34 2 rfl rfl ?_
      by_cases hq1 : nI f < nI (rmD 1)
      · refine ww_callD C mf_X0_makeFlock dX4_addFlock_35 (ok_X0_makeFlock hd H ((nI_ltI (by omega) (show rmD 1 < 2 ^ 31 by decide)).mp hq1)) q_m_X4_143 hd rfl rfl rfl (Nat.le_of_ble_eq_true rfl) (by exact ⟨Nat.le_of_ble_eq_true rfl, Nat.le_of_ble_eq_true rfl⟩) (by exact ⟨Nat.le_of_ble_eq_true rfl, Nat.le_of_ble_eq_true rfl⟩) ?_
        exact ww_xret (mc := 1) (ms := 6) (by simp only [x_addFlock, d_mkFR, hq1, hv, c16, not_false_eq_true, and_self, if_true, if_false]) (ww_wide 1 6 (Nat.le_of_ble_eq_true rfl) (Nat.le_of_ble_eq_true rfl) (ww_iret C hr rfl rfl dX4_addFlock_38))
      · exact ww_callVx (ci := 0) C hE hex (E := E_S) (by simp only [x_addFlock, d_mkFR, hq1, hv, c16, not_false_eq_true, and_self, if_true, if_false]) mf_X0_makeFlock dX4_addFlock_35 ((xt_X0_makeFlock hst hd H).to (by simp only [d_mkFR, hq1, if_false])) q_m_X4_143 (isD_lt hd) rfl rfl ⟨_, ce_D hd⟩ rfl rfl (Nat.le_of_ble_eq_true rfl) (by exact ⟨Nat.le_of_ble_eq_true rfl, Nat.le_of_ble_eq_true rfl⟩) (by exact ⟨Nat.le_of_ble_eq_true rfl, Nat.le_of_ble_eq_true rfl⟩) (Nat.le_of_ble_eq_true rfl) (Nat.le_of_ble_eq_true rfl)
    · exact ww_throw (cls := E_A) (text := "sheep is not 1 to 80") C hE hex hst (by simp only [x_addFlock, rI, hv, c16, not_false_eq_true, and_self, if_true, if_false]; try rfl; done) (by decide +kernel) q_k_X4_25 q_n_E_A (by decide +kernel) gx_X4_29 gy_X4_29 dX4_addFlock_19 dX4_addFlock_22 dX4_addFlock_23 dX4_addFlock_25 dX4_addFlock_28 (Nat.le_of_ble_eq_true rfl) (Nat.le_of_ble_eq_true rfl) (Nat.le_of_ble_eq_true rfl) (Nat.le_of_ble_eq_true rfl) (Nat.le_of_ble_eq_true rfl) (Nat.le_of_ble_eq_true rfl)
  · exact ww_callVx C hE hex (by simp only [x_addFlock, rI, hv, not_false_eq_true, and_self, if_true, if_false]; try rfl; done) mf_X0_pondAt dX4_addFlock_5 (xt_X0_pondAt hst hd hn hn10 (fun z => hv (is_inN (by omega) z))) q_m_X4_38 (isD_lt (by assumption)) (ci := 0) rfl rfl ⟨_, ce_D (by assumption)⟩ rfl rfl (Nat.le_of_ble_eq_true rfl) (by exact ⟨Nat.le_of_ble_eq_true rfl, Nat.le_of_ble_eq_true rfl⟩) (by exact ⟨Nat.le_of_ble_eq_true rfl, Nat.le_of_ble_eq_true rfl⟩) (Nat.le_of_ble_eq_true rfl) (Nat.le_of_ble_eq_true rfl)
set_option maxRecDepth 100000 in
set_option maxHeartbeats 4000000 in
theorem xt_X4_foresee {g : gW} {l : Launch} {h : Hp} (hst : l.stackTraces = false) {n f t : Nat} (H : OK 1 n f h) (ht : h 1 6 = nI t) (ht31 : t + 300 < 2 ^ 31) {x k : Int32} : XT g l yX4_foresee cX4_foresee 3 (some FieldType.int) 7 [.ref (gB g + 0), .int x, .int k] h (x_foresee n f t h x k) := by
  refine XT.of (lv0 := [(0, .ref (gB g + 0)), (1, .int x), (2, .int k)]) (by decide +kernel) (Nat.le_of_ble_eq_true rfl) rfl ?_
  intro p e s m below meth c C hE hex hr
  have hd : isD 1 := Or.inl rfl
  have hn := H.1
  have hn10 := H.2.1
  have hf := H.2.2.1
  have hf6 : f ≤ 6 := H.2.2.2.1
  have hd32 : isD 32 := Or.inr rfl
  have ht32 : d_like n f h 32 6 = nI t := by rw [like_d (Or.inl rfl)]; exact ht
  refine ww_aload_n C dX4_foresee_0 0 rfl rfl ?_
  refine ww_getXd C q_f_X4_14 dX4_foresee_1 ?_
  refine ww_iload_n C dX4_foresee_4 1 rfl rfl ?_
  by_cases hv : ¬ x < 0 ∧ x < nI n
  · refine ww_callD C mf_X0_pondAt dX4_foresee_5 (ok_X0_pondAt hd hn hn10 (inN_is (by omega) hv)) q_m_X4_38 (by assumption) rfl rfl rfl (Nat.le_of_ble_eq_true rfl) (by exact ⟨Nat.le_of_ble_eq_true rfl, Nat.le_of_ble_eq_true rfl⟩) (by exact ⟨Nat.le_of_ble_eq_true rfl, Nat.le_of_ble_eq_true rfl⟩) ?_
    have hPhv := isP_x hd hn10 (inN_is (by omega) hv)
    refine ww_pop C dX4_foresee_8 rfl ?_
    refine ww_iload_n C dX4_foresee_9 2 rfl rfl ?_
    refine ww_iconst (v := 1) C dX4_foresee_10 (by decide) ?_
    refine ww_bipush (v := 100) C dX4_foresee_11 (by decide) ?_
    refine ww_callS C mf_X4_isWithin (ct_X4_isWithin) q_m_X4_21 rfl rfl (Nat.le_of_ble_eq_true rfl) (by exact ⟨Nat.le_of_ble_eq_true rfl, Nat.le_of_ble_eq_true rfl⟩) (by exact ⟨Nat.le_of_ble_eq_true rfl, Nat.le_of_ble_eq_true rfl⟩) dX4_foresee_13 ?_
    refine ww_if_ne C dX4_foresee_16 29 (by decide) (fun c16 => ?_) (fun c16 => ?_)
    · refine ww_aload_n C dX4_foresee_29 0 rfl rfl ?_
      refine ww_getXa C q_f_X4_18 dX4_foresee_30 ?_
      refine ww_aload_n C dX4_foresee_33 0 rfl rfl ?_
      refine ww_getXd C q_f_X4_14 dX4_foresee_34 ?_
      refine ww_callD C mf_X0_becomeLike dX4_foresee_37 (ct_X0_becomeLike H) q_m_X4_206 (by assumption) rfl rfl rfl (Nat.le_of_ble_eq_true rfl) (by exact ⟨Nat.le_of_ble_eq_true rfl, Nat.le_of_ble_eq_true rfl⟩) (by exact ⟨Nat.le_of_ble_eq_true rfl, Nat.le_of_ble_eq_true rfl⟩) ?_
      refine ww_aload_n C dX4_foresee_40 0 rfl rfl ?_
      refine ww_getXa C q_f_X4_18 dX4_foresee_41 ?_
      refine ww_iload_n C dX4_foresee_44 2 rfl rfl ?_
      obtain ⟨j, hj, ej⟩ := nI_of2 (M := 100) (n := 100) rfl (Int32.not_lt.mpr (Int32.le_trans (by decide : (0 : Int32) ≤ 1) (bI1 c16).1)) (bI1 c16).2
      have e9 : k.toNatClampNeg = j := by rw [ej]; exact nI_clamp (by omega)
      refine ww_top ej ?_
      refine ww_callD C mf_X0_liveDays dX4_foresee_45 (ct_X0_liveDays hd32 H.like ht32 (by omega)) q_m_X4_180 (by assumption) rfl rfl rfl (Nat.le_of_ble_eq_true rfl) (by exact ⟨Nat.le_of_ble_eq_true rfl, Nat.le_of_ble_eq_true rfl⟩) (by exact ⟨Nat.le_of_ble_eq_true rfl, Nat.le_of_ble_eq_true rfl⟩) ?_
      have HD := (days_ok H.like ht32 j).1
      refine ww_pop C dX4_foresee_48 rfl ?_
      refine ww_aload_n C dX4_foresee_49 0 rfl rfl ?_
      refine ww_getXa C q_f_X4_18 dX4_foresee_50 ?_
      refine ww_iload_n C dX4_foresee_53 1 rfl rfl ?_
      refine ww_callD C mf_X0_pondAt dX4_foresee_54 (ok_X0_pondAt hd32 HD.1 hn10 (inN_is (by omega) hv)) q_m_X4_38 (by assumption) rfl rfl rfl (Nat.le_of_ble_eq_true rfl) (by exact ⟨Nat.le_of_ble_eq_true rfl, Nat.le_of_ble_eq_true rfl⟩) (by exact ⟨Nat.le_of_ble_eq_true rfl, Nat.le_of_ble_eq_true rfl⟩) ?_
      have hP3 := isP_x hd32 hn10 (inN_is (n := n) (by omega) hv)
      refine ww_getP C (by assumption) 5 (by decide) q_f_X4_83 dX4_foresee_57 ?_
      exact ww_xret (mc := 1) (ms := 6) (by simp only [x_foresee, x_days, e9, rI, hv, c16, not_false_eq_true, and_self, if_true, if_false]; try rfl; done) (ww_wide 1 6 (Nat.le_of_ble_eq_true rfl) (Nat.le_of_ble_eq_true rfl) (ww_iret C hr rfl rfl dX4_foresee_60))
    · exact ww_throw (cls := E_A) (text := "days is not 1 to 100") C hE hex hst (by simp only [x_foresee, rI, hv, c16, not_false_eq_true, and_self, if_true, if_false]; try rfl; done) (by decide +kernel) q_k_X4_25 q_n_E_A (by decide +kernel) gx_X4_29 gy_X4_29 dX4_foresee_19 dX4_foresee_22 dX4_foresee_23 dX4_foresee_25 dX4_foresee_28 (Nat.le_of_ble_eq_true rfl) (Nat.le_of_ble_eq_true rfl) (Nat.le_of_ble_eq_true rfl) (Nat.le_of_ble_eq_true rfl) (Nat.le_of_ble_eq_true rfl) (Nat.le_of_ble_eq_true rfl)
  · exact ww_callVx C hE hex (by simp only [x_foresee, rI, hv, not_false_eq_true, and_self, if_true, if_false]; try rfl; done) mf_X0_pondAt dX4_foresee_5 (xt_X0_pondAt hst hd hn hn10 (fun z => hv (is_inN (by omega) z))) q_m_X4_38 (isD_lt (by assumption)) (ci := 0) rfl rfl ⟨_, ce_D (by assumption)⟩ rfl rfl (Nat.le_of_ble_eq_true rfl) (by exact ⟨Nat.le_of_ble_eq_true rfl, Nat.le_of_ble_eq_true rfl⟩) (by exact ⟨Nat.le_of_ble_eq_true rfl, Nat.le_of_ble_eq_true rfl⟩) (Nat.le_of_ble_eq_true rfl) (Nat.le_of_ble_eq_true rfl)
