set_option maxRecDepth 100000 in
set_option maxHeartbeats 4000000 in
theorem ct_X4_digest {g : gW} {l : Launch} {h : Hp} {n f : Nat} (H : OK 1 n f h) : CT g l yX4_digest cX4_digest 5 (some FieldType.long) 5 0 0 [.ref (gB g + 0)] h (some (.long (x_digest n f h))) h := by
  refine CT.of (lv0 := [(0, .ref (gB g + 0))]) mf_X4_digest.1.2.2.2 (Nat.le_of_ble_eq_true rfl) rfl ?_
  intro p e s m below meth c C hr
  have hd : isD 1 := Or.inl rfl
  have hn := H.1
  have hn10 := H.2.1
  have hf := H.2.2.1
  have hf6 : f ≤ 6 := H.2.2.2.1
  have L4i : ∀ (fu j : Nat), j ≤ 6 → 6 < fu + j → ∀ (i : Nat) (s0 : Int64), i < f → WW g p l e (rK 5 0 0) s m ([.ref (gB g + 0)] : List Value).toArray below meth c 5 [] h [(0, .ref (gB g + 0)), (1, .long (dg_F h i s0 6)), (3, .int (nI (i + 1)))] 0 0 (MQ below (QW g s.heap.size (some (.long (x_digest n f h))) h) ([.ref (gB g + 0)] : List Value).toArray s 0 0 (AA g s.heap.size)) 116 [] → WW g p l e (rK 5 0 0) s m ([.ref (gB g + 0)] : List Value).toArray below meth c 5 [] h [(0, .ref (gB g + 0)), (1, .long (dg_F h i s0 j)), (3, .int (nI i)), (4, .int (nI j))] 0 0 (MQ below (QW g s.heap.size (some (.long (x_digest n f h))) h) ([.ref (gB g + 0)] : List Value).toArray s 0 0 (AA g s.heap.size)) 130 [] := by
    intro fu
    induction fu with
    | zero => intro j h1 h2; omega
    | succ fu ih =>
      intro j hj hfu i s0 hi hcont
      refine ww_iload C dX4_digest_130 rfl ?_
      refine ww_bipush (v := 6) C dX4_digest_132 (by decide) ?_
      refine ww_icmp_ge C dX4_digest_134 158 (by decide) (fun q => ?_) (fun q => ?_)
      · have hjn := lp_exit (show (6 : Int32) = nI 6 from rfl) q hj (by omega)
        subst hjn
        refine ww_iinc (v := nI (i + 1)) C dX4_digest_158 rfl (nI_inc i) (by decide) ?_
        refine ww_goto C dX4_digest_161 116 (by decide) ?_
        refine ww_lv [(0, .ref (gB g + 0)), (1, .long (dg_F h i s0 6)), (3, .int (nI (i + 1)))] ⟨rfl, rfl, rfl, trivial⟩ ?_
        exact hcont
      · have hjn := lp_body (show (6 : Int32) = nI 6 from rfl) q hj (by omega)
        refine ww_lload_n C dX4_digest_137 1 rfl rfl ?_
        refine ww_ldc2 C dX4_digest_138 q_d_X4_226 ?_
        refine ww_lmul C dX4_digest_141 ?_
        refine ww_aload_n C dX4_digest_142 0 rfl rfl ?_
        refine ww_iload_n C dX4_digest_143 3 rfl rfl ?_
        refine ww_iload C dX4_digest_144 rfl ?_
        refine ww_callX C mf_X4_flock dX4_digest_146 (ok_X4_flock H ⟨i, hi, rfl⟩ hjn) q_m_X4_233 rfl rfl rfl (Nat.le_of_ble_eq_true rfl) (by exact ⟨Nat.le_of_ble_eq_true rfl, Nat.le_of_ble_eq_true rfl⟩) (by exact ⟨Nat.le_of_ble_eq_true rfl, Nat.le_of_ble_eq_true rfl⟩) ?_
        refine ww_i2l C dX4_digest_149 ?_
        refine ww_ladd C dX4_digest_150 ?_
        refine ww_lstore_n C dX4_digest_151 1 rfl (by decide) ?_
        refine ww_iinc (v := nI (j + 1)) C dX4_digest_152 rfl (nI_inc _) (by decide) ?_
        refine ww_goto C dX4_digest_155 130 (by decide) ?_
        refine ww_lv [(0, .ref (gB g + 0)), (1, .long (dg_F h i s0 (j + 1))), (3, .int (nI i)), (4, .int (nI (j + 1)))] ⟨rfl, (congrArg (fun z => some (Value.long z)) dg_F_s.symm), rfl, rfl, trivial⟩ ?_
        exact ih (j + 1) hjn (by omega) i s0 hi hcont
  have L4 : ∀ (fu j : Nat), j ≤ f → f < fu + j → WW g p l e (rK 5 0 0) s m ([.ref (gB g + 0)] : List Value).toArray below meth c 5 [] h [(0, .ref (gB g + 0)), (1, .long (dg_4 n f h j)), (3, .int (nI j))] 0 0 (MQ below (QW g s.heap.size (some (.long (x_digest n f h))) h) ([.ref (gB g + 0)] : List Value).toArray s 0 0 (AA g s.heap.size)) 116 [] := by
    intro fu
    induction fu with
    | zero => intro j h1 h2; omega
    | succ fu ih =>
      intro j hj hfu
      refine ww_iload_n C dX4_digest_116 3 rfl rfl ?_
      refine ww_aload_n C dX4_digest_117 0 rfl rfl ?_
      refine ww_getXd C q_f_X4_14 dX4_digest_118 ?_
      refine ww_getD C (by assumption) 5 (by decide) q_f_X4_189 dX4_digest_121 ?_
      refine ww_icmp_ge C dX4_digest_124 164 (by decide) (fun q => ?_) (fun q => ?_)
      · have hjn := lp_exit hf q hj (by omega)
        subst hjn
        refine ww_lload_n C dX4_digest_164 1 rfl rfl ?_
        exact ww_lret C hr rfl rfl dX4_digest_165
      · have hjn := lp_body hf q hj (by omega)
        refine ww_iconst (v := 0) C dX4_digest_127 (by decide) ?_
        refine ww_istore C dX4_digest_128 (by decide) ?_
        refine ww_lv [(0, .ref (gB g + 0)), (1, .long (dg_F h j (dg_4 n f h j) 0)), (3, .int (nI j)), (4, .int (nI 0))] ⟨rfl, (congrArg (fun z => some (Value.long z)) dg_F_0.symm), rfl, rfl, trivial⟩ ?_
        exact L4i (6 + 1) 0 (Nat.zero_le _) (by omega) j (dg_4 n f h j) hjn (by have z := ih (j + 1) hjn (by omega); rw [dg_4_s] at z; exact z)
  have L3i : ∀ (fu j : Nat), j ≤ 12 → 12 < fu + j → ∀ (i : Nat) (s0 : Int64), i < n → WW g p l e (rK 5 0 0) s m ([.ref (gB g + 0)] : List Value).toArray below meth c 5 [] h [(0, .ref (gB g + 0)), (1, .long (dg_P n f h i s0 12)), (3, .int (nI (i + 1)))] 0 0 (MQ below (QW g s.heap.size (some (.long (x_digest n f h))) h) ([.ref (gB g + 0)] : List Value).toArray s 0 0 (AA g s.heap.size)) 66 [] → WW g p l e (rK 5 0 0) s m ([.ref (gB g + 0)] : List Value).toArray below meth c 5 [] h [(0, .ref (gB g + 0)), (1, .long (dg_P n f h i s0 j)), (3, .int (nI i)), (4, .int (nI j))] 0 0 (MQ below (QW g s.heap.size (some (.long (x_digest n f h))) h) ([.ref (gB g + 0)] : List Value).toArray s 0 0 (AA g s.heap.size)) 80 [] := by
    intro fu
    induction fu with
    | zero => intro j h1 h2; omega
    | succ fu ih =>
      intro j hj hfu i s0 hi hcont
      refine ww_iload C dX4_digest_80 rfl ?_
      refine ww_bipush (v := 12) C dX4_digest_82 (by decide) ?_
      refine ww_icmp_ge C dX4_digest_84 108 (by decide) (fun q => ?_) (fun q => ?_)
      · have hjn := lp_exit (show (12 : Int32) = nI 12 from rfl) q hj (by omega)
        subst hjn
        refine ww_iinc (v := nI (i + 1)) C dX4_digest_108 rfl (nI_inc i) (by decide) ?_
        refine ww_goto C dX4_digest_111 66 (by decide) ?_
        refine ww_lv [(0, .ref (gB g + 0)), (1, .long (dg_P n f h i s0 12)), (3, .int (nI (i + 1)))] ⟨rfl, rfl, rfl, trivial⟩ ?_
        exact hcont
      · have hjn := lp_body (show (12 : Int32) = nI 12 from rfl) q hj (by omega)
        refine ww_lload_n C dX4_digest_87 1 rfl rfl ?_
        refine ww_ldc2 C dX4_digest_88 q_d_X4_226 ?_
        refine ww_lmul C dX4_digest_91 ?_
        refine ww_aload_n C dX4_digest_92 0 rfl rfl ?_
        refine ww_iload_n C dX4_digest_93 3 rfl rfl ?_
        refine ww_iload C dX4_digest_94 rfl ?_
        refine ww_callX C mf_X4_pond dX4_digest_96 (ok_X4_pond H ⟨i, hi, rfl⟩ hjn) q_m_X4_231 rfl rfl rfl (Nat.le_of_ble_eq_true rfl) (by exact ⟨Nat.le_of_ble_eq_true rfl, Nat.le_of_ble_eq_true rfl⟩) (by exact ⟨Nat.le_of_ble_eq_true rfl, Nat.le_of_ble_eq_true rfl⟩) ?_
        refine ww_i2l C dX4_digest_99 ?_
        refine ww_ladd C dX4_digest_100 ?_
        refine ww_lstore_n C dX4_digest_101 1 rfl (by decide) ?_
        refine ww_iinc (v := nI (j + 1)) C dX4_digest_102 rfl (nI_inc _) (by decide) ?_
        refine ww_goto C dX4_digest_105 80 (by decide) ?_
        refine ww_lv [(0, .ref (gB g + 0)), (1, .long (dg_P n f h i s0 (j + 1))), (3, .int (nI i)), (4, .int (nI (j + 1)))] ⟨rfl, (congrArg (fun z => some (Value.long z)) dg_P_s.symm), rfl, rfl, trivial⟩ ?_
        exact ih (j + 1) hjn (by omega) i s0 hi hcont
  have L3 : ∀ (fu j : Nat), j ≤ n → n < fu + j → WW g p l e (rK 5 0 0) s m ([.ref (gB g + 0)] : List Value).toArray below meth c 5 [] h [(0, .ref (gB g + 0)), (1, .long (dg_3 n f h j)), (3, .int (nI j))] 0 0 (MQ below (QW g s.heap.size (some (.long (x_digest n f h))) h) ([.ref (gB g + 0)] : List Value).toArray s 0 0 (AA g s.heap.size)) 66 [] := by
    intro fu
    induction fu with
    | zero => intro j h1 h2; omega
    | succ fu ih =>
      intro j hj hfu
      refine ww_iload_n C dX4_digest_66 3 rfl rfl ?_
      refine ww_aload_n C dX4_digest_67 0 rfl rfl ?_
      refine ww_getXd C q_f_X4_14 dX4_digest_68 ?_
      refine ww_getD C (by assumption) 4 (by decide) q_f_X4_186 dX4_digest_71 ?_
      refine ww_icmp_ge C dX4_digest_74 114 (by decide) (fun q => ?_) (fun q => ?_)
      · have hjn := lp_exit hn q hj (by omega)
        subst hjn
        refine ww_iconst (v := 0) C dX4_digest_114 (by decide) ?_
        refine ww_istore_n C dX4_digest_115 3 rfl (by decide) ?_
        refine ww_lv [(0, .ref (gB g + 0)), (1, .long (dg_4 n f h 0)), (3, .int (nI 0))] ⟨rfl, (congrArg (fun z => some (Value.long z)) dg_4_0.symm), rfl, trivial⟩ ?_
        exact L4 (f + 1) 0 (Nat.zero_le _) (by omega)
      · have hjn := lp_body hn q hj (by omega)
        refine ww_iconst (v := 0) C dX4_digest_77 (by decide) ?_
        refine ww_istore C dX4_digest_78 (by decide) ?_
        refine ww_lv [(0, .ref (gB g + 0)), (1, .long (dg_P n f h j (dg_3 n f h j) 0)), (3, .int (nI j)), (4, .int (nI 0))] ⟨rfl, (congrArg (fun z => some (Value.long z)) dg_P_0.symm), rfl, rfl, trivial⟩ ?_
        exact L3i (12 + 1) 0 (Nat.zero_le _) (by omega) j (dg_3 n f h j) hjn (by have z := ih (j + 1) hjn (by omega); rw [dg_3_s] at z; exact z)
  have L2 : ∀ (fu j : Nat), j ≤ 10 → 10 < fu + j → WW g p l e (rK 5 0 0) s m ([.ref (gB g + 0)] : List Value).toArray below meth c 5 [] h [(0, .ref (gB g + 0)), (1, .long (dg_2 n f h j)), (3, .int (nI j))] 0 0 (MQ below (QW g s.heap.size (some (.long (x_digest n f h))) h) ([.ref (gB g + 0)] : List Value).toArray s 0 0 (AA g s.heap.size)) 33 [] := by
    intro fu
    induction fu with
    | zero => intro j h1 h2; omega
    | succ fu ih =>
      intro j hj hfu
      refine ww_iload_n C dX4_digest_33 3 rfl rfl ?_
      refine ww_bipush (v := 10) C dX4_digest_34 (by decide) ?_
      refine ww_icmp_ge C dX4_digest_36 64 (by decide) (fun q => ?_) (fun q => ?_)
      · have hjn := lp_exit (show (10 : Int32) = nI 10 from rfl) q hj (by omega)
        subst hjn
        refine ww_iconst (v := 0) C dX4_digest_64 (by decide) ?_
        refine ww_istore_n C dX4_digest_65 3 rfl (by decide) ?_
        refine ww_lv [(0, .ref (gB g + 0)), (1, .long (dg_3 n f h 0)), (3, .int (nI 0))] ⟨rfl, (congrArg (fun z => some (Value.long z)) dg_3_0.symm), rfl, trivial⟩ ?_
        exact L3 (n + 1) 0 (Nat.zero_le _) (by omega)
      · have hjn := lp_body (show (10 : Int32) = nI 10 from rfl) q hj (by omega)
        have hP := isWt_of hd (show j < 10 by omega)
        refine ww_lload_n C dX4_digest_39 1 rfl rfl ?_
        refine ww_ldc2 C dX4_digest_40 q_d_X4_226 ?_
        refine ww_lmul C dX4_digest_43 ?_
        refine ww_aload_n C dX4_digest_44 0 rfl rfl ?_
        refine ww_getXd C q_f_X4_14 dX4_digest_45 ?_
        refine ww_iload_n C dX4_digest_48 3 rfl rfl ?_
        refine ww_callD C mf_X0_weatherAt dX4_digest_49 (ok_X0_weatherAt hd ⟨j, hjn, rfl⟩) q_m_X4_119 (by assumption) rfl rfl rfl (Nat.le_of_ble_eq_true rfl) (by exact ⟨Nat.le_of_ble_eq_true rfl, Nat.le_of_ble_eq_true rfl⟩) (by exact ⟨Nat.le_of_ble_eq_true rfl, Nat.le_of_ble_eq_true rfl⟩) ?_
        rw [show (nI j).toNatClampNeg = j from nI_clamp (by omega)]
        refine ww_callW C mf_X3_asNumber dX4_digest_52 (ct_X3_asNumber hP) q_m_X4_125 (by assumption) rfl rfl rfl (Nat.le_of_ble_eq_true rfl) (by exact ⟨Nat.le_of_ble_eq_true rfl, Nat.le_of_ble_eq_true rfl⟩) (by exact ⟨Nat.le_of_ble_eq_true rfl, Nat.le_of_ble_eq_true rfl⟩) ?_
        refine ww_i2l C dX4_digest_55 ?_
        refine ww_ladd C dX4_digest_56 ?_
        refine ww_lstore_n C dX4_digest_57 1 rfl (by decide) ?_
        refine ww_iinc (v := nI (j + 1)) C dX4_digest_58 rfl (nI_inc _) (by decide) ?_
        refine ww_goto C dX4_digest_61 33 (by decide) ?_
        refine ww_lv [(0, .ref (gB g + 0)), (1, .long (dg_2 n f h (j + 1))), (3, .int (nI (j + 1)))] ⟨rfl, (congrArg (fun z => some (Value.long z)) dg_2_s.symm), rfl, trivial⟩ ?_
        exact ih (j + 1) hjn (by omega)
  have L1 : ∀ (fu j : Nat), j ≤ 8 → 8 < fu + j → WW g p l e (rK 5 0 0) s m ([.ref (gB g + 0)] : List Value).toArray below meth c 5 [] h [(0, .ref (gB g + 0)), (1, .long (dg_1 n f h j)), (3, .int (nI j))] 0 0 (MQ below (QW g s.heap.size (some (.long (x_digest n f h))) h) ([.ref (gB g + 0)] : List Value).toArray s 0 0 (AA g s.heap.size)) 6 [] := by
    intro fu
    induction fu with
    | zero => intro j h1 h2; omega
    | succ fu ih =>
      intro j hj hfu
      refine ww_iload_n C dX4_digest_6 3 rfl rfl ?_
      refine ww_bipush (v := 8) C dX4_digest_7 (by decide) ?_
      refine ww_icmp_ge C dX4_digest_9 31 (by decide) (fun q => ?_) (fun q => ?_)
      · have hjn := lp_exit (show (8 : Int32) = nI 8 from rfl) q hj (by omega)
        subst hjn
        refine ww_iconst (v := 0) C dX4_digest_31 (by decide) ?_
        refine ww_istore_n C dX4_digest_32 3 rfl (by decide) ?_
        refine ww_lv [(0, .ref (gB g + 0)), (1, .long (dg_2 n f h 0)), (3, .int (nI 0))] ⟨rfl, (congrArg (fun z => some (Value.long z)) dg_2_0.symm), rfl, trivial⟩ ?_
        exact L2 (10 + 1) 0 (Nat.zero_le _) (by omega)
      · have hjn := lp_body (show (8 : Int32) = nI 8 from rfl) q hj (by omega)
        refine ww_lload_n C dX4_digest_12 1 rfl rfl ?_
        refine ww_ldc2 C dX4_digest_13 q_d_X4_226 ?_
        refine ww_lmul C dX4_digest_16 ?_
        refine ww_aload_n C dX4_digest_17 0 rfl rfl ?_
        refine ww_iload_n C dX4_digest_18 3 rfl rfl ?_
        refine ww_callX C mf_X4_count dX4_digest_19 (ok_X4_count H hjn) q_m_X4_228 rfl rfl rfl (Nat.le_of_ble_eq_true rfl) (by exact ⟨Nat.le_of_ble_eq_true rfl, Nat.le_of_ble_eq_true rfl⟩) (by exact ⟨Nat.le_of_ble_eq_true rfl, Nat.le_of_ble_eq_true rfl⟩) ?_
        refine ww_i2l C dX4_digest_22 ?_
        refine ww_ladd C dX4_digest_23 ?_
        refine ww_lstore_n C dX4_digest_24 1 rfl (by decide) ?_
        refine ww_iinc (v := nI (j + 1)) C dX4_digest_25 rfl (nI_inc _) (by decide) ?_
        refine ww_goto C dX4_digest_28 6 (by decide) ?_
        refine ww_lv [(0, .ref (gB g + 0)), (1, .long (dg_1 n f h (j + 1))), (3, .int (nI (j + 1)))] ⟨rfl, (congrArg (fun z => some (Value.long z)) dg_1_s.symm), rfl, trivial⟩ ?_
        exact ih (j + 1) hjn (by omega)
  refine ww_ldc2 C dX4_digest_0 q_d_X4_224 ?_
  refine ww_lstore_n C dX4_digest_3 1 rfl (by decide) ?_
  refine ww_iconst (v := 0) C dX4_digest_4 (by decide) ?_
  refine ww_istore_n C dX4_digest_5 3 rfl (by decide) ?_
  refine ww_lv [(0, .ref (gB g + 0)), (1, .long (dg_1 n f h 0)), (3, .int (nI 0))] ⟨rfl, (congrArg (fun z => some (Value.long z)) dg_1_0.symm), rfl, trivial⟩ ?_
  exact L1 (8 + 1) 0 (Nat.zero_le _) (by omega)
