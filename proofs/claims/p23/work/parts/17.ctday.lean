theorem flock_lost {h : Hp} {d n j : Nat} (c : 10 ≤ h (d + 25 + j) 2) : d_flock d n h j = h := if_pos c
theorem flock_on {h : Hp} {d n j : Nat} (c : ¬ 10 ≤ h (d + 25 + j) 2) : d_flock d n h j = d_drinkH (d + 25 + j) (d_to d (d + 25 + j) (d_go d n (d + 25 + j) h)) (d_go d n (d + 25 + j) h) := if_neg c
theorem flockU_lost {h : Hp} {d n j : Nat} {u : Int32} (c : 10 ≤ h (d + 25 + j) 2) : d_flockU d n h j u = u := if_pos c
theorem flockU_on {h : Hp} {d n j : Nat} {u : Int32} (c : ¬ 10 ≤ h (d + 25 + j) 2) : d_flockU d n h j u = u + mnI (f_need (d_go d n (d + 25 + j) h) (d + 25 + j)) (d_go d n (d + 25 + j) h (d_to d (d + 25 + j) (d_go d n (d + 25 + j) h)) 5) := if_neg c
theorem go_a {h : Hp} {d n fo : Nat} (c : h fo 3 = 0) : d_go d n fo h = h := if_pos c
theorem go_b {h : Hp} {d n fo : Nat} (c : ¬ h fo 3 = 0) (c2 : h fo 2 ≤ 0) : d_go d n fo h = h := (if_neg c).trans (if_pos c2)
theorem go_c {h : Hp} {d n fo : Nat} (c : ¬ h fo 3 = 0) (c2 : ¬ h fo 2 ≤ 0) : d_go d n fo h = hp_up h fo 1 (d_near h d n fo) := (if_neg c).trans (if_neg c2)
theorem runS_a {h : Hp} {d r : Nat} (c : p_spill h (d_ro d h r) (d_ro d h r) 8 = -1) : d_runS d h r = p_spill h (d_ro d h r) := if_pos c
theorem runS_b {h : Hp} {d r : Nat} (c : ¬ p_spill h (d_ro d h r) (d_ro d h r) 8 = -1) : d_runS d h r = hp_up (p_spill h (d_ro d h r)) (d + 14 + (p_spill h (d_ro d h r) (d_ro d h r) 8).toNatClampNeg) 5 (p_spill h (d_ro d h r) (d + 14 + (p_spill h (d_ro d h r) (d_ro d h r) 8).toNatClampNeg) 5 + p_over h (d_ro d h r)) := if_neg c
set_option maxRecDepth 100000 in
set_option maxHeartbeats 4000000 in
theorem ct_X0_waterFlocks {g : gW} {l : Launch} {h : Hp} {d n f : Nat} (hd : isD d) (H : OK d n f h) : CT g l yX0_waterFlocks cX0_waterFlocks 6 (some FieldType.int) 3 0 0 [.ref (gB g + d)] h (some (.int (d_drunk d n h f))) (fd (d_flock d n) h f) := by
  refine CT.of (lv0 := [(0, .ref (gB g + d))]) mf_X0_waterFlocks.1.2.2.2 (Nat.le_of_ble_eq_true rfl) rfl ?_
  intro p e s m below meth c C hr
  have hn := H.1
  have hn10 := H.2.1
  have hf := H.2.2.1
  have hfr := H.2.2.2.1
  have hr7 : rmD d ≤ 7 := rm7
  have L : ∀ (fu j : Nat), j ≤ f → f < fu + j → WW g p l e (rK 3 0 0) s m ([.ref (gB g + d)] : List Value).toArray below meth c 6 [] (fd (d_flock d n) h j) [(0, .ref (gB g + d)), (1, .int (d_drunk d n h j)), (2, .int (nI j))] 0 0 (MQ below (QW g s.heap.size (some (.int (d_drunk d n h f))) (fd (d_flock d n) h f)) ([.ref (gB g + d)] : List Value).toArray s 0 0 (AA g s.heap.size)) 4 [] := by
    intro fu
    induction fu with
    | zero => intro j h1 h2; omega
    | succ fu ih =>
      intro j hj hfu
      have Hj := H.h2 (k := j) hj
      refine ww_iload_n C dX0_waterFlocks_4 2 rfl rfl ?_
      refine ww_aload_n C dX0_waterFlocks_5 0 rfl rfl ?_
      refine ww_getD C (by assumption) 5 (by decide) q_f_X0_59 dX0_waterFlocks_6 ?_
      refine ww_icmp_ge C dX0_waterFlocks_9 96 (by decide) (fun q => ?_) (fun q => ?_)
      · have hjn := lp_exit Hj.2.2.1 q hj (by omega)
        subst hjn
        refine ww_iload_n C dX0_waterFlocks_96 1 rfl rfl ?_
        exact ww_iret C hr rfl rfl dX0_waterFlocks_97
      · have hjn := lp_body Hj.2.2.1 q hj (by omega)
        have hP := isF_of hd (show j < rmD d by omega)
        have HG := Hj.go hjn
        have hQ := isP_x hd hn10 (HG.2.2.2.2.2.1 j hjn)
        refine ww_aload_n C dX0_waterFlocks_12 0 rfl rfl ?_
        refine ww_getDf C (by assumption) q_f_X0_41 dX0_waterFlocks_13 ?_
        refine ww_iload_n C dX0_waterFlocks_16 2 rfl rfl ?_
        refine ww_aaldF C hd (by omega) dX0_waterFlocks_17 ?_
        refine ww_astore_n C dX0_waterFlocks_18 3 rfl (by decide) ?_
        refine ww_aload_n C dX0_waterFlocks_19 3 rfl rfl ?_
        refine ww_callF C mf_X1_isLost dX0_waterFlocks_20 (ct_X1_isLost hP) q_m_X0_157 (by assumption) rfl rfl rfl (Nat.le_of_ble_eq_true rfl) (by exact ⟨Nat.le_of_ble_eq_true rfl, Nat.le_of_ble_eq_true rfl⟩) (by exact ⟨Nat.le_of_ble_eq_true rfl, Nat.le_of_ble_eq_true rfl⟩) ?_
        refine ww_if_ne C dX0_waterFlocks_23 90 (by decide) (fun c23 => ?_) (fun c23 => ?_)
        · refine ww_iinc (v := nI (j + 1)) C dX0_waterFlocks_90 rfl (nI_inc _) (by decide) ?_
          refine ww_goto C dX0_waterFlocks_93 4 (by decide) ?_
          refine ww_lv [(0, .ref (gB g + d)), (1, .int (d_drunk d n h (j + 1))), (2, .int (nI (j + 1)))] ⟨rfl, (by first | exact congrArg (fun z => some (Value.int z)) (flockU_lost (bI1 c23)).symm | exact congrArg (fun z => some (Value.int z)) (flockU_on (bI0 c23)).symm), rfl, trivial⟩ ?_
          refine ww_heap (h2 := (fd (d_flock d n) h (j + 1))) (by first | exact (flock_lost (bI1 c23)).symm | exact (flock_on (bI0 c23)).symm) ?_
          exact ih (j + 1) hjn (by omega)
        · refine ww_aload_n C dX0_waterFlocks_26 3 rfl rfl ?_
          refine ww_getF C (by assumption) 3 (by decide) q_f_X0_161 dX0_waterFlocks_27 ?_
          refine ww_if_eq C dX0_waterFlocks_30 49 (by decide) (fun c30 => ?_) (fun c30 => ?_)
          · refine ww_heap (h2 := (d_go d n (d + 25 + j) (fd (d_flock d n) h j))) (by first | exact (go_a c30).symm | exact (go_b c30 c37).symm | exact (go_c c30 c37).symm) ?_
            refine ww_aload_n C dX0_waterFlocks_49 0 rfl rfl ?_
            refine ww_aload_n C dX0_waterFlocks_50 3 rfl rfl ?_
            refine ww_getF C (by assumption) 1 (by decide) q_f_X0_172 dX0_waterFlocks_51 ?_
            refine ww_callD C mf_X0_pondAt dX0_waterFlocks_54 (ok_X0_pondAt hd HG.1 HG.2.1 (HG.2.2.2.2.2.1 j hjn)) q_m_X0_105 (by assumption) rfl rfl rfl (Nat.le_of_ble_eq_true rfl) (by exact ⟨Nat.le_of_ble_eq_true rfl, Nat.le_of_ble_eq_true rfl⟩) (by exact ⟨Nat.le_of_ble_eq_true rfl, Nat.le_of_ble_eq_true rfl⟩) ?_
            refine ww_astore C dX0_waterFlocks_57 (by decide) ?_
            refine ww_aload C dX0_waterFlocks_59 rfl ?_
            refine ww_aload_n C dX0_waterFlocks_61 3 rfl rfl ?_
            refine ww_callF C mf_X1_need dX0_waterFlocks_62 (ct_X1_need hP) q_m_X0_175 (by assumption) rfl rfl rfl (Nat.le_of_ble_eq_true rfl) (by exact ⟨Nat.le_of_ble_eq_true rfl, Nat.le_of_ble_eq_true rfl⟩) (by exact ⟨Nat.le_of_ble_eq_true rfl, Nat.le_of_ble_eq_true rfl⟩) ?_
            refine ww_callP C mf_X2_giveDrink dX0_waterFlocks_65 (ct_X2_giveDrink hQ) q_m_X0_178 (by assumption) rfl rfl rfl (Nat.le_of_ble_eq_true rfl) (by exact ⟨Nat.le_of_ble_eq_true rfl, Nat.le_of_ble_eq_true rfl⟩) (by exact ⟨Nat.le_of_ble_eq_true rfl, Nat.le_of_ble_eq_true rfl⟩) ?_
            refine ww_istore C dX0_waterFlocks_68 (by decide) ?_
            refine ww_aload_n C dX0_waterFlocks_70 3 rfl rfl ?_
            refine ww_iload C dX0_waterFlocks_71 rfl ?_
            refine ww_callF C mf_X1_drink dX0_waterFlocks_73 (ct_X1_drink hP) q_m_X0_182 (by assumption) rfl rfl rfl (Nat.le_of_ble_eq_true rfl) (by exact ⟨Nat.le_of_ble_eq_true rfl, Nat.le_of_ble_eq_true rfl⟩) (by exact ⟨Nat.le_of_ble_eq_true rfl, Nat.le_of_ble_eq_true rfl⟩) ?_
            refine ww_aload C dX0_waterFlocks_76 rfl ?_
            refine ww_aload_n C dX0_waterFlocks_78 3 rfl rfl ?_
            refine ww_getF C (by assumption) 0 (by decide) q_f_X0_185 dX0_waterFlocks_79 ?_
            refine ww_callP C mf_X2_treadBy dX0_waterFlocks_82 (ct_X2_treadBy hQ) q_m_X0_188 (by assumption) rfl rfl rfl (Nat.le_of_ble_eq_true rfl) (by exact ⟨Nat.le_of_ble_eq_true rfl, Nat.le_of_ble_eq_true rfl⟩) (by exact ⟨Nat.le_of_ble_eq_true rfl, Nat.le_of_ble_eq_true rfl⟩) ?_
            refine ww_iload_n C dX0_waterFlocks_85 1 rfl rfl ?_
            refine ww_iload C dX0_waterFlocks_86 rfl ?_
            refine ww_iadd C dX0_waterFlocks_88 ?_
            refine ww_istore_n C dX0_waterFlocks_89 1 rfl (by decide) ?_
            refine ww_iinc (v := nI (j + 1)) C dX0_waterFlocks_90 rfl (nI_inc _) (by decide) ?_
            refine ww_goto C dX0_waterFlocks_93 4 (by decide) ?_
            refine ww_lv [(0, .ref (gB g + d)), (1, .int (d_drunk d n h (j + 1))), (2, .int (nI (j + 1)))] ⟨rfl, (by first | exact congrArg (fun z => some (Value.int z)) (flockU_lost (bI1 c23)).symm | exact congrArg (fun z => some (Value.int z)) (flockU_on (bI0 c23)).symm), rfl, trivial⟩ ?_
            refine ww_heap (h2 := (fd (d_flock d n) h (j + 1))) (by first | exact (flock_lost (bI1 c23)).symm | exact (flock_on (bI0 c23)).symm) ?_
            exact ih (j + 1) hjn (by omega)
          · refine ww_aload_n C dX0_waterFlocks_33 3 rfl rfl ?_
            refine ww_getF C (by assumption) 2 (by decide) q_f_X0_165 dX0_waterFlocks_34 ?_
            refine ww_if_le C dX0_waterFlocks_37 49 (by decide) (fun c37 => ?_) (fun c37 => ?_)
            · refine ww_heap (h2 := (d_go d n (d + 25 + j) (fd (d_flock d n) h j))) (by first | exact (go_a c30).symm | exact (go_b c30 c37).symm | exact (go_c c30 c37).symm) ?_
              refine ww_aload_n C dX0_waterFlocks_49 0 rfl rfl ?_
              refine ww_aload_n C dX0_waterFlocks_50 3 rfl rfl ?_
              refine ww_getF C (by assumption) 1 (by decide) q_f_X0_172 dX0_waterFlocks_51 ?_
              refine ww_callD C mf_X0_pondAt dX0_waterFlocks_54 (ok_X0_pondAt hd HG.1 HG.2.1 (HG.2.2.2.2.2.1 j hjn)) q_m_X0_105 (by assumption) rfl rfl rfl (Nat.le_of_ble_eq_true rfl) (by exact ⟨Nat.le_of_ble_eq_true rfl, Nat.le_of_ble_eq_true rfl⟩) (by exact ⟨Nat.le_of_ble_eq_true rfl, Nat.le_of_ble_eq_true rfl⟩) ?_
              refine ww_astore C dX0_waterFlocks_57 (by decide) ?_
              refine ww_aload C dX0_waterFlocks_59 rfl ?_
              refine ww_aload_n C dX0_waterFlocks_61 3 rfl rfl ?_
              refine ww_callF C mf_X1_need dX0_waterFlocks_62 (ct_X1_need hP) q_m_X0_175 (by assumption) rfl rfl rfl (Nat.le_of_ble_eq_true rfl) (by exact ⟨Nat.le_of_ble_eq_true rfl, Nat.le_of_ble_eq_true rfl⟩) (by exact ⟨Nat.le_of_ble_eq_true rfl, Nat.le_of_ble_eq_true rfl⟩) ?_
              refine ww_callP C mf_X2_giveDrink dX0_waterFlocks_65 (ct_X2_giveDrink hQ) q_m_X0_178 (by assumption) rfl rfl rfl (Nat.le_of_ble_eq_true rfl) (by exact ⟨Nat.le_of_ble_eq_true rfl, Nat.le_of_ble_eq_true rfl⟩) (by exact ⟨Nat.le_of_ble_eq_true rfl, Nat.le_of_ble_eq_true rfl⟩) ?_
              refine ww_istore C dX0_waterFlocks_68 (by decide) ?_
              refine ww_aload_n C dX0_waterFlocks_70 3 rfl rfl ?_
              refine ww_iload C dX0_waterFlocks_71 rfl ?_
              refine ww_callF C mf_X1_drink dX0_waterFlocks_73 (ct_X1_drink hP) q_m_X0_182 (by assumption) rfl rfl rfl (Nat.le_of_ble_eq_true rfl) (by exact ⟨Nat.le_of_ble_eq_true rfl, Nat.le_of_ble_eq_true rfl⟩) (by exact ⟨Nat.le_of_ble_eq_true rfl, Nat.le_of_ble_eq_true rfl⟩) ?_
              refine ww_aload C dX0_waterFlocks_76 rfl ?_
              refine ww_aload_n C dX0_waterFlocks_78 3 rfl rfl ?_
              refine ww_getF C (by assumption) 0 (by decide) q_f_X0_185 dX0_waterFlocks_79 ?_
              refine ww_callP C mf_X2_treadBy dX0_waterFlocks_82 (ct_X2_treadBy hQ) q_m_X0_188 (by assumption) rfl rfl rfl (Nat.le_of_ble_eq_true rfl) (by exact ⟨Nat.le_of_ble_eq_true rfl, Nat.le_of_ble_eq_true rfl⟩) (by exact ⟨Nat.le_of_ble_eq_true rfl, Nat.le_of_ble_eq_true rfl⟩) ?_
              refine ww_iload_n C dX0_waterFlocks_85 1 rfl rfl ?_
              refine ww_iload C dX0_waterFlocks_86 rfl ?_
              refine ww_iadd C dX0_waterFlocks_88 ?_
              refine ww_istore_n C dX0_waterFlocks_89 1 rfl (by decide) ?_
              refine ww_iinc (v := nI (j + 1)) C dX0_waterFlocks_90 rfl (nI_inc _) (by decide) ?_
              refine ww_goto C dX0_waterFlocks_93 4 (by decide) ?_
              refine ww_lv [(0, .ref (gB g + d)), (1, .int (d_drunk d n h (j + 1))), (2, .int (nI (j + 1)))] ⟨rfl, (by first | exact congrArg (fun z => some (Value.int z)) (flockU_lost (bI1 c23)).symm | exact congrArg (fun z => some (Value.int z)) (flockU_on (bI0 c23)).symm), rfl, trivial⟩ ?_
              refine ww_heap (h2 := (fd (d_flock d n) h (j + 1))) (by first | exact (flock_lost (bI1 c23)).symm | exact (flock_on (bI0 c23)).symm) ?_
              exact ih (j + 1) hjn (by omega)
            · refine ww_aload_n C dX0_waterFlocks_40 3 rfl rfl ?_
              refine ww_aload_n C dX0_waterFlocks_41 0 rfl rfl ?_
              refine ww_aload_n C dX0_waterFlocks_42 3 rfl rfl ?_
              refine ww_callD C mf_X0_nearestWaterFor dX0_waterFlocks_43 (ct_X0_nearestWaterFor hd Hj hP (Hj.2.2.2.2.2.1 j hjn)) q_m_X0_168 (by assumption) rfl rfl rfl (Nat.le_of_ble_eq_true rfl) (by exact ⟨Nat.le_of_ble_eq_true rfl, Nat.le_of_ble_eq_true rfl⟩) (by exact ⟨Nat.le_of_ble_eq_true rfl, Nat.le_of_ble_eq_true rfl⟩) ?_
              refine ww_putF C (by assumption) 1 (by decide) q_f_X0_172 dX0_waterFlocks_46 ?_
              refine ww_heap (h2 := (d_go d n (d + 25 + j) (fd (d_flock d n) h j))) (by first | exact (go_a c30).symm | exact (go_b c30 c37).symm | exact (go_c c30 c37).symm) ?_
              refine ww_aload_n C dX0_waterFlocks_49 0 rfl rfl ?_
              refine ww_aload_n C dX0_waterFlocks_50 3 rfl rfl ?_
              refine ww_getF C (by assumption) 1 (by decide) q_f_X0_172 dX0_waterFlocks_51 ?_
              refine ww_callD C mf_X0_pondAt dX0_waterFlocks_54 (ok_X0_pondAt hd HG.1 HG.2.1 (HG.2.2.2.2.2.1 j hjn)) q_m_X0_105 (by assumption) rfl rfl rfl (Nat.le_of_ble_eq_true rfl) (by exact ⟨Nat.le_of_ble_eq_true rfl, Nat.le_of_ble_eq_true rfl⟩) (by exact ⟨Nat.le_of_ble_eq_true rfl, Nat.le_of_ble_eq_true rfl⟩) ?_
              refine ww_astore C dX0_waterFlocks_57 (by decide) ?_
              refine ww_aload C dX0_waterFlocks_59 rfl ?_
              refine ww_aload_n C dX0_waterFlocks_61 3 rfl rfl ?_
              refine ww_callF C mf_X1_need dX0_waterFlocks_62 (ct_X1_need hP) q_m_X0_175 (by assumption) rfl rfl rfl (Nat.le_of_ble_eq_true rfl) (by exact ⟨Nat.le_of_ble_eq_true rfl, Nat.le_of_ble_eq_true rfl⟩) (by exact ⟨Nat.le_of_ble_eq_true rfl, Nat.le_of_ble_eq_true rfl⟩) ?_
              refine ww_callP C mf_X2_giveDrink dX0_waterFlocks_65 (ct_X2_giveDrink hQ) q_m_X0_178 (by assumption) rfl rfl rfl (Nat.le_of_ble_eq_true rfl) (by exact ⟨Nat.le_of_ble_eq_true rfl, Nat.le_of_ble_eq_true rfl⟩) (by exact ⟨Nat.le_of_ble_eq_true rfl, Nat.le_of_ble_eq_true rfl⟩) ?_
              refine ww_istore C dX0_waterFlocks_68 (by decide) ?_
              refine ww_aload_n C dX0_waterFlocks_70 3 rfl rfl ?_
              refine ww_iload C dX0_waterFlocks_71 rfl ?_
              refine ww_callF C mf_X1_drink dX0_waterFlocks_73 (ct_X1_drink hP) q_m_X0_182 (by assumption) rfl rfl rfl (Nat.le_of_ble_eq_true rfl) (by exact ⟨Nat.le_of_ble_eq_true rfl, Nat.le_of_ble_eq_true rfl⟩) (by exact ⟨Nat.le_of_ble_eq_true rfl, Nat.le_of_ble_eq_true rfl⟩) ?_
              refine ww_aload C dX0_waterFlocks_76 rfl ?_
              refine ww_aload_n C dX0_waterFlocks_78 3 rfl rfl ?_
              refine ww_getF C (by assumption) 0 (by decide) q_f_X0_185 dX0_waterFlocks_79 ?_
              refine ww_callP C mf_X2_treadBy dX0_waterFlocks_82 (ct_X2_treadBy hQ) q_m_X0_188 (by assumption) rfl rfl rfl (Nat.le_of_ble_eq_true rfl) (by exact ⟨Nat.le_of_ble_eq_true rfl, Nat.le_of_ble_eq_true rfl⟩) (by exact ⟨Nat.le_of_ble_eq_true rfl, Nat.le_of_ble_eq_true rfl⟩) ?_
              refine ww_iload_n C dX0_waterFlocks_85 1 rfl rfl ?_
              refine ww_iload C dX0_waterFlocks_86 rfl ?_
              refine ww_iadd C dX0_waterFlocks_88 ?_
              refine ww_istore_n C dX0_waterFlocks_89 1 rfl (by decide) ?_
              refine ww_iinc (v := nI (j + 1)) C dX0_waterFlocks_90 rfl (nI_inc _) (by decide) ?_
              refine ww_goto C dX0_waterFlocks_93 4 (by decide) ?_
              refine ww_lv [(0, .ref (gB g + d)), (1, .int (d_drunk d n h (j + 1))), (2, .int (nI (j + 1)))] ⟨rfl, (by first | exact congrArg (fun z => some (Value.int z)) (flockU_lost (bI1 c23)).symm | exact congrArg (fun z => some (Value.int z)) (flockU_on (bI0 c23)).symm), rfl, trivial⟩ ?_
              refine ww_heap (h2 := (fd (d_flock d n) h (j + 1))) (by first | exact (flock_lost (bI1 c23)).symm | exact (flock_on (bI0 c23)).symm) ?_
              exact ih (j + 1) hjn (by omega)
  refine ww_iconst (v := 0) C dX0_waterFlocks_0 (by decide) ?_
  refine ww_istore_n C dX0_waterFlocks_1 1 rfl (by decide) ?_
  refine ww_iconst (v := 0) C dX0_waterFlocks_2 (by decide) ?_
  refine ww_istore_n C dX0_waterFlocks_3 2 rfl (by decide) ?_
  refine ww_lv [(0, .ref (gB g + d)), (1, .int (d_drunk d n h 0)), (2, .int (nI 0))] ⟨rfl, rfl, rfl, trivial⟩ ?_
  exact L (f + 1) 0 (Nat.zero_le _) (by omega)
set_option maxRecDepth 100000 in
set_option maxHeartbeats 4000000 in
theorem ct_X0_runOver {g : gW} {l : Launch} {h : Hp} {d n f : Nat} (hd : isD d) (H : OK d n f h) : CT g l yX0_runOver cX0_runOver 4 none 2 0 0 [.ref (gB g + d)] h none (fd (d_runS d) h n) := by
  refine CT.of (lv0 := [(0, .ref (gB g + d))]) mf_X0_runOver.1.2.2.2 (Nat.le_of_ble_eq_true rfl) rfl ?_
  intro p e s m below meth c C hr
  have hn := H.1
  have hn10 := H.2.1
  have hf := H.2.2.1
  have hfr := H.2.2.2.1
  have hr7 : rmD d ≤ 7 := rm7
  have L : ∀ (fu j : Nat), j ≤ n → n < fu + j → WW g p l e (rK 2 0 0) s m ([.ref (gB g + d)] : List Value).toArray below meth c 4 [] (fd (d_runS d) h j) [(0, .ref (gB g + d)), (1, .int (nI j))] 0 0 (MQ below (QW g s.heap.size none (fd (d_runS d) h n)) ([.ref (gB g + d)] : List Value).toArray s 0 0 (AA g s.heap.size)) 2 [] := by
    intro fu
    induction fu with
    | zero => intro j h1 h2; omega
    | succ fu ih =>
      intro j hj hfu
      have Hj := H.h4 (k := j) hj
      refine ww_iload_n C dX0_runOver_2 1 rfl rfl ?_
      refine ww_aload_n C dX0_runOver_3 0 rfl rfl ?_
      refine ww_getD C (by assumption) 4 (by decide) q_f_X0_53 dX0_runOver_4 ?_
      refine ww_icmp_ge C dX0_runOver_7 57 (by decide) (fun q => ?_) (fun q => ?_)
      · have hjn := lp_exit Hj.1 q hj (by omega)
        subst hjn
        exact ww_vret C hr rfl rfl dX0_runOver_57
      · have hjn := lp_body Hj.1 q hj (by omega)
        obtain ⟨q1, hqn, hq10, eq1, -⟩ := ro_in Hj hjn
        have hQ : isP (d_ro d (fd (d_runS d) h j) j) := isP_x hd hn10 (Hj.2.2.2.2.2.2.1 j hjn)
        have Hs : OK d n f (p_spill (fd (d_runS d) h j) (d_ro d (fd (d_runS d) h j) j)) := by rw [eq1]; exact Hj.spill hq10
        have h8 : p_spill (fd (d_runS d) h j) (d_ro d (fd (d_runS d) h j) j) (d_ro d (fd (d_runS d) h j) j) 8 = -1 ∨ isN n (p_spill (fd (d_runS d) h j) (d_ro d (fd (d_runS d) h j) j) (d_ro d (fd (d_runS d) h j) j) 8) := by rw [eq1]; exact (Hj.spill hq10).2.2.2.2.1 q1 hqn
        refine ww_aload_n C dX0_runOver_10 0 rfl rfl ?_
        refine ww_aload_n C dX0_runOver_11 0 rfl rfl ?_
        refine ww_getDb C (by assumption) q_f_X0_28 dX0_runOver_12 ?_
        refine ww_iload_n C dX0_runOver_15 1 rfl rfl ?_
        refine ww_iald (n := 10) C (by rcases hd with rfl | rfl <;> omega) (fun r => ce_Ba hd) (by omega) (by omega) dX0_runOver_16 ?_
        refine ww_callD C mf_X0_pondAt dX0_runOver_17 (ok_X0_pondAt hd Hj.1 Hj.2.1 (Hj.2.2.2.2.2.2.1 j hjn)) q_m_X0_105 (by assumption) rfl rfl rfl (Nat.le_of_ble_eq_true rfl) (by exact ⟨Nat.le_of_ble_eq_true rfl, Nat.le_of_ble_eq_true rfl⟩) (by exact ⟨Nat.le_of_ble_eq_true rfl, Nat.le_of_ble_eq_true rfl⟩) ?_
        refine ww_astore_n C dX0_runOver_20 2 rfl (by decide) ?_
        refine ww_aload_n C dX0_runOver_21 2 rfl rfl ?_
        refine ww_callP C mf_X2_spill dX0_runOver_22 (ct_X2_spill hQ) q_m_X0_201 (by assumption) rfl rfl rfl (Nat.le_of_ble_eq_true rfl) (by exact ⟨Nat.le_of_ble_eq_true rfl, Nat.le_of_ble_eq_true rfl⟩) (by exact ⟨Nat.le_of_ble_eq_true rfl, Nat.le_of_ble_eq_true rfl⟩) ?_
        refine ww_istore_n C dX0_runOver_25 3 rfl (by decide) ?_
        refine ww_aload_n C dX0_runOver_26 2 rfl rfl ?_
        refine ww_getP C (by assumption) 8 (by decide) q_f_X0_204 dX0_runOver_27 ?_
        refine ww_iconst (v := (-1)) C dX0_runOver_30 (by decide) ?_
        refine ww_icmp_eq C dX0_runOver_31 51 (by decide) (fun c31 => ?_) (fun c31 => ?_)
        · refine ww_iinc (v := nI (j + 1)) C dX0_runOver_51 rfl (nI_inc _) (by decide) ?_
          refine ww_goto C dX0_runOver_54 2 (by decide) ?_
          refine ww_lv [(0, .ref (gB g + d)), (1, .int (nI (j + 1)))] ⟨rfl, rfl, trivial⟩ ?_
          refine ww_heap (h2 := (fd (d_runS d) h (j + 1))) (by first | exact (runS_a c31).symm | exact (runS_b c31).symm) ?_
          exact ih (j + 1) hjn (by omega)
        · refine ww_aload_n C dX0_runOver_34 0 rfl rfl ?_
          refine ww_aload_n C dX0_runOver_35 2 rfl rfl ?_
          refine ww_getP C (by assumption) 8 (by decide) q_f_X0_204 dX0_runOver_36 ?_
          refine ww_callD C mf_X0_pondAt dX0_runOver_39 (ok_X0_pondAt hd Hs.1 Hs.2.1 (h8.resolve_left c31)) q_m_X0_105 (by assumption) rfl rfl rfl (Nat.le_of_ble_eq_true rfl) (by exact ⟨Nat.le_of_ble_eq_true rfl, Nat.le_of_ble_eq_true rfl⟩) (by exact ⟨Nat.le_of_ble_eq_true rfl, Nat.le_of_ble_eq_true rfl⟩) ?_
          have hQ2 := isP_x hd hn10 (h8.resolve_left c31)
          refine ww_dup C dX0_runOver_42 rfl ?_
          refine ww_getP C (by assumption) 5 (by decide) q_f_X0_191 dX0_runOver_43 ?_
          refine ww_iload_n C dX0_runOver_46 3 rfl rfl ?_
          refine ww_iadd C dX0_runOver_47 ?_
          refine ww_putP C (by assumption) 5 (by decide) q_f_X0_191 dX0_runOver_48 ?_
          refine ww_iinc (v := nI (j + 1)) C dX0_runOver_51 rfl (nI_inc _) (by decide) ?_
          refine ww_goto C dX0_runOver_54 2 (by decide) ?_
          refine ww_lv [(0, .ref (gB g + d)), (1, .int (nI (j + 1)))] ⟨rfl, rfl, trivial⟩ ?_
          refine ww_heap (h2 := (fd (d_runS d) h (j + 1))) (by first | exact (runS_a c31).symm | exact (runS_b c31).symm) ?_
          exact ih (j + 1) hjn (by omega)
  refine ww_iconst (v := 0) C dX0_runOver_0 (by decide) ?_
  refine ww_istore_n C dX0_runOver_1 1 rfl (by decide) ?_
  refine ww_lv [(0, .ref (gB g + d)), (1, .int (nI 0))] ⟨rfl, rfl, trivial⟩ ?_
  exact L (n + 1) 0 (Nat.zero_le _) (by omega)
theorem xor_nn {t : Nat} (ht : t < 2 ^ 31) : 0 ≤ nI t ^^^ 10 := by
  have e : nI t ^^^ 10 = nI (t ^^^ 10) := by
    apply Int32.toBitVec_inj.mp
    show (BitVec.ofNat 32 t) ^^^ (BitVec.ofNat 32 10) = BitVec.ofNat 32 (t ^^^ 10)
    apply BitVec.eq_of_toNat_eq
    simp only [BitVec.toNat_xor, BitVec.toNat_ofNat]
    rw [Nat.mod_eq_of_lt (by omega), Nat.mod_eq_of_lt (by omega)]
    exact (Nat.mod_eq_of_lt (Nat.xor_lt_two_pow (n := 32) (by omega) (by omega))).symm
  rw [e]
  exact nI_pos' (Nat.xor_lt_two_pow (n := 31) ht (by omega))
set_option maxRecDepth 100000 in
set_option maxHeartbeats 4000000 in
theorem ct_J9_floorMod_7cf53 {g : gW} {l : Launch} {h : Hp} {t : Nat} (ht : t < 2 ^ 31) : CT g l yJ9_floorMod_7cf53 cJ9_floorMod_7cf53 3 (some FieldType.int) 0 0 0 [.int (nI t), .int 10] h (some (.int (nI (t % 10)))) h := by
  refine CT.of (lv0 := [(0, .int (nI t)), (1, .int 10)]) mf_J9_floorMod_7cf53.1.2.2.2 (Nat.le_of_ble_eq_true rfl) rfl ?_
  intro p e s m below meth c C hr
  refine ww_iload_n C dJ9_floorMod_7cf53_0 0 rfl rfl ?_
  refine ww_iload_n C dJ9_floorMod_7cf53_1 1 rfl rfl ?_
  refine ww_irem C dJ9_floorMod_7cf53_2 (by decide) ?_
  refine ww_istore_n C dJ9_floorMod_7cf53_3 2 rfl (by decide) ?_
  refine ww_iload_n C dJ9_floorMod_7cf53_4 0 rfl rfl ?_
  refine ww_iload_n C dJ9_floorMod_7cf53_5 1 rfl rfl ?_
  refine ww_ixor C dJ9_floorMod_7cf53_6 ?_
  refine ww_if_ge C dJ9_floorMod_7cf53_7 18 (by decide) (fun _ => ?_) (fun q => absurd (xor_nn ht) q)
  refine ww_iload_n C dJ9_floorMod_7cf53_18 2 rfl rfl ?_
  exact ww_iret C hr (congrArg (fun z => some (Value.int z)) (pk_rem (a := t) (d := 10) ht (by omega) (by omega)).symm) rfl dJ9_floorMod_7cf53_19
set_option maxRecDepth 100000 in
set_option maxHeartbeats 4000000 in
theorem ct_X0_liveDay {g : gW} {l : Launch} {h : Hp} {d n f t : Nat} (hd : isD d) (H : OK d n f h) (ht : h d 6 = nI t) (ht31 : t < 2 ^ 31) : CT g l yX0_liveDay cX0_liveDay 5 (some FieldType.int) 4 0 0 [.ref (gB g + d)] h (some (.int (d_dayU d n f t h))) (d_day d n f t h) := by
  refine CT.of (lv0 := [(0, .ref (gB g + d))]) mf_X0_liveDay.1.2.2.2 (Nat.le_of_ble_eq_true rfl) rfl ?_
  intro p e s m below meth c C hr
  have hn := H.1
  have hn10 := H.2.1
  have hf := H.2.2.1
  have hfr := H.2.2.2.1
  have hr7 : rmD d ≤ 7 := rm7
  have t10 : t % 10 < 10 := Nat.mod_lt _ (by omega)
  have hW : isWt (d + 2 + t % 10) := isWt_of hd t10
  have H1 : OK d n f (d_h1 d n (d + 2 + t % 10) h) := H.h1 (Nat.le_refl n)
  have H2 := H1.h2 (Nat.le_refl f)
  have H3 : OK d n f (d_h3 d n f (d + 2 + t % 10) h) := H2.h3 (Nat.le_refl n)
  have H4 : OK d n f (d_h4 d n f (d + 2 + t % 10) h) := H3.h4 (Nat.le_refl n)
  have L3 : ∀ (fu j : Nat), j ≤ n → n < fu + j → WW g p l e (rK 4 0 0) s m ([.ref (gB g + d)] : List Value).toArray below meth c 5 [] (fd (d_sun d (d + 2 + t % 10)) (fd (d_flock d n) (d_h1 d n (d + 2 + t % 10) h) f) j) [(0, .ref (gB g + d)), (1, .int (nI (t % 10))), (2, .ref (gB g + (d + 2 + t % 10))), (3, .int (d_dayU d n f t h)), (4, .int (nI j))] 0 0 (MQ below (QW g s.heap.size (some (.int (d_dayU d n f t h))) (d_day d n f t h)) ([.ref (gB g + d)] : List Value).toArray s 0 0 (AA g s.heap.size)) 66 [] := by
    intro fu
    induction fu with
    | zero => intro j h1 h2; omega
    | succ fu ih =>
      intro j hj hfu
      have Hj := H2.h3 (w := (d + 2 + t % 10)) (k := j) hj
      refine ww_iload C dX0_liveDay_66 rfl ?_
      refine ww_aload_n C dX0_liveDay_68 0 rfl rfl ?_
      refine ww_getD C (by assumption) 4 (by decide) q_f_X0_53 dX0_liveDay_69 ?_
      refine ww_icmp_ge C dX0_liveDay_72 105 (by decide) (fun q => ?_) (fun q => ?_)
      · have hjn := lp_exit Hj.1 q hj (by omega)
        subst hjn
        refine ww_aload_n C dX0_liveDay_105 0 rfl rfl ?_
        refine ww_callD C mf_X0_runOver dX0_liveDay_106 (ct_X0_runOver hd H3) q_m_X0_151 (by assumption) rfl rfl rfl (Nat.le_of_ble_eq_true rfl) (by exact ⟨Nat.le_of_ble_eq_true rfl, Nat.le_of_ble_eq_true rfl⟩) (by exact ⟨Nat.le_of_ble_eq_true rfl, Nat.le_of_ble_eq_true rfl⟩) ?_
        refine ww_iload_n C dX0_liveDay_109 1 rfl rfl ?_
        refine ww_bipush (v := 9) C dX0_liveDay_110 (by decide) ?_
        refine ww_icmp_ne C dX0_liveDay_112 119 (by decide) (fun c112 => ?_) (fun c112 => ?_)
        · refine ww_heap (h2 := d_h5 d n f t h) (by first | exact (if_neg c112).symm | exact (if_pos c112).symm) ?_
          refine ww_aload_n C dX0_liveDay_119 0 rfl rfl ?_
          refine ww_dup C dX0_liveDay_120 rfl ?_
          refine ww_getD C (by assumption) 6 (by decide) q_f_X0_46 dX0_liveDay_121 ?_
          refine ww_iconst (v := 1) C dX0_liveDay_124 (by decide) ?_
          refine ww_iadd C dX0_liveDay_125 ?_
          refine ww_putD C (by assumption) 6 (by decide) q_f_X0_46 dX0_liveDay_126 ?_
          refine ww_iload_n C dX0_liveDay_129 3 rfl rfl ?_
          exact ww_iret C hr rfl rfl dX0_liveDay_130
        · refine ww_aload_n C dX0_liveDay_115 0 rfl rfl ?_
          refine ww_callD C mf_X0_rotStraw dX0_liveDay_116 (ct_X0_rotStraw hd H4) q_m_X0_154 (by assumption) rfl rfl rfl (Nat.le_of_ble_eq_true rfl) (by exact ⟨Nat.le_of_ble_eq_true rfl, Nat.le_of_ble_eq_true rfl⟩) (by exact ⟨Nat.le_of_ble_eq_true rfl, Nat.le_of_ble_eq_true rfl⟩) ?_
          refine ww_heap (h2 := d_h5 d n f t h) (by first | exact (if_neg c112).symm | exact (if_pos c112).symm) ?_
          refine ww_aload_n C dX0_liveDay_119 0 rfl rfl ?_
          refine ww_dup C dX0_liveDay_120 rfl ?_
          refine ww_getD C (by assumption) 6 (by decide) q_f_X0_46 dX0_liveDay_121 ?_
          refine ww_iconst (v := 1) C dX0_liveDay_124 (by decide) ?_
          refine ww_iadd C dX0_liveDay_125 ?_
          refine ww_putD C (by assumption) 6 (by decide) q_f_X0_46 dX0_liveDay_126 ?_
          refine ww_iload_n C dX0_liveDay_129 3 rfl rfl ?_
          exact ww_iret C hr rfl rfl dX0_liveDay_130
      · have hjn := lp_body Hj.1 q hj (by omega)
        have hP := isP_of hd (show j < 10 by omega)
        refine ww_aload_n C dX0_liveDay_75 0 rfl rfl ?_
        refine ww_getDp C (by assumption) q_f_X0_24 dX0_liveDay_76 ?_
        refine ww_iload C dX0_liveDay_79 rfl ?_
        refine ww_aaldP C hd (by omega) dX0_liveDay_81 ?_
        refine ww_aload_n C dX0_liveDay_82 2 rfl rfl ?_
        refine ww_getW C (by assumption) 2 (by decide) q_f_X0_142 dX0_liveDay_83 ?_
        refine ww_callP C mf_X2_dryBy dX0_liveDay_86 (ct_X2_dryBy hP) q_m_X0_145 (by assumption) rfl rfl rfl (Nat.le_of_ble_eq_true rfl) (by exact ⟨Nat.le_of_ble_eq_true rfl, Nat.le_of_ble_eq_true rfl⟩) (by exact ⟨Nat.le_of_ble_eq_true rfl, Nat.le_of_ble_eq_true rfl⟩) ?_
        refine ww_aload_n C dX0_liveDay_89 0 rfl rfl ?_
        refine ww_getDp C (by assumption) q_f_X0_24 dX0_liveDay_90 ?_
        refine ww_iload C dX0_liveDay_93 rfl ?_
        refine ww_aaldP C hd (by omega) dX0_liveDay_95 ?_
        refine ww_callP C mf_X2_leak dX0_liveDay_96 (ct_X2_leak hP) q_m_X0_148 (by assumption) rfl rfl rfl (Nat.le_of_ble_eq_true rfl) (by exact ⟨Nat.le_of_ble_eq_true rfl, Nat.le_of_ble_eq_true rfl⟩) (by exact ⟨Nat.le_of_ble_eq_true rfl, Nat.le_of_ble_eq_true rfl⟩) ?_
        refine ww_iinc (v := nI (j + 1)) C dX0_liveDay_99 rfl (nI_inc _) (by decide) ?_
        refine ww_goto C dX0_liveDay_102 66 (by decide) ?_
        refine ww_lv [(0, .ref (gB g + d)), (1, .int (nI (t % 10))), (2, .ref (gB g + (d + 2 + t % 10))), (3, .int (d_dayU d n f t h)), (4, .int (nI (j + 1)))] ⟨rfl, rfl, rfl, rfl, rfl, trivial⟩ ?_
        exact ih (j + 1) hjn (by omega)
  have L1 : ∀ (fu j : Nat), j ≤ n → n < fu + j → WW g p l e (rK 4 0 0) s m ([.ref (gB g + d)] : List Value).toArray below meth c 5 [] (fd (d_mist d (d + 2 + t % 10)) h j) [(0, .ref (gB g + d)), (1, .int (nI (t % 10))), (2, .ref (gB g + (d + 2 + t % 10))), (3, .int (nI j))] 0 0 (MQ below (QW g s.heap.size (some (.int (d_dayU d n f t h))) (d_day d n f t h)) ([.ref (gB g + d)] : List Value).toArray s 0 0 (AA g s.heap.size)) 18 [] := by
    intro fu
    induction fu with
    | zero => intro j h1 h2; omega
    | succ fu ih =>
      intro j hj hfu
      have Hj := H.h1 (w := (d + 2 + t % 10)) (k := j) hj
      refine ww_iload_n C dX0_liveDay_18 3 rfl rfl ?_
      refine ww_aload_n C dX0_liveDay_19 0 rfl rfl ?_
      refine ww_getD C (by assumption) 4 (by decide) q_f_X0_53 dX0_liveDay_20 ?_
      refine ww_icmp_ge C dX0_liveDay_23 58 (by decide) (fun q => ?_) (fun q => ?_)
      · have hjn := lp_exit Hj.1 q hj (by omega)
        subst hjn
        refine ww_aload_n C dX0_liveDay_58 0 rfl rfl ?_
        refine ww_callD C mf_X0_waterFlocks dX0_liveDay_59 (ct_X0_waterFlocks hd H1) q_m_X0_139 (by assumption) rfl rfl rfl (Nat.le_of_ble_eq_true rfl) (by exact ⟨Nat.le_of_ble_eq_true rfl, Nat.le_of_ble_eq_true rfl⟩) (by exact ⟨Nat.le_of_ble_eq_true rfl, Nat.le_of_ble_eq_true rfl⟩) ?_
        refine ww_istore_n C dX0_liveDay_62 3 rfl (by decide) ?_
        refine ww_iconst (v := 0) C dX0_liveDay_63 (by decide) ?_
        refine ww_istore C dX0_liveDay_64 (by decide) ?_
        refine ww_lv [(0, .ref (gB g + d)), (1, .int (nI (t % 10))), (2, .ref (gB g + (d + 2 + t % 10))), (3, .int (d_dayU d n f t h)), (4, .int (nI 0))] ⟨rfl, rfl, rfl, rfl, rfl, trivial⟩ ?_
        exact L3 (n + 1) 0 (Nat.zero_le _) (by omega)
      · have hjn := lp_body Hj.1 q hj (by omega)
        have hP := isP_of hd (show j < 10 by omega)
        refine ww_aload_n C dX0_liveDay_26 0 rfl rfl ?_
        refine ww_getDp C (by assumption) q_f_X0_24 dX0_liveDay_27 ?_
        refine ww_iload_n C dX0_liveDay_30 3 rfl rfl ?_
        refine ww_aaldP C hd (by omega) dX0_liveDay_31 ?_
        refine ww_aload_n C dX0_liveDay_32 2 rfl rfl ?_
        refine ww_getW C (by assumption) 0 (by decide) q_f_X0_126 dX0_liveDay_33 ?_
        refine ww_callP C mf_X2_takeMist dX0_liveDay_36 (ct_X2_takeMist hP) q_m_X0_129 (by assumption) rfl rfl rfl (Nat.le_of_ble_eq_true rfl) (by exact ⟨Nat.le_of_ble_eq_true rfl, Nat.le_of_ble_eq_true rfl⟩) (by exact ⟨Nat.le_of_ble_eq_true rfl, Nat.le_of_ble_eq_true rfl⟩) ?_
        refine ww_aload_n C dX0_liveDay_39 0 rfl rfl ?_
        refine ww_getDp C (by assumption) q_f_X0_24 dX0_liveDay_40 ?_
        refine ww_iload_n C dX0_liveDay_43 3 rfl rfl ?_
        refine ww_aaldP C hd (by omega) dX0_liveDay_44 ?_
        refine ww_aload_n C dX0_liveDay_45 2 rfl rfl ?_
        refine ww_getW C (by assumption) 1 (by decide) q_f_X0_133 dX0_liveDay_46 ?_
        refine ww_callP C mf_X2_takeRain dX0_liveDay_49 (ct_X2_takeRain hP) q_m_X0_136 (by assumption) rfl rfl rfl (Nat.le_of_ble_eq_true rfl) (by exact ⟨Nat.le_of_ble_eq_true rfl, Nat.le_of_ble_eq_true rfl⟩) (by exact ⟨Nat.le_of_ble_eq_true rfl, Nat.le_of_ble_eq_true rfl⟩) ?_
        refine ww_iinc (v := nI (j + 1)) C dX0_liveDay_52 rfl (nI_inc _) (by decide) ?_
        refine ww_goto C dX0_liveDay_55 18 (by decide) ?_
        refine ww_lv [(0, .ref (gB g + d)), (1, .int (nI (t % 10))), (2, .ref (gB g + (d + 2 + t % 10))), (3, .int (nI (j + 1)))] ⟨rfl, rfl, rfl, rfl, trivial⟩ ?_
        exact ih (j + 1) hjn (by omega)
  refine ww_aload_n C dX0_liveDay_0 0 rfl rfl ?_
  refine ww_getD C (by assumption) 6 (by decide) q_f_X0_46 dX0_liveDay_1 ?_
  refine ww_top ht ?_
  refine ww_bipush (v := 10) C dX0_liveDay_4 (by decide) ?_
  refine ww_callS C mf_J9_floorMod_7cf53 (ct_J9_floorMod_7cf53 ht31) q_m_X0_119 rfl rfl (Nat.le_of_ble_eq_true rfl) (by exact ⟨Nat.le_of_ble_eq_true rfl, Nat.le_of_ble_eq_true rfl⟩) (by exact ⟨Nat.le_of_ble_eq_true rfl, Nat.le_of_ble_eq_true rfl⟩) dX0_liveDay_6 ?_
  refine ww_istore_n C dX0_liveDay_9 1 rfl (by decide) ?_
  refine ww_aload_n C dX0_liveDay_10 0 rfl rfl ?_
  refine ww_iload_n C dX0_liveDay_11 1 rfl rfl ?_
  refine ww_callD C mf_X0_weatherAt dX0_liveDay_12 (ok_X0_weatherAt hd ⟨t % 10, t10, rfl⟩) q_m_X0_122 (by assumption) rfl rfl rfl (Nat.le_of_ble_eq_true rfl) (by exact ⟨Nat.le_of_ble_eq_true rfl, Nat.le_of_ble_eq_true rfl⟩) (by exact ⟨Nat.le_of_ble_eq_true rfl, Nat.le_of_ble_eq_true rfl⟩) ?_
  rw [show (nI (t % 10)).toNatClampNeg = t % 10 from nI_clamp (by omega)]
  refine ww_astore_n C dX0_liveDay_15 2 rfl (by decide) ?_
  refine ww_iconst (v := 0) C dX0_liveDay_16 (by decide) ?_
  refine ww_istore_n C dX0_liveDay_17 3 rfl (by decide) ?_
  refine ww_lv [(0, .ref (gB g + d)), (1, .int (nI (t % 10))), (2, .ref (gB g + (d + 2 + t % 10))), (3, .int (nI 0))] ⟨rfl, rfl, rfl, rfl, trivial⟩ ?_
  exact L1 (n + 1) 0 (Nat.zero_le _) (by omega)
theorem days_ok {d n f t : Nat} {h : Hp} (H : OK d n f h) (ht : h d 6 = nI t) : ∀ k, OK d n f (d_days d n f t h k) ∧ d_days d n f t h k d 6 = nI (t + k)
  | 0 => ⟨H, ht⟩
  | k + 1 => ⟨(days_ok H ht k).1.day, day_t (days_ok H ht k).1 (days_ok H ht k).2⟩
set_option maxRecDepth 100000 in
set_option maxHeartbeats 4000000 in
theorem ct_X0_liveDays {g : gW} {l : Launch} {h : Hp} {d n f t k : Nat} (hd : isD d) (H : OK d n f h) (ht : h d 6 = nI t) (ht31 : t + k < 2 ^ 31) : CT g l yX0_liveDays cX0_liveDays 4 (some FieldType.int) 5 0 0 [.ref (gB g + d), .int (nI k)] h (some (.int (d_daysU d n f t h k))) (d_days d n f t h k) := by
  refine CT.of (lv0 := [(0, .ref (gB g + d)), (1, .int (nI k))]) mf_X0_liveDays.1.2.2.2 (Nat.le_of_ble_eq_true rfl) rfl ?_
  intro p e s m below meth c C hr
  have L : ∀ (fu j : Nat), j ≤ k → k < fu + j → WW g p l e (rK 5 0 0) s m ([.ref (gB g + d), .int (nI k)] : List Value).toArray below meth c 4 [] (d_days d n f t h j) [(0, .ref (gB g + d)), (1, .int (nI k)), (2, .int (d_daysU d n f t h j)), (3, .int (nI j))] 0 0 (MQ below (QW g s.heap.size (some (.int (d_daysU d n f t h k))) (d_days d n f t h k)) ([.ref (gB g + d), .int (nI k)] : List Value).toArray s 0 0 (AA g s.heap.size)) 4 [] := by
    intro fu
    induction fu with
    | zero => intro j h1 h2; omega
    | succ fu ih =>
      intro j hj hfu
      have Hj := days_ok H ht j
      refine ww_iload_n C dX0_liveDays_4 3 rfl rfl ?_
      refine ww_iload_n C dX0_liveDays_5 1 rfl rfl ?_
      refine ww_icmp_ge C dX0_liveDays_6 22 (by decide) (fun q => ?_) (fun q => ?_)
      · have hjn := lp_exit (rfl : nI k = nI k) q hj (by omega)
        subst hjn
        refine ww_iload_n C dX0_liveDays_22 2 rfl rfl ?_
        exact ww_iret C hr rfl rfl dX0_liveDays_23
      · have hjn := lp_body (rfl : nI k = nI k) q hj (by omega)
        refine ww_iload_n C dX0_liveDays_9 2 rfl rfl ?_
        refine ww_aload_n C dX0_liveDays_10 0 rfl rfl ?_
        refine ww_callD C mf_X0_liveDay dX0_liveDays_11 (ct_X0_liveDay hd Hj.1 Hj.2 (by omega)) q_m_X0_115 (by assumption) rfl rfl rfl (Nat.le_of_ble_eq_true rfl) (by exact ⟨Nat.le_of_ble_eq_true rfl, Nat.le_of_ble_eq_true rfl⟩) (by exact ⟨Nat.le_of_ble_eq_true rfl, Nat.le_of_ble_eq_true rfl⟩) ?_
        refine ww_iadd C dX0_liveDays_14 ?_
        refine ww_istore_n C dX0_liveDays_15 2 rfl (by decide) ?_
        refine ww_iinc (v := nI (j + 1)) C dX0_liveDays_16 rfl (nI_inc _) (by decide) ?_
        refine ww_goto C dX0_liveDays_19 4 (by decide) ?_
        refine ww_lv [(0, .ref (gB g + d)), (1, .int (nI k)), (2, .int (d_daysU d n f t h (j + 1))), (3, .int (nI (j + 1)))] ⟨rfl, rfl, rfl, rfl, trivial⟩ ?_
        exact ih (j + 1) hjn (by omega)
  refine ww_iconst (v := 0) C dX0_liveDays_0 (by decide) ?_
  refine ww_istore_n C dX0_liveDays_1 2 rfl (by decide) ?_
  refine ww_iconst (v := 0) C dX0_liveDays_2 (by decide) ?_
  refine ww_istore_n C dX0_liveDays_3 3 rfl (by decide) ?_
  refine ww_lv [(0, .ref (gB g + d)), (1, .int (nI k)), (2, .int (d_daysU d n f t h 0)), (3, .int (nI 0))] ⟨rfl, rfl, rfl, rfl, trivial⟩ ?_
  exact L (k + 1) 0 (Nat.zero_le _) (by omega)
