set_option maxRecDepth 100000 in
set_option maxHeartbeats 4000000 in
theorem ct_X4_waterBehind {g : gW} {l : Launch} {h : Hp} {n f t : Nat} (H : OK 1 n f h) (ht : h 1 6 = nI t) (ht31 : t + 300 < 2 ^ 31) {k : Nat} {y : Int32} (hy : y = -1 ∨ isN n y) (hk50 : k ≤ 50) : CT g l yX4_waterBehind cX4_waterBehind 3 (some FieldType.int) 6 0 0 [.ref (gB g + 0), .int (nI k), .int y] h (some (.int (x_wV n f t h k y))) (x_wH n f t h k y) := by
  refine CT.of (lv0 := [(0, .ref (gB g + 0)), (1, .int (nI k)), (2, .int y)]) mf_X4_waterBehind.1.2.2.2 (Nat.le_of_ble_eq_true rfl) rfl ?_
  intro p e s m below meth c C hr
  have hd : isD 1 := Or.inl rfl
  have hn := H.1
  have hn10 := H.2.1
  have hf := H.2.2.1
  have hf6 : f ≤ 6 := H.2.2.2.1
  have hd32 : isD 32 := Or.inr rfl
  have HL := wL_ok H hy
  have htL : x_wL n f h y 32 6 = nI t := wL_t ht
  have HD : OK 32 n f (x_wH n f t h k y) := (days_ok HL htL k).1
  refine ww_aload_n C dX4_waterBehind_0 0 rfl rfl ?_
  refine ww_getXa C q_f_X4_18 dX4_waterBehind_1 ?_
  refine ww_aload_n C dX4_waterBehind_4 0 rfl rfl ?_
  refine ww_getXd C q_f_X4_14 dX4_waterBehind_5 ?_
  refine ww_callD C mf_X0_becomeLike dX4_waterBehind_8 (ct_X0_becomeLike H) q_m_X4_206 (by assumption) rfl rfl rfl (Nat.le_of_ble_eq_true rfl) (by exact ⟨Nat.le_of_ble_eq_true rfl, Nat.le_of_ble_eq_true rfl⟩) (by exact ⟨Nat.le_of_ble_eq_true rfl, Nat.le_of_ble_eq_true rfl⟩) ?_
  refine ww_iload_n C dX4_waterBehind_11 2 rfl rfl ?_
  refine ww_iconst (v := (-1)) C dX4_waterBehind_12 (by decide) ?_
  refine ww_icmp_eq C dX4_waterBehind_13 35 (by decide) (fun c13 => ?_) (fun c13 => ?_)
  · refine ww_heap (h2 := x_wL n f h y) (by first | exact (if_pos c13).symm | exact (if_neg c13).symm) ?_
    refine ww_aload_n C dX4_waterBehind_35 0 rfl rfl ?_
    refine ww_getXa C q_f_X4_18 dX4_waterBehind_36 ?_
    refine ww_iload_n C dX4_waterBehind_39 1 rfl rfl ?_
    refine ww_callD C mf_X0_liveDays dX4_waterBehind_40 (ct_X0_liveDays hd32 HL htL (by omega)) q_m_X4_180 (by assumption) rfl rfl rfl (Nat.le_of_ble_eq_true rfl) (by exact ⟨Nat.le_of_ble_eq_true rfl, Nat.le_of_ble_eq_true rfl⟩) (by exact ⟨Nat.le_of_ble_eq_true rfl, Nat.le_of_ble_eq_true rfl⟩) ?_
    refine ww_pop C dX4_waterBehind_43 rfl ?_
    refine ww_aload_n C dX4_waterBehind_44 0 rfl rfl ?_
    refine ww_getXa C q_f_X4_18 dX4_waterBehind_45 ?_
    refine ww_callD C mf_X0_allWater dX4_waterBehind_48 (ct_X0_allWater hd32 HD.1 hn10) q_m_X4_195 (by assumption) rfl rfl rfl (Nat.le_of_ble_eq_true rfl) (by exact ⟨Nat.le_of_ble_eq_true rfl, Nat.le_of_ble_eq_true rfl⟩) (by exact ⟨Nat.le_of_ble_eq_true rfl, Nat.le_of_ble_eq_true rfl⟩) ?_
    exact ww_iret C hr rfl rfl dX4_waterBehind_51
  · refine ww_aload_n C dX4_waterBehind_16 0 rfl rfl ?_
    refine ww_getXa C q_f_X4_18 dX4_waterBehind_17 ?_
    refine ww_iload_n C dX4_waterBehind_20 2 rfl rfl ?_
    refine ww_callD C mf_X0_pondAt dX4_waterBehind_21 (ok_X0_pondAt hd32 H.like.1 hn10 (hy.resolve_left c13)) q_m_X4_38 (by assumption) rfl rfl rfl (Nat.le_of_ble_eq_true rfl) (by exact ⟨Nat.le_of_ble_eq_true rfl, Nat.le_of_ble_eq_true rfl⟩) (by exact ⟨Nat.le_of_ble_eq_true rfl, Nat.le_of_ble_eq_true rfl⟩) ?_
    have hPy := isP_x hd32 hn10 (hy.resolve_left c13)
    refine ww_aload_n C dX4_waterBehind_24 0 rfl rfl ?_
    refine ww_getXa C q_f_X4_18 dX4_waterBehind_25 ?_
    refine ww_getD C (by assumption) 7 (by decide) q_f_X4_64 dX4_waterBehind_28 ?_
    refine ww_callP C mf_X2_lineWith dX4_waterBehind_31 (ct_X2_lineWith hPy) q_m_X4_73 (by assumption) rfl rfl rfl (Nat.le_of_ble_eq_true rfl) (by exact ⟨Nat.le_of_ble_eq_true rfl, Nat.le_of_ble_eq_true rfl⟩) (by exact ⟨Nat.le_of_ble_eq_true rfl, Nat.le_of_ble_eq_true rfl⟩) ?_
    refine ww_pop C dX4_waterBehind_34 rfl ?_
    refine ww_heap (h2 := x_wL n f h y) (by first | exact (if_pos c13).symm | exact (if_neg c13).symm) ?_
    refine ww_aload_n C dX4_waterBehind_35 0 rfl rfl ?_
    refine ww_getXa C q_f_X4_18 dX4_waterBehind_36 ?_
    refine ww_iload_n C dX4_waterBehind_39 1 rfl rfl ?_
    refine ww_callD C mf_X0_liveDays dX4_waterBehind_40 (ct_X0_liveDays hd32 HL htL (by omega)) q_m_X4_180 (by assumption) rfl rfl rfl (Nat.le_of_ble_eq_true rfl) (by exact ⟨Nat.le_of_ble_eq_true rfl, Nat.le_of_ble_eq_true rfl⟩) (by exact ⟨Nat.le_of_ble_eq_true rfl, Nat.le_of_ble_eq_true rfl⟩) ?_
    refine ww_pop C dX4_waterBehind_43 rfl ?_
    refine ww_aload_n C dX4_waterBehind_44 0 rfl rfl ?_
    refine ww_getXa C q_f_X4_18 dX4_waterBehind_45 ?_
    refine ww_callD C mf_X0_allWater dX4_waterBehind_48 (ct_X0_allWater hd32 HD.1 hn10) q_m_X4_195 (by assumption) rfl rfl rfl (Nat.le_of_ble_eq_true rfl) (by exact ⟨Nat.le_of_ble_eq_true rfl, Nat.le_of_ble_eq_true rfl⟩) (by exact ⟨Nat.le_of_ble_eq_true rfl, Nat.le_of_ble_eq_true rfl⟩) ?_
    exact ww_iret C hr rfl rfl dX4_waterBehind_51
set_option maxRecDepth 100000 in
set_option maxHeartbeats 4000000 in
theorem xt_X4_advise_in {g : gW} {l : Launch} {h : Hp} (hst : l.stackTraces = false) {n f t : Nat} (H : OK 1 n f h) (ht : h 1 6 = nI t) (ht31 : t + 300 < 2 ^ 31) {k : Nat} (hw : 1 ≤ nI k ∧ nI k ≤ 100) (hk50 : k ≤ 50) : XT g l yX4_advise cX4_advise 6 (some FieldType.int) 7 [.ref (gB g + 0), .int (nI k)] h (rI (x_adv n f t h k n).1 (x_adv n f t h k n).2.2) := by
  refine XT.of (lv0 := [(0, .ref (gB g + 0)), (1, .int (nI k))]) (by decide +kernel) (Nat.le_of_ble_eq_true rfl) rfl ?_
  intro p e s m below meth c C hE hex hr
  have hd : isD 1 := Or.inl rfl
  have hn := H.1
  have hn10 := H.2.1
  have hf := H.2.2.1
  have hf6 : f ≤ 6 := H.2.2.2.1
  have hB : ¬ bI (1 ≤ nI k ∧ nI k ≤ 50) = 0 := fun z => absurd (bI0 z) (fun q => q ⟨hw.1, by have := (nI_leI (a := k) (b := 50) (by omega) (by omega)).mpr hk50; exact this⟩)
  have L : ∀ (fu j : Nat), j ≤ n → n < fu + j → WW g p l e (rK 7 1 6) s m ([.ref (gB g + 0), .int (nI k)] : List Value).toArray below meth c 6 [] (x_adv n f t h k j).2.2 [(0, .ref (gB g + 0)), (1, .int (nI k)), (2, .int (x_adv n f t h k j).1), (3, .int (x_adv n f t h k j).2.1), (4, .int (nI j))] 0 0 (vx_MQ below (QX g s.heap.size (rI (x_adv n f t h k n).1 (x_adv n f t h k n).2.2)) (XX g s.heap.size h (rI (x_adv n f t h k n).1 (x_adv n f t h k n).2.2)) ([.ref (gB g + 0), .int (nI k)] : List Value).toArray s 1 6 (AA g s.heap.size)) 32 [] := by
    intro fu
    induction fu with
    | zero => intro j h1 h2; omega
    | succ fu ih =>
      intro j hj hfu
      have hlo := adv_lo (k := k) H ht j hj
      have Hj : OK 1 n f (x_adv n f t h k j).2.2 := H.lo hlo
      have htj : (x_adv n f t h k j).2.2 1 6 = nI t := by rw [hlo 1 (by omega)]; exact ht
      refine ww_iload C dX4_advise_32 rfl ?_
      refine ww_aload_n C dX4_advise_34 0 rfl rfl ?_
      refine ww_getXd C q_f_X4_14 dX4_advise_35 ?_
      refine ww_getD C (by assumption) 4 (by decide) q_f_X4_186 dX4_advise_38 ?_
      refine ww_icmp_ge C dX4_advise_41 86 (by decide) (fun q => ?_) (fun q => ?_)
      · have hjn := lp_exit Hj.1 q hj (by omega)
        subst hjn
        refine ww_iload_n C dX4_advise_86 2 rfl rfl ?_
        exact ww_xret (mc := 1) (ms := 6) rfl (ww_wide 1 6 (Nat.le_of_ble_eq_true rfl) (Nat.le_of_ble_eq_true rfl) (ww_iret C hr rfl rfl dX4_advise_87))
      · have hjn := lp_body Hj.1 q hj (by omega)
        have hjN : isN n (nI j) := ⟨j, hjn, rfl⟩
        have ej : (nI j).toNatClampNeg = j := nI_clamp (by omega)
        have hP := isP_of hd (show j < 10 by omega)
        refine ww_aload_n C dX4_advise_44 0 rfl rfl ?_
        refine ww_getXd C q_f_X4_14 dX4_advise_45 ?_
        refine ww_iload C dX4_advise_48 rfl ?_
        refine ww_callD C mf_X0_pondAt dX4_advise_50 (ok_X0_pondAt hd Hj.1 hn10 hjN) q_m_X4_38 (by assumption) rfl rfl rfl (Nat.le_of_ble_eq_true rfl) (by exact ⟨Nat.le_of_ble_eq_true rfl, Nat.le_of_ble_eq_true rfl⟩) (by exact ⟨Nat.le_of_ble_eq_true rfl, Nat.le_of_ble_eq_true rfl⟩) ?_
        rw [ej]
        refine ww_callP C mf_X2_isLowEnoughToPuddle dX4_advise_53 (ct_X2_isLowEnoughToPuddle hP) q_m_X4_55 (by assumption) rfl rfl rfl (Nat.le_of_ble_eq_true rfl) (by exact ⟨Nat.le_of_ble_eq_true rfl, Nat.le_of_ble_eq_true rfl⟩) (by exact ⟨Nat.le_of_ble_eq_true rfl, Nat.le_of_ble_eq_true rfl⟩) ?_
        refine ww_if_eq C dX4_advise_56 80 (by decide) (fun c56 => ?_) (fun c56 => ?_)
        · refine ww_iinc (v := nI (j + 1)) C dX4_advise_80 rfl (nI_inc _) (by decide) ?_
          refine ww_goto C dX4_advise_83 32 (by decide) ?_
          refine ww_lv [(0, .ref (gB g + 0)), (1, .int (nI k)), (2, .int (x_adv n f t h k (j + 1)).1), (3, .int (x_adv n f t h k (j + 1)).2.1), (4, .int (nI (j + 1)))] ⟨rfl, rfl, (by first | exact (congrArg (fun z : Int32 × Int32 × Hp => some (Value.int z.1)) (advS_a c56)).symm | exact (congrArg (fun z : Int32 × Int32 × Hp => some (Value.int z.1)) (advS_b c56 c71)).symm | exact (congrArg (fun z : Int32 × Int32 × Hp => some (Value.int z.1)) (advS_c c56 c71)).symm), (by first | exact (congrArg (fun z : Int32 × Int32 × Hp => some (Value.int z.2.1)) (advS_a c56)).symm | exact (congrArg (fun z : Int32 × Int32 × Hp => some (Value.int z.2.1)) (advS_b c56 c71)).symm | exact (congrArg (fun z : Int32 × Int32 × Hp => some (Value.int z.2.1)) (advS_c c56 c71)).symm), rfl, trivial⟩ ?_
          refine ww_heap (h2 := (x_adv n f t h k (j + 1)).2.2) (by first | exact (congrArg (fun z : Int32 × Int32 × Hp => z.2.2) (advS_a c56)).symm | exact (congrArg (fun z : Int32 × Int32 × Hp => z.2.2) (advS_b c56 c71)).symm | exact (congrArg (fun z : Int32 × Int32 × Hp => z.2.2) (advS_c c56 c71)).symm) ?_
          exact ih (j + 1) hjn (by omega)
        · refine ww_aload_n C dX4_advise_59 0 rfl rfl ?_
          refine ww_iload_n C dX4_advise_60 1 rfl rfl ?_
          refine ww_iload C dX4_advise_61 rfl ?_
          refine ww_callX C mf_X4_waterBehind dX4_advise_63 (ct_X4_waterBehind Hj htj ht31 (Or.inr hjN) hk50) q_m_X4_218 rfl rfl rfl (Nat.le_of_ble_eq_true rfl) (by exact ⟨Nat.le_of_ble_eq_true rfl, Nat.le_of_ble_eq_true rfl⟩) (by exact ⟨Nat.le_of_ble_eq_true rfl, Nat.le_of_ble_eq_true rfl⟩) ?_
          refine ww_istore C dX4_advise_66 (by decide) ?_
          refine ww_iload C dX4_advise_68 rfl ?_
          refine ww_iload_n C dX4_advise_70 3 rfl rfl ?_
          refine ww_icmp_le C dX4_advise_71 80 (by decide) (fun c71 => ?_) (fun c71 => ?_)
          · refine ww_iinc (v := nI (j + 1)) C dX4_advise_80 rfl (nI_inc _) (by decide) ?_
            refine ww_goto C dX4_advise_83 32 (by decide) ?_
            refine ww_lv [(0, .ref (gB g + 0)), (1, .int (nI k)), (2, .int (x_adv n f t h k (j + 1)).1), (3, .int (x_adv n f t h k (j + 1)).2.1), (4, .int (nI (j + 1)))] ⟨rfl, rfl, (by first | exact (congrArg (fun z : Int32 × Int32 × Hp => some (Value.int z.1)) (advS_a c56)).symm | exact (congrArg (fun z : Int32 × Int32 × Hp => some (Value.int z.1)) (advS_b c56 c71)).symm | exact (congrArg (fun z : Int32 × Int32 × Hp => some (Value.int z.1)) (advS_c c56 c71)).symm), (by first | exact (congrArg (fun z : Int32 × Int32 × Hp => some (Value.int z.2.1)) (advS_a c56)).symm | exact (congrArg (fun z : Int32 × Int32 × Hp => some (Value.int z.2.1)) (advS_b c56 c71)).symm | exact (congrArg (fun z : Int32 × Int32 × Hp => some (Value.int z.2.1)) (advS_c c56 c71)).symm), rfl, trivial⟩ ?_
            refine ww_heap (h2 := (x_adv n f t h k (j + 1)).2.2) (by first | exact (congrArg (fun z : Int32 × Int32 × Hp => z.2.2) (advS_a c56)).symm | exact (congrArg (fun z : Int32 × Int32 × Hp => z.2.2) (advS_b c56 c71)).symm | exact (congrArg (fun z : Int32 × Int32 × Hp => z.2.2) (advS_c c56 c71)).symm) ?_
            exact ih (j + 1) hjn (by omega)
          · refine ww_iload C dX4_advise_74 rfl ?_
            refine ww_istore_n C dX4_advise_76 3 rfl (by decide) ?_
            refine ww_iload C dX4_advise_77 rfl ?_
            refine ww_istore_n C dX4_advise_79 2 rfl (by decide) ?_
            refine ww_iinc (v := nI (j + 1)) C dX4_advise_80 rfl (nI_inc _) (by decide) ?_
            refine ww_goto C dX4_advise_83 32 (by decide) ?_
            refine ww_lv [(0, .ref (gB g + 0)), (1, .int (nI k)), (2, .int (x_adv n f t h k (j + 1)).1), (3, .int (x_adv n f t h k (j + 1)).2.1), (4, .int (nI (j + 1)))] ⟨rfl, rfl, (by first | exact (congrArg (fun z : Int32 × Int32 × Hp => some (Value.int z.1)) (advS_a c56)).symm | exact (congrArg (fun z : Int32 × Int32 × Hp => some (Value.int z.1)) (advS_b c56 c71)).symm | exact (congrArg (fun z : Int32 × Int32 × Hp => some (Value.int z.1)) (advS_c c56 c71)).symm), (by first | exact (congrArg (fun z : Int32 × Int32 × Hp => some (Value.int z.2.1)) (advS_a c56)).symm | exact (congrArg (fun z : Int32 × Int32 × Hp => some (Value.int z.2.1)) (advS_b c56 c71)).symm | exact (congrArg (fun z : Int32 × Int32 × Hp => some (Value.int z.2.1)) (advS_c c56 c71)).symm), rfl, trivial⟩ ?_
            refine ww_heap (h2 := (x_adv n f t h k (j + 1)).2.2) (by first | exact (congrArg (fun z : Int32 × Int32 × Hp => z.2.2) (advS_a c56)).symm | exact (congrArg (fun z : Int32 × Int32 × Hp => z.2.2) (advS_b c56 c71)).symm | exact (congrArg (fun z : Int32 × Int32 × Hp => z.2.2) (advS_c c56 c71)).symm) ?_
            exact ih (j + 1) hjn (by omega)
  refine ww_iload_n C dX4_advise_0 1 rfl rfl ?_
  refine ww_iconst (v := 1) C dX4_advise_1 (by decide) ?_
  refine ww_bipush (v := 50) C dX4_advise_2 (by decide) ?_
  refine ww_callS C mf_X4_isWithin (ct_X4_isWithin) q_m_X4_21 rfl rfl (Nat.le_of_ble_eq_true rfl) (by exact ⟨Nat.le_of_ble_eq_true rfl, Nat.le_of_ble_eq_true rfl⟩) (by exact ⟨Nat.le_of_ble_eq_true rfl, Nat.le_of_ble_eq_true rfl⟩) dX4_advise_4 ?_
  refine ww_if_ne C dX4_advise_7 20 (by decide) (fun _ => ?_) (fun q => absurd q hB)
  refine ww_iconst (v := (-1)) C dX4_advise_20 (by decide) ?_
  refine ww_istore_n C dX4_advise_21 2 rfl (by decide) ?_
  refine ww_aload_n C dX4_advise_22 0 rfl rfl ?_
  refine ww_iload_n C dX4_advise_23 1 rfl rfl ?_
  refine ww_iconst (v := (-1)) C dX4_advise_24 (by decide) ?_
  refine ww_callX C mf_X4_waterBehind dX4_advise_25 (ct_X4_waterBehind H ht ht31 (Or.inl rfl) hk50) q_m_X4_218 rfl rfl rfl (Nat.le_of_ble_eq_true rfl) (by exact ⟨Nat.le_of_ble_eq_true rfl, Nat.le_of_ble_eq_true rfl⟩) (by exact ⟨Nat.le_of_ble_eq_true rfl, Nat.le_of_ble_eq_true rfl⟩) ?_
  refine ww_istore_n C dX4_advise_28 3 rfl (by decide) ?_
  refine ww_iconst (v := 0) C dX4_advise_29 (by decide) ?_
  refine ww_istore C dX4_advise_30 (by decide) ?_
  refine ww_lv [(0, .ref (gB g + 0)), (1, .int (nI k)), (2, .int (x_adv n f t h k 0).1), (3, .int (x_adv n f t h k 0).2.1), (4, .int (nI 0))] ⟨rfl, rfl, rfl, rfl, rfl, trivial⟩ ?_
  exact L (n + 1) 0 (Nat.zero_le _) (by omega)
set_option maxRecDepth 100000 in
set_option maxHeartbeats 4000000 in
theorem xt_X4_advise_out {g : gW} {l : Launch} {h : Hp} (hst : l.stackTraces = false) {k : Int32} (hw : bI (1 ≤ k ∧ k ≤ 50) = 0) : XT g l yX4_advise cX4_advise 6 (some FieldType.int) 7 [.ref (gB g + 0), .int k] h (.inr E_A) := by
  refine XT.of (lv0 := [(0, .ref (gB g + 0)), (1, .int k)]) (by decide +kernel) (Nat.le_of_ble_eq_true rfl) rfl ?_
  intro p e s m below meth c C hE hex hr
  refine ww_iload_n C dX4_advise_0 1 rfl rfl ?_
  refine ww_iconst (v := 1) C dX4_advise_1 (by decide) ?_
  refine ww_bipush (v := 50) C dX4_advise_2 (by decide) ?_
  refine ww_callS C mf_X4_isWithin (ct_X4_isWithin) q_m_X4_21 rfl rfl (Nat.le_of_ble_eq_true rfl) (by exact ⟨Nat.le_of_ble_eq_true rfl, Nat.le_of_ble_eq_true rfl⟩) (by exact ⟨Nat.le_of_ble_eq_true rfl, Nat.le_of_ble_eq_true rfl⟩) dX4_advise_4 ?_
  refine ww_if_ne C dX4_advise_7 20 (by decide) (fun q => absurd hw q) (fun _ => ?_)
  exact ww_throw (cls := E_A) (text := "days is not 1 to 50") C hE hex hst rfl (by decide +kernel) q_k_X4_25 q_n_E_A (by decide +kernel) gx_X4_29 gy_X4_29 dX4_advise_10 dX4_advise_13 dX4_advise_14 dX4_advise_16 dX4_advise_19 (Nat.le_of_ble_eq_true rfl) (Nat.le_of_ble_eq_true rfl) (Nat.le_of_ble_eq_true rfl) (Nat.le_of_ble_eq_true rfl) (Nat.le_of_ble_eq_true rfl) (Nat.le_of_ble_eq_true rfl)
set_option maxRecDepth 100000 in
set_option maxHeartbeats 4000000 in
theorem xt_X4_lasts {g : gW} {l : Launch} {h : Hp} (hst : l.stackTraces = false) {n f t : Nat} (H : OK 1 n f h) (ht : h 1 6 = nI t) (ht31 : t + 300 < 2 ^ 31) {x : Int32} : XT g l yX4_lasts cX4_lasts 4 (some FieldType.int) 7 [.ref (gB g + 0), .int x] h (x_lasts n f t h x) := by
  refine XT.of (lv0 := [(0, .ref (gB g + 0)), (1, .int x)]) (by decide +kernel) (Nat.le_of_ble_eq_true rfl) rfl ?_
  intro p e s m below meth c C hE hex hr
  have hd : isD 1 := Or.inl rfl
  have hn := H.1
  have hn10 := H.2.1
  have hf := H.2.2.1
  have hf6 : f ≤ 6 := H.2.2.2.1
  have hd32 : isD 32 := Or.inr rfl
  have ht32 : d_like n f h 32 6 = nI t := by rw [like_d (Or.inl rfl)]; exact ht
  have L : ∀ (fu : Nat), (¬ x < 0 ∧ x < nI n) → isP (32 + 14 + x.toNatClampNeg) → ∀ (i : Nat), i ≤ 200 → 200 < fu + i → x_lasts n f t h x = x_lastL n f t (32 + 14 + x.toNatClampNeg) (d_like n f h) (200 - i) i → WW g p l e (rK 7 1 6) s m ([.ref (gB g + 0), .int x] : List Value).toArray below meth c 4 [] (d_days 32 n f t (d_like n f h) i) [(0, .ref (gB g + 0)), (1, .int x), (2, .ref (gB g + (32 + 14 + x.toNatClampNeg))), (3, .int (nI (i + 1)))] 0 0 (vx_MQ below (QX g s.heap.size (x_lasts n f t h x)) (XX g s.heap.size h (x_lasts n f t h x)) ([.ref (gB g + 0), .int x] : List Value).toArray s 1 6 (AA g s.heap.size)) 38 [] := by
    intro fu
    induction fu with
    | zero => intro hv hP3 i h1 h2; omega
    | succ fu ih =>
      intro hv hP3 i hi2 hfu hi
      have Hj := days_ok H.like ht32 i
      refine ww_iload_n C dX4_lasts_38 3 rfl rfl ?_
      refine ww_sipush (v := 200) C dX4_lasts_39 (by decide) ?_
      refine ww_icmp_gt C dX4_lasts_42 68 (by decide) (fun q => ?_) (fun q => ?_)
      · have h9 : 200 < i + 1 := (nI_ltI (a := 200) (b := i + 1) (by omega) (by omega)).mp q
        have h8 : i = 200 := by omega
        subst h8
        refine ww_iconst (v := (-1)) C dX4_lasts_68 (by decide) ?_
        exact ww_xret (mc := 1) (ms := 6) (hi.trans rfl) (ww_wide 1 6 (Nat.le_of_ble_eq_true rfl) (Nat.le_of_ble_eq_true rfl) (ww_iret C hr rfl rfl dX4_lasts_69))
      · have h9 : i + 1 ≤ 200 := by
          rcases Nat.lt_or_ge 200 (i + 1) with z | z
          · exact absurd ((nI_ltI (a := 200) (b := i + 1) (by omega) (by omega)).mpr z) q
          · exact z
        have e10 : 200 - i = (200 - (i + 1)) + 1 := by omega
        rw [e10] at hi
        refine ww_aload_n C dX4_lasts_45 0 rfl rfl ?_
        refine ww_getXa C q_f_X4_18 dX4_lasts_46 ?_
        refine ww_callD C mf_X0_liveDay dX4_lasts_49 (ct_X0_liveDay hd32 Hj.1 Hj.2 (by omega)) q_m_X4_210 (by assumption) rfl rfl rfl (Nat.le_of_ble_eq_true rfl) (by exact ⟨Nat.le_of_ble_eq_true rfl, Nat.le_of_ble_eq_true rfl⟩) (by exact ⟨Nat.le_of_ble_eq_true rfl, Nat.le_of_ble_eq_true rfl⟩) ?_
        refine ww_pop C dX4_lasts_52 rfl ?_
        refine ww_aload_n C dX4_lasts_53 2 rfl rfl ?_
        refine ww_getP C (by assumption) 5 (by decide) q_f_X4_83 dX4_lasts_54 ?_
        refine ww_if_ne C dX4_lasts_57 62 (by decide) (fun c57 => ?_) (fun c57 => ?_)
        · refine ww_iinc (v := nI (i + 1 + 1)) C dX4_lasts_62 rfl (nI_inc _) (by decide) ?_
          refine ww_goto C dX4_lasts_65 38 (by decide) ?_
          refine ww_lv [(0, .ref (gB g + 0)), (1, .int x), (2, .ref (gB g + (32 + 14 + x.toNatClampNeg))), (3, .int (nI ((i + 1) + 1)))] ⟨rfl, rfl, rfl, rfl, trivial⟩ ?_
          exact ih hv hP3 (i + 1) (by omega) (by omega) (hi.trans (lastL_n c57))
        · refine ww_iload_n C dX4_lasts_60 3 rfl rfl ?_
          exact ww_xret (mc := 1) (ms := 6) (hi.trans (lastL_y c57)) (ww_wide 1 6 (Nat.le_of_ble_eq_true rfl) (Nat.le_of_ble_eq_true rfl) (ww_iret C hr rfl rfl dX4_lasts_61))
  refine ww_aload_n C dX4_lasts_0 0 rfl rfl ?_
  refine ww_getXd C q_f_X4_14 dX4_lasts_1 ?_
  refine ww_iload_n C dX4_lasts_4 1 rfl rfl ?_
  by_cases hv : ¬ x < 0 ∧ x < nI n
  · refine ww_callD C mf_X0_pondAt dX4_lasts_5 (ok_X0_pondAt hd hn hn10 (inN_is (by omega) hv)) q_m_X4_38 (by assumption) rfl rfl rfl (Nat.le_of_ble_eq_true rfl) (by exact ⟨Nat.le_of_ble_eq_true rfl, Nat.le_of_ble_eq_true rfl⟩) (by exact ⟨Nat.le_of_ble_eq_true rfl, Nat.le_of_ble_eq_true rfl⟩) ?_
    have hPhv := isP_x hd hn10 (inN_is (by omega) hv)
    refine ww_getP C (by assumption) 5 (by decide) q_f_X4_83 dX4_lasts_8 ?_
    refine ww_if_ne C dX4_lasts_11 16 (by decide) (fun c11 => ?_) (fun c11 => ?_)
    · refine ww_aload_n C dX4_lasts_16 0 rfl rfl ?_
      refine ww_getXa C q_f_X4_18 dX4_lasts_17 ?_
      refine ww_aload_n C dX4_lasts_20 0 rfl rfl ?_
      refine ww_getXd C q_f_X4_14 dX4_lasts_21 ?_
      refine ww_callD C mf_X0_becomeLike dX4_lasts_24 (ct_X0_becomeLike H) q_m_X4_206 (by assumption) rfl rfl rfl (Nat.le_of_ble_eq_true rfl) (by exact ⟨Nat.le_of_ble_eq_true rfl, Nat.le_of_ble_eq_true rfl⟩) (by exact ⟨Nat.le_of_ble_eq_true rfl, Nat.le_of_ble_eq_true rfl⟩) ?_
      refine ww_aload_n C dX4_lasts_27 0 rfl rfl ?_
      refine ww_getXa C q_f_X4_18 dX4_lasts_28 ?_
      refine ww_iload_n C dX4_lasts_31 1 rfl rfl ?_
      refine ww_callD C mf_X0_pondAt dX4_lasts_32 (ok_X0_pondAt hd32 H.like.1 hn10 (inN_is (by omega) hv)) q_m_X4_38 (by assumption) rfl rfl rfl (Nat.le_of_ble_eq_true rfl) (by exact ⟨Nat.le_of_ble_eq_true rfl, Nat.le_of_ble_eq_true rfl⟩) (by exact ⟨Nat.le_of_ble_eq_true rfl, Nat.le_of_ble_eq_true rfl⟩) ?_
      have hP3 := isP_x hd32 hn10 (inN_is (n := n) (by omega) hv)
      refine ww_astore_n C dX4_lasts_35 2 rfl (by decide) ?_
      refine ww_iconst (v := 1) C dX4_lasts_36 (by decide) ?_
      refine ww_istore_n C dX4_lasts_37 3 rfl (by decide) ?_
      refine ww_lv [(0, .ref (gB g + 0)), (1, .int x), (2, .ref (gB g + (32 + 14 + x.toNatClampNeg))), (3, .int (nI (0 + 1)))] ⟨rfl, rfl, rfl, rfl, trivial⟩ ?_
      exact L 201 hv hP3 0 (by omega) (by omega) (by simp only [x_lasts, hv, c11, not_false_eq_true, and_self, if_true, if_false])
    · refine ww_iconst (v := 0) C dX4_lasts_14 (by decide) ?_
      exact ww_xret (mc := 1) (ms := 6) (by simp only [x_lasts, rI, hv, c11, not_false_eq_true, and_self, if_true, if_false]; try rfl; done) (ww_wide 1 6 (Nat.le_of_ble_eq_true rfl) (Nat.le_of_ble_eq_true rfl) (ww_iret C hr rfl rfl dX4_lasts_15))
  · exact ww_callVx C hE hex (by simp only [x_lasts, rI, hv, not_false_eq_true, and_self, if_true, if_false]; try rfl; done) mf_X0_pondAt dX4_lasts_5 (xt_X0_pondAt hst hd hn hn10 (fun z => hv (is_inN (by omega) z))) q_m_X4_38 (isD_lt (by assumption)) (ci := 0) rfl rfl ⟨_, ce_D (by assumption)⟩ rfl rfl (Nat.le_of_ble_eq_true rfl) (by exact ⟨Nat.le_of_ble_eq_true rfl, Nat.le_of_ble_eq_true rfl⟩) (by exact ⟨Nat.le_of_ble_eq_true rfl, Nat.le_of_ble_eq_true rfl⟩) (Nat.le_of_ble_eq_true rfl) (Nat.le_of_ble_eq_true rfl)
