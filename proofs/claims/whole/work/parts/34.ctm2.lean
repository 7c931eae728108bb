def m_drT (z : Hp) (x : Int32) : Int32 := if m_its z x = 2 * m_fl z x 0 then mxI 0 (m_fl (m_dr2 z x) x 2 - 2) else mnI 10 (m_fl (m_dr2 z x) x 2 + 3)
theorem drT_y {z : Hp} {x : Int32} (c : m_its z x = 2 * m_fl z x 0) : m_drT z x = mxI 0 (m_fl (m_dr2 z x) x 2 - 2) := if_pos c
theorem drT_n {z : Hp} {x : Int32} (c : ¬ m_its z x = 2 * m_fl z x 0) : m_drT z x = mnI 10 (m_fl (m_dr2 z x) x 2 + 3) := if_neg c
theorem dr4_y {h : Hp} {n : Nat} {x : Int32} (c : m_po (m_dr3 (m_roam h n x) x) (m_fl (m_roam h n x) x 1) 2 = 0) : m_drink h n x = m_set (m_dr3 (m_roam h n x) x) (m_fl (m_roam h n x) x 1) 1 (mxI 0 (m_po (m_dr3 (m_roam h n x) x) (m_fl (m_roam h n x) x 1) 1 - m_fl (m_dr3 (m_roam h n x) x) x 0 / 10)) := if_pos c
theorem dr4_n {h : Hp} {n : Nat} {x : Int32} (c : ¬ m_po (m_dr3 (m_roam h n x) x) (m_fl (m_roam h n x) x 1) 2 = 0) : m_drink h n x = m_dr3 (m_roam h n x) x := if_neg c
theorem by1_y {h : Hp} {w j : Nat} (c : m_fx h (nI j) 2 < 150) : m_by1 h w j = h 66 (3 * w) * m_fx h (nI j) 3 / 4 * 1 := by unfold m_by1; rw [if_pos c]
theorem by1_n {h : Hp} {w j : Nat} (c : ¬ m_fx h (nI j) 2 < 150) : m_by1 h w j = h 66 (3 * w) * m_fx h (nI j) 3 / 4 * 2 := by unfold m_by1; rw [if_neg c]
theorem by3_y {h : Hp} {w j : Nat} (c : m_po h (nI j) 2 = 1) : m_by3 h w j = -(h 66 (3 * w + 2) * m_fx h (nI j) 3 / 5 / 2) := by unfold m_by3; rw [if_pos c]
theorem by3_n {h : Hp} {w j : Nat} (c : ¬ m_po h (nI j) 2 = 1) : m_by3 h w j = -(h 66 (3 * w + 2) * m_fx h (nI j) 3 / 5 / 1) := by unfold m_by3; rw [if_neg c]
theorem mflock_lost {h : Hp} {n j : Nat} (c : m_fl h (nI j) 2 = 10) : m_flock n h j = h := if_pos c
theorem mflock_on {h : Hp} {n j : Nat} (c : ¬ m_fl h (nI j) 2 = 10) : m_flock n h j = m_drink h n (nI j) := if_neg c
theorem mflockU_lost {h : Hp} {n j : Nat} {u : Int32} (c : m_fl h (nI j) 2 = 10) : m_flockU n h j u = u := if_pos c
theorem mflockU_on {h : Hp} {n j : Nat} {u : Int32} (c : ¬ m_fl h (nI j) 2 = 10) : m_flockU n h j u = u + m_drinkU h n (nI j) := if_neg c
set_option maxRecDepth 100000 in
set_option maxHeartbeats 1600000 in
theorem ct_X5_weatherTold {g : gW} {l : Launch} {h : Hp} {j : Nat} (hj : j < 10) : CT g l yX5_weatherTold cX5_weatherTold 2 (some FieldType.int) 0 0 0 [.ref (gB g + 64), .int (nI j)] h (some (.int (m_wt h j))) h := by
  refine CT.of (lv0 := [(0, .ref (gB g + 64)), (1, .int (nI j))]) mf_X5_weatherTold.1.2.2.2 (Nat.le_of_ble_eq_true rfl) rfl ?_
  intro p e s m below meth c C hr
  refine ww_bipush (v := 100) C dX5_weatherTold_0 (by decide) ?_
  refine ww_aload_n C dX5_weatherTold_2 0 rfl rfl ?_
  refine ww_getMw C q_f_X5_13 dX5_weatherTold_3 ?_
  refine ww_iconst (v := 3) C dX5_weatherTold_6 (by decide) ?_
  refine ww_iload_n C dX5_weatherTold_7 1 rfl rfl ?_
  refine ww_imul C dX5_weatherTold_8 ?_
  refine ww_top three0 ?_
  refine ww_iald (o := 66) (n := 30) C (by omega) (fun r => rfl) (by omega) (by omega) dX5_weatherTold_9 ?_
  refine ww_imul C dX5_weatherTold_10 ?_
  refine ww_bipush (v := 10) C dX5_weatherTold_11 (by decide) ?_
  refine ww_aload_n C dX5_weatherTold_13 0 rfl rfl ?_
  refine ww_getMw C q_f_X5_13 dX5_weatherTold_14 ?_
  refine ww_iconst (v := 3) C dX5_weatherTold_17 (by decide) ?_
  refine ww_iload_n C dX5_weatherTold_18 1 rfl rfl ?_
  refine ww_imul C dX5_weatherTold_19 ?_
  refine ww_iconst (v := 1) C dX5_weatherTold_20 (by decide) ?_
  refine ww_iadd C dX5_weatherTold_21 ?_
  refine ww_top (show (3 : Int32) * nI j + 1 = nI (3 * j + 1) from three (k := 1)) ?_
  refine ww_iald (o := 66) (n := 30) C (by omega) (fun r => rfl) (by omega) (by omega) dX5_weatherTold_22 ?_
  refine ww_imul C dX5_weatherTold_23 ?_
  refine ww_iadd C dX5_weatherTold_24 ?_
  refine ww_aload_n C dX5_weatherTold_25 0 rfl rfl ?_
  refine ww_getMw C q_f_X5_13 dX5_weatherTold_26 ?_
  refine ww_iconst (v := 3) C dX5_weatherTold_29 (by decide) ?_
  refine ww_iload_n C dX5_weatherTold_30 1 rfl rfl ?_
  refine ww_imul C dX5_weatherTold_31 ?_
  refine ww_iconst (v := 2) C dX5_weatherTold_32 (by decide) ?_
  refine ww_iadd C dX5_weatherTold_33 ?_
  refine ww_top (show (3 : Int32) * nI j + 2 = nI (3 * j + 2) from three (k := 2)) ?_
  refine ww_iald (o := 66) (n := 30) C (by omega) (fun r => rfl) (by omega) (by omega) dX5_weatherTold_34 ?_
  refine ww_iadd C dX5_weatherTold_35 ?_
  exact ww_iret C hr rfl rfl dX5_weatherTold_36
set_option maxRecDepth 100000 in
set_option maxHeartbeats 1600000 in
theorem ct_X5_roam {g : gW} {l : Launch} {h : Hp} {n f : Nat} {x : Int32} (H : OM n f h) (hx : isN 7 x) (hfr : isN n (m_fl h x 1)) : CT g l yX5_roam cX5_roam 6 none 2 0 0 [.ref (gB g + 64), .int x] h none (m_roam h n x) := by
  refine CT.of (lv0 := [(0, .ref (gB g + 64)), (1, .int x)]) mf_X5_roam.1.2.2.2 (Nat.le_of_ble_eq_true rfl) rfl ?_
  intro p e s m below meth c C hr
  have hn := H.1
  have hn10 := H.2.1
  have hf := H.2.2.1
  have hf7 := H.2.2.2.1
  have hfr10 : isN 10 (m_fl h x 1) := isN_up hfr hn10
  have L : ∀ (fu j : Nat), j ≤ n → n < fu + j → ¬ m_fl h x 3 = 0 → ¬ m_fl h x 2 = 0 → m_po h (m_fl h x 1) 0 < 2 * m_fl h x 0 → WW g p l e (rK 2 0 0) s m ([.ref (gB g + 64), .int x] : List Value).toArray below meth c 6 [] h [(0, .ref (gB g + 64)), (1, .int x), (2, .int (2 * m_fl h x 0)), (3, .int (m_fl h x 1)), (4, .int (m_best h (2 * m_fl h x 0) (m_fl h x 1) j)), (5, .int (nI j))] 0 0 (MQ below (QW g s.heap.size none (m_roam h n x)) ([.ref (gB g + 64), .int x] : List Value).toArray s 0 0 (AA g s.heap.size)) 51 [] := by
    intro fu
    induction fu with
    | zero => intro j h1 h2; omega
    | succ fu ih =>
      intro j hj hfu c22 c31 c41
      refine ww_iload C dX5_roam_51 rfl ?_
      refine ww_aload_n C dX5_roam_53 0 rfl rfl ?_
      refine ww_getM C 1 (by decide) q_f_X5_29 dX5_roam_54 ?_
      refine ww_icmp_ge C dX5_roam_57 110 (by decide) (fun q => ?_) (fun q => ?_)
      · have hjn := lp_exit hn q hj (by omega)
        subst hjn
        refine ww_iload C dX5_roam_110 rfl ?_
        refine ww_iconst (v := (-1)) C dX5_roam_112 (by decide) ?_
        refine ww_icmp_eq C dX5_roam_113 124 (by decide) (fun c113 => ?_) (fun c113 => ?_)
        · exact ww_vret C hr rfl (by first | exact roam_a c22 | exact roam_b c22 c31 | exact roam_c c22 c31 c41 | exact roam_d c22 c31 c41 c113 | exact roam_e c22 c31 c41 c113) dX5_roam_124
        · have hb9 := (best_in (h := h) (need := 2 * m_fl h x 0) (from_ := m_fl h x 1) (n := n) n (Nat.le_refl n))
          refine ww_aload_n C dX5_roam_116 0 rfl rfl ?_
          refine ww_iload_n C dX5_roam_117 1 rfl rfl ?_
          refine ww_iconst (v := 1) C dX5_roam_118 (by decide) ?_
          refine ww_iload C dX5_roam_119 rfl ?_
          refine ww_callM C mf_X5_setFl dX5_roam_121 (ct_X5_setFl (by first | exact jx_0 (by assumption) | exact jx_1 (by assumption) | exact jx_2 (by assumption) | exact jx_3 (by assumption) | exact jx_4 (by assumption))) q_m_X5_112 rfl rfl rfl (Nat.le_of_ble_eq_true rfl) (by exact ⟨Nat.le_of_ble_eq_true rfl, Nat.le_of_ble_eq_true rfl⟩) (by exact ⟨Nat.le_of_ble_eq_true rfl, Nat.le_of_ble_eq_true rfl⟩) ?_
          exact ww_vret C hr rfl (by first | exact roam_a c22 | exact roam_b c22 c31 | exact roam_c c22 c31 c41 | exact roam_d c22 c31 c41 c113 | exact roam_e c22 c31 c41 c113) dX5_roam_124
      · have hjn := lp_body hn q hj (by omega)
        have hxj : isN 10 (nI j) := ⟨j, by omega, rfl⟩
        have hbj := best_in (h := h) (need := 2 * m_fl h x 0) (from_ := m_fl h x 1) (n := n) j (by omega)
        refine ww_iload C dX5_roam_60 rfl ?_
        refine ww_iload_n C dX5_roam_62 3 rfl rfl ?_
        refine ww_icmp_eq C dX5_roam_63 104 (by decide) (fun c63 => ?_) (fun c63 => ?_)
        · refine ww_iinc (v := nI (j + 1)) C dX5_roam_104 rfl (nI_inc _) (by decide) ?_
          refine ww_goto C dX5_roam_107 51 (by decide) ?_
          refine ww_lv [(0, .ref (gB g + 64)), (1, .int x), (2, .int (2 * m_fl h x 0)), (3, .int (m_fl h x 1)), (4, .int (m_best h (2 * m_fl h x 0) (m_fl h x 1) (j + 1))), (5, .int (nI (j + 1)))] ⟨rfl, rfl, rfl, rfl, (congrArg (fun z => some (Value.int z)) (by first | exact (roamS_a c63).symm | exact (roamS_b c63 c74).symm | exact (roamS_c c63 c74 c80).symm | exact (roamS_d c63 c74 c80 c97).symm | exact (roamS_e c63 c74 c80 c97).symm)), rfl, trivial⟩ ?_
          exact ih (j + 1) hjn (by omega) c22 c31 c41
        · refine ww_aload_n C dX5_roam_66 0 rfl rfl ?_
          refine ww_iload C dX5_roam_67 rfl ?_
          refine ww_iconst (v := 0) C dX5_roam_69 (by decide) ?_
          refine ww_callM C mf_X5_po dX5_roam_70 (ct_X5_po (by first | exact ix_0 (by assumption) | exact ix_1 (by assumption) | exact ix_2 (by assumption) | exact ix_3 (by assumption) | exact ix_4 (by assumption))) q_m_X5_66 rfl rfl rfl (Nat.le_of_ble_eq_true rfl) (by exact ⟨Nat.le_of_ble_eq_true rfl, Nat.le_of_ble_eq_true rfl⟩) (by exact ⟨Nat.le_of_ble_eq_true rfl, Nat.le_of_ble_eq_true rfl⟩) ?_
          refine ww_iload_n C dX5_roam_73 2 rfl rfl ?_
          refine ww_icmp_lt C dX5_roam_74 104 (by decide) (fun c74 => ?_) (fun c74 => ?_)
          · refine ww_iinc (v := nI (j + 1)) C dX5_roam_104 rfl (nI_inc _) (by decide) ?_
            refine ww_goto C dX5_roam_107 51 (by decide) ?_
            refine ww_lv [(0, .ref (gB g + 64)), (1, .int x), (2, .int (2 * m_fl h x 0)), (3, .int (m_fl h x 1)), (4, .int (m_best h (2 * m_fl h x 0) (m_fl h x 1) (j + 1))), (5, .int (nI (j + 1)))] ⟨rfl, rfl, rfl, rfl, (congrArg (fun z => some (Value.int z)) (by first | exact (roamS_a c63).symm | exact (roamS_b c63 c74).symm | exact (roamS_c c63 c74 c80).symm | exact (roamS_d c63 c74 c80 c97).symm | exact (roamS_e c63 c74 c80 c97).symm)), rfl, trivial⟩ ?_
            exact ih (j + 1) hjn (by omega) c22 c31 c41
          · refine ww_iload C dX5_roam_77 rfl ?_
            refine ww_iconst (v := (-1)) C dX5_roam_79 (by decide) ?_
            refine ww_icmp_eq C dX5_roam_80 100 (by decide) (fun c80 => ?_) (fun c80 => ?_)
            · refine ww_iload C dX5_roam_100 rfl ?_
              refine ww_istore C dX5_roam_102 (by decide) ?_
              refine ww_iinc (v := nI (j + 1)) C dX5_roam_104 rfl (nI_inc _) (by decide) ?_
              refine ww_goto C dX5_roam_107 51 (by decide) ?_
              refine ww_lv [(0, .ref (gB g + 64)), (1, .int x), (2, .int (2 * m_fl h x 0)), (3, .int (m_fl h x 1)), (4, .int (m_best h (2 * m_fl h x 0) (m_fl h x 1) (j + 1))), (5, .int (nI (j + 1)))] ⟨rfl, rfl, rfl, rfl, (congrArg (fun z => some (Value.int z)) (by first | exact (roamS_a c63).symm | exact (roamS_b c63 c74).symm | exact (roamS_c c63 c74 c80).symm | exact (roamS_d c63 c74 c80 c97).symm | exact (roamS_e c63 c74 c80 c97).symm)), rfl, trivial⟩ ?_
              exact ih (j + 1) hjn (by omega) c22 c31 c41
            · refine ww_aload_n C dX5_roam_83 0 rfl rfl ?_
              refine ww_iload_n C dX5_roam_84 3 rfl rfl ?_
              refine ww_iload C dX5_roam_85 rfl ?_
              refine ww_callM C mf_X5_far dX5_roam_87 (ct_X5_far (by assumption) (by assumption)) q_m_X5_109 rfl rfl rfl (Nat.le_of_ble_eq_true rfl) (by exact ⟨Nat.le_of_ble_eq_true rfl, Nat.le_of_ble_eq_true rfl⟩) (by exact ⟨Nat.le_of_ble_eq_true rfl, Nat.le_of_ble_eq_true rfl⟩) ?_
              have hb10 : isN 10 (m_best h (2 * m_fl h x 0) (m_fl h x 1) j) := isN_up (hbj.resolve_left c80) hn10
              refine ww_aload_n C dX5_roam_90 0 rfl rfl ?_
              refine ww_iload_n C dX5_roam_91 3 rfl rfl ?_
              refine ww_iload C dX5_roam_92 rfl ?_
              refine ww_callM C mf_X5_far dX5_roam_94 (ct_X5_far (by assumption) (by assumption)) q_m_X5_109 rfl rfl rfl (Nat.le_of_ble_eq_true rfl) (by exact ⟨Nat.le_of_ble_eq_true rfl, Nat.le_of_ble_eq_true rfl⟩) (by exact ⟨Nat.le_of_ble_eq_true rfl, Nat.le_of_ble_eq_true rfl⟩) ?_
              refine ww_icmp_ge C dX5_roam_97 104 (by decide) (fun c97 => ?_) (fun c97 => ?_)
              · refine ww_iinc (v := nI (j + 1)) C dX5_roam_104 rfl (nI_inc _) (by decide) ?_
                refine ww_goto C dX5_roam_107 51 (by decide) ?_
                refine ww_lv [(0, .ref (gB g + 64)), (1, .int x), (2, .int (2 * m_fl h x 0)), (3, .int (m_fl h x 1)), (4, .int (m_best h (2 * m_fl h x 0) (m_fl h x 1) (j + 1))), (5, .int (nI (j + 1)))] ⟨rfl, rfl, rfl, rfl, (congrArg (fun z => some (Value.int z)) (by first | exact (roamS_a c63).symm | exact (roamS_b c63 c74).symm | exact (roamS_c c63 c74 c80).symm | exact (roamS_d c63 c74 c80 c97).symm | exact (roamS_e c63 c74 c80 c97).symm)), rfl, trivial⟩ ?_
                exact ih (j + 1) hjn (by omega) c22 c31 c41
              · refine ww_iload C dX5_roam_100 rfl ?_
                refine ww_istore C dX5_roam_102 (by decide) ?_
                refine ww_iinc (v := nI (j + 1)) C dX5_roam_104 rfl (nI_inc _) (by decide) ?_
                refine ww_goto C dX5_roam_107 51 (by decide) ?_
                refine ww_lv [(0, .ref (gB g + 64)), (1, .int x), (2, .int (2 * m_fl h x 0)), (3, .int (m_fl h x 1)), (4, .int (m_best h (2 * m_fl h x 0) (m_fl h x 1) (j + 1))), (5, .int (nI (j + 1)))] ⟨rfl, rfl, rfl, rfl, (congrArg (fun z => some (Value.int z)) (by first | exact (roamS_a c63).symm | exact (roamS_b c63 c74).symm | exact (roamS_c c63 c74 c80).symm | exact (roamS_d c63 c74 c80 c97).symm | exact (roamS_e c63 c74 c80 c97).symm)), rfl, trivial⟩ ?_
                exact ih (j + 1) hjn (by omega) c22 c31 c41
  refine ww_iconst (v := 2) C dX5_roam_0 (by decide) ?_
  refine ww_aload_n C dX5_roam_1 0 rfl rfl ?_
  refine ww_iload_n C dX5_roam_2 1 rfl rfl ?_
  refine ww_iconst (v := 0) C dX5_roam_3 (by decide) ?_
  refine ww_callM C mf_X5_fl dX5_roam_4 (ct_X5_fl (by first | exact jx_0 (by assumption) | exact jx_1 (by assumption) | exact jx_2 (by assumption) | exact jx_3 (by assumption) | exact jx_4 (by assumption))) q_m_X5_84 rfl rfl rfl (Nat.le_of_ble_eq_true rfl) (by exact ⟨Nat.le_of_ble_eq_true rfl, Nat.le_of_ble_eq_true rfl⟩) (by exact ⟨Nat.le_of_ble_eq_true rfl, Nat.le_of_ble_eq_true rfl⟩) ?_
  refine ww_imul C dX5_roam_7 ?_
  refine ww_istore_n C dX5_roam_8 2 rfl (by decide) ?_
  refine ww_aload_n C dX5_roam_9 0 rfl rfl ?_
  refine ww_iload_n C dX5_roam_10 1 rfl rfl ?_
  refine ww_iconst (v := 1) C dX5_roam_11 (by decide) ?_
  refine ww_callM C mf_X5_fl dX5_roam_12 (ct_X5_fl (by first | exact jx_0 (by assumption) | exact jx_1 (by assumption) | exact jx_2 (by assumption) | exact jx_3 (by assumption) | exact jx_4 (by assumption))) q_m_X5_84 rfl rfl rfl (Nat.le_of_ble_eq_true rfl) (by exact ⟨Nat.le_of_ble_eq_true rfl, Nat.le_of_ble_eq_true rfl⟩) (by exact ⟨Nat.le_of_ble_eq_true rfl, Nat.le_of_ble_eq_true rfl⟩) ?_
  refine ww_istore_n C dX5_roam_15 3 rfl (by decide) ?_
  refine ww_aload_n C dX5_roam_16 0 rfl rfl ?_
  refine ww_iload_n C dX5_roam_17 1 rfl rfl ?_
  refine ww_iconst (v := 3) C dX5_roam_18 (by decide) ?_
  refine ww_callM C mf_X5_fl dX5_roam_19 (ct_X5_fl (by first | exact jx_0 (by assumption) | exact jx_1 (by assumption) | exact jx_2 (by assumption) | exact jx_3 (by assumption) | exact jx_4 (by assumption))) q_m_X5_84 rfl rfl rfl (Nat.le_of_ble_eq_true rfl) (by exact ⟨Nat.le_of_ble_eq_true rfl, Nat.le_of_ble_eq_true rfl⟩) (by exact ⟨Nat.le_of_ble_eq_true rfl, Nat.le_of_ble_eq_true rfl⟩) ?_
  refine ww_if_eq C dX5_roam_22 44 (by decide) (fun c22 => ?_) (fun c22 => ?_)
  · exact ww_vret C hr rfl (by first | exact roam_a c22 | exact roam_b c22 c31 | exact roam_c c22 c31 c41 | exact roam_d c22 c31 c41 c113 | exact roam_e c22 c31 c41 c113) dX5_roam_44
  · refine ww_aload_n C dX5_roam_25 0 rfl rfl ?_
    refine ww_iload_n C dX5_roam_26 1 rfl rfl ?_
    refine ww_iconst (v := 2) C dX5_roam_27 (by decide) ?_
    refine ww_callM C mf_X5_fl dX5_roam_28 (ct_X5_fl (by first | exact jx_0 (by assumption) | exact jx_1 (by assumption) | exact jx_2 (by assumption) | exact jx_3 (by assumption) | exact jx_4 (by assumption))) q_m_X5_84 rfl rfl rfl (Nat.le_of_ble_eq_true rfl) (by exact ⟨Nat.le_of_ble_eq_true rfl, Nat.le_of_ble_eq_true rfl⟩) (by exact ⟨Nat.le_of_ble_eq_true rfl, Nat.le_of_ble_eq_true rfl⟩) ?_
    refine ww_if_eq C dX5_roam_31 44 (by decide) (fun c31 => ?_) (fun c31 => ?_)
    · exact ww_vret C hr rfl (by first | exact roam_a c22 | exact roam_b c22 c31 | exact roam_c c22 c31 c41 | exact roam_d c22 c31 c41 c113 | exact roam_e c22 c31 c41 c113) dX5_roam_44
    · refine ww_aload_n C dX5_roam_34 0 rfl rfl ?_
      refine ww_iload_n C dX5_roam_35 3 rfl rfl ?_
      refine ww_iconst (v := 0) C dX5_roam_36 (by decide) ?_
      refine ww_callM C mf_X5_po dX5_roam_37 (ct_X5_po (by first | exact ix_0 (by assumption) | exact ix_1 (by assumption) | exact ix_2 (by assumption) | exact ix_3 (by assumption) | exact ix_4 (by assumption))) q_m_X5_66 rfl rfl rfl (Nat.le_of_ble_eq_true rfl) (by exact ⟨Nat.le_of_ble_eq_true rfl, Nat.le_of_ble_eq_true rfl⟩) (by exact ⟨Nat.le_of_ble_eq_true rfl, Nat.le_of_ble_eq_true rfl⟩) ?_
      refine ww_iload_n C dX5_roam_40 2 rfl rfl ?_
      refine ww_icmp_lt C dX5_roam_41 45 (by decide) (fun c41 => ?_) (fun c41 => ?_)
      · refine ww_iconst (v := (-1)) C dX5_roam_45 (by decide) ?_
        refine ww_istore C dX5_roam_46 (by decide) ?_
        refine ww_iconst (v := 0) C dX5_roam_48 (by decide) ?_
        refine ww_istore C dX5_roam_49 (by decide) ?_
        refine ww_lv [(0, .ref (gB g + 64)), (1, .int x), (2, .int (2 * m_fl h x 0)), (3, .int (m_fl h x 1)), (4, .int (m_best h (2 * m_fl h x 0) (m_fl h x 1) 0)), (5, .int (nI 0))] ⟨rfl, rfl, rfl, rfl, rfl, rfl, trivial⟩ ?_
        exact L (n + 1) 0 (Nat.zero_le _) (by omega) c22 c31 c41
      · exact ww_vret C hr rfl (by first | exact roam_a c22 | exact roam_b c22 c31 | exact roam_c c22 c31 c41 | exact roam_d c22 c31 c41 c113 | exact roam_e c22 c31 c41 c113) dX5_roam_44
set_option maxRecDepth 100000 in
set_option maxHeartbeats 1600000 in
theorem ct_X5_drink {g : gW} {l : Launch} {h : Hp} {n f : Nat} {x : Int32} (H : OM n f h) (hx : isN 7 x) (hfr : isN n (m_fl h x 1)) (hfz : isN n (m_fl (m_roam h n x) x 1)) : CT g l yX5_drink cX5_drink 5 (some FieldType.int) 3 0 0 [.ref (gB g + 64), .int x] h (some (.int (m_drinkU h n x))) (m_drink h n x) := by
  refine CT.of (lv0 := [(0, .ref (gB g + 64)), (1, .int x)]) mf_X5_drink.1.2.2.2 (Nat.le_of_ble_eq_true rfl) rfl ?_
  intro p e s m below meth c C hr
  have hn := H.1
  have hn10 := H.2.1
  have hf := H.2.2.1
  have hf7 := H.2.2.2.1
  have hp10 : isN 10 (m_fl (m_roam h n x) x 1) := isN_up hfz hn10
  refine ww_aload_n C dX5_drink_0 0 rfl rfl ?_
  refine ww_iload_n C dX5_drink_1 1 rfl rfl ?_
  refine ww_callM C mf_X5_roam dX5_drink_2 (ct_X5_roam H hx hfr) q_m_X5_118 rfl rfl rfl (Nat.le_of_ble_eq_true rfl) (by exact ⟨Nat.le_of_ble_eq_true rfl, Nat.le_of_ble_eq_true rfl⟩) (by exact ⟨Nat.le_of_ble_eq_true rfl, Nat.le_of_ble_eq_true rfl⟩) ?_
  refine ww_aload_n C dX5_drink_5 0 rfl rfl ?_
  refine ww_iload_n C dX5_drink_6 1 rfl rfl ?_
  refine ww_iconst (v := 1) C dX5_drink_7 (by decide) ?_
  refine ww_callM C mf_X5_fl dX5_drink_8 (ct_X5_fl (by first | exact jx_0 (by assumption) | exact jx_1 (by assumption) | exact jx_2 (by assumption) | exact jx_3 (by assumption) | exact jx_4 (by assumption))) q_m_X5_84 rfl rfl rfl (Nat.le_of_ble_eq_true rfl) (by exact ⟨Nat.le_of_ble_eq_true rfl, Nat.le_of_ble_eq_true rfl⟩) (by exact ⟨Nat.le_of_ble_eq_true rfl, Nat.le_of_ble_eq_true rfl⟩) ?_
  refine ww_istore_n C dX5_drink_11 2 rfl (by decide) ?_
  refine ww_iconst (v := 2) C dX5_drink_12 (by decide) ?_
  refine ww_aload_n C dX5_drink_13 0 rfl rfl ?_
  refine ww_iload_n C dX5_drink_14 1 rfl rfl ?_
  refine ww_iconst (v := 0) C dX5_drink_15 (by decide) ?_
  refine ww_callM C mf_X5_fl dX5_drink_16 (ct_X5_fl (by first | exact jx_0 (by assumption) | exact jx_1 (by assumption) | exact jx_2 (by assumption) | exact jx_3 (by assumption) | exact jx_4 (by assumption))) q_m_X5_84 rfl rfl rfl (Nat.le_of_ble_eq_true rfl) (by exact ⟨Nat.le_of_ble_eq_true rfl, Nat.le_of_ble_eq_true rfl⟩) (by exact ⟨Nat.le_of_ble_eq_true rfl, Nat.le_of_ble_eq_true rfl⟩) ?_
  refine ww_imul C dX5_drink_19 ?_
  refine ww_istore_n C dX5_drink_20 3 rfl (by decide) ?_
  refine ww_iload_n C dX5_drink_21 3 rfl rfl ?_
  refine ww_aload_n C dX5_drink_22 0 rfl rfl ?_
  refine ww_iload_n C dX5_drink_23 2 rfl rfl ?_
  refine ww_iconst (v := 0) C dX5_drink_24 (by decide) ?_
  refine ww_callM C mf_X5_po dX5_drink_25 (ct_X5_po (by first | exact ix_0 (by assumption) | exact ix_1 (by assumption) | exact ix_2 (by assumption) | exact ix_3 (by assumption) | exact ix_4 (by assumption))) q_m_X5_66 rfl rfl rfl (Nat.le_of_ble_eq_true rfl) (by exact ⟨Nat.le_of_ble_eq_true rfl, Nat.le_of_ble_eq_true rfl⟩) (by exact ⟨Nat.le_of_ble_eq_true rfl, Nat.le_of_ble_eq_true rfl⟩) ?_
  refine ww_mmin C q_m_X5_72 (Nat.le_of_ble_eq_true rfl) (Nat.le_of_ble_eq_true rfl) (by first | exact Nat.le_of_ble_eq_true rfl | omega) (by first | exact Nat.le_of_ble_eq_true rfl | omega) dX5_drink_28 ?_
  refine ww_istore C dX5_drink_31 (by decide) ?_
  refine ww_lv [(0, .ref (gB g + 64)), (1, .int x), (2, .int (m_fl (m_roam h n x) x 1)), (3, .int (2 * m_fl (m_roam h n x) x 0)), (4, .int (m_its (m_roam h n x) x))] ⟨rfl, rfl, rfl, rfl, rfl, trivial⟩ ?_
  refine ww_aload_n C dX5_drink_33 0 rfl rfl ?_
  refine ww_iload_n C dX5_drink_34 2 rfl rfl ?_
  refine ww_iconst (v := 0) C dX5_drink_35 (by decide) ?_
  refine ww_aload_n C dX5_drink_36 0 rfl rfl ?_
  refine ww_iload_n C dX5_drink_37 2 rfl rfl ?_
  refine ww_iconst (v := 0) C dX5_drink_38 (by decide) ?_
  refine ww_callM C mf_X5_po dX5_drink_39 (ct_X5_po (by first | exact ix_0 (by assumption) | exact ix_1 (by assumption) | exact ix_2 (by assumption) | exact ix_3 (by assumption) | exact ix_4 (by assumption))) q_m_X5_66 rfl rfl rfl (Nat.le_of_ble_eq_true rfl) (by exact ⟨Nat.le_of_ble_eq_true rfl, Nat.le_of_ble_eq_true rfl⟩) (by exact ⟨Nat.le_of_ble_eq_true rfl, Nat.le_of_ble_eq_true rfl⟩) ?_
  refine ww_iload C dX5_drink_42 rfl ?_
  refine ww_isub C dX5_drink_44 ?_
  refine ww_callM C mf_X5_set dX5_drink_45 (ct_X5_set (by first | exact ix_0 (by assumption) | exact ix_1 (by assumption) | exact ix_2 (by assumption) | exact ix_3 (by assumption) | exact ix_4 (by assumption))) q_m_X5_58 rfl rfl rfl (Nat.le_of_ble_eq_true rfl) (by exact ⟨Nat.le_of_ble_eq_true rfl, Nat.le_of_ble_eq_true rfl⟩) (by exact ⟨Nat.le_of_ble_eq_true rfl, Nat.le_of_ble_eq_true rfl⟩) ?_
  refine ww_heap (h2 := m_dr1 (m_roam h n x) x) rfl ?_
  refine ww_aload_n C dX5_drink_48 0 rfl rfl ?_
  refine ww_iload_n C dX5_drink_49 1 rfl rfl ?_
  refine ww_iconst (v := 4) C dX5_drink_50 (by decide) ?_
  refine ww_aload_n C dX5_drink_51 0 rfl rfl ?_
  refine ww_iload_n C dX5_drink_52 1 rfl rfl ?_
  refine ww_iconst (v := 4) C dX5_drink_53 (by decide) ?_
  refine ww_callM C mf_X5_fl dX5_drink_54 (ct_X5_fl (by first | exact jx_0 (by assumption) | exact jx_1 (by assumption) | exact jx_2 (by assumption) | exact jx_3 (by assumption) | exact jx_4 (by assumption))) q_m_X5_84 rfl rfl rfl (Nat.le_of_ble_eq_true rfl) (by exact ⟨Nat.le_of_ble_eq_true rfl, Nat.le_of_ble_eq_true rfl⟩) (by exact ⟨Nat.le_of_ble_eq_true rfl, Nat.le_of_ble_eq_true rfl⟩) ?_
  refine ww_iload C dX5_drink_57 rfl ?_
  refine ww_iadd C dX5_drink_59 ?_
  refine ww_callM C mf_X5_setFl dX5_drink_60 (ct_X5_setFl (by first | exact jx_0 (by assumption) | exact jx_1 (by assumption) | exact jx_2 (by assumption) | exact jx_3 (by assumption) | exact jx_4 (by assumption))) q_m_X5_112 rfl rfl rfl (Nat.le_of_ble_eq_true rfl) (by exact ⟨Nat.le_of_ble_eq_true rfl, Nat.le_of_ble_eq_true rfl⟩) (by exact ⟨Nat.le_of_ble_eq_true rfl, Nat.le_of_ble_eq_true rfl⟩) ?_
  refine ww_heap (h2 := m_dr2 (m_roam h n x) x) rfl ?_
  refine ww_aload_n C dX5_drink_63 0 rfl rfl ?_
  refine ww_iload_n C dX5_drink_64 1 rfl rfl ?_
  refine ww_iconst (v := 2) C dX5_drink_65 (by decide) ?_
  refine ww_iload C dX5_drink_66 rfl ?_
  refine ww_iload_n C dX5_drink_68 3 rfl rfl ?_
  refine ww_icmp_ne C dX5_drink_69 87 (by decide) (fun c69 => ?_) (fun c69 => ?_)
  · refine ww_bipush (v := 10) C dX5_drink_87 (by decide) ?_
    refine ww_aload_n C dX5_drink_89 0 rfl rfl ?_
    refine ww_iload_n C dX5_drink_90 1 rfl rfl ?_
    refine ww_iconst (v := 2) C dX5_drink_91 (by decide) ?_
    refine ww_callM C mf_X5_fl dX5_drink_92 (ct_X5_fl (by first | exact jx_0 (by assumption) | exact jx_1 (by assumption) | exact jx_2 (by assumption) | exact jx_3 (by assumption) | exact jx_4 (by assumption))) q_m_X5_84 rfl rfl rfl (Nat.le_of_ble_eq_true rfl) (by exact ⟨Nat.le_of_ble_eq_true rfl, Nat.le_of_ble_eq_true rfl⟩) (by exact ⟨Nat.le_of_ble_eq_true rfl, Nat.le_of_ble_eq_true rfl⟩) ?_
    refine ww_iconst (v := 3) C dX5_drink_95 (by decide) ?_
    refine ww_iadd C dX5_drink_96 ?_
    refine ww_mmin C q_m_X5_72 (Nat.le_of_ble_eq_true rfl) (Nat.le_of_ble_eq_true rfl) (by first | exact Nat.le_of_ble_eq_true rfl | omega) (by first | exact Nat.le_of_ble_eq_true rfl | omega) dX5_drink_97 ?_
    refine ww_top (y := m_drT (m_roam h n x) x) (by first | exact (drT_y c69).symm | exact (drT_n c69).symm) ?_
    refine ww_callM C mf_X5_setFl dX5_drink_100 (ct_X5_setFl (by first | exact jx_0 (by assumption) | exact jx_1 (by assumption) | exact jx_2 (by assumption) | exact jx_3 (by assumption) | exact jx_4 (by assumption))) q_m_X5_112 rfl rfl rfl (Nat.le_of_ble_eq_true rfl) (by exact ⟨Nat.le_of_ble_eq_true rfl, Nat.le_of_ble_eq_true rfl⟩) (by exact ⟨Nat.le_of_ble_eq_true rfl, Nat.le_of_ble_eq_true rfl⟩) ?_
    refine ww_heap (h2 := m_dr3 (m_roam h n x) x) rfl ?_
    refine ww_aload_n C dX5_drink_103 0 rfl rfl ?_
    refine ww_iload_n C dX5_drink_104 2 rfl rfl ?_
    refine ww_iconst (v := 2) C dX5_drink_105 (by decide) ?_
    refine ww_callM C mf_X5_po dX5_drink_106 (ct_X5_po (by first | exact ix_0 (by assumption) | exact ix_1 (by assumption) | exact ix_2 (by assumption) | exact ix_3 (by assumption) | exact ix_4 (by assumption))) q_m_X5_66 rfl rfl rfl (Nat.le_of_ble_eq_true rfl) (by exact ⟨Nat.le_of_ble_eq_true rfl, Nat.le_of_ble_eq_true rfl⟩) (by exact ⟨Nat.le_of_ble_eq_true rfl, Nat.le_of_ble_eq_true rfl⟩) ?_
    refine ww_if_ne C dX5_drink_109 138 (by decide) (fun c109 => ?_) (fun c109 => ?_)
    · refine ww_iload C dX5_drink_138 rfl ?_
      exact ww_iret C hr rfl (by first | exact dr4_y c109 | exact dr4_n c109) dX5_drink_140
    · refine ww_aload_n C dX5_drink_112 0 rfl rfl ?_
      refine ww_iload_n C dX5_drink_113 2 rfl rfl ?_
      refine ww_iconst (v := 1) C dX5_drink_114 (by decide) ?_
      refine ww_iconst (v := 0) C dX5_drink_115 (by decide) ?_
      refine ww_aload_n C dX5_drink_116 0 rfl rfl ?_
      refine ww_iload_n C dX5_drink_117 2 rfl rfl ?_
      refine ww_iconst (v := 1) C dX5_drink_118 (by decide) ?_
      refine ww_callM C mf_X5_po dX5_drink_119 (ct_X5_po (by first | exact ix_0 (by assumption) | exact ix_1 (by assumption) | exact ix_2 (by assumption) | exact ix_3 (by assumption) | exact ix_4 (by assumption))) q_m_X5_66 rfl rfl rfl (Nat.le_of_ble_eq_true rfl) (by exact ⟨Nat.le_of_ble_eq_true rfl, Nat.le_of_ble_eq_true rfl⟩) (by exact ⟨Nat.le_of_ble_eq_true rfl, Nat.le_of_ble_eq_true rfl⟩) ?_
      refine ww_aload_n C dX5_drink_122 0 rfl rfl ?_
      refine ww_iload_n C dX5_drink_123 1 rfl rfl ?_
      refine ww_iconst (v := 0) C dX5_drink_124 (by decide) ?_
      refine ww_callM C mf_X5_fl dX5_drink_125 (ct_X5_fl (by first | exact jx_0 (by assumption) | exact jx_1 (by assumption) | exact jx_2 (by assumption) | exact jx_3 (by assumption) | exact jx_4 (by assumption))) q_m_X5_84 rfl rfl rfl (Nat.le_of_ble_eq_true rfl) (by exact ⟨Nat.le_of_ble_eq_true rfl, Nat.le_of_ble_eq_true rfl⟩) (by exact ⟨Nat.le_of_ble_eq_true rfl, Nat.le_of_ble_eq_true rfl⟩) ?_
      refine ww_bipush (v := 10) C dX5_drink_128 (by decide) ?_
      refine ww_idiv C dX5_drink_130 (by decide) ?_
      refine ww_isub C dX5_drink_131 ?_
      refine ww_mmax C q_m_X5_81 (Nat.le_of_ble_eq_true rfl) (Nat.le_of_ble_eq_true rfl) (by first | exact Nat.le_of_ble_eq_true rfl | omega) (by first | exact Nat.le_of_ble_eq_true rfl | omega) dX5_drink_132 ?_
      refine ww_callM C mf_X5_set dX5_drink_135 (ct_X5_set (by first | exact ix_0 (by assumption) | exact ix_1 (by assumption) | exact ix_2 (by assumption) | exact ix_3 (by assumption) | exact ix_4 (by assumption))) q_m_X5_58 rfl rfl rfl (Nat.le_of_ble_eq_true rfl) (by exact ⟨Nat.le_of_ble_eq_true rfl, Nat.le_of_ble_eq_true rfl⟩) (by exact ⟨Nat.le_of_ble_eq_true rfl, Nat.le_of_ble_eq_true rfl⟩) ?_
      refine ww_iload C dX5_drink_138 rfl ?_
      exact ww_iret C hr rfl (by first | exact dr4_y c109 | exact dr4_n c109) dX5_drink_140
  · refine ww_iconst (v := 0) C dX5_drink_72 (by decide) ?_
    refine ww_aload_n C dX5_drink_73 0 rfl rfl ?_
    refine ww_iload_n C dX5_drink_74 1 rfl rfl ?_
    refine ww_iconst (v := 2) C dX5_drink_75 (by decide) ?_
    refine ww_callM C mf_X5_fl dX5_drink_76 (ct_X5_fl (by first | exact jx_0 (by assumption) | exact jx_1 (by assumption) | exact jx_2 (by assumption) | exact jx_3 (by assumption) | exact jx_4 (by assumption))) q_m_X5_84 rfl rfl rfl (Nat.le_of_ble_eq_true rfl) (by exact ⟨Nat.le_of_ble_eq_true rfl, Nat.le_of_ble_eq_true rfl⟩) (by exact ⟨Nat.le_of_ble_eq_true rfl, Nat.le_of_ble_eq_true rfl⟩) ?_
    refine ww_iconst (v := 2) C dX5_drink_79 (by decide) ?_
    refine ww_isub C dX5_drink_80 ?_
    refine ww_mmax C q_m_X5_81 (Nat.le_of_ble_eq_true rfl) (Nat.le_of_ble_eq_true rfl) (by first | exact Nat.le_of_ble_eq_true rfl | omega) (by first | exact Nat.le_of_ble_eq_true rfl | omega) dX5_drink_81 ?_
    refine ww_goto C dX5_drink_84 100 (by decide) ?_
    refine ww_top (y := m_drT (m_roam h n x) x) (by first | exact (drT_y c69).symm | exact (drT_n c69).symm) ?_
    refine ww_callM C mf_X5_setFl dX5_drink_100 (ct_X5_setFl (by first | exact jx_0 (by assumption) | exact jx_1 (by assumption) | exact jx_2 (by assumption) | exact jx_3 (by assumption) | exact jx_4 (by assumption))) q_m_X5_112 rfl rfl rfl (Nat.le_of_ble_eq_true rfl) (by exact ⟨Nat.le_of_ble_eq_true rfl, Nat.le_of_ble_eq_true rfl⟩) (by exact ⟨Nat.le_of_ble_eq_true rfl, Nat.le_of_ble_eq_true rfl⟩) ?_
    refine ww_heap (h2 := m_dr3 (m_roam h n x) x) rfl ?_
    refine ww_aload_n C dX5_drink_103 0 rfl rfl ?_
    refine ww_iload_n C dX5_drink_104 2 rfl rfl ?_
    refine ww_iconst (v := 2) C dX5_drink_105 (by decide) ?_
    refine ww_callM C mf_X5_po dX5_drink_106 (ct_X5_po (by first | exact ix_0 (by assumption) | exact ix_1 (by assumption) | exact ix_2 (by assumption) | exact ix_3 (by assumption) | exact ix_4 (by assumption))) q_m_X5_66 rfl rfl rfl (Nat.le_of_ble_eq_true rfl) (by exact ⟨Nat.le_of_ble_eq_true rfl, Nat.le_of_ble_eq_true rfl⟩) (by exact ⟨Nat.le_of_ble_eq_true rfl, Nat.le_of_ble_eq_true rfl⟩) ?_
    refine ww_if_ne C dX5_drink_109 138 (by decide) (fun c109 => ?_) (fun c109 => ?_)
    · refine ww_iload C dX5_drink_138 rfl ?_
      exact ww_iret C hr rfl (by first | exact dr4_y c109 | exact dr4_n c109) dX5_drink_140
    · refine ww_aload_n C dX5_drink_112 0 rfl rfl ?_
      refine ww_iload_n C dX5_drink_113 2 rfl rfl ?_
      refine ww_iconst (v := 1) C dX5_drink_114 (by decide) ?_
      refine ww_iconst (v := 0) C dX5_drink_115 (by decide) ?_
      refine ww_aload_n C dX5_drink_116 0 rfl rfl ?_
      refine ww_iload_n C dX5_drink_117 2 rfl rfl ?_
      refine ww_iconst (v := 1) C dX5_drink_118 (by decide) ?_
      refine ww_callM C mf_X5_po dX5_drink_119 (ct_X5_po (by first | exact ix_0 (by assumption) | exact ix_1 (by assumption) | exact ix_2 (by assumption) | exact ix_3 (by assumption) | exact ix_4 (by assumption))) q_m_X5_66 rfl rfl rfl (Nat.le_of_ble_eq_true rfl) (by exact ⟨Nat.le_of_ble_eq_true rfl, Nat.le_of_ble_eq_true rfl⟩) (by exact ⟨Nat.le_of_ble_eq_true rfl, Nat.le_of_ble_eq_true rfl⟩) ?_
      refine ww_aload_n C dX5_drink_122 0 rfl rfl ?_
      refine ww_iload_n C dX5_drink_123 1 rfl rfl ?_
      refine ww_iconst (v := 0) C dX5_drink_124 (by decide) ?_
      refine ww_callM C mf_X5_fl dX5_drink_125 (ct_X5_fl (by first | exact jx_0 (by assumption) | exact jx_1 (by assumption) | exact jx_2 (by assumption) | exact jx_3 (by assumption) | exact jx_4 (by assumption))) q_m_X5_84 rfl rfl rfl (Nat.le_of_ble_eq_true rfl) (by exact ⟨Nat.le_of_ble_eq_true rfl, Nat.le_of_ble_eq_true rfl⟩) (by exact ⟨Nat.le_of_ble_eq_true rfl, Nat.le_of_ble_eq_true rfl⟩) ?_
      refine ww_bipush (v := 10) C dX5_drink_128 (by decide) ?_
      refine ww_idiv C dX5_drink_130 (by decide) ?_
      refine ww_isub C dX5_drink_131 ?_
      refine ww_mmax C q_m_X5_81 (Nat.le_of_ble_eq_true rfl) (Nat.le_of_ble_eq_true rfl) (by first | exact Nat.le_of_ble_eq_true rfl | omega) (by first | exact Nat.le_of_ble_eq_true rfl | omega) dX5_drink_132 ?_
      refine ww_callM C mf_X5_set dX5_drink_135 (ct_X5_set (by first | exact ix_0 (by assumption) | exact ix_1 (by assumption) | exact ix_2 (by assumption) | exact ix_3 (by assumption) | exact ix_4 (by assumption))) q_m_X5_58 rfl rfl rfl (Nat.le_of_ble_eq_true rfl) (by exact ⟨Nat.le_of_ble_eq_true rfl, Nat.le_of_ble_eq_true rfl⟩) (by exact ⟨Nat.le_of_ble_eq_true rfl, Nat.le_of_ble_eq_true rfl⟩) ?_
      refine ww_iload C dX5_drink_138 rfl ?_
      exact ww_iret C hr rfl (by first | exact dr4_y c109 | exact dr4_n c109) dX5_drink_140
set_option maxRecDepth 100000 in
set_option maxHeartbeats 1600000 in
theorem ct_X5_runOver {g : gW} {l : Launch} {h : Hp} {n f : Nat} (H : OM n f h) : CT g l yX5_runOver cX5_runOver 4 none 3 0 0 [.ref (gB g + 64)] h none (m_roK n 301 h) := by
  refine CT.of (lv0 := [(0, .ref (gB g + 64))]) mf_X5_runOver.1.2.2.2 (Nat.le_of_ble_eq_true rfl) rfl ?_
  intro p e s m below meth c C hr
  have hn := H.1
  have hn10 := H.2.1
  have hf := H.2.2.1
  have hf7 := H.2.2.2.1
  have L : ∀ (k : Nat) (z : Hp), k ≤ 301 → OM n f z → m_roK n k z = m_roK n 301 h → WW g p l e (rK 3 0 0) s m ([.ref (gB g + 64)] : List Value).toArray below meth c 4 [] z [(0, .ref (gB g + 64)), (1, .int (nI k - 1))] 0 0 (MQ below (QW g s.heap.size none (m_roK n 301 h)) ([.ref (gB g + 64)] : List Value).toArray s 0 0 (AA g s.heap.size)) 4 [] := by
    intro k
    induction k with
    | zero =>
      intro z hk Hz hins
      refine ww_iload_n C dX5_runOver_4 1 rfl rfl ?_
      refine ww_if_lt C dX5_runOver_5 102 (by decide) (fun _ => ?_) (fun q => absurd (show nI 0 - 1 < 0 from by decide) q)
      exact ww_vret C hr rfl hins.symm dX5_runOver_102
    | succ k ih0 =>
      intro z hk Hz hins
      have Li : ∀ (fu j : Nat), j ≤ n → n < fu + j → WW g p l e (rK 3 0 0) s m ([.ref (gB g + 64)] : List Value).toArray below meth c 4 [] (fd (m_ro1 (nI k)) z j) [(0, .ref (gB g + 64)), (1, .int (nI k)), (2, .int (nI j))] 0 0 (MQ below (QW g s.heap.size none (m_roK n 301 h)) ([.ref (gB g + 64)] : List Value).toArray s 0 0 (AA g s.heap.size)) 10 [] := by
        intro fu
        induction fu with
        | zero => intro j h1 h2; omega
        | succ fu ih =>
          intro j hj hfu
          have Hj : OM n f (fd (m_ro1 (nI k)) z j) := Hz.mK (mK_fd j (fun y i hi Hy => mK_ro1 Hy (by omega)) Hz)
          refine ww_iload_n C dX5_runOver_10 2 rfl rfl ?_
          refine ww_aload_n C dX5_runOver_11 0 rfl rfl ?_
          refine ww_getM C 1 (by decide) q_f_X5_29 dX5_runOver_12 ?_
          refine ww_icmp_ge C dX5_runOver_15 96 (by decide) (fun q => ?_) (fun q => ?_)
          · have hjn := lp_exit Hj.1 q hj (by omega)
            subst hjn
            refine ww_iinc (v := nI k - 1) C dX5_runOver_96 rfl (sub1 _) (by decide) ?_
            refine ww_goto C dX5_runOver_99 4 (by decide) ?_
            refine ww_lv [(0, .ref (gB g + 64)), (1, .int (nI k - 1))] ⟨rfl, rfl, trivial⟩ ?_
            have kz : mK n f z (m_roH n (nI k) z) := mK_fd n (fun y i hi Hy => mK_ro1 Hy hi) Hz
            exact ih0 (m_roH n (nI k) z) (by omega) (Hz.mK kz) hins
          · have hjn := lp_body Hj.1 q hj (by omega)
            have hx : isN 10 (nI j) := ⟨j, by omega, rfl⟩
            refine ww_aload_n C dX5_runOver_18 0 rfl rfl ?_
            refine ww_iload_n C dX5_runOver_19 2 rfl rfl ?_
            refine ww_iconst (v := 0) C dX5_runOver_20 (by decide) ?_
            refine ww_callM C mf_X5_po dX5_runOver_21 (ct_X5_po (by first | exact ix_0 (by assumption) | exact ix_1 (by assumption) | exact ix_2 (by assumption) | exact ix_3 (by assumption) | exact ix_4 (by assumption))) q_m_X5_66 rfl rfl rfl (Nat.le_of_ble_eq_true rfl) (by exact ⟨Nat.le_of_ble_eq_true rfl, Nat.le_of_ble_eq_true rfl⟩) (by exact ⟨Nat.le_of_ble_eq_true rfl, Nat.le_of_ble_eq_true rfl⟩) ?_
            refine ww_aload_n C dX5_runOver_24 0 rfl rfl ?_
            refine ww_iload_n C dX5_runOver_25 2 rfl rfl ?_
            refine ww_callM C mf_X5_holds dX5_runOver_26 (ct_X5_holds (by assumption)) q_m_X5_69 rfl rfl rfl (Nat.le_of_ble_eq_true rfl) (by exact ⟨Nat.le_of_ble_eq_true rfl, Nat.le_of_ble_eq_true rfl⟩) (by exact ⟨Nat.le_of_ble_eq_true rfl, Nat.le_of_ble_eq_true rfl⟩) ?_
            refine ww_isub C dX5_runOver_29 ?_
            refine ww_istore_n C dX5_runOver_30 3 rfl (by decide) ?_
            refine ww_lv [(0, .ref (gB g + 64)), (1, .int (nI k)), (2, .int (nI j)), (3, .int (m_more (fd (m_ro1 (nI k)) z j) j))] ⟨rfl, rfl, rfl, rfl, trivial⟩ ?_
            refine ww_aload_n C dX5_runOver_31 0 rfl rfl ?_
            refine ww_iload_n C dX5_runOver_32 2 rfl rfl ?_
            refine ww_iconst (v := 2) C dX5_runOver_33 (by decide) ?_
            refine ww_callM C mf_X5_fx dX5_runOver_34 (ct_X5_fx (by first | exact ix_0 (by assumption) | exact ix_1 (by assumption) | exact ix_2 (by assumption) | exact ix_3 (by assumption) | exact ix_4 (by assumption))) q_m_X5_39 rfl rfl rfl (Nat.le_of_ble_eq_true rfl) (by exact ⟨Nat.le_of_ble_eq_true rfl, Nat.le_of_ble_eq_true rfl⟩) (by exact ⟨Nat.le_of_ble_eq_true rfl, Nat.le_of_ble_eq_true rfl⟩) ?_
            refine ww_iload_n C dX5_runOver_37 1 rfl rfl ?_
            refine ww_icmp_ne C dX5_runOver_38 90 (by decide) (fun c38 => ?_) (fun c38 => ?_)
            · refine ww_iinc (v := nI (j + 1)) C dX5_runOver_90 rfl (nI_inc _) (by decide) ?_
              refine ww_goto C dX5_runOver_93 10 (by decide) ?_
              refine ww_lv [(0, .ref (gB g + 64)), (1, .int (nI k)), (2, .int (nI (j + 1)))] ⟨rfl, rfl, rfl, trivial⟩ ?_
              refine ww_heap (h2 := (fd (m_ro1 (nI k)) z (j + 1))) (by first | exact (ro1_a c38).symm | exact (ro1_b c38 c42).symm | exact (ro1_c c38 c42 c76).symm | exact (ro1_d c38 c42 c76).symm) ?_
              exact ih (j + 1) hjn (by omega)
            · refine ww_iload_n C dX5_runOver_41 3 rfl rfl ?_
              refine ww_if_gt C dX5_runOver_42 48 (by decide) (fun c42 => ?_) (fun c42 => ?_)
              · have HJ2 : OM n f (m_ro2 (fd (m_ro1 (nI k)) z j) j) := Hj.mK ((mK_change hx).trans (mK_set (k := 4) hx (by omega) (by omega)))
                refine ww_aload_n C dX5_runOver_48 0 rfl rfl ?_
                refine ww_iload_n C dX5_runOver_49 2 rfl rfl ?_
                refine ww_iload_n C dX5_runOver_50 3 rfl rfl ?_
                refine ww_ineg C dX5_runOver_51 ?_
                refine ww_callM C mf_X5_change dX5_runOver_52 (ct_X5_change hx) q_m_X5_122 rfl rfl rfl (Nat.le_of_ble_eq_true rfl) (by exact ⟨Nat.le_of_ble_eq_true rfl, Nat.le_of_ble_eq_true rfl⟩) (by exact ⟨Nat.le_of_ble_eq_true rfl, Nat.le_of_ble_eq_true rfl⟩) ?_
                refine ww_aload_n C dX5_runOver_55 0 rfl rfl ?_
                refine ww_iload_n C dX5_runOver_56 2 rfl rfl ?_
                refine ww_iconst (v := 4) C dX5_runOver_57 (by decide) ?_
                refine ww_aload_n C dX5_runOver_58 0 rfl rfl ?_
                refine ww_iload_n C dX5_runOver_59 2 rfl rfl ?_
                refine ww_iconst (v := 4) C dX5_runOver_60 (by decide) ?_
                refine ww_callM C mf_X5_po dX5_runOver_61 (ct_X5_po (by first | exact ix_0 (by assumption) | exact ix_1 (by assumption) | exact ix_2 (by assumption) | exact ix_3 (by assumption) | exact ix_4 (by assumption))) q_m_X5_66 rfl rfl rfl (Nat.le_of_ble_eq_true rfl) (by exact ⟨Nat.le_of_ble_eq_true rfl, Nat.le_of_ble_eq_true rfl⟩) (by exact ⟨Nat.le_of_ble_eq_true rfl, Nat.le_of_ble_eq_true rfl⟩) ?_
                refine ww_iload_n C dX5_runOver_64 3 rfl rfl ?_
                refine ww_iadd C dX5_runOver_65 ?_
                refine ww_callM C mf_X5_set dX5_runOver_66 (ct_X5_set (by first | exact ix_0 (by assumption) | exact ix_1 (by assumption) | exact ix_2 (by assumption) | exact ix_3 (by assumption) | exact ix_4 (by assumption))) q_m_X5_58 rfl rfl rfl (Nat.le_of_ble_eq_true rfl) (by exact ⟨Nat.le_of_ble_eq_true rfl, Nat.le_of_ble_eq_true rfl⟩) (by exact ⟨Nat.le_of_ble_eq_true rfl, Nat.le_of_ble_eq_true rfl⟩) ?_
                refine ww_heap (h2 := m_ro2 (fd (m_ro1 (nI k)) z j) j) rfl ?_
                refine ww_aload_n C dX5_runOver_69 0 rfl rfl ?_
                refine ww_iload_n C dX5_runOver_70 2 rfl rfl ?_
                refine ww_iconst (v := 3) C dX5_runOver_71 (by decide) ?_
                refine ww_callM C mf_X5_po dX5_runOver_72 (ct_X5_po (by first | exact ix_0 (by assumption) | exact ix_1 (by assumption) | exact ix_2 (by assumption) | exact ix_3 (by assumption) | exact ix_4 (by assumption))) q_m_X5_66 rfl rfl rfl (Nat.le_of_ble_eq_true rfl) (by exact ⟨Nat.le_of_ble_eq_true rfl, Nat.le_of_ble_eq_true rfl⟩) (by exact ⟨Nat.le_of_ble_eq_true rfl, Nat.le_of_ble_eq_true rfl⟩) ?_
                refine ww_iconst (v := (-1)) C dX5_runOver_75 (by decide) ?_
                refine ww_icmp_eq C dX5_runOver_76 90 (by decide) (fun c76 => ?_) (fun c76 => ?_)
                · refine ww_iinc (v := nI (j + 1)) C dX5_runOver_90 rfl (nI_inc _) (by decide) ?_
                  refine ww_goto C dX5_runOver_93 10 (by decide) ?_
                  refine ww_lv [(0, .ref (gB g + 64)), (1, .int (nI k)), (2, .int (nI (j + 1)))] ⟨rfl, rfl, rfl, trivial⟩ ?_
                  refine ww_heap (h2 := (fd (m_ro1 (nI k)) z (j + 1))) (by first | exact (ro1_a c38).symm | exact (ro1_b c38 c42).symm | exact (ro1_c c38 c42 c76).symm | exact (ro1_d c38 c42 c76).symm) ?_
                  exact ih (j + 1) hjn (by omega)
                · refine ww_aload_n C dX5_runOver_79 0 rfl rfl ?_
                  refine ww_aload_n C dX5_runOver_80 0 rfl rfl ?_
                  refine ww_iload_n C dX5_runOver_81 2 rfl rfl ?_
                  refine ww_iconst (v := 3) C dX5_runOver_82 (by decide) ?_
                  refine ww_callM C mf_X5_po dX5_runOver_83 (ct_X5_po (by first | exact ix_0 (by assumption) | exact ix_1 (by assumption) | exact ix_2 (by assumption) | exact ix_3 (by assumption) | exact ix_4 (by assumption))) q_m_X5_66 rfl rfl rfl (Nat.le_of_ble_eq_true rfl) (by exact ⟨Nat.le_of_ble_eq_true rfl, Nat.le_of_ble_eq_true rfl⟩) (by exact ⟨Nat.le_of_ble_eq_true rfl, Nat.le_of_ble_eq_true rfl⟩) ?_
                  refine ww_iload_n C dX5_runOver_86 3 rfl rfl ?_
                  refine ww_callM C mf_X5_change dX5_runOver_87 (ct_X5_change (isN_up ((m_po_in HJ2 hjn).resolve_left c76) hn10)) q_m_X5_122 rfl rfl rfl (Nat.le_of_ble_eq_true rfl) (by exact ⟨Nat.le_of_ble_eq_true rfl, Nat.le_of_ble_eq_true rfl⟩) (by exact ⟨Nat.le_of_ble_eq_true rfl, Nat.le_of_ble_eq_true rfl⟩) ?_
                  refine ww_iinc (v := nI (j + 1)) C dX5_runOver_90 rfl (nI_inc _) (by decide) ?_
                  refine ww_goto C dX5_runOver_93 10 (by decide) ?_
                  refine ww_lv [(0, .ref (gB g + 64)), (1, .int (nI k)), (2, .int (nI (j + 1)))] ⟨rfl, rfl, rfl, trivial⟩ ?_
                  refine ww_heap (h2 := (fd (m_ro1 (nI k)) z (j + 1))) (by first | exact (ro1_a c38).symm | exact (ro1_b c38 c42).symm | exact (ro1_c c38 c42 c76).symm | exact (ro1_d c38 c42 c76).symm) ?_
                  exact ih (j + 1) hjn (by omega)
              · refine ww_goto C dX5_runOver_45 90 (by decide) ?_
                refine ww_iinc (v := nI (j + 1)) C dX5_runOver_90 rfl (nI_inc _) (by decide) ?_
                refine ww_goto C dX5_runOver_93 10 (by decide) ?_
                refine ww_lv [(0, .ref (gB g + 64)), (1, .int (nI k)), (2, .int (nI (j + 1)))] ⟨rfl, rfl, rfl, trivial⟩ ?_
                refine ww_heap (h2 := (fd (m_ro1 (nI k)) z (j + 1))) (by first | exact (ro1_a c38).symm | exact (ro1_b c38 c42).symm | exact (ro1_c c38 c42 c76).symm | exact (ro1_d c38 c42 c76).symm) ?_
                exact ih (j + 1) hjn (by omega)
      rw [nI_pred]
      refine ww_iload_n C dX5_runOver_4 1 rfl rfl ?_
      refine ww_if_lt C dX5_runOver_5 102 (by decide) (fun q => absurd q (nI_pos (n := k) (by omega))) (fun _ => ?_)
      refine ww_iconst (v := 0) C dX5_runOver_8 (by decide) ?_
      refine ww_istore_n C dX5_runOver_9 2 rfl (by decide) ?_
      refine ww_lv [(0, .ref (gB g + 64)), (1, .int (nI k)), (2, .int (nI 0))] ⟨rfl, rfl, rfl, trivial⟩ ?_
      exact Li (n + 1) 0 (Nat.zero_le _) (by omega)
  refine ww_sipush (v := 300) C dX5_runOver_0 (by decide) ?_
  refine ww_istore_n C dX5_runOver_3 1 rfl (by decide) ?_
  refine ww_lv [(0, .ref (gB g + 64)), (1, .int (nI 301 - 1))] ⟨rfl, rfl, trivial⟩ ?_
  exact L 301 h (by omega) H rfl
