set_option maxRecDepth 100000 in
set_option maxHeartbeats 1600000 in
theorem ct_X5_counted {g : gW} {l : Launch} {h : Hp} {n f : Nat} (H : OM n f h) {k : Nat} (hk : k < 8) : CT g l yX5_counted cX5_counted 4 (some FieldType.int) 2 0 0 [.ref (gB g + 64), .int (nI k)] h (some (.int (m_cnV n f h k))) h := by
  refine CT.of (lv0 := [(0, .ref (gB g + 64)), (1, .int (nI k))]) mf_X5_counted.1.2.2.2 (Nat.le_of_ble_eq_true rfl) rfl ?_
  intro p e s m below meth c C hr
  have hn := H.1
  have hn10 := H.2.1
  have hf := H.2.2.1
  have hf7 := H.2.2.2.1
  refine ww_iconst (v := 0) C dX5_counted_0 (by decide) ?_
  refine ww_istore_n C dX5_counted_1 2 rfl (by decide) ?_
  refine ww_iload_n C dX5_counted_2 1 rfl rfl ?_
  rcases (show k = 0 ∨ k = 1 ∨ k = 2 ∨ k = 3 ∨ k = 4 ∨ k = 5 ∨ k = 6 ∨ k = 7 by omega) with rfl | rfl | rfl | rfl | rfl | rfl | rfl | rfl
  · refine ww_tabIn C dX5_counted_3 41 44 (by decide) (by decide) (by decide) (by decide) ?_
    refine ww_aload_n C dX5_counted_44 0 rfl rfl ?_
    refine ww_getMn C q_f_X5_22 dX5_counted_45 ?_
    refine ww_iconst (v := 0) C dX5_counted_48 (by decide) ?_
    refine ww_iald (o := 69) (n := 2) (j := 0) C (by omega) (fun r => rfl) (by omega) (by omega) dX5_counted_49 ?_
    exact ww_iret C hr rfl rfl dX5_counted_50
  · refine ww_tabIn C dX5_counted_3 48 51 (by decide) (by decide) (by decide) (by decide) ?_
    refine ww_aload_n C dX5_counted_51 0 rfl rfl ?_
    refine ww_getM C 1 (by decide) q_f_X5_29 dX5_counted_52 ?_
    exact ww_iret C hr rfl rfl dX5_counted_55
  · refine ww_tabIn C dX5_counted_3 53 56 (by decide) (by decide) (by decide) (by decide) ?_
    refine ww_aload_n C dX5_counted_56 0 rfl rfl ?_
    refine ww_getM C 3 (by decide) q_f_X5_36 dX5_counted_57 ?_
    exact ww_iret C hr rfl rfl dX5_counted_60
  · refine ww_tabIn C dX5_counted_3 105 108 (by decide) (by decide) (by decide) (by decide) ?_
    have L : ∀ (fu j : Nat), j ≤ f → f < fu + j → WW g p l e (rK 2 0 0) s m ([.ref (gB g + 64), .int (nI 3)] : List Value).toArray below meth c 4 [] h [(0, .ref (gB g + 64)), (1, .int (nI 3)), (2, .int (m_lost h j)), (3, .int (nI j))] 0 0 (MQ below (QW g s.heap.size (some (.int (m_cnV n f h 3))) h) ([.ref (gB g + 64), .int (nI 3)] : List Value).toArray s 0 0 (AA g s.heap.size)) 110 [] := by
      intro fu
      induction fu with
      | zero => intro j h1 h2; omega
      | succ fu ih =>
        intro j hj hfu
        refine ww_iload_n C dX5_counted_110 3 rfl rfl ?_
        refine ww_aload_n C dX5_counted_111 0 rfl rfl ?_
        refine ww_getM C 3 (by decide) q_f_X5_36 dX5_counted_112 ?_
        refine ww_icmp_ge C dX5_counted_115 166 (by decide) (fun q => ?_) (fun q => ?_)
        · have hjn := lp_exit hf q hj (by omega)
          subst hjn
          refine ww_iload_n C dX5_counted_166 2 rfl rfl ?_
          exact ww_iret C hr rfl rfl dX5_counted_167
        · have hjn := lp_body hf q hj (by omega)
          have hx : isN 7 (nI j) := ⟨j, by omega, rfl⟩
          refine ww_iload_n C dX5_counted_118 2 rfl rfl ?_
          refine ww_iload_n C dX5_counted_119 1 rfl rfl ?_
          refine ww_iconst (v := 3) C dX5_counted_120 (by decide) ?_
          refine ww_icmp_ne C dX5_counted_121 140 (by decide) (fun q => absurd (show nI 3 = 3 from rfl) q) (fun _ => ?_)
          refine ww_aload_n C dX5_counted_124 0 rfl rfl ?_
          refine ww_iload_n C dX5_counted_125 3 rfl rfl ?_
          refine ww_callM C mf_X5_isLost dX5_counted_126 (ct_X5_isLost (by assumption)) q_m_X5_87 rfl rfl rfl (Nat.le_of_ble_eq_true rfl) (by exact ⟨Nat.le_of_ble_eq_true rfl, Nat.le_of_ble_eq_true rfl⟩) (by exact ⟨Nat.le_of_ble_eq_true rfl, Nat.le_of_ble_eq_true rfl⟩) ?_
          refine ww_if_eq C dX5_counted_129 136 (by decide) (fun c129 => ?_) (fun c129 => ?_)
          · refine ww_iconst (v := 0) C dX5_counted_136 (by decide) ?_
            refine ww_goto C dX5_counted_137 158 (by decide) ?_
            refine ww_iadd C dX5_counted_158 ?_
            refine ww_istore_n C dX5_counted_159 2 rfl (by decide) ?_
            refine ww_iinc (v := nI (j + 1)) C dX5_counted_160 rfl (nI_inc _) (by decide) ?_
            refine ww_goto C dX5_counted_163 110 (by decide) ?_
            refine ww_lv [(0, .ref (gB g + 64)), (1, .int (nI 3)), (2, .int (m_lost h (j + 1))), (3, .int (nI (j + 1)))] ⟨rfl, rfl, (by show some (Value.int _) = some (Value.int (_ + (if _ then _ else _))); first | (rw [if_pos c129]; try rfl; done) | (rw [if_neg c129]; try rfl; done) | (rw [if_pos (bI1 c129)]; try rfl; done) | (rw [if_neg (bI0 c129)]; try rfl; done)), rfl, trivial⟩ ?_
            exact ih (j + 1) hjn (by omega)
          · refine ww_iconst (v := 1) C dX5_counted_132 (by decide) ?_
            refine ww_goto C dX5_counted_133 158 (by decide) ?_
            refine ww_iadd C dX5_counted_158 ?_
            refine ww_istore_n C dX5_counted_159 2 rfl (by decide) ?_
            refine ww_iinc (v := nI (j + 1)) C dX5_counted_160 rfl (nI_inc _) (by decide) ?_
            refine ww_goto C dX5_counted_163 110 (by decide) ?_
            refine ww_lv [(0, .ref (gB g + 64)), (1, .int (nI 3)), (2, .int (m_lost h (j + 1))), (3, .int (nI (j + 1)))] ⟨rfl, rfl, (by show some (Value.int _) = some (Value.int (_ + (if _ then _ else _))); first | (rw [if_pos c129]; try rfl; done) | (rw [if_neg c129]; try rfl; done) | (rw [if_pos (bI1 c129)]; try rfl; done) | (rw [if_neg (bI0 c129)]; try rfl; done)), rfl, trivial⟩ ?_
            exact ih (j + 1) hjn (by omega)
    refine ww_iconst (v := 0) C dX5_counted_108 (by decide) ?_
    refine ww_istore_n C dX5_counted_109 3 rfl (by decide) ?_
    refine ww_lv [(0, .ref (gB g + 64)), (1, .int (nI 3)), (2, .int (m_lost h 0)), (3, .int (nI 0))] ⟨rfl, rfl, rfl, rfl, trivial⟩ ?_
    exact L (f + 1) 0 (Nat.zero_le _) (by omega)
  · refine ww_tabIn C dX5_counted_3 58 61 (by decide) (by decide) (by decide) (by decide) ?_
    refine ww_aload_n C dX5_counted_61 0 rfl rfl ?_
    refine ww_getMn C q_f_X5_22 dX5_counted_62 ?_
    refine ww_iconst (v := 1) C dX5_counted_65 (by decide) ?_
    refine ww_iald (o := 69) (n := 2) (j := 1) C (by omega) (fun r => rfl) (by omega) (by omega) dX5_counted_66 ?_
    exact ww_iret C hr rfl rfl dX5_counted_67
  · refine ww_tabIn C dX5_counted_3 65 68 (by decide) (by decide) (by decide) (by decide) ?_
    refine ww_aload_n C dX5_counted_68 0 rfl rfl ?_
    refine ww_callM C mf_X5_allWater dX5_counted_69 (ct_X5_allWater H) q_m_X5_135 rfl rfl rfl (Nat.le_of_ble_eq_true rfl) (by exact ⟨Nat.le_of_ble_eq_true rfl, Nat.le_of_ble_eq_true rfl⟩) (by exact ⟨Nat.le_of_ble_eq_true rfl, Nat.le_of_ble_eq_true rfl⟩) ?_
    exact ww_iret C hr rfl rfl dX5_counted_72
  · refine ww_tabIn C dX5_counted_3 70 73 (by decide) (by decide) (by decide) (by decide) ?_
    have L : ∀ (fu j : Nat), j ≤ n → n < fu + j → WW g p l e (rK 2 0 0) s m ([.ref (gB g + 64), .int (nI 6)] : List Value).toArray below meth c 4 [] h [(0, .ref (gB g + 64)), (2, .int (m_dry h j)), (3, .int (nI j))] 0 0 (MQ below (QW g s.heap.size (some (.int (m_cnV n f h 6))) h) ([.ref (gB g + 64), .int (nI 6)] : List Value).toArray s 0 0 (AA g s.heap.size)) 75 [] := by
      intro fu
      induction fu with
      | zero => intro j h1 h2; omega
      | succ fu ih =>
        intro j hj hfu
        refine ww_iload_n C dX5_counted_75 3 rfl rfl ?_
        refine ww_aload_n C dX5_counted_76 0 rfl rfl ?_
        refine ww_getM C 1 (by decide) q_f_X5_29 dX5_counted_77 ?_
        refine ww_icmp_ge C dX5_counted_80 106 (by decide) (fun q => ?_) (fun q => ?_)
        · have hjn := lp_exit hn q hj (by omega)
          subst hjn
          refine ww_iload_n C dX5_counted_106 2 rfl rfl ?_
          exact ww_iret C hr rfl rfl dX5_counted_107
        · have hjn := lp_body hn q hj (by omega)
          have hx : isN 10 (nI j) := ⟨j, by omega, rfl⟩
          refine ww_iload_n C dX5_counted_83 2 rfl rfl ?_
          refine ww_aload_n C dX5_counted_84 0 rfl rfl ?_
          refine ww_iload_n C dX5_counted_85 3 rfl rfl ?_
          refine ww_iconst (v := 0) C dX5_counted_86 (by decide) ?_
          refine ww_callM C mf_X5_po dX5_counted_87 (ct_X5_po (by first | exact ix_0 (by assumption) | exact ix_1 (by assumption) | exact ix_2 (by assumption) | exact ix_3 (by assumption) | exact ix_4 (by assumption))) q_m_X5_66 rfl rfl rfl (Nat.le_of_ble_eq_true rfl) (by exact ⟨Nat.le_of_ble_eq_true rfl, Nat.le_of_ble_eq_true rfl⟩) (by exact ⟨Nat.le_of_ble_eq_true rfl, Nat.le_of_ble_eq_true rfl⟩) ?_
          refine ww_if_ne C dX5_counted_90 97 (by decide) (fun c90 => ?_) (fun c90 => ?_)
          · refine ww_iconst (v := 0) C dX5_counted_97 (by decide) ?_
            refine ww_iadd C dX5_counted_98 ?_
            refine ww_istore_n C dX5_counted_99 2 rfl (by decide) ?_
            refine ww_iinc (v := nI (j + 1)) C dX5_counted_100 rfl (nI_inc _) (by decide) ?_
            refine ww_goto C dX5_counted_103 75 (by decide) ?_
            refine ww_lv [(0, .ref (gB g + 64)), (2, .int (m_dry h (j + 1))), (3, .int (nI (j + 1)))] ⟨rfl, (by show some (Value.int _) = some (Value.int (_ + (if _ then _ else _))); first | (rw [if_pos c90]; try rfl; done) | (rw [if_neg c90]; try rfl; done) | (rw [if_pos (bI1 c90)]; try rfl; done) | (rw [if_neg (bI0 c90)]; try rfl; done)), rfl, trivial⟩ ?_
            exact ih (j + 1) hjn (by omega)
          · refine ww_iconst (v := 1) C dX5_counted_93 (by decide) ?_
            refine ww_goto C dX5_counted_94 98 (by decide) ?_
            refine ww_iadd C dX5_counted_98 ?_
            refine ww_istore_n C dX5_counted_99 2 rfl (by decide) ?_
            refine ww_iinc (v := nI (j + 1)) C dX5_counted_100 rfl (nI_inc _) (by decide) ?_
            refine ww_goto C dX5_counted_103 75 (by decide) ?_
            refine ww_lv [(0, .ref (gB g + 64)), (2, .int (m_dry h (j + 1))), (3, .int (nI (j + 1)))] ⟨rfl, (by show some (Value.int _) = some (Value.int (_ + (if _ then _ else _))); first | (rw [if_pos c90]; try rfl; done) | (rw [if_neg c90]; try rfl; done) | (rw [if_pos (bI1 c90)]; try rfl; done) | (rw [if_neg (bI0 c90)]; try rfl; done)), rfl, trivial⟩ ?_
            exact ih (j + 1) hjn (by omega)
    refine ww_iconst (v := 0) C dX5_counted_73 (by decide) ?_
    refine ww_istore_n C dX5_counted_74 3 rfl (by decide) ?_
    refine ww_lv [(0, .ref (gB g + 64)), (2, .int (m_dry h 0)), (3, .int (nI 0))] ⟨rfl, rfl, rfl, trivial⟩ ?_
    exact L (n + 1) 0 (Nat.zero_le _) (by omega)
  · refine ww_tabOut C dX5_counted_3 108 (Or.inr (by decide)) (by decide) ?_
    have L : ∀ (fu j : Nat), j ≤ f → f < fu + j → WW g p l e (rK 2 0 0) s m ([.ref (gB g + 64), .int (nI 7)] : List Value).toArray below meth c 4 [] h [(0, .ref (gB g + 64)), (1, .int (nI 7)), (2, .int (m_sheep h j)), (3, .int (nI j))] 0 0 (MQ below (QW g s.heap.size (some (.int (m_cnV n f h 7))) h) ([.ref (gB g + 64), .int (nI 7)] : List Value).toArray s 0 0 (AA g s.heap.size)) 110 [] := by
      intro fu
      induction fu with
      | zero => intro j h1 h2; omega
      | succ fu ih =>
        intro j hj hfu
        refine ww_iload_n C dX5_counted_110 3 rfl rfl ?_
        refine ww_aload_n C dX5_counted_111 0 rfl rfl ?_
        refine ww_getM C 3 (by decide) q_f_X5_36 dX5_counted_112 ?_
        refine ww_icmp_ge C dX5_counted_115 166 (by decide) (fun q => ?_) (fun q => ?_)
        · have hjn := lp_exit hf q hj (by omega)
          subst hjn
          refine ww_iload_n C dX5_counted_166 2 rfl rfl ?_
          exact ww_iret C hr rfl rfl dX5_counted_167
        · have hjn := lp_body hf q hj (by omega)
          have hx : isN 7 (nI j) := ⟨j, by omega, rfl⟩
          refine ww_iload_n C dX5_counted_118 2 rfl rfl ?_
          refine ww_iload_n C dX5_counted_119 1 rfl rfl ?_
          refine ww_iconst (v := 3) C dX5_counted_120 (by decide) ?_
          refine ww_icmp_ne C dX5_counted_121 140 (by decide) (fun _ => ?_) (fun q => absurd q (show ¬ nI 7 = 3 from by decide))
          refine ww_aload_n C dX5_counted_140 0 rfl rfl ?_
          refine ww_iload_n C dX5_counted_141 3 rfl rfl ?_
          refine ww_callM C mf_X5_isLost dX5_counted_142 (ct_X5_isLost (by assumption)) q_m_X5_87 rfl rfl rfl (Nat.le_of_ble_eq_true rfl) (by exact ⟨Nat.le_of_ble_eq_true rfl, Nat.le_of_ble_eq_true rfl⟩) (by exact ⟨Nat.le_of_ble_eq_true rfl, Nat.le_of_ble_eq_true rfl⟩) ?_
          refine ww_if_eq C dX5_counted_145 152 (by decide) (fun c145 => ?_) (fun c145 => ?_)
          · refine ww_aload_n C dX5_counted_152 0 rfl rfl ?_
            refine ww_iload_n C dX5_counted_153 3 rfl rfl ?_
            refine ww_iconst (v := 0) C dX5_counted_154 (by decide) ?_
            refine ww_callM C mf_X5_fl dX5_counted_155 (ct_X5_fl (by first | exact jx_0 (by assumption) | exact jx_1 (by assumption) | exact jx_2 (by assumption) | exact jx_3 (by assumption) | exact jx_4 (by assumption))) q_m_X5_84 rfl rfl rfl (Nat.le_of_ble_eq_true rfl) (by exact ⟨Nat.le_of_ble_eq_true rfl, Nat.le_of_ble_eq_true rfl⟩) (by exact ⟨Nat.le_of_ble_eq_true rfl, Nat.le_of_ble_eq_true rfl⟩) ?_
            refine ww_iadd C dX5_counted_158 ?_
            refine ww_istore_n C dX5_counted_159 2 rfl (by decide) ?_
            refine ww_iinc (v := nI (j + 1)) C dX5_counted_160 rfl (nI_inc _) (by decide) ?_
            refine ww_goto C dX5_counted_163 110 (by decide) ?_
            refine ww_lv [(0, .ref (gB g + 64)), (1, .int (nI 7)), (2, .int (m_sheep h (j + 1))), (3, .int (nI (j + 1)))] ⟨rfl, rfl, (by show some (Value.int _) = some (Value.int (_ + (if _ then _ else _))); first | (rw [if_pos c145]; try rfl; done) | (rw [if_neg c145]; try rfl; done) | (rw [if_pos (bI1 c145)]; try rfl; done) | (rw [if_neg (bI0 c145)]; try rfl; done)), rfl, trivial⟩ ?_
            exact ih (j + 1) hjn (by omega)
          · refine ww_iconst (v := 0) C dX5_counted_148 (by decide) ?_
            refine ww_goto C dX5_counted_149 158 (by decide) ?_
            refine ww_iadd C dX5_counted_158 ?_
            refine ww_istore_n C dX5_counted_159 2 rfl (by decide) ?_
            refine ww_iinc (v := nI (j + 1)) C dX5_counted_160 rfl (nI_inc _) (by decide) ?_
            refine ww_goto C dX5_counted_163 110 (by decide) ?_
            refine ww_lv [(0, .ref (gB g + 64)), (1, .int (nI 7)), (2, .int (m_sheep h (j + 1))), (3, .int (nI (j + 1)))] ⟨rfl, rfl, (by show some (Value.int _) = some (Value.int (_ + (if _ then _ else _))); first | (rw [if_pos c145]; try rfl; done) | (rw [if_neg c145]; try rfl; done) | (rw [if_pos (bI1 c145)]; try rfl; done) | (rw [if_neg (bI0 c145)]; try rfl; done)), rfl, trivial⟩ ?_
            exact ih (j + 1) hjn (by omega)
    refine ww_iconst (v := 0) C dX5_counted_108 (by decide) ?_
    refine ww_istore_n C dX5_counted_109 3 rfl (by decide) ?_
    refine ww_lv [(0, .ref (gB g + 64)), (1, .int (nI 7)), (2, .int (m_sheep h 0)), (3, .int (nI 0))] ⟨rfl, rfl, rfl, rfl, trivial⟩ ?_
    exact L (f + 1) 0 (Nat.zero_le _) (by omega)
set_option maxRecDepth 100000 in
set_option maxHeartbeats 1600000 in
theorem ct_X5_count {g : gW} {l : Launch} {h : Hp} {n f : Nat} (H : OM n f h) {w : Int32} : CT g l yX5_count cX5_count 2 (some FieldType.int) 3 0 0 [.ref (gB g + 64), .int w] h (some (.int (y_count n f h w).1)) (y_count n f h w).2 := by
  refine CT.of (lv0 := [(0, .ref (gB g + 64)), (1, .int w)]) mf_X5_count.1.2.2.2 (Nat.le_of_ble_eq_true rfl) rfl ?_
  intro p e s m below meth c C hr
  refine ww_aload_n C dX5_count_0 0 rfl rfl ?_
  refine ww_iconst (v := 0) C dX5_count_1 (by decide) ?_
  refine ww_putM C 0 (by decide) q_f_X5_25 dX5_count_2 ?_
  refine ww_heap (h2 := y0 h) rfl ?_
  refine ww_iload_n C dX5_count_5 1 rfl rfl ?_
  refine ww_iconst (v := 0) C dX5_count_6 (by decide) ?_
  refine ww_bipush (v := 7) C dX5_count_7 (by decide) ?_
  refine ww_callS C mf_X5_isIn ct_X5_isIn q_m_X5_32 rfl rfl (Nat.le_of_ble_eq_true rfl) (by exact ⟨Nat.le_of_ble_eq_true rfl, Nat.le_of_ble_eq_true rfl⟩) (by exact ⟨Nat.le_of_ble_eq_true rfl, Nat.le_of_ble_eq_true rfl⟩) dX5_count_9 ?_
  refine ww_if_eq C dX5_count_12 23 (by decide) (fun c12 => ?_) (fun c12 => ?_)
  · refine ww_aload_n C dX5_count_23 0 rfl rfl ?_
    refine ww_iconst (v := 1) C dX5_count_24 (by decide) ?_
    refine ww_callM C mf_X5_fail dX5_count_25 ct_X5_fail q_m_X5_49 rfl rfl rfl (Nat.le_of_ble_eq_true rfl) (by exact ⟨Nat.le_of_ble_eq_true rfl, Nat.le_of_ble_eq_true rfl⟩) (by exact ⟨Nat.le_of_ble_eq_true rfl, Nat.le_of_ble_eq_true rfl⟩) ?_
    exact ww_iret C hr (by simp only [y_count, yF, c12, if_true, if_false]) (by simp only [y_count, yF, c12, if_true, if_false]) dX5_count_28
  · obtain ⟨ek, hk⟩ := in0 (N := 7) rfl (by omega) c12
    refine ww_aload_n C dX5_count_15 0 rfl rfl ?_
    refine ww_iload_n C dX5_count_16 1 rfl rfl ?_
    refine ww_top ek ?_
    refine ww_callM C mf_X5_counted dX5_count_17 (ct_X5_counted H.yy (by omega)) q_m_X5_138 rfl rfl rfl (Nat.le_of_ble_eq_true rfl) (by exact ⟨Nat.le_of_ble_eq_true rfl, Nat.le_of_ble_eq_true rfl⟩) (by exact ⟨Nat.le_of_ble_eq_true rfl, Nat.le_of_ble_eq_true rfl⟩) ?_
    refine ww_goto C dX5_count_20 28 (by decide) ?_
    exact ww_iret C hr (by simp only [y_count, yF, c12, if_true, if_false]) (by simp only [y_count, yF, c12, if_true, if_false]) dX5_count_28
set_option maxRecDepth 100000 in
set_option maxHeartbeats 1600000 in
theorem ct_X5_waterBy {g : gW} {l : Launch} {h : Hp} {n f t : Nat} (H : OM n f h) (ht : h 69 0 = nI t) (ht31 : t + 100 < 2 ^ 31) {k : Int32} (ek : k = nI k.toNatClampNeg) (hk : k.toNatClampNeg ≤ 100) : CT g l yX5_waterBy cX5_waterBy 3 (some FieldType.int) 5 0 0 [.ref (gB g + 64), .int k] h (some (.int (m_all (m_days n f t h k.toNatClampNeg) n))) (m_days n f t h k.toNatClampNeg) := by
  refine CT.of (lv0 := [(0, .ref (gB g + 64)), (1, .int k)]) mf_X5_waterBy.1.2.2.2 (Nat.le_of_ble_eq_true rfl) rfl ?_
  intro p e s m below meth c C hr
  have L : ∀ (fu j : Nat), j ≤ k.toNatClampNeg → k.toNatClampNeg < fu + j → WW g p l e (rK 5 0 0) s m ([.ref (gB g + 64), .int k] : List Value).toArray below meth c 3 [] (m_days n f t h j) [(0, .ref (gB g + 64)), (1, .int k), (2, .int (nI j))] 0 0 (MQ below (QW g s.heap.size (some (.int (m_all (m_days n f t h k.toNatClampNeg) n))) (m_days n f t h k.toNatClampNeg)) ([.ref (gB g + 64), .int k] : List Value).toArray s 0 0 (AA g s.heap.size)) 2 [] := by
    intro fu
    induction fu with
    | zero => intro j h1 h2; omega
    | succ fu ih =>
      intro j hj hfu
      have Hj := mdays_ok H ht j
      refine ww_iload_n C dX5_waterBy_2 2 rfl rfl ?_
      refine ww_iload_n C dX5_waterBy_3 1 rfl rfl ?_
      refine ww_icmp_ge C dX5_waterBy_4 18 (by decide) (fun q => ?_) (fun q => ?_)
      · have hjn := lp_exit ek q hj (by omega)
        subst hjn
        refine ww_aload_n C dX5_waterBy_18 0 rfl rfl ?_
        refine ww_callM C mf_X5_allWater dX5_waterBy_19 (ct_X5_allWater Hj.1) q_m_X5_135 rfl rfl rfl (Nat.le_of_ble_eq_true rfl) (by exact ⟨Nat.le_of_ble_eq_true rfl, Nat.le_of_ble_eq_true rfl⟩) (by exact ⟨Nat.le_of_ble_eq_true rfl, Nat.le_of_ble_eq_true rfl⟩) ?_
        exact ww_iret C hr rfl rfl dX5_waterBy_22
      · have hjn := lp_body ek q hj (by omega)
        refine ww_aload_n C dX5_waterBy_7 0 rfl rfl ?_
        refine ww_callM C mf_X5_dayOn dX5_waterBy_8 (ct_X5_dayOn Hj.1 Hj.2 (by omega)) q_m_X5_131 rfl rfl rfl (Nat.le_of_ble_eq_true rfl) (by exact ⟨Nat.le_of_ble_eq_true rfl, Nat.le_of_ble_eq_true rfl⟩) (by exact ⟨Nat.le_of_ble_eq_true rfl, Nat.le_of_ble_eq_true rfl⟩) ?_
        refine ww_pop C dX5_waterBy_11 rfl ?_
        refine ww_iinc (v := nI (j + 1)) C dX5_waterBy_12 rfl (nI_inc _) (by decide) ?_
        refine ww_goto C dX5_waterBy_15 2 (by decide) ?_
        refine ww_lv [(0, .ref (gB g + 64)), (1, .int k), (2, .int (nI (j + 1)))] ⟨rfl, rfl, rfl, trivial⟩ ?_
        exact ih (j + 1) hjn (by omega)
  refine ww_iconst (v := 0) C dX5_waterBy_0 (by decide) ?_
  refine ww_istore_n C dX5_waterBy_1 2 rfl (by decide) ?_
  refine ww_lv [(0, .ref (gB g + 64)), (1, .int k), (2, .int (nI 0))] ⟨rfl, rfl, rfl, trivial⟩ ?_
  exact L (k.toNatClampNeg + 1) 0 (Nat.zero_le _) (by omega)
def mg_1 (n f : Nat) (h : Hp) : Nat → Int64 := fd (fun s k => dgS s (m_cnV n f h k)) 587
def mg_2 (n f : Nat) (h : Hp) : Nat → Int64 := fd (fun s j => dgS s (m_wt h j)) (mg_1 n f h 8)
def mg_P (n f : Nat) (h : Hp) (j : Nat) (s : Int64) : Nat → Int64 := fd (fun s k => dgS s (m_pondV n f h (nI j) k)) s
def mg_3 (n f : Nat) (h : Hp) : Nat → Int64 := fd (fun s j => mg_P n f h j s 12) (mg_2 n f h 10)
def mg_F (h : Hp) (j : Nat) (s : Int64) : Nat → Int64 := fd (fun s k => dgS s (m_flV h (nI j) k)) s
def mg_4 (n f : Nat) (h : Hp) : Nat → Int64 := fd (fun s j => mg_F h j s 6) (mg_3 n f h n)
theorem mg_1_0 {n f : Nat} {h : Hp} : mg_1 n f h 0 = 587 := by unfold mg_1; exact fd_0
theorem mg_2_0 {n f : Nat} {h : Hp} : mg_2 n f h 0 = mg_1 n f h 8 := by unfold mg_2; exact fd_0
theorem mg_3_0 {n f : Nat} {h : Hp} : mg_3 n f h 0 = mg_2 n f h 10 := by unfold mg_3; exact fd_0
theorem mg_4_0 {n f : Nat} {h : Hp} : mg_4 n f h 0 = mg_3 n f h n := by unfold mg_4; exact fd_0
theorem mg_P_0 {n f j : Nat} {h : Hp} {s : Int64} : mg_P n f h j s 0 = s := by unfold mg_P; exact fd_0
theorem mg_F_0 {j : Nat} {h : Hp} {s : Int64} : mg_F h j s 0 = s := by unfold mg_F; exact fd_0
theorem mg_1_s {n f j : Nat} {h : Hp} : mg_1 n f h (j + 1) = mg_1 n f h j * 31 + (m_cnV n f h j).toInt64 := by unfold mg_1; rw [fd_s]; unfold dgS; exact Eq.refl _
theorem mg_2_s {n f j : Nat} {h : Hp} : mg_2 n f h (j + 1) = mg_2 n f h j * 31 + (m_wt h j).toInt64 := by unfold mg_2; rw [fd_s]; unfold dgS; exact Eq.refl _
theorem mg_P_s {n f i j : Nat} {h : Hp} {s : Int64} : mg_P n f h i s (j + 1) = mg_P n f h i s j * 31 + (m_pondV n f h (nI i) j).toInt64 := by unfold mg_P; rw [fd_s]; unfold dgS; exact Eq.refl _
theorem mg_F_s {i j : Nat} {h : Hp} {s : Int64} : mg_F h i s (j + 1) = mg_F h i s j * 31 + (m_flV h (nI i) j).toInt64 := by unfold mg_F; rw [fd_s]; unfold dgS; exact Eq.refl _
theorem mg_3_s {n f j : Nat} {h : Hp} : mg_3 n f h (j + 1) = mg_P n f h j (mg_3 n f h j) 12 := by unfold mg_3; rw [fd_s]
theorem mg_4_s {n f j : Nat} {h : Hp} : mg_4 n f h (j + 1) = mg_F h j (mg_4 n f h j) 6 := by unfold mg_4; rw [fd_s]
set_option maxRecDepth 100000 in
set_option maxHeartbeats 1600000 in
theorem ct_X5_digest {g : gW} {l : Launch} {h : Hp} {n f : Nat} (H : OM n f h) (HC : HCh n (y0 h)) : CT g l yX5_digest cX5_digest 5 (some FieldType.long) 5 0 0 [.ref (gB g + 64)] h (some (.long (mg_4 n f (y0 h) f))) (y0 h) := by
  refine CT.of (lv0 := [(0, .ref (gB g + 64))]) mf_X5_digest.1.2.2.2 (Nat.le_of_ble_eq_true rfl) rfl ?_
  intro p e s m below meth c C hr
  have hn : y0 h 64 1 = nI n := H.yy.1
  have hn10 := H.2.1
  have hf : y0 h 64 3 = nI f := H.yy.2.2.1
  have hf7 := H.2.2.2.1
  have L4i : ∀ (fu j : Nat), j ≤ 6 → 6 < fu + j → ∀ (i : Nat) (s0 : Int64), i < f → WW g p l e (rK 5 0 0) s m ([.ref (gB g + 64)] : List Value).toArray below meth c 5 [] (y0 h) [(0, .ref (gB g + 64)), (1, .long (mg_F (y0 h) i s0 6)), (3, .int (nI (i + 1)))] 0 0 (MQ below (QW g s.heap.size (some (.long (mg_4 n f (y0 h) f))) (y0 h)) ([.ref (gB g + 64)] : List Value).toArray s 0 0 (AA g s.heap.size)) 112 [] → WW g p l e (rK 5 0 0) s m ([.ref (gB g + 64)] : List Value).toArray below meth c 5 [] (y0 h) [(0, .ref (gB g + 64)), (1, .long (mg_F (y0 h) i s0 j)), (3, .int (nI i)), (4, .int (nI j))] 0 0 (MQ below (QW g s.heap.size (some (.long (mg_4 n f (y0 h) f))) (y0 h)) ([.ref (gB g + 64)] : List Value).toArray s 0 0 (AA g s.heap.size)) 123 [] := by
    intro fu
    induction fu with
    | zero => intro j h1 h2; omega
    | succ fu ih =>
      intro j hj hfu i s0 hi hcont
      refine ww_iload C dX5_digest_123 rfl ?_
      refine ww_bipush (v := 6) C dX5_digest_125 (by decide) ?_
      refine ww_icmp_ge C dX5_digest_127 151 (by decide) (fun q => ?_) (fun q => ?_)
      · have hjn := lp_exit (show (6 : Int32) = nI 6 from rfl) q hj (by omega)
        subst hjn
        refine ww_iinc (v := nI (i + 1)) C dX5_digest_151 rfl (nI_inc i) (by decide) ?_
        refine ww_goto C dX5_digest_154 112 (by decide) ?_
        refine ww_lv [(0, .ref (gB g + 64)), (1, .long (mg_F (y0 h) i s0 6)), (3, .int (nI (i + 1)))] ⟨rfl, rfl, rfl, trivial⟩ ?_
        exact hcont
      · have hjn := lp_body (show (6 : Int32) = nI 6 from rfl) q hj (by omega)
        refine ww_lload_n C dX5_digest_130 1 rfl rfl ?_
        refine ww_ldc2 C dX5_digest_131 q_d_X5_159 ?_
        refine ww_lmul C dX5_digest_134 ?_
        refine ww_aload_n C dX5_digest_135 0 rfl rfl ?_
        refine ww_iload_n C dX5_digest_136 3 rfl rfl ?_
        refine ww_iload C dX5_digest_137 rfl ?_
        refine ww_callM C mf_X5_flockTold dX5_digest_139 (ct_X5_flockTold ⟨i, by omega, rfl⟩ hjn) q_m_X5_115 rfl rfl rfl (Nat.le_of_ble_eq_true rfl) (by exact ⟨Nat.le_of_ble_eq_true rfl, Nat.le_of_ble_eq_true rfl⟩) (by exact ⟨Nat.le_of_ble_eq_true rfl, Nat.le_of_ble_eq_true rfl⟩) ?_
        refine ww_i2l C dX5_digest_142 ?_
        refine ww_ladd C dX5_digest_143 ?_
        refine ww_lstore_n C dX5_digest_144 1 rfl (by decide) ?_
        refine ww_iinc (v := nI (j + 1)) C dX5_digest_145 rfl (nI_inc _) (by decide) ?_
        refine ww_goto C dX5_digest_148 123 (by decide) ?_
        refine ww_lv [(0, .ref (gB g + 64)), (1, .long (mg_F (y0 h) i s0 (j + 1))), (3, .int (nI i)), (4, .int (nI (j + 1)))] ⟨rfl, (congrArg (fun z => some (Value.long z)) mg_F_s.symm), rfl, rfl, trivial⟩ ?_
        exact ih (j + 1) hjn (by omega) i s0 hi hcont
  have L4 : ∀ (fu j : Nat), j ≤ f → f < fu + j → WW g p l e (rK 5 0 0) s m ([.ref (gB g + 64)] : List Value).toArray below meth c 5 [] (y0 h) [(0, .ref (gB g + 64)), (1, .long (mg_4 n f (y0 h) j)), (3, .int (nI j))] 0 0 (MQ below (QW g s.heap.size (some (.long (mg_4 n f (y0 h) f))) (y0 h)) ([.ref (gB g + 64)] : List Value).toArray s 0 0 (AA g s.heap.size)) 112 [] := by
    intro fu
    induction fu with
    | zero => intro j h1 h2; omega
    | succ fu ih =>
      intro j hj hfu
      refine ww_iload_n C dX5_digest_112 3 rfl rfl ?_
      refine ww_aload_n C dX5_digest_113 0 rfl rfl ?_
      refine ww_getM C 3 (by decide) q_f_X5_36 dX5_digest_114 ?_
      refine ww_icmp_ge C dX5_digest_117 157 (by decide) (fun q => ?_) (fun q => ?_)
      · have hjn := lp_exit hf q hj (by omega)
        subst hjn
        refine ww_lload_n C dX5_digest_157 1 rfl rfl ?_
        exact ww_lret C hr rfl rfl dX5_digest_158
      · have hjn := lp_body hf q hj (by omega)
        refine ww_iconst (v := 0) C dX5_digest_120 (by decide) ?_
        refine ww_istore C dX5_digest_121 (by decide) ?_
        refine ww_lv [(0, .ref (gB g + 64)), (1, .long (mg_F (y0 h) j (mg_4 n f (y0 h) j) 0)), (3, .int (nI j)), (4, .int (nI 0))] ⟨rfl, (congrArg (fun z => some (Value.long z)) mg_F_0.symm), rfl, rfl, trivial⟩ ?_
        exact L4i (6 + 1) 0 (Nat.zero_le _) (by omega) j (mg_4 n f (y0 h) j) hjn (by have z := ih (j + 1) hjn (by omega); rw [mg_4_s] at z; exact z)
  have L3i : ∀ (fu j : Nat), j ≤ 12 → 12 < fu + j → ∀ (i : Nat) (s0 : Int64), i < n → WW g p l e (rK 5 0 0) s m ([.ref (gB g + 64)] : List Value).toArray below meth c 5 [] (y0 h) [(0, .ref (gB g + 64)), (1, .long (mg_P n f (y0 h) i s0 12)), (3, .int (nI (i + 1)))] 0 0 (MQ below (QW g s.heap.size (some (.long (mg_4 n f (y0 h) f))) (y0 h)) ([.ref (gB g + 64)] : List Value).toArray s 0 0 (AA g s.heap.size)) 65 [] → WW g p l e (rK 5 0 0) s m ([.ref (gB g + 64)] : List Value).toArray below meth c 5 [] (y0 h) [(0, .ref (gB g + 64)), (1, .long (mg_P n f (y0 h) i s0 j)), (3, .int (nI i)), (4, .int (nI j))] 0 0 (MQ below (QW g s.heap.size (some (.long (mg_4 n f (y0 h) f))) (y0 h)) ([.ref (gB g + 64)] : List Value).toArray s 0 0 (AA g s.heap.size)) 76 [] := by
    intro fu
    induction fu with
    | zero => intro j h1 h2; omega
    | succ fu ih =>
      intro j hj hfu i s0 hi hcont
      refine ww_iload C dX5_digest_76 rfl ?_
      refine ww_bipush (v := 12) C dX5_digest_78 (by decide) ?_
      refine ww_icmp_ge C dX5_digest_80 104 (by decide) (fun q => ?_) (fun q => ?_)
      · have hjn := lp_exit (show (12 : Int32) = nI 12 from rfl) q hj (by omega)
        subst hjn
        refine ww_iinc (v := nI (i + 1)) C dX5_digest_104 rfl (nI_inc i) (by decide) ?_
        refine ww_goto C dX5_digest_107 65 (by decide) ?_
        refine ww_lv [(0, .ref (gB g + 64)), (1, .long (mg_P n f (y0 h) i s0 12)), (3, .int (nI (i + 1)))] ⟨rfl, rfl, rfl, trivial⟩ ?_
        exact hcont
      · have hjn := lp_body (show (12 : Int32) = nI 12 from rfl) q hj (by omega)
        refine ww_lload_n C dX5_digest_83 1 rfl rfl ?_
        refine ww_ldc2 C dX5_digest_84 q_d_X5_159 ?_
        refine ww_lmul C dX5_digest_87 ?_
        refine ww_aload_n C dX5_digest_88 0 rfl rfl ?_
        refine ww_iload_n C dX5_digest_89 3 rfl rfl ?_
        refine ww_iload C dX5_digest_90 rfl ?_
        refine ww_callM C mf_X5_pondTold dX5_digest_92 (ct_X5_pondTold H.yy HC ⟨i, hi, rfl⟩ hjn) q_m_X5_96 rfl rfl rfl (Nat.le_of_ble_eq_true rfl) (by exact ⟨Nat.le_of_ble_eq_true rfl, Nat.le_of_ble_eq_true rfl⟩) (by exact ⟨Nat.le_of_ble_eq_true rfl, Nat.le_of_ble_eq_true rfl⟩) ?_
        refine ww_i2l C dX5_digest_95 ?_
        refine ww_ladd C dX5_digest_96 ?_
        refine ww_lstore_n C dX5_digest_97 1 rfl (by decide) ?_
        refine ww_iinc (v := nI (j + 1)) C dX5_digest_98 rfl (nI_inc _) (by decide) ?_
        refine ww_goto C dX5_digest_101 76 (by decide) ?_
        refine ww_lv [(0, .ref (gB g + 64)), (1, .long (mg_P n f (y0 h) i s0 (j + 1))), (3, .int (nI i)), (4, .int (nI (j + 1)))] ⟨rfl, (congrArg (fun z => some (Value.long z)) mg_P_s.symm), rfl, rfl, trivial⟩ ?_
        exact ih (j + 1) hjn (by omega) i s0 hi hcont
  have L3 : ∀ (fu j : Nat), j ≤ n → n < fu + j → WW g p l e (rK 5 0 0) s m ([.ref (gB g + 64)] : List Value).toArray below meth c 5 [] (y0 h) [(0, .ref (gB g + 64)), (1, .long (mg_3 n f (y0 h) j)), (3, .int (nI j))] 0 0 (MQ below (QW g s.heap.size (some (.long (mg_4 n f (y0 h) f))) (y0 h)) ([.ref (gB g + 64)] : List Value).toArray s 0 0 (AA g s.heap.size)) 65 [] := by
    intro fu
    induction fu with
    | zero => intro j h1 h2; omega
    | succ fu ih =>
      intro j hj hfu
      refine ww_iload_n C dX5_digest_65 3 rfl rfl ?_
      refine ww_aload_n C dX5_digest_66 0 rfl rfl ?_
      refine ww_getM C 1 (by decide) q_f_X5_29 dX5_digest_67 ?_
      refine ww_icmp_ge C dX5_digest_70 110 (by decide) (fun q => ?_) (fun q => ?_)
      · have hjn := lp_exit hn q hj (by omega)
        subst hjn
        refine ww_iconst (v := 0) C dX5_digest_110 (by decide) ?_
        refine ww_istore_n C dX5_digest_111 3 rfl (by decide) ?_
        refine ww_lv [(0, .ref (gB g + 64)), (1, .long (mg_4 n f (y0 h) 0)), (3, .int (nI 0))] ⟨rfl, (congrArg (fun z => some (Value.long z)) mg_4_0.symm), rfl, trivial⟩ ?_
        exact L4 (f + 1) 0 (Nat.zero_le _) (by omega)
      · have hjn := lp_body hn q hj (by omega)
        refine ww_iconst (v := 0) C dX5_digest_73 (by decide) ?_
        refine ww_istore C dX5_digest_74 (by decide) ?_
        refine ww_lv [(0, .ref (gB g + 64)), (1, .long (mg_P n f (y0 h) j (mg_3 n f (y0 h) j) 0)), (3, .int (nI j)), (4, .int (nI 0))] ⟨rfl, (congrArg (fun z => some (Value.long z)) mg_P_0.symm), rfl, rfl, trivial⟩ ?_
        exact L3i (12 + 1) 0 (Nat.zero_le _) (by omega) j (mg_3 n f (y0 h) j) hjn (by have z := ih (j + 1) hjn (by omega); rw [mg_3_s] at z; exact z)
  have L2 : ∀ (fu j : Nat), j ≤ 10 → 10 < fu + j → WW g p l e (rK 5 0 0) s m ([.ref (gB g + 64)] : List Value).toArray below meth c 5 [] (y0 h) [(0, .ref (gB g + 64)), (1, .long (mg_2 n f (y0 h) j)), (3, .int (nI j))] 0 0 (MQ below (QW g s.heap.size (some (.long (mg_4 n f (y0 h) f))) (y0 h)) ([.ref (gB g + 64)] : List Value).toArray s 0 0 (AA g s.heap.size)) 38 [] := by
    intro fu
    induction fu with
    | zero => intro j h1 h2; omega
    | succ fu ih =>
      intro j hj hfu
      refine ww_iload_n C dX5_digest_38 3 rfl rfl ?_
      refine ww_bipush (v := 10) C dX5_digest_39 (by decide) ?_
      refine ww_icmp_ge C dX5_digest_41 63 (by decide) (fun q => ?_) (fun q => ?_)
      · have hjn := lp_exit (show (10 : Int32) = nI 10 from rfl) q hj (by omega)
        subst hjn
        refine ww_iconst (v := 0) C dX5_digest_63 (by decide) ?_
        refine ww_istore_n C dX5_digest_64 3 rfl (by decide) ?_
        refine ww_lv [(0, .ref (gB g + 64)), (1, .long (mg_3 n f (y0 h) 0)), (3, .int (nI 0))] ⟨rfl, (congrArg (fun z => some (Value.long z)) mg_3_0.symm), rfl, trivial⟩ ?_
        exact L3 (n + 1) 0 (Nat.zero_le _) (by omega)
      · have hjn := lp_body (show (10 : Int32) = nI 10 from rfl) q hj (by omega)
        refine ww_lload_n C dX5_digest_44 1 rfl rfl ?_
        refine ww_ldc2 C dX5_digest_45 q_d_X5_159 ?_
        refine ww_lmul C dX5_digest_48 ?_
        refine ww_aload_n C dX5_digest_49 0 rfl rfl ?_
        refine ww_iload_n C dX5_digest_50 3 rfl rfl ?_
        refine ww_callM C mf_X5_weatherTold dX5_digest_51 (ct_X5_weatherTold hjn) q_m_X5_99 rfl rfl rfl (Nat.le_of_ble_eq_true rfl) (by exact ⟨Nat.le_of_ble_eq_true rfl, Nat.le_of_ble_eq_true rfl⟩) (by exact ⟨Nat.le_of_ble_eq_true rfl, Nat.le_of_ble_eq_true rfl⟩) ?_
        refine ww_i2l C dX5_digest_54 ?_
        refine ww_ladd C dX5_digest_55 ?_
        refine ww_lstore_n C dX5_digest_56 1 rfl (by decide) ?_
        refine ww_iinc (v := nI (j + 1)) C dX5_digest_57 rfl (nI_inc _) (by decide) ?_
        refine ww_goto C dX5_digest_60 38 (by decide) ?_
        refine ww_lv [(0, .ref (gB g + 64)), (1, .long (mg_2 n f (y0 h) (j + 1))), (3, .int (nI (j + 1)))] ⟨rfl, (congrArg (fun z => some (Value.long z)) mg_2_s.symm), rfl, trivial⟩ ?_
        exact ih (j + 1) hjn (by omega)
  have L1 : ∀ (fu j : Nat), j ≤ 8 → 8 < fu + j → WW g p l e (rK 5 0 0) s m ([.ref (gB g + 64)] : List Value).toArray below meth c 5 [] (y0 h) [(0, .ref (gB g + 64)), (1, .long (mg_1 n f (y0 h) j)), (3, .int (nI j))] 0 0 (MQ below (QW g s.heap.size (some (.long (mg_4 n f (y0 h) f))) (y0 h)) ([.ref (gB g + 64)] : List Value).toArray s 0 0 (AA g s.heap.size)) 11 [] := by
    intro fu
    induction fu with
    | zero => intro j h1 h2; omega
    | succ fu ih =>
      intro j hj hfu
      refine ww_iload_n C dX5_digest_11 3 rfl rfl ?_
      refine ww_bipush (v := 8) C dX5_digest_12 (by decide) ?_
      refine ww_icmp_ge C dX5_digest_14 36 (by decide) (fun q => ?_) (fun q => ?_)
      · have hjn := lp_exit (show (8 : Int32) = nI 8 from rfl) q hj (by omega)
        subst hjn
        refine ww_iconst (v := 0) C dX5_digest_36 (by decide) ?_
        refine ww_istore_n C dX5_digest_37 3 rfl (by decide) ?_
        refine ww_lv [(0, .ref (gB g + 64)), (1, .long (mg_2 n f (y0 h) 0)), (3, .int (nI 0))] ⟨rfl, (congrArg (fun z => some (Value.long z)) mg_2_0.symm), rfl, trivial⟩ ?_
        exact L2 (10 + 1) 0 (Nat.zero_le _) (by omega)
      · have hjn := lp_body (show (8 : Int32) = nI 8 from rfl) q hj (by omega)
        refine ww_lload_n C dX5_digest_17 1 rfl rfl ?_
        refine ww_ldc2 C dX5_digest_18 q_d_X5_159 ?_
        refine ww_lmul C dX5_digest_21 ?_
        refine ww_aload_n C dX5_digest_22 0 rfl rfl ?_
        refine ww_iload_n C dX5_digest_23 3 rfl rfl ?_
        refine ww_callM C mf_X5_counted dX5_digest_24 (ct_X5_counted H.yy hjn) q_m_X5_138 rfl rfl rfl (Nat.le_of_ble_eq_true rfl) (by exact ⟨Nat.le_of_ble_eq_true rfl, Nat.le_of_ble_eq_true rfl⟩) (by exact ⟨Nat.le_of_ble_eq_true rfl, Nat.le_of_ble_eq_true rfl⟩) ?_
        refine ww_i2l C dX5_digest_27 ?_
        refine ww_ladd C dX5_digest_28 ?_
        refine ww_lstore_n C dX5_digest_29 1 rfl (by decide) ?_
        refine ww_iinc (v := nI (j + 1)) C dX5_digest_30 rfl (nI_inc _) (by decide) ?_
        refine ww_goto C dX5_digest_33 11 (by decide) ?_
        refine ww_lv [(0, .ref (gB g + 64)), (1, .long (mg_1 n f (y0 h) (j + 1))), (3, .int (nI (j + 1)))] ⟨rfl, (congrArg (fun z => some (Value.long z)) mg_1_s.symm), rfl, trivial⟩ ?_
        exact ih (j + 1) hjn (by omega)
  refine ww_aload_n C dX5_digest_0 0 rfl rfl ?_
  refine ww_iconst (v := 0) C dX5_digest_1 (by decide) ?_
  refine ww_putM C 0 (by decide) q_f_X5_25 dX5_digest_2 ?_
  refine ww_heap (h2 := y0 h) rfl ?_
  refine ww_ldc2 C dX5_digest_5 q_d_X5_157 ?_
  refine ww_lstore_n C dX5_digest_8 1 rfl (by decide) ?_
  refine ww_iconst (v := 0) C dX5_digest_9 (by decide) ?_
  refine ww_istore_n C dX5_digest_10 3 rfl (by decide) ?_
  refine ww_lv [(0, .ref (gB g + 64)), (1, .long (mg_1 n f (y0 h) 0)), (3, .int (nI 0))] ⟨rfl, (congrArg (fun z => some (Value.long z)) mg_1_0.symm), rfl, trivial⟩ ?_
  exact L1 (8 + 1) 0 (Nat.zero_le _) (by omega)
