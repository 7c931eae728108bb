set_option maxRecDepth 100000 in
set_option maxHeartbeats 1600000 in
theorem ct_X5_dayOn {g : gW} {l : Launch} {h : Hp} {n f t : Nat} (H : OM n f h) (ht : h 69 0 = nI t) (ht31 : t < 2 ^ 31) : CT g l yX5_dayOn cX5_dayOn 4 (some FieldType.int) 4 0 0 [.ref (gB g + 64)] h (some (.int (m_dayU n f t h))) (m_day n f t h) := by
  refine CT.of (lv0 := [(0, .ref (gB g + 64))]) mf_X5_dayOn.1.2.2.2 (Nat.le_of_ble_eq_true rfl) rfl ?_
  intro p e s m below meth c C hr
  have hn := H.1
  have hn10 := H.2.1
  have hf := H.2.2.1
  have hf7 := H.2.2.2.1
  have t10 : t % 10 < 10 := Nat.mod_lt _ (by omega)
  have k1 : mK n f h (m_h1 n (t % 10) h) := mK_fd n (fun z i hi Hz => mK_d1 (by have := Hz.2.1; omega)) H
  have H1 := H.mK k1
  have k2 : mK n f (m_h1 n (t % 10) h) (fd (m_flock n) (m_h1 n (t % 10) h) f) := mK_fd f (fun z i hi Hz => mK_flock Hz hi) H1
  have H2 := H1.mK k2
  have k3 : mK n f (fd (m_flock n) (m_h1 n (t % 10) h) f) (m_h3 n f (t % 10) h) := mK_fd n (fun z i hi Hz => mK_d3 (by have := Hz.2.1; omega)) H2
  have H3 := H2.mK k3
  have H4 : OM n f (m_h4 n f (t % 10) h) := H3.mK (mK_roK 301 _ H3)
  have L5 : ∀ (fu j : Nat), j ≤ n → n < fu + j → nI (t % 10) = 9 → WW g p l e (rK 4 0 0) s m ([.ref (gB g + 64)] : List Value).toArray below meth c 4 [] (fd m_rot (m_h4 n f (t % 10) h) j) [(0, .ref (gB g + 64)), (1, .int (nI (t % 10))), (2, .int (m_dayU n f t h)), (3, .int (nI j))] 0 0 (MQ below (QW g s.heap.size (some (.int (m_dayU n f t h))) (m_day n f t h)) ([.ref (gB g + 64)] : List Value).toArray s 0 0 (AA g s.heap.size)) 213 [] := by
    intro fu
    induction fu with
    | zero => intro j h1 h2; omega
    | succ fu ih =>
      intro j hj hfu c9
      have Hj : OM n f (fd m_rot (m_h4 n f (t % 10) h) j) := H4.mK (mK_fd j (fun z i hi Hz => mK_rot (by have := Hz.2.1; omega)) H4)
      refine ww_iload_n C dX5_dayOn_213 3 rfl rfl ?_
      refine ww_aload_n C dX5_dayOn_214 0 rfl rfl ?_
      refine ww_getM C 1 (by decide) q_f_X5_29 dX5_dayOn_215 ?_
      refine ww_icmp_ge C dX5_dayOn_218 240 (by decide) (fun q => ?_) (fun q => ?_)
      · have hjn := lp_exit Hj.1 q hj (by omega)
        subst hjn
        refine ww_heap (h2 := m_h5 n f (t % 10) h) (by first | exact (if_pos c9).symm | exact (if_neg c9).symm) ?_
        refine ww_aload_n C dX5_dayOn_240 0 rfl rfl ?_
        refine ww_getMn C q_f_X5_22 dX5_dayOn_241 ?_
        refine ww_iconst (v := 0) C dX5_dayOn_244 (by decide) ?_
        refine ww_dup2 C dX5_dayOn_245 rfl rfl ?_
        refine ww_iald (o := 69) (n := 2) (j := 0) C (by omega) (fun r => rfl) (by omega) (by omega) dX5_dayOn_246 ?_
        refine ww_iconst (v := 1) C dX5_dayOn_247 (by decide) ?_
        refine ww_iadd C dX5_dayOn_248 ?_
        refine ww_iast (o := 69) (n := 2) (j := 0) C (by omega) (fun r => rfl) (by omega) (by omega) dX5_dayOn_249 ?_
        refine ww_iload_n C dX5_dayOn_250 2 rfl rfl ?_
        exact ww_iret C hr rfl rfl dX5_dayOn_251
      · have hjn := lp_body Hj.1 q hj (by omega)
        have hx : isN 10 (nI j) := ⟨j, by omega, rfl⟩
        refine ww_iload_n C dX5_dayOn_221 1 rfl rfl ?_
        refine ww_bipush (v := 9) C dX5_dayOn_222 (by decide) ?_
        refine ww_icmp_ne C dX5_dayOn_224 240 (by decide) (fun q => absurd c9 q) (fun _ => ?_)
        refine ww_aload_n C dX5_dayOn_227 0 rfl rfl ?_
        refine ww_iload_n C dX5_dayOn_228 3 rfl rfl ?_
        refine ww_iconst (v := 2) C dX5_dayOn_229 (by decide) ?_
        refine ww_iconst (v := 0) C dX5_dayOn_230 (by decide) ?_
        refine ww_callM C mf_X5_set dX5_dayOn_231 (ct_X5_set (by first | exact ix_0 (by assumption) | exact ix_1 (by assumption) | exact ix_2 (by assumption) | exact ix_3 (by assumption) | exact ix_4 (by assumption))) q_m_X5_58 rfl rfl rfl (Nat.le_of_ble_eq_true rfl) (by exact ⟨Nat.le_of_ble_eq_true rfl, Nat.le_of_ble_eq_true rfl⟩) (by exact ⟨Nat.le_of_ble_eq_true rfl, Nat.le_of_ble_eq_true rfl⟩) ?_
        refine ww_iinc (v := nI (j + 1)) C dX5_dayOn_234 rfl (nI_inc _) (by decide) ?_
        refine ww_goto C dX5_dayOn_237 213 (by decide) ?_
        refine ww_lv [(0, .ref (gB g + 64)), (1, .int (nI (t % 10))), (2, .int (m_dayU n f t h)), (3, .int (nI (j + 1)))] ⟨rfl, rfl, rfl, rfl, trivial⟩ ?_
        exact ih (j + 1) hjn (by omega) c9
  have L3 : ∀ (fu j : Nat), j ≤ n → n < fu + j → WW g p l e (rK 4 0 0) s m ([.ref (gB g + 64)] : List Value).toArray below meth c 4 [] (fd (m_d3 (t % 10)) (fd (m_flock n) (m_h1 n (t % 10) h) f) j) [(0, .ref (gB g + 64)), (1, .int (nI (t % 10))), (2, .int (m_dayU n f t h)), (3, .int (nI j))] 0 0 (MQ below (QW g s.heap.size (some (.int (m_dayU n f t h))) (m_day n f t h)) ([.ref (gB g + 64)] : List Value).toArray s 0 0 (AA g s.heap.size)) 126 [] := by
    intro fu
    induction fu with
    | zero => intro j h1 h2; omega
    | succ fu ih =>
      intro j hj hfu
      have Hj : OM n f (fd (m_d3 (t % 10)) (fd (m_flock n) (m_h1 n (t % 10) h) f) j) := H2.mK (mK_fd j (fun z i hi Hz => mK_d3 (by have := Hz.2.1; omega)) H2)
      refine ww_iload_n C dX5_dayOn_126 3 rfl rfl ?_
      refine ww_aload_n C dX5_dayOn_127 0 rfl rfl ?_
      refine ww_getM C 1 (by decide) q_f_X5_29 dX5_dayOn_128 ?_
      refine ww_icmp_ge C dX5_dayOn_131 207 (by decide) (fun q => ?_) (fun q => ?_)
      · have hjn := lp_exit Hj.1 q hj (by omega)
        subst hjn
        refine ww_aload_n C dX5_dayOn_207 0 rfl rfl ?_
        refine ww_callM C mf_X5_runOver dX5_dayOn_208 (ct_X5_runOver H3) q_m_X5_128 rfl rfl rfl (Nat.le_of_ble_eq_true rfl) (by exact ⟨Nat.le_of_ble_eq_true rfl, Nat.le_of_ble_eq_true rfl⟩) (by exact ⟨Nat.le_of_ble_eq_true rfl, Nat.le_of_ble_eq_true rfl⟩) ?_
        by_cases c9 : nI (t % 10) = 9
        · refine ww_iconst (v := 0) C dX5_dayOn_211 (by decide) ?_
          refine ww_istore_n C dX5_dayOn_212 3 rfl (by decide) ?_
          refine ww_lv [(0, .ref (gB g + 64)), (1, .int (nI (t % 10))), (2, .int (m_dayU n f t h)), (3, .int (nI 0))] ⟨rfl, rfl, rfl, rfl, trivial⟩ ?_
          exact L5 (n + 1) 0 (Nat.zero_le _) (by omega) c9
        · refine ww_iconst (v := 0) C dX5_dayOn_211 (by decide) ?_
          refine ww_istore_n C dX5_dayOn_212 3 rfl (by decide) ?_
          refine ww_iload_n C dX5_dayOn_213 3 rfl rfl ?_
          refine ww_aload_n C dX5_dayOn_214 0 rfl rfl ?_
          refine ww_getM C 1 (by decide) q_f_X5_29 dX5_dayOn_215 ?_
          refine ww_icmp_ge C dX5_dayOn_218 240 (by decide) (fun c218 => ?_) (fun c218 => ?_)
          · refine ww_heap (h2 := m_h5 n f (t % 10) h) (by first | exact (if_pos c9).symm | exact (if_neg c9).symm) ?_
            refine ww_aload_n C dX5_dayOn_240 0 rfl rfl ?_
            refine ww_getMn C q_f_X5_22 dX5_dayOn_241 ?_
            refine ww_iconst (v := 0) C dX5_dayOn_244 (by decide) ?_
            refine ww_dup2 C dX5_dayOn_245 rfl rfl ?_
            refine ww_iald (o := 69) (n := 2) (j := 0) C (by omega) (fun r => rfl) (by omega) (by omega) dX5_dayOn_246 ?_
            refine ww_iconst (v := 1) C dX5_dayOn_247 (by decide) ?_
            refine ww_iadd C dX5_dayOn_248 ?_
            refine ww_iast (o := 69) (n := 2) (j := 0) C (by omega) (fun r => rfl) (by omega) (by omega) dX5_dayOn_249 ?_
            refine ww_iload_n C dX5_dayOn_250 2 rfl rfl ?_
            exact ww_iret C hr rfl rfl dX5_dayOn_251
          · refine ww_iload_n C dX5_dayOn_221 1 rfl rfl ?_
            refine ww_bipush (v := 9) C dX5_dayOn_222 (by decide) ?_
            refine ww_icmp_ne C dX5_dayOn_224 240 (by decide) (fun _ => ?_) (fun q => absurd q c9)
            refine ww_heap (h2 := m_h5 n f (t % 10) h) (by first | exact (if_pos c9).symm | exact (if_neg c9).symm) ?_
            refine ww_aload_n C dX5_dayOn_240 0 rfl rfl ?_
            refine ww_getMn C q_f_X5_22 dX5_dayOn_241 ?_
            refine ww_iconst (v := 0) C dX5_dayOn_244 (by decide) ?_
            refine ww_dup2 C dX5_dayOn_245 rfl rfl ?_
            refine ww_iald (o := 69) (n := 2) (j := 0) C (by omega) (fun r => rfl) (by omega) (by omega) dX5_dayOn_246 ?_
            refine ww_iconst (v := 1) C dX5_dayOn_247 (by decide) ?_
            refine ww_iadd C dX5_dayOn_248 ?_
            refine ww_iast (o := 69) (n := 2) (j := 0) C (by omega) (fun r => rfl) (by omega) (by omega) dX5_dayOn_249 ?_
            refine ww_iload_n C dX5_dayOn_250 2 rfl rfl ?_
            exact ww_iret C hr rfl rfl dX5_dayOn_251
      · have hjn := lp_body Hj.1 q hj (by omega)
        have hx : isN 10 (nI j) := ⟨j, by omega, rfl⟩
        refine ww_aload_n C dX5_dayOn_134 0 rfl rfl ?_
        refine ww_iload_n C dX5_dayOn_135 3 rfl rfl ?_
        refine ww_aload_n C dX5_dayOn_136 0 rfl rfl ?_
        refine ww_getMw C q_f_X5_13 dX5_dayOn_137 ?_
        refine ww_iconst (v := 3) C dX5_dayOn_140 (by decide) ?_
        refine ww_iload_n C dX5_dayOn_141 1 rfl rfl ?_
        refine ww_imul C dX5_dayOn_142 ?_
        refine ww_iconst (v := 2) C dX5_dayOn_143 (by decide) ?_
        refine ww_iadd C dX5_dayOn_144 ?_
        refine ww_top (show (3 : Int32) * nI (t % 10) + 2 = nI (3 * (t % 10) + 2) from three (k := 2)) ?_
        refine ww_iald (o := 66) (n := 30) C (by omega) (fun r => rfl) (by omega) (by omega) dX5_dayOn_145 ?_
        refine ww_aload_n C dX5_dayOn_146 0 rfl rfl ?_
        refine ww_iload_n C dX5_dayOn_147 3 rfl rfl ?_
        refine ww_iconst (v := 3) C dX5_dayOn_148 (by decide) ?_
        refine ww_callM C mf_X5_fx dX5_dayOn_149 (ct_X5_fx (by first | exact ix_0 (by assumption) | exact ix_1 (by assumption) | exact ix_2 (by assumption) | exact ix_3 (by assumption) | exact ix_4 (by assumption))) q_m_X5_39 rfl rfl rfl (Nat.le_of_ble_eq_true rfl) (by exact ⟨Nat.le_of_ble_eq_true rfl, Nat.le_of_ble_eq_true rfl⟩) (by exact ⟨Nat.le_of_ble_eq_true rfl, Nat.le_of_ble_eq_true rfl⟩) ?_
        refine ww_imul C dX5_dayOn_152 ?_
        refine ww_iconst (v := 5) C dX5_dayOn_153 (by decide) ?_
        refine ww_idiv C dX5_dayOn_154 (by decide) ?_
        refine ww_aload_n C dX5_dayOn_155 0 rfl rfl ?_
        refine ww_iload_n C dX5_dayOn_156 3 rfl rfl ?_
        refine ww_iconst (v := 2) C dX5_dayOn_157 (by decide) ?_
        refine ww_callM C mf_X5_po dX5_dayOn_158 (ct_X5_po (by first | exact ix_0 (by assumption) | exact ix_1 (by assumption) | exact ix_2 (by assumption) | exact ix_3 (by assumption) | exact ix_4 (by assumption))) q_m_X5_66 rfl rfl rfl (Nat.le_of_ble_eq_true rfl) (by exact ⟨Nat.le_of_ble_eq_true rfl, Nat.le_of_ble_eq_true rfl⟩) (by exact ⟨Nat.le_of_ble_eq_true rfl, Nat.le_of_ble_eq_true rfl⟩) ?_
        refine ww_iconst (v := 1) C dX5_dayOn_161 (by decide) ?_
        refine ww_icmp_ne C dX5_dayOn_162 169 (by decide) (fun c162 => ?_) (fun c162 => ?_)
        · refine ww_iconst (v := 1) C dX5_dayOn_169 (by decide) ?_
          refine ww_idiv C dX5_dayOn_170 (by decide) ?_
          refine ww_ineg C dX5_dayOn_171 ?_
          refine ww_top (y := m_by3 (fd (m_d3 (t % 10)) (fd (m_flock n) (m_h1 n (t % 10) h) f) j) (t % 10) j) (by first | exact (by3_y c162).symm | exact (by3_n c162).symm) ?_
          refine ww_callM C mf_X5_change dX5_dayOn_172 (ct_X5_change (by assumption)) q_m_X5_122 rfl rfl rfl (Nat.le_of_ble_eq_true rfl) (by exact ⟨Nat.le_of_ble_eq_true rfl, Nat.le_of_ble_eq_true rfl⟩) (by exact ⟨Nat.le_of_ble_eq_true rfl, Nat.le_of_ble_eq_true rfl⟩) ?_
          refine ww_aload_n C dX5_dayOn_175 0 rfl rfl ?_
          refine ww_iload_n C dX5_dayOn_176 3 rfl rfl ?_
          refine ww_aload_n C dX5_dayOn_177 0 rfl rfl ?_
          refine ww_iload_n C dX5_dayOn_178 3 rfl rfl ?_
          refine ww_iconst (v := 0) C dX5_dayOn_179 (by decide) ?_
          refine ww_callM C mf_X5_po dX5_dayOn_180 (ct_X5_po (by first | exact ix_0 (by assumption) | exact ix_1 (by assumption) | exact ix_2 (by assumption) | exact ix_3 (by assumption) | exact ix_4 (by assumption))) q_m_X5_66 rfl rfl rfl (Nat.le_of_ble_eq_true rfl) (by exact ⟨Nat.le_of_ble_eq_true rfl, Nat.le_of_ble_eq_true rfl⟩) (by exact ⟨Nat.le_of_ble_eq_true rfl, Nat.le_of_ble_eq_true rfl⟩) ?_
          refine ww_bipush (v := 100) C dX5_dayOn_183 (by decide) ?_
          refine ww_aload_n C dX5_dayOn_185 0 rfl rfl ?_
          refine ww_iload_n C dX5_dayOn_186 3 rfl rfl ?_
          refine ww_iconst (v := 1) C dX5_dayOn_187 (by decide) ?_
          refine ww_callM C mf_X5_po dX5_dayOn_188 (ct_X5_po (by first | exact ix_0 (by assumption) | exact ix_1 (by assumption) | exact ix_2 (by assumption) | exact ix_3 (by assumption) | exact ix_4 (by assumption))) q_m_X5_66 rfl rfl rfl (Nat.le_of_ble_eq_true rfl) (by exact ⟨Nat.le_of_ble_eq_true rfl, Nat.le_of_ble_eq_true rfl⟩) (by exact ⟨Nat.le_of_ble_eq_true rfl, Nat.le_of_ble_eq_true rfl⟩) ?_
          refine ww_isub C dX5_dayOn_191 ?_
          refine ww_imul C dX5_dayOn_192 ?_
          refine ww_sipush (v := 200) C dX5_dayOn_193 (by decide) ?_
          refine ww_idiv C dX5_dayOn_196 (by decide) ?_
          refine ww_ineg C dX5_dayOn_197 ?_
          refine ww_callM C mf_X5_change dX5_dayOn_198 (ct_X5_change (by assumption)) q_m_X5_122 rfl rfl rfl (Nat.le_of_ble_eq_true rfl) (by exact ⟨Nat.le_of_ble_eq_true rfl, Nat.le_of_ble_eq_true rfl⟩) (by exact ⟨Nat.le_of_ble_eq_true rfl, Nat.le_of_ble_eq_true rfl⟩) ?_
          refine ww_iinc (v := nI (j + 1)) C dX5_dayOn_201 rfl (nI_inc _) (by decide) ?_
          refine ww_goto C dX5_dayOn_204 126 (by decide) ?_
          refine ww_lv [(0, .ref (gB g + 64)), (1, .int (nI (t % 10))), (2, .int (m_dayU n f t h)), (3, .int (nI (j + 1)))] ⟨rfl, rfl, rfl, rfl, trivial⟩ ?_
          exact ih (j + 1) hjn (by omega)
        · refine ww_iconst (v := 2) C dX5_dayOn_165 (by decide) ?_
          refine ww_goto C dX5_dayOn_166 170 (by decide) ?_
          refine ww_idiv C dX5_dayOn_170 (by decide) ?_
          refine ww_ineg C dX5_dayOn_171 ?_
          refine ww_top (y := m_by3 (fd (m_d3 (t % 10)) (fd (m_flock n) (m_h1 n (t % 10) h) f) j) (t % 10) j) (by first | exact (by3_y c162).symm | exact (by3_n c162).symm) ?_
          refine ww_callM C mf_X5_change dX5_dayOn_172 (ct_X5_change (by assumption)) q_m_X5_122 rfl rfl rfl (Nat.le_of_ble_eq_true rfl) (by exact ⟨Nat.le_of_ble_eq_true rfl, Nat.le_of_ble_eq_true rfl⟩) (by exact ⟨Nat.le_of_ble_eq_true rfl, Nat.le_of_ble_eq_true rfl⟩) ?_
          refine ww_aload_n C dX5_dayOn_175 0 rfl rfl ?_
          refine ww_iload_n C dX5_dayOn_176 3 rfl rfl ?_
          refine ww_aload_n C dX5_dayOn_177 0 rfl rfl ?_
          refine ww_iload_n C dX5_dayOn_178 3 rfl rfl ?_
          refine ww_iconst (v := 0) C dX5_dayOn_179 (by decide) ?_
          refine ww_callM C mf_X5_po dX5_dayOn_180 (ct_X5_po (by first | exact ix_0 (by assumption) | exact ix_1 (by assumption) | exact ix_2 (by assumption) | exact ix_3 (by assumption) | exact ix_4 (by assumption))) q_m_X5_66 rfl rfl rfl (Nat.le_of_ble_eq_true rfl) (by exact ⟨Nat.le_of_ble_eq_true rfl, Nat.le_of_ble_eq_true rfl⟩) (by exact ⟨Nat.le_of_ble_eq_true rfl, Nat.le_of_ble_eq_true rfl⟩) ?_
          refine ww_bipush (v := 100) C dX5_dayOn_183 (by decide) ?_
          refine ww_aload_n C dX5_dayOn_185 0 rfl rfl ?_
          refine ww_iload_n C dX5_dayOn_186 3 rfl rfl ?_
          refine ww_iconst (v := 1) C dX5_dayOn_187 (by decide) ?_
          refine ww_callM C mf_X5_po dX5_dayOn_188 (ct_X5_po (by first | exact ix_0 (by assumption) | exact ix_1 (by assumption) | exact ix_2 (by assumption) | exact ix_3 (by assumption) | exact ix_4 (by assumption))) q_m_X5_66 rfl rfl rfl (Nat.le_of_ble_eq_true rfl) (by exact ⟨Nat.le_of_ble_eq_true rfl, Nat.le_of_ble_eq_true rfl⟩) (by exact ⟨Nat.le_of_ble_eq_true rfl, Nat.le_of_ble_eq_true rfl⟩) ?_
          refine ww_isub C dX5_dayOn_191 ?_
          refine ww_imul C dX5_dayOn_192 ?_
          refine ww_sipush (v := 200) C dX5_dayOn_193 (by decide) ?_
          refine ww_idiv C dX5_dayOn_196 (by decide) ?_
          refine ww_ineg C dX5_dayOn_197 ?_
          refine ww_callM C mf_X5_change dX5_dayOn_198 (ct_X5_change (by assumption)) q_m_X5_122 rfl rfl rfl (Nat.le_of_ble_eq_true rfl) (by exact ⟨Nat.le_of_ble_eq_true rfl, Nat.le_of_ble_eq_true rfl⟩) (by exact ⟨Nat.le_of_ble_eq_true rfl, Nat.le_of_ble_eq_true rfl⟩) ?_
          refine ww_iinc (v := nI (j + 1)) C dX5_dayOn_201 rfl (nI_inc _) (by decide) ?_
          refine ww_goto C dX5_dayOn_204 126 (by decide) ?_
          refine ww_lv [(0, .ref (gB g + 64)), (1, .int (nI (t % 10))), (2, .int (m_dayU n f t h)), (3, .int (nI (j + 1)))] ⟨rfl, rfl, rfl, rfl, trivial⟩ ?_
          exact ih (j + 1) hjn (by omega)
  have L2 : ∀ (fu j : Nat), j ≤ f → f < fu + j → WW g p l e (rK 4 0 0) s m ([.ref (gB g + 64)] : List Value).toArray below meth c 4 [] (fd (m_flock n) (m_h1 n (t % 10) h) j) [(0, .ref (gB g + 64)), (1, .int (nI (t % 10))), (2, .int (m_drunk n (m_h1 n (t % 10) h) j)), (3, .int (nI j))] 0 0 (MQ below (QW g s.heap.size (some (.int (m_dayU n f t h))) (m_day n f t h)) ([.ref (gB g + 64)] : List Value).toArray s 0 0 (AA g s.heap.size)) 94 [] := by
    intro fu
    induction fu with
    | zero => intro j h1 h2; omega
    | succ fu ih =>
      intro j hj hfu
      have Hj : OM n f (fd (m_flock n) (m_h1 n (t % 10) h) j) := H1.mK (mK_fd j (fun z i hi Hz => mK_flock Hz (by omega)) H1)
      refine ww_iload_n C dX5_dayOn_94 3 rfl rfl ?_
      refine ww_aload_n C dX5_dayOn_95 0 rfl rfl ?_
      refine ww_getM C 3 (by decide) q_f_X5_36 dX5_dayOn_96 ?_
      refine ww_icmp_ge C dX5_dayOn_99 124 (by decide) (fun q => ?_) (fun q => ?_)
      · have hjn := lp_exit Hj.2.2.1 q hj (by omega)
        subst hjn
        refine ww_iconst (v := 0) C dX5_dayOn_124 (by decide) ?_
        refine ww_istore_n C dX5_dayOn_125 3 rfl (by decide) ?_
        refine ww_lv [(0, .ref (gB g + 64)), (1, .int (nI (t % 10))), (2, .int (m_dayU n f t h)), (3, .int (nI 0))] ⟨rfl, rfl, rfl, rfl, trivial⟩ ?_
        exact L3 (n + 1) 0 (Nat.zero_le _) (by omega)
      · have hjn := lp_body Hj.2.2.1 q hj (by omega)
        have hx : isN 7 (nI j) := ⟨j, by omega, rfl⟩
        have hfr := m_fl_in Hj hjn
        have hfz := m_fl_in (Hj.mK (mK_roam hx)) hjn
        refine ww_aload_n C dX5_dayOn_102 0 rfl rfl ?_
        refine ww_iload_n C dX5_dayOn_103 3 rfl rfl ?_
        refine ww_callM C mf_X5_isLost dX5_dayOn_104 (ct_X5_isLost (by assumption)) q_m_X5_87 rfl rfl rfl (Nat.le_of_ble_eq_true rfl) (by exact ⟨Nat.le_of_ble_eq_true rfl, Nat.le_of_ble_eq_true rfl⟩) (by exact ⟨Nat.le_of_ble_eq_true rfl, Nat.le_of_ble_eq_true rfl⟩) ?_
        refine ww_if_ne C dX5_dayOn_107 118 (by decide) (fun c107 => ?_) (fun c107 => ?_)
        · refine ww_iinc (v := nI (j + 1)) C dX5_dayOn_118 rfl (nI_inc _) (by decide) ?_
          refine ww_goto C dX5_dayOn_121 94 (by decide) ?_
          refine ww_lv [(0, .ref (gB g + 64)), (1, .int (nI (t % 10))), (2, .int (m_drunk n (m_h1 n (t % 10) h) (j + 1))), (3, .int (nI (j + 1)))] ⟨rfl, rfl, (by first | exact (congrArg (fun z => some (Value.int z)) (mflockU_lost (bI1 c107))).symm | exact (congrArg (fun z => some (Value.int z)) (mflockU_on (bI0 c107))).symm), rfl, trivial⟩ ?_
          refine ww_heap (h2 := (fd (m_flock n) (m_h1 n (t % 10) h) (j + 1))) (by first | exact (mflock_lost (bI1 c107)).symm | exact (mflock_on (bI0 c107)).symm) ?_
          exact ih (j + 1) hjn (by omega)
        · refine ww_iload_n C dX5_dayOn_110 2 rfl rfl ?_
          refine ww_aload_n C dX5_dayOn_111 0 rfl rfl ?_
          refine ww_iload_n C dX5_dayOn_112 3 rfl rfl ?_
          refine ww_callM C mf_X5_drink dX5_dayOn_113 (ct_X5_drink Hj hx hfr hfz) q_m_X5_125 rfl rfl rfl (Nat.le_of_ble_eq_true rfl) (by exact ⟨Nat.le_of_ble_eq_true rfl, Nat.le_of_ble_eq_true rfl⟩) (by exact ⟨Nat.le_of_ble_eq_true rfl, Nat.le_of_ble_eq_true rfl⟩) ?_
          refine ww_iadd C dX5_dayOn_116 ?_
          refine ww_istore_n C dX5_dayOn_117 2 rfl (by decide) ?_
          refine ww_iinc (v := nI (j + 1)) C dX5_dayOn_118 rfl (nI_inc _) (by decide) ?_
          refine ww_goto C dX5_dayOn_121 94 (by decide) ?_
          refine ww_lv [(0, .ref (gB g + 64)), (1, .int (nI (t % 10))), (2, .int (m_drunk n (m_h1 n (t % 10) h) (j + 1))), (3, .int (nI (j + 1)))] ⟨rfl, rfl, (by first | exact (congrArg (fun z => some (Value.int z)) (mflockU_lost (bI1 c107))).symm | exact (congrArg (fun z => some (Value.int z)) (mflockU_on (bI0 c107))).symm), rfl, trivial⟩ ?_
          refine ww_heap (h2 := (fd (m_flock n) (m_h1 n (t % 10) h) (j + 1))) (by first | exact (mflock_lost (bI1 c107)).symm | exact (mflock_on (bI0 c107)).symm) ?_
          exact ih (j + 1) hjn (by omega)
  have L1 : ∀ (fu j : Nat), j ≤ n → n < fu + j → WW g p l e (rK 4 0 0) s m ([.ref (gB g + 64)] : List Value).toArray below meth c 4 [] (fd (m_d1 (t % 10)) h j) [(0, .ref (gB g + 64)), (1, .int (nI (t % 10))), (2, .int 0), (3, .int (nI j))] 0 0 (MQ below (QW g s.heap.size (some (.int (m_dayU n f t h))) (m_day n f t h)) ([.ref (gB g + 64)] : List Value).toArray s 0 0 (AA g s.heap.size)) 14 [] := by
    intro fu
    induction fu with
    | zero => intro j h1 h2; omega
    | succ fu ih =>
      intro j hj hfu
      have Hj : OM n f (fd (m_d1 (t % 10)) h j) := H.mK (mK_fd j (fun z i hi Hz => mK_d1 (by have := Hz.2.1; omega)) H)
      refine ww_iload_n C dX5_dayOn_14 3 rfl rfl ?_
      refine ww_aload_n C dX5_dayOn_15 0 rfl rfl ?_
      refine ww_getM C 1 (by decide) q_f_X5_29 dX5_dayOn_16 ?_
      refine ww_icmp_ge C dX5_dayOn_19 92 (by decide) (fun q => ?_) (fun q => ?_)
      · have hjn := lp_exit Hj.1 q hj (by omega)
        subst hjn
        refine ww_iconst (v := 0) C dX5_dayOn_92 (by decide) ?_
        refine ww_istore_n C dX5_dayOn_93 3 rfl (by decide) ?_
        refine ww_lv [(0, .ref (gB g + 64)), (1, .int (nI (t % 10))), (2, .int (m_drunk n (m_h1 n (t % 10) h) 0)), (3, .int (nI 0))] ⟨rfl, rfl, rfl, rfl, trivial⟩ ?_
        exact L2 (f + 1) 0 (Nat.zero_le _) (by omega)
      · have hjn := lp_body Hj.1 q hj (by omega)
        have hx : isN 10 (nI j) := ⟨j, by omega, rfl⟩
        refine ww_aload_n C dX5_dayOn_22 0 rfl rfl ?_
        refine ww_iload_n C dX5_dayOn_23 3 rfl rfl ?_
        refine ww_aload_n C dX5_dayOn_24 0 rfl rfl ?_
        refine ww_getMw C q_f_X5_13 dX5_dayOn_25 ?_
        refine ww_iconst (v := 3) C dX5_dayOn_28 (by decide) ?_
        refine ww_iload_n C dX5_dayOn_29 1 rfl rfl ?_
        refine ww_imul C dX5_dayOn_30 ?_
        refine ww_top three0 ?_
        refine ww_iald (o := 66) (n := 30) C (by omega) (fun r => rfl) (by omega) (by omega) dX5_dayOn_31 ?_
        refine ww_aload_n C dX5_dayOn_32 0 rfl rfl ?_
        refine ww_iload_n C dX5_dayOn_33 3 rfl rfl ?_
        refine ww_iconst (v := 3) C dX5_dayOn_34 (by decide) ?_
        refine ww_callM C mf_X5_fx dX5_dayOn_35 (ct_X5_fx (by first | exact ix_0 (by assumption) | exact ix_1 (by assumption) | exact ix_2 (by assumption) | exact ix_3 (by assumption) | exact ix_4 (by assumption))) q_m_X5_39 rfl rfl rfl (Nat.le_of_ble_eq_true rfl) (by exact ⟨Nat.le_of_ble_eq_true rfl, Nat.le_of_ble_eq_true rfl⟩) (by exact ⟨Nat.le_of_ble_eq_true rfl, Nat.le_of_ble_eq_true rfl⟩) ?_
        refine ww_imul C dX5_dayOn_38 ?_
        refine ww_iconst (v := 4) C dX5_dayOn_39 (by decide) ?_
        refine ww_idiv C dX5_dayOn_40 (by decide) ?_
        refine ww_aload_n C dX5_dayOn_41 0 rfl rfl ?_
        refine ww_iload_n C dX5_dayOn_42 3 rfl rfl ?_
        refine ww_iconst (v := 2) C dX5_dayOn_43 (by decide) ?_
        refine ww_callM C mf_X5_fx dX5_dayOn_44 (ct_X5_fx (by first | exact ix_0 (by assumption) | exact ix_1 (by assumption) | exact ix_2 (by assumption) | exact ix_3 (by assumption) | exact ix_4 (by assumption))) q_m_X5_39 rfl rfl rfl (Nat.le_of_ble_eq_true rfl) (by exact ⟨Nat.le_of_ble_eq_true rfl, Nat.le_of_ble_eq_true rfl⟩) (by exact ⟨Nat.le_of_ble_eq_true rfl, Nat.le_of_ble_eq_true rfl⟩) ?_
        refine ww_sipush (v := 150) C dX5_dayOn_47 (by decide) ?_
        refine ww_icmp_lt C dX5_dayOn_50 57 (by decide) (fun c50 => ?_) (fun c50 => ?_)
        · refine ww_iconst (v := 1) C dX5_dayOn_57 (by decide) ?_
          refine ww_imul C dX5_dayOn_58 ?_
          refine ww_top (y := m_by1 (fd (m_d1 (t % 10)) h j) (t % 10) j) (by first | exact (by1_y c50).symm | exact (by1_n c50).symm) ?_
          refine ww_callM C mf_X5_change dX5_dayOn_59 (ct_X5_change (by assumption)) q_m_X5_122 rfl rfl rfl (Nat.le_of_ble_eq_true rfl) (by exact ⟨Nat.le_of_ble_eq_true rfl, Nat.le_of_ble_eq_true rfl⟩) (by exact ⟨Nat.le_of_ble_eq_true rfl, Nat.le_of_ble_eq_true rfl⟩) ?_
          refine ww_aload_n C dX5_dayOn_62 0 rfl rfl ?_
          refine ww_iload_n C dX5_dayOn_63 3 rfl rfl ?_
          refine ww_aload_n C dX5_dayOn_64 0 rfl rfl ?_
          refine ww_getMw C q_f_X5_13 dX5_dayOn_65 ?_
          refine ww_iconst (v := 3) C dX5_dayOn_68 (by decide) ?_
          refine ww_iload_n C dX5_dayOn_69 1 rfl rfl ?_
          refine ww_imul C dX5_dayOn_70 ?_
          refine ww_iconst (v := 1) C dX5_dayOn_71 (by decide) ?_
          refine ww_iadd C dX5_dayOn_72 ?_
          refine ww_top (show (3 : Int32) * nI (t % 10) + 1 = nI (3 * (t % 10) + 1) from three (k := 1)) ?_
          refine ww_iald (o := 66) (n := 30) C (by omega) (fun r => rfl) (by omega) (by omega) dX5_dayOn_73 ?_
          refine ww_aload_n C dX5_dayOn_74 0 rfl rfl ?_
          refine ww_iload_n C dX5_dayOn_75 3 rfl rfl ?_
          refine ww_iconst (v := 3) C dX5_dayOn_76 (by decide) ?_
          refine ww_callM C mf_X5_fx dX5_dayOn_77 (ct_X5_fx (by first | exact ix_0 (by assumption) | exact ix_1 (by assumption) | exact ix_2 (by assumption) | exact ix_3 (by assumption) | exact ix_4 (by assumption))) q_m_X5_39 rfl rfl rfl (Nat.le_of_ble_eq_true rfl) (by exact ⟨Nat.le_of_ble_eq_true rfl, Nat.le_of_ble_eq_true rfl⟩) (by exact ⟨Nat.le_of_ble_eq_true rfl, Nat.le_of_ble_eq_true rfl⟩) ?_
          refine ww_imul C dX5_dayOn_80 ?_
          refine ww_iconst (v := 2) C dX5_dayOn_81 (by decide) ?_
          refine ww_idiv C dX5_dayOn_82 (by decide) ?_
          refine ww_callM C mf_X5_change dX5_dayOn_83 (ct_X5_change (by assumption)) q_m_X5_122 rfl rfl rfl (Nat.le_of_ble_eq_true rfl) (by exact ⟨Nat.le_of_ble_eq_true rfl, Nat.le_of_ble_eq_true rfl⟩) (by exact ⟨Nat.le_of_ble_eq_true rfl, Nat.le_of_ble_eq_true rfl⟩) ?_
          refine ww_iinc (v := nI (j + 1)) C dX5_dayOn_86 rfl (nI_inc _) (by decide) ?_
          refine ww_goto C dX5_dayOn_89 14 (by decide) ?_
          refine ww_lv [(0, .ref (gB g + 64)), (1, .int (nI (t % 10))), (2, .int 0), (3, .int (nI (j + 1)))] ⟨rfl, rfl, rfl, rfl, trivial⟩ ?_
          exact ih (j + 1) hjn (by omega)
        · refine ww_iconst (v := 2) C dX5_dayOn_53 (by decide) ?_
          refine ww_goto C dX5_dayOn_54 58 (by decide) ?_
          refine ww_imul C dX5_dayOn_58 ?_
          refine ww_top (y := m_by1 (fd (m_d1 (t % 10)) h j) (t % 10) j) (by first | exact (by1_y c50).symm | exact (by1_n c50).symm) ?_
          refine ww_callM C mf_X5_change dX5_dayOn_59 (ct_X5_change (by assumption)) q_m_X5_122 rfl rfl rfl (Nat.le_of_ble_eq_true rfl) (by exact ⟨Nat.le_of_ble_eq_true rfl, Nat.le_of_ble_eq_true rfl⟩) (by exact ⟨Nat.le_of_ble_eq_true rfl, Nat.le_of_ble_eq_true rfl⟩) ?_
          refine ww_aload_n C dX5_dayOn_62 0 rfl rfl ?_
          refine ww_iload_n C dX5_dayOn_63 3 rfl rfl ?_
          refine ww_aload_n C dX5_dayOn_64 0 rfl rfl ?_
          refine ww_getMw C q_f_X5_13 dX5_dayOn_65 ?_
          refine ww_iconst (v := 3) C dX5_dayOn_68 (by decide) ?_
          refine ww_iload_n C dX5_dayOn_69 1 rfl rfl ?_
          refine ww_imul C dX5_dayOn_70 ?_
          refine ww_iconst (v := 1) C dX5_dayOn_71 (by decide) ?_
          refine ww_iadd C dX5_dayOn_72 ?_
          refine ww_top (show (3 : Int32) * nI (t % 10) + 1 = nI (3 * (t % 10) + 1) from three (k := 1)) ?_
          refine ww_iald (o := 66) (n := 30) C (by omega) (fun r => rfl) (by omega) (by omega) dX5_dayOn_73 ?_
          refine ww_aload_n C dX5_dayOn_74 0 rfl rfl ?_
          refine ww_iload_n C dX5_dayOn_75 3 rfl rfl ?_
          refine ww_iconst (v := 3) C dX5_dayOn_76 (by decide) ?_
          refine ww_callM C mf_X5_fx dX5_dayOn_77 (ct_X5_fx (by first | exact ix_0 (by assumption) | exact ix_1 (by assumption) | exact ix_2 (by assumption) | exact ix_3 (by assumption) | exact ix_4 (by assumption))) q_m_X5_39 rfl rfl rfl (Nat.le_of_ble_eq_true rfl) (by exact ⟨Nat.le_of_ble_eq_true rfl, Nat.le_of_ble_eq_true rfl⟩) (by exact ⟨Nat.le_of_ble_eq_true rfl, Nat.le_of_ble_eq_true rfl⟩) ?_
          refine ww_imul C dX5_dayOn_80 ?_
          refine ww_iconst (v := 2) C dX5_dayOn_81 (by decide) ?_
          refine ww_idiv C dX5_dayOn_82 (by decide) ?_
          refine ww_callM C mf_X5_change dX5_dayOn_83 (ct_X5_change (by assumption)) q_m_X5_122 rfl rfl rfl (Nat.le_of_ble_eq_true rfl) (by exact ⟨Nat.le_of_ble_eq_true rfl, Nat.le_of_ble_eq_true rfl⟩) (by exact ⟨Nat.le_of_ble_eq_true rfl, Nat.le_of_ble_eq_true rfl⟩) ?_
          refine ww_iinc (v := nI (j + 1)) C dX5_dayOn_86 rfl (nI_inc _) (by decide) ?_
          refine ww_goto C dX5_dayOn_89 14 (by decide) ?_
          refine ww_lv [(0, .ref (gB g + 64)), (1, .int (nI (t % 10))), (2, .int 0), (3, .int (nI (j + 1)))] ⟨rfl, rfl, rfl, rfl, trivial⟩ ?_
          exact ih (j + 1) hjn (by omega)
  refine ww_aload_n C dX5_dayOn_0 0 rfl rfl ?_
  refine ww_getMn C q_f_X5_22 dX5_dayOn_1 ?_
  refine ww_iconst (v := 0) C dX5_dayOn_4 (by decide) ?_
  refine ww_iald (o := 69) (n := 2) (j := 0) C (by omega) (fun r => rfl) (by omega) (by omega) dX5_dayOn_5 ?_
  refine ww_top ht ?_
  refine ww_bipush (v := 10) C dX5_dayOn_6 (by decide) ?_
  refine ww_irem C dX5_dayOn_8 (by decide) ?_
  refine ww_top (pk_rem (a := t) (d := 10) ht31 (by omega) (by omega)) ?_
  refine ww_istore_n C dX5_dayOn_9 1 rfl (by decide) ?_
  refine ww_iconst (v := 0) C dX5_dayOn_10 (by decide) ?_
  refine ww_istore_n C dX5_dayOn_11 2 rfl (by decide) ?_
  refine ww_iconst (v := 0) C dX5_dayOn_12 (by decide) ?_
  refine ww_istore_n C dX5_dayOn_13 3 rfl (by decide) ?_
  refine ww_lv [(0, .ref (gB g + 64)), (1, .int (nI (t % 10))), (2, .int 0), (3, .int (nI 0))] ⟨rfl, rfl, rfl, rfl, trivial⟩ ?_
  exact L1 (n + 1) 0 (Nat.zero_le _) (by omega)
