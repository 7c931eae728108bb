set_option maxHeartbeats 4000000 in
theorem gt_L_act {g : gW} {l : Launch} (hst : l.stackTraces = false) {A : Ad} {n f t q : Nat} {h r : Hp} {x : Int32} (hn1 : 1 ≤ n) (hT : TS n f t q h r) : GT g l yL_act cL_act 14 (some FieldType.boolean) 8 1 6 [.ref (gB g + 0), .ref (A 1), .int x] (EXs g) (wl g (sx g A n f r) h) (AG g) (fun v L2 N => v = some (.int 1) ∧ N = [] ∧ ∃ q2 h2 r2, L2 = wl g (sx g A n f r2) h2 ∧ TS n f t q2 h2 r2) := by
  refine GT.of (lv0 := [(0, .ref (gB g + 0)), (1, .ref (A 1)), (2, .int x)]) mf_L_act.1.2.2.2 (Nat.le_of_ble_eq_true rfl) rfl ?_
  intro p e s m below meth c C hE hr hD0 hP0
  have T := hT.1
  have RR := hT.2.1
  have hn : n ≤ 10 := T.2.1.2.1
  have hf6 : f ≤ 6 := T.2.2.2.1
  have hf : f ≤ 10 := by omega
  have OKr := RR.oks T.2.1
  refine gg_ls (wc g h ++ (sx g A n f r ++ [])) (by rw [List.append_nil]; rfl) ?_
  refine gg_aload_n C dL_act_0 1 rfl rfl ?_
  refine gs_pon C hn q_f_L_22 dL_act_1 ?_
  refine gs_lenP C hn dL_act_4 ?_
  refine gg_istore_n C dL_act_5 3 rfl (by decide) ?_
  refine gg_iload_n C dL_act_6 2 rfl rfl ?_
  refine gg_iload_n C dL_act_7 3 rfl rfl ?_
  refine gg_callP (v := bel x (nI n)) C mf_L_below (gt_L_below (fun z => absurd ((nI_eq (a := n) (b := 0) (by omega) (by omega)).mp z) (by omega))) EB.tt EM.tt (fun _ h9 => Or.inr h9) q_m_L_18 rfl rfl (Nat.le_of_ble_eq_true rfl) (by exact ⟨Nat.le_of_ble_eq_true rfl, Nat.le_of_ble_eq_true rfl⟩) (by exact ⟨Nat.le_of_ble_eq_true rfl, Nat.le_of_ble_eq_true rfl⟩) dL_act_8 ?_
  obtain ⟨p0, hp0, ep⟩ := bel_is (x := x) hn1 (show n < 2 ^ 31 by omega)
  refine gg_top ep ?_
  refine gg_istore C dL_act_11 (by decide) ?_
  refine gg_aload_n C dL_act_13 1 rfl rfl ?_
  refine gs_pon C hn q_f_L_22 dL_act_14 ?_
  refine gg_iload C dL_act_17 rfl ?_
  refine gs_aldP (j := p0) C hn rfl hp0 dL_act_19 ?_
  refine gg_astore C dL_act_20 (by decide) ?_
  refine gg_aload_n C dL_act_22 1 rfl rfl ?_
  refine gs_flo C hn q_f_L_61 dL_act_23 ?_
  refine gs_lenF C hn dL_act_26 ?_
  have K45 : ∀ v : Int32, v = -1 ∨ isN f v → GW g p l e (rK 8 1 6) s m ([.ref (gB g + 0), .ref (A 1), .int x] : List Value).toArray below meth c 14 (wc g h ++ (sx g A n f r ++ [])) (FF (AG g) s.heap.size) [(0, .ref (gB g + 0)), (1, .ref (A 1)), (2, .int x), (3, .int (nI n)), (4, .int (nI p0)), (5, .ref (A (15 + p0)))] 0 0 (MQ below (QG g (AG g) s.heap.size (fun v L2 N => v = some (.int 1) ∧ N = [] ∧ ∃ q2 h2 r2, L2 = wl g (sx g A n f r2) h2 ∧ TS n f t q2 h2 r2)) ([.ref (gB g + 0), .ref (A 1), .int x] : List Value).toArray s 1 6 (FF (AG g) s.heap.size)) 45 [.int v] := by
    intro v hv
    refine gg_istore C dL_act_45 (by decide) ?_
    refine gg_iload_n C dL_act_47 2 rfl rfl ?_
    refine gg_bipush (v := 6) C dL_act_48 (by decide) ?_
    refine gg_ishr C dL_act_50 ?_
    refine gg_bipush (v := 6) C dL_act_51 (by decide) ?_
    refine gg_callP (v := bel (x >>> (6 &&& 31)) 6) C mf_L_below (gt_L_below (by decide)) EB.tt EM.tt (fun _ h9 => Or.inr h9) q_m_L_18 rfl rfl (Nat.le_of_ble_eq_true rfl) (by exact ⟨Nat.le_of_ble_eq_true rfl, Nat.le_of_ble_eq_true rfl⟩) (by exact ⟨Nat.le_of_ble_eq_true rfl, Nat.le_of_ble_eq_true rfl⟩) dL_act_53 ?_
    obtain ⟨k, hk, ek⟩ := bel_is (x := x >>> (6 &&& 31)) (N := 6) (by omega) (by omega)
    have ek : bel (x >>> (6 &&& 31)) 6 = nI k := ek
    refine gg_top ek ?_
    have hkk : k = 0 ∨ k = 1 ∨ k = 2 ∨ k = 3 ∨ k = 4 ∨ k = 5 := by omega
    rcases hkk with rfl | rfl | rfl | rfl | rfl | rfl
    · refine gg_tabIn C dL_act_56 36 92 (by decide) (by decide) (by decide) (by decide) ?_
      refine gg_aload C dL_act_92 rfl ?_
      refine gg_iconst (v := 5) C dL_act_94 (by decide) ?_
      refine gs_ld (o := 15 + p0) (k := 5) C hn (by decide) (by unfold sW; omega) dL_act_95 ?_
      refine gg_aload_n C dL_act_96 1 rfl rfl ?_
      refine gg_iload C dL_act_97 rfl ?_
      refine gg_callV (A := wc g h) (B := []) (q := (RX5, TX5, 5)) (ci := 5) C mf_X5_holds (gt_X5_holds hn (j := p0) rfl hp0) EB.tt EM.tt sx_mem (sx_hG hn (fun _ h9 => Or.inr h9)) (sx_hap hn) q_m_L_39 rfl rfl (sJ n 1) (sx_get hn (Or.inl ⟨by omega, by omega⟩)) rfl rfl (Nat.le_of_ble_eq_true rfl) (by exact ⟨Nat.le_of_ble_eq_true rfl, Nat.le_of_ble_eq_true rfl⟩) (by exact ⟨Nat.le_of_ble_eq_true rfl, Nat.le_of_ble_eq_true rfl⟩) dL_act_99 (fun v9 L9 N9 hp9 => ?_)
      obtain ⟨rfl, rfl, rfl⟩ := hp9
      refine gg_ls (wc g h ++ (sx g A n f r ++ [])) (by rw [List.append_nil]) ?_
      refine gg_iconst (v := 4) C dL_act_102 (by decide) ?_
      refine gg_idiv C dL_act_103 (by decide) ?_
      refine gg_icmp_le C dL_act_104 109 (by decide) (fun c104 => ?_) (fun c104 => ?_)
      · refine gg_iconst (v := 1) C dL_act_109 (by decide) ?_
        refine gg_iload_n C dL_act_110 2 rfl rfl ?_
        refine gg_iconst (v := 2) C dL_act_111 (by decide) ?_
        refine gg_ishr C dL_act_112 ?_
        refine gg_bipush (v := 100) C dL_act_113 (by decide) ?_
        refine gg_callP (v := bel (x >>> (2 &&& 31)) 100) C mf_L_below (gt_L_below (by decide)) EB.tt EM.tt (fun _ h9 => Or.inr h9) q_m_L_18 rfl rfl (Nat.le_of_ble_eq_true rfl) (by exact ⟨Nat.le_of_ble_eq_true rfl, Nat.le_of_ble_eq_true rfl⟩) (by exact ⟨Nat.le_of_ble_eq_true rfl, Nat.le_of_ble_eq_true rfl⟩) dL_act_115 ?_
        obtain ⟨a, ha, ea⟩ := bel_is (x := x >>> (2 &&& 31)) (N := 100) (by omega) (by omega)
        have ea1 : (1 : Int32) + bel (x >>> (2 &&& 31)) 100 = nI (a + 1) := by rw [show bel (x >>> (2 &&& 31)) 100 = nI a from ea, show (1 : Int32) = nI 1 from rfl, nI_add, Nat.add_comm]
        refine gg_iadd C dL_act_118 ?_
        refine gg_top ea1 ?_
        refine gg_istore C dL_act_119 (by decide) ?_
        refine gg_iload C dL_act_121 rfl ?_
        refine gg_bipush (v := 100) C dL_act_123 (by decide) ?_
        refine gg_aload C dL_act_125 rfl ?_
        refine gg_bipush (v := 6) C dL_act_127 (by decide) ?_
        refine gs_ld (o := 15 + p0) (k := 6) C hn (by decide) (by unfold sW; omega) dL_act_129 ?_
        refine gg_isub C dL_act_130 ?_
        refine gg_aload_n C dL_act_131 1 rfl rfl ?_
        refine gs_clay C hn q_f_L_68 dL_act_132 ?_
        refine gg_mmin C q_m_L_43 (Nat.le_of_ble_eq_true rfl) (by first | exact Nat.le_of_ble_eq_true rfl | (simp only [List.map, List.sum]; decide)) (by first | exact Nat.le_of_ble_eq_true rfl | omega) (by first | exact Nat.le_of_ble_eq_true rfl | omega) dL_act_135 ?_
        refine gg_mmin C q_m_L_43 (Nat.le_of_ble_eq_true rfl) (by first | exact Nat.le_of_ble_eq_true rfl | (simp only [List.map, List.sum]; decide)) (by first | exact Nat.le_of_ble_eq_true rfl | omega) (by first | exact Nat.le_of_ble_eq_true rfl | omega) dL_act_138 ?_
        refine gg_top (y := s_use r (15 + p0) (nI (a + 1))) rfl ?_
        refine gg_istore C dL_act_141 (by decide) ?_
        refine gg_aload C dL_act_143 rfl ?_
        refine gg_bipush (v := 6) C dL_act_145 (by decide) ?_
        refine gg_dup2 C dL_act_147 rfl rfl ?_
        refine gs_ld (o := 15 + p0) (k := 6) C hn (by decide) (by unfold sW; omega) dL_act_148 ?_
        refine gg_iload C dL_act_149 rfl ?_
        refine gg_iadd C dL_act_151 ?_
        refine gs_st (o := 15 + p0) (k := 6) C hn (by decide) (by unfold sW; omega) dL_act_152 ?_
        refine gg_aload_n C dL_act_153 1 rfl rfl ?_
        refine gg_dup C dL_act_154 rfl ?_
        refine gs_clay C hn q_f_L_68 dL_act_155 ?_
        refine gg_top (y := r 1 7) (hp_off (Or.inl (by omega))) ?_
        refine gg_iload C dL_act_158 rfl ?_
        refine gg_isub C dL_act_160 ?_
        refine gs_putc C hn q_f_L_68 dL_act_161 ?_
        refine gg_aload_n C dL_act_164 0 rfl rfl ?_
        refine gg_iload C dL_act_165 rfl ?_
        refine gg_iload C dL_act_167 rfl ?_
        obtain ⟨q2, h2, h3, ex, elo, T3, R3⟩ := lw_puddle T RR hp0 (show 1 ≤ a + 1 ∧ a + 1 ≤ 100 by omega) (Int32.not_lt.mpr c104)
        refine gg_ls (wl g (sx g A n f (hp_up (hp_up r (15 + p0) 6 ((r (15 + p0) 6) + (s_use r (15 + p0) (nI (a + 1))))) 1 7 ((r 1 7) - (s_use r (15 + p0) (nI (a + 1))))) ++ []) h) rfl ?_
        refine gc_callX (As := [.int (nI p0), .int (nI (a + 1))]) C hE mf_X4_puddle (xt_X4_puddle hst T.2.1) ex q_m_L_72 rfl rfl rfl (Nat.le_of_ble_eq_true rfl) (by exact ⟨Nat.le_of_ble_eq_true rfl, Nat.le_of_ble_eq_true rfl⟩) (by exact ⟨Nat.le_of_ble_eq_true rfl, Nat.le_of_ble_eq_true rfl⟩) dL_act_169 ?_
        refine gg_ls (wc g h3 ++ (sx g A n f (hp_up (hp_up r (15 + p0) 6 ((r (15 + p0) 6) + (s_use r (15 + p0) (nI (a + 1))))) 1 7 ((r 1 7) - (s_use r (15 + p0) (nI (a + 1))))) ++ [])) (wl_lo elo) ?_
        refine gg_iload C dL_act_172 rfl ?_
        refine gg_icmp_ne C dL_act_174 181 (by decide) (fun z9 => absurd rfl z9) (fun _ => ?_)
        refine gg_iconst (v := 1) C dL_act_177 (by decide) ?_
        refine gg_goto C dL_act_178 182 (by decide) ?_
        exact gg_zret C (wl g (sx g A n f (hp_up (hp_up r (15 + p0) 6 ((r (15 + p0) 6) + (s_use r (15 + p0) (nI (a + 1))))) 1 7 ((r 1 7) - (s_use r (15 + p0) (nI (a + 1)))))) h3) [] (by show wc g h3 ++ (sx g A n f _ ++ []) = (wc g h3 ++ sx g A n f _) ++ []; rw [List.append_nil, List.append_nil]) ⟨rfl, rfl, q2, h3, _, rfl, T3, R3, (by first | exact hT.2.2.up (by decide) | exact (hT.2.2.up (by decide)).up (by decide))⟩ (Or.inr rfl) hr dL_act_182
      · refine gg_iconst (v := 1) C dL_act_107 (by decide) ?_
        refine gg_wide 1 6 (by omega) (by omega) ?_
        exact gg_zret C (wl g (sx g A n f r) h) [] (by show wc g h ++ (sx g A n f r ++ []) = (wc g h ++ sx g A n f r) ++ []; rw [List.append_nil, List.append_nil]) ⟨rfl, rfl, q, h, r, rfl, hT⟩ (Or.inr rfl) hr dL_act_108
    · refine gg_tabIn C dL_act_56 127 183 (by decide) (by decide) (by decide) (by decide) ?_
      refine gg_aload C dL_act_183 rfl ?_
      refine gg_bipush (v := 7) C dL_act_185 (by decide) ?_
      refine gs_ld (o := 15 + p0) (k := 7) C hn (by decide) (by unfold sW; omega) dL_act_187 ?_
      refine gg_iconst (v := 1) C dL_act_188 (by decide) ?_
      have K197 : ∀ u7 : Int32, r (15 + p0) 7 = u7 → GW g p l e (rK 8 1 6) s m ([.ref (gB g + 0), .ref (A 1), .int x] : List Value).toArray below meth c 14 (wc g h ++ (sx g A n f r ++ [])) (FF (AG g) s.heap.size) [(0, .ref (gB g + 0)), (1, .ref (A 1)), (2, .int x), (3, .int (nI n)), (4, .int (nI p0)), (5, .ref (A (15 + p0))), (6, .int v)] 0 0 (MQ below (QG g (AG g) s.heap.size (fun v L2 N => v = some (.int 1) ∧ N = [] ∧ ∃ q2 h2 r2, L2 = wl g (sx g A n f r2) h2 ∧ TS n f t q2 h2 r2)) ([.ref (gB g + 0), .ref (A 1), .int x] : List Value).toArray s 1 6 (FF (AG g) s.heap.size)) 197 [.int u7] := by
        intro u7 hv7
        refine gg_istore C dL_act_197 (by decide) ?_
        refine gg_aload C dL_act_199 rfl ?_
        refine gg_bipush (v := 7) C dL_act_201 (by decide) ?_
        refine gg_iload_n C dL_act_203 2 rfl rfl ?_
        refine gg_iconst (v := 2) C dL_act_204 (by decide) ?_
        refine gg_ishr C dL_act_205 ?_
        refine gg_iconst (v := 4) C dL_act_206 (by decide) ?_
        refine gg_callP (v := bel (x >>> (2 &&& 31)) 4) C mf_L_below (gt_L_below (by decide)) EB.tt EM.tt (fun _ h9 => Or.inr h9) q_m_L_18 rfl rfl (Nat.le_of_ble_eq_true rfl) (by exact ⟨Nat.le_of_ble_eq_true rfl, Nat.le_of_ble_eq_true rfl⟩) (by exact ⟨Nat.le_of_ble_eq_true rfl, Nat.le_of_ble_eq_true rfl⟩) dL_act_207 ?_
        have K218 : ∀ b : Int32, b = 0 ∨ b = 1 → GW g p l e (rK 8 1 6) s m ([.ref (gB g + 0), .ref (A 1), .int x] : List Value).toArray below meth c 14 (wc g h ++ (sx g A n f r ++ [])) (FF (AG g) s.heap.size) [(0, .ref (gB g + 0)), (1, .ref (A 1)), (2, .int x), (3, .int (nI n)), (4, .int (nI p0)), (5, .ref (A (15 + p0))), (6, .int v), (9, .int u7)] 0 0 (MQ below (QG g (AG g) s.heap.size (fun v L2 N => v = some (.int 1) ∧ N = [] ∧ ∃ q2 h2 r2, L2 = wl g (sx g A n f r2) h2 ∧ TS n f t q2 h2 r2)) ([.ref (gB g + 0), .ref (A 1), .int x] : List Value).toArray s 1 6 (FF (AG g) s.heap.size)) 218 [.int b, .int 7, .ref (A (15 + p0))] := by
          intro b hb
          refine gs_st (o := 15 + p0) (k := 7) C hn (by decide) (by unfold sW; omega) dL_act_218 ?_
          refine gg_aload_n C dL_act_219 0 rfl rfl ?_
          refine gg_iload C dL_act_220 rfl ?_
          refine gg_aload C dL_act_222 rfl ?_
          refine gg_bipush (v := 7) C dL_act_224 (by decide) ?_
          refine gs_ld (o := 15 + p0) (k := 7) C hn (by decide) (by unfold sW; omega) dL_act_226 ?_
          refine gg_iconst (v := 1) C dL_act_227 (by decide) ?_
          have e7 : hp_up r (15 + p0) 7 b (15 + p0) 7 = b := hp_upd
          refine gg_icmp_ne C dL_act_228 235 (by decide) (fun c228 => ?_) (fun c228 => ?_)
          · refine gg_iconst (v := 0) C dL_act_235 (by decide) ?_
            refine gg_top (y := b) (by
              rcases hb with y | y
              · exact y.symm
              · exact absurd (e7.trans y) c228) ?_
            obtain ⟨h2, h3, ex, elo, T3, R3⟩ := lw_strew T RR hp0 hb
            refine gg_ls (wl g (sx g A n f (hp_up r (15 + p0) 7 b) ++ []) h) rfl ?_
            refine gc_callX (As := [.int (nI p0), .int b]) C hE mf_X4_strew (xt_X4_strew hst T.2.1 hb) ex q_m_L_75 rfl rfl rfl (Nat.le_of_ble_eq_true rfl) (by exact ⟨Nat.le_of_ble_eq_true rfl, Nat.le_of_ble_eq_true rfl⟩) (by exact ⟨Nat.le_of_ble_eq_true rfl, Nat.le_of_ble_eq_true rfl⟩) dL_act_236 ?_
            refine gg_ls (wc g h3 ++ (sx g A n f (hp_up r (15 + p0) 7 b) ++ [])) (wl_lo elo) ?_
            refine gg_iload C dL_act_239 rfl ?_
            refine gg_icmp_ne C dL_act_241 248 (by decide) (fun z9 => absurd hv7 z9) (fun _ => ?_)
            refine gg_iconst (v := 1) C dL_act_244 (by decide) ?_
            refine gg_goto C dL_act_245 249 (by decide) ?_
            exact gg_zret C (wl g (sx g A n f (hp_up r (15 + p0) 7 b)) h3) [] (by show wc g h3 ++ (sx g A n f _ ++ []) = (wc g h3 ++ sx g A n f _) ++ []; rw [List.append_nil, List.append_nil]) ⟨rfl, rfl, q, h3, _, rfl, T3, R3, (by first | exact hT.2.2.up (by decide) | exact (hT.2.2.up (by decide)).up (by decide))⟩ (Or.inr rfl) hr dL_act_249
          · refine gg_iconst (v := 1) C dL_act_231 (by decide) ?_
            refine gg_goto C dL_act_232 236 (by decide) ?_
            refine gg_top (y := b) ((e7.symm.trans c228).symm) ?_
            obtain ⟨h2, h3, ex, elo, T3, R3⟩ := lw_strew T RR hp0 hb
            refine gg_ls (wl g (sx g A n f (hp_up r (15 + p0) 7 b) ++ []) h) rfl ?_
            refine gc_callX (As := [.int (nI p0), .int b]) C hE mf_X4_strew (xt_X4_strew hst T.2.1 hb) ex q_m_L_75 rfl rfl rfl (Nat.le_of_ble_eq_true rfl) (by exact ⟨Nat.le_of_ble_eq_true rfl, Nat.le_of_ble_eq_true rfl⟩) (by exact ⟨Nat.le_of_ble_eq_true rfl, Nat.le_of_ble_eq_true rfl⟩) dL_act_236 ?_
            refine gg_ls (wc g h3 ++ (sx g A n f (hp_up r (15 + p0) 7 b) ++ [])) (wl_lo elo) ?_
            refine gg_iload C dL_act_239 rfl ?_
            refine gg_icmp_ne C dL_act_241 248 (by decide) (fun z9 => absurd hv7 z9) (fun _ => ?_)
            refine gg_iconst (v := 1) C dL_act_244 (by decide) ?_
            refine gg_goto C dL_act_245 249 (by decide) ?_
            exact gg_zret C (wl g (sx g A n f (hp_up r (15 + p0) 7 b)) h3) [] (by show wc g h3 ++ (sx g A n f _ ++ []) = (wc g h3 ++ sx g A n f _) ++ []; rw [List.append_nil, List.append_nil]) ⟨rfl, rfl, q, h3, _, rfl, T3, R3, (by first | exact hT.2.2.up (by decide) | exact (hT.2.2.up (by decide)).up (by decide))⟩ (Or.inr rfl) hr dL_act_249
        refine gg_if_le C dL_act_210 217 (by decide) (fun c210 => ?_) (fun c210 => ?_)
        · refine gg_iconst (v := 0) C dL_act_217 (by decide) ?_
          refine gg_lv [(0, .ref (gB g + 0)), (1, .ref (A 1)), (2, .int x), (3, .int (nI n)), (4, .int (nI p0)), (5, .ref (A (15 + p0))), (6, .int v), (9, .int u7)] ⟨rfl, rfl, rfl, rfl, rfl, rfl, rfl, rfl, trivial⟩ ?_
          exact K218 0 (Or.inl rfl)
        · refine gg_iconst (v := 1) C dL_act_213 (by decide) ?_
          refine gg_goto C dL_act_214 218 (by decide) ?_
          refine gg_lv [(0, .ref (gB g + 0)), (1, .ref (A 1)), (2, .int x), (3, .int (nI n)), (4, .int (nI p0)), (5, .ref (A (15 + p0))), (6, .int v), (9, .int u7)] ⟨rfl, rfl, rfl, rfl, rfl, rfl, rfl, rfl, trivial⟩ ?_
          exact K218 1 (Or.inr rfl)
      have h7 : r (15 + p0) 7 = 0 ∨ r (15 + p0) 7 = 1 := by rw [← RR.p hp0 (by omega)]; exact T.2.1.2.2.2.2.2.2.2.1 p0 hp0
      refine gg_icmp_ne C dL_act_189 196 (by decide) (fun c189 => ?_) (fun c189 => ?_)
      · refine gg_iconst (v := 0) C dL_act_196 (by decide) ?_
        refine gg_lv [(0, .ref (gB g + 0)), (1, .ref (A 1)), (2, .int x), (3, .int (nI n)), (4, .int (nI p0)), (5, .ref (A (15 + p0))), (6, .int v)] ⟨rfl, rfl, rfl, rfl, rfl, rfl, rfl, trivial⟩ ?_
        exact K197 0 (h7.resolve_right c189)
      · refine gg_iconst (v := 1) C dL_act_192 (by decide) ?_
        refine gg_goto C dL_act_193 197 (by decide) ?_
        refine gg_lv [(0, .ref (gB g + 0)), (1, .ref (A 1)), (2, .int x), (3, .int (nI n)), (4, .int (nI p0)), (5, .ref (A (15 + p0))), (6, .int v)] ⟨rfl, rfl, rfl, rfl, rfl, rfl, rfl, trivial⟩ ?_
        exact K197 1 c189
    · refine gg_tabIn C dL_act_56 194 250 (by decide) (by decide) (by decide) (by decide) ?_
      refine gg_iload_n C dL_act_250 2 rfl rfl ?_
      refine gg_iconst (v := 2) C dL_act_251 (by decide) ?_
      refine gg_ishr C dL_act_252 ?_
      refine gg_sipush (v := 4001) C dL_act_253 (by decide) ?_
      refine gg_callP (v := bel (x >>> (2 &&& 31)) 4001) C mf_L_below (gt_L_below (by decide)) EB.tt EM.tt (fun _ h9 => Or.inr h9) q_m_L_18 rfl rfl (Nat.le_of_ble_eq_true rfl) (by exact ⟨Nat.le_of_ble_eq_true rfl, Nat.le_of_ble_eq_true rfl⟩) (by exact ⟨Nat.le_of_ble_eq_true rfl, Nat.le_of_ble_eq_true rfl⟩) dL_act_256 ?_
      refine gg_sipush (v := 1500) C dL_act_259 (by decide) ?_
      obtain ⟨a, ha, ea⟩ := bel_is (x := x >>> (2 &&& 31)) (N := 4001) (by omega) (by omega)
      refine gg_isub C dL_act_262 ?_
      have hb : (-10000 : Int32) ≤ bel (x >>> (2 &&& 31)) 4001 - 1500 ∧ bel (x >>> (2 &&& 31)) 4001 - 1500 ≤ 10000 := by
        rw [show bel (x >>> (2 &&& 31)) 4001 = nI a from ea, show (1500 : Int32) = nI 1500 from rfl]
        rw [Int32.le_iff_toInt_le, Int32.le_iff_toInt_le, pk_sub_toInt (by omega) (by omega), show (-10000 : Int32).toInt = -10000 from by decide, show (10000 : Int32).toInt = 10000 from by decide]
        omega
      generalize bel (x >>> (2 &&& 31)) 4001 - 1500 = b at hb ⊢
      refine gg_istore C dL_act_263 (by decide) ?_
      refine gg_aload C dL_act_265 rfl ?_
      refine gg_iconst (v := 5) C dL_act_267 (by decide) ?_
      refine gg_iconst (v := 0) C dL_act_268 (by decide) ?_
      refine gg_aload_n C dL_act_269 1 rfl rfl ?_
      refine gg_iload C dL_act_270 rfl ?_
      refine gg_callV (A := wc g h) (B := []) (q := (RX5, TX5, 5)) (ci := 5) C mf_X5_holds (gt_X5_holds hn (j := p0) rfl hp0) EB.tt EM.tt sx_mem (sx_hG hn (fun _ h9 => Or.inr h9)) (sx_hap hn) q_m_L_39 rfl rfl (sJ n 1) (sx_get hn (Or.inl ⟨by omega, by omega⟩)) rfl rfl (Nat.le_of_ble_eq_true rfl) (by exact ⟨Nat.le_of_ble_eq_true rfl, Nat.le_of_ble_eq_true rfl⟩) (by exact ⟨Nat.le_of_ble_eq_true rfl, Nat.le_of_ble_eq_true rfl⟩) dL_act_272 (fun v9 L9 N9 hp9 => ?_)
      obtain ⟨rfl, rfl, rfl⟩ := hp9
      refine gg_ls (wc g h ++ (sx g A n f r ++ [])) (by rw [List.append_nil]) ?_
      refine gg_aload C dL_act_275 rfl ?_
      refine gg_iconst (v := 5) C dL_act_277 (by decide) ?_
      refine gs_ld (o := 15 + p0) (k := 5) C hn (by decide) (by unfold sW; omega) dL_act_278 ?_
      refine gg_iload C dL_act_279 rfl ?_
      refine gg_iadd C dL_act_281 ?_
      refine gg_mmin C q_m_L_43 (Nat.le_of_ble_eq_true rfl) (by first | exact Nat.le_of_ble_eq_true rfl | (simp only [List.map, List.sum]; decide)) (by first | exact Nat.le_of_ble_eq_true rfl | omega) (by first | exact Nat.le_of_ble_eq_true rfl | omega) dL_act_282 ?_
      refine gg_mmax C q_m_L_78 (Nat.le_of_ble_eq_true rfl) (by first | exact Nat.le_of_ble_eq_true rfl | (simp only [List.map, List.sum]; decide)) (by first | exact Nat.le_of_ble_eq_true rfl | omega) (by first | exact Nat.le_of_ble_eq_true rfl | omega) dL_act_285 ?_
      refine gs_st (o := 15 + p0) (k := 5) C hn (by decide) (by unfold sW; omega) dL_act_288 ?_
      refine gg_aload_n C dL_act_289 0 rfl rfl ?_
      refine gg_iload C dL_act_290 rfl ?_
      refine gg_iload C dL_act_292 rfl ?_
      obtain ⟨h2, h3, ex, elo, T3, R3⟩ := lw_pour T RR hp0 hb
      refine gg_ls (wl g (sx g A n f (hp_up r (15 + p0) 5 (mxI 0 (mnI (s_holds r (15 + p0)) ((r (15 + p0) 5) + b)))) ++ []) h) rfl ?_
      refine gc_callX (As := [.int (nI p0), .int b]) C hE mf_X4_pour (xt_X4_pour hst T.2.1) ex q_m_L_48 rfl rfl rfl (Nat.le_of_ble_eq_true rfl) (by exact ⟨Nat.le_of_ble_eq_true rfl, Nat.le_of_ble_eq_true rfl⟩) (by exact ⟨Nat.le_of_ble_eq_true rfl, Nat.le_of_ble_eq_true rfl⟩) dL_act_294 ?_
      refine gg_ls (wc g h3 ++ (sx g A n f (hp_up r (15 + p0) 5 (mxI 0 (mnI (s_holds r (15 + p0)) ((r (15 + p0) 5) + b)))) ++ [])) (wl_lo elo) ?_
      refine gg_aload C dL_act_297 rfl ?_
      refine gg_iconst (v := 5) C dL_act_299 (by decide) ?_
      refine gs_ld (o := 15 + p0) (k := 5) C hn (by decide) (by unfold sW; omega) dL_act_300 ?_
      refine gg_icmp_ne C dL_act_301 308 (by decide) (fun z9 => absurd hp_upd.symm z9) (fun _ => ?_)
      refine gg_iconst (v := 1) C dL_act_304 (by decide) ?_
      refine gg_goto C dL_act_305 309 (by decide) ?_
      exact gg_zret C (wl g (sx g A n f (hp_up r (15 + p0) 5 (mxI 0 (mnI (s_holds r (15 + p0)) ((r (15 + p0) 5) + b))))) h3) [] (by show wc g h3 ++ (sx g A n f _ ++ []) = (wc g h3 ++ sx g A n f _) ++ []; rw [List.append_nil, List.append_nil]) ⟨rfl, rfl, q, h3, _, rfl, T3, R3, (by first | exact hT.2.2.up (by decide) | exact (hT.2.2.up (by decide)).up (by decide))⟩ (Or.inr rfl) hr dL_act_309
    · refine gg_tabIn C dL_act_56 254 310 (by decide) (by decide) (by decide) (by decide) ?_
      refine gg_iload C dL_act_310 rfl ?_
      refine gg_if_lt C dL_act_312 329 (by decide) (fun c312 => ?_) (fun c312 => ?_)
      · refine gg_iconst (v := 1) C dL_act_329 (by decide) ?_
        refine gg_wide 1 6 (by omega) (by omega) ?_
        exact gg_zret C (wl g (sx g A n f r) h) [] (by show wc g h ++ (sx g A n f r ++ []) = (wc g h ++ sx g A n f r) ++ []; rw [List.append_nil, List.append_nil]) ⟨rfl, rfl, q, h, r, rfl, hT⟩ (Or.inr rfl) hr dL_act_330
      · have hvj : isN f v := hv.resolve_left (fun y => c312 (by rw [y]; decide))
        obtain ⟨j, hj, rfl⟩ := hvj
        refine gg_aload_n C dL_act_315 1 rfl rfl ?_
        refine gs_flo C hn q_f_L_61 dL_act_316 ?_
        refine gg_iload C dL_act_319 rfl ?_
        refine gs_aldF (j := j) C hn hf rfl hj dL_act_321 ?_
        refine gg_iconst (v := 2) C dL_act_322 (by decide) ?_
        refine gs_ld (o := 26 + j) (k := 2) C hn (by decide) (by unfold sW; omega) dL_act_323 ?_
        refine gg_bipush (v := 10) C dL_act_324 (by decide) ?_
        refine gg_icmp_ne C dL_act_326 331 (by decide) (fun c326 => ?_) (fun c326 => ?_)
        · have hat := isN_at (OKr.2 j hj) (by omega)
          refine gg_aload_n C dL_act_331 1 rfl rfl ?_
          refine gg_aload_n C dL_act_332 1 rfl rfl ?_
          refine gs_flo C hn q_f_L_61 dL_act_333 ?_
          refine gg_iload C dL_act_336 rfl ?_
          refine gs_aldF (j := j) C hn hf rfl hj dL_act_338 ?_
          refine gg_iconst (v := 1) C dL_act_339 (by decide) ?_
          refine gs_ld (o := 26 + j) (k := 1) C hn (by decide) (by unfold sW; omega) dL_act_340 ?_
          refine gg_iload C dL_act_341 rfl ?_
          refine gg_callV (A := wc g h) (B := []) (q := (RX5, TX5, 5)) (ci := 5) C mf_X5_far (gt_X5_far hn (i := (r (26 + j) 1).toNatClampNeg) (j := p0) hat.1 hat.2 rfl hp0) EB.tt EM.tt sx_mem (sx_hG hn (fun _ h9 => Or.inr h9)) (sx_hap hn) q_m_L_81 rfl rfl (sJ n 1) (sx_get hn (Or.inl ⟨by omega, by omega⟩)) rfl rfl (Nat.le_of_ble_eq_true rfl) (by exact ⟨Nat.le_of_ble_eq_true rfl, Nat.le_of_ble_eq_true rfl⟩) (by exact ⟨Nat.le_of_ble_eq_true rfl, Nat.le_of_ble_eq_true rfl⟩) dL_act_343 (fun v9 L9 N9 hp9 => ?_)
          obtain ⟨rfl, rfl, rfl⟩ := hp9
          refine gg_ls (wc g h ++ (sx g A n f r ++ [])) (by rw [List.append_nil]) ?_
          refine gg_istore C dL_act_346 (by decide) ?_
          refine gg_aload_n C dL_act_348 1 rfl rfl ?_
          refine gs_flo C hn q_f_L_61 dL_act_349 ?_
          refine gg_iload C dL_act_352 rfl ?_
          refine gs_aldF (j := j) C hn hf rfl hj dL_act_354 ?_
          refine gg_iconst (v := 1) C dL_act_355 (by decide) ?_
          refine gg_iload C dL_act_356 rfl ?_
          refine gs_st (o := 26 + j) (k := 1) C hn (by decide) (by unfold sW; omega) dL_act_358 ?_
          refine gg_aload_n C dL_act_359 0 rfl rfl ?_
          refine gg_iload C dL_act_360 rfl ?_
          refine gg_iload C dL_act_362 rfl ?_
          obtain ⟨h2, h3, ex, elo, T3, R3⟩ := lw_drive T RR hj hp0 c326
          refine gg_ls (wl g (sx g A n f (hp_up r (26 + j) 1 (nI p0)) ++ []) h) rfl ?_
          refine gc_callX (As := [.int (nI j), .int (nI p0)]) C hE mf_X4_drive (xt_X4_drive hst T.2.1) ex q_m_L_84 rfl rfl rfl (Nat.le_of_ble_eq_true rfl) (by exact ⟨Nat.le_of_ble_eq_true rfl, Nat.le_of_ble_eq_true rfl⟩) (by exact ⟨Nat.le_of_ble_eq_true rfl, Nat.le_of_ble_eq_true rfl⟩) dL_act_364 ?_
          refine gg_ls (wc g h3 ++ (sx g A n f (hp_up r (26 + j) 1 (nI p0)) ++ [])) (wl_lo elo) ?_
          refine gg_iload C dL_act_367 rfl ?_
          refine gg_icmp_ne C dL_act_369 376 (by decide) (fun z9 => absurd rfl z9) (fun _ => ?_)
          refine gg_iconst (v := 1) C dL_act_372 (by decide) ?_
          refine gg_goto C dL_act_373 377 (by decide) ?_
          exact gg_zret C (wl g (sx g A n f (hp_up r (26 + j) 1 (nI p0))) h3) [] (by show wc g h3 ++ (sx g A n f _ ++ []) = (wc g h3 ++ sx g A n f _) ++ []; rw [List.append_nil, List.append_nil]) ⟨rfl, rfl, q, h3, _, rfl, T3, R3, (by first | exact hT.2.2.up (by decide) | exact (hT.2.2.up (by decide)).up (by decide))⟩ (Or.inr rfl) hr dL_act_377
        · refine gg_iconst (v := 1) C dL_act_329 (by decide) ?_
          refine gg_wide 1 6 (by omega) (by omega) ?_
          exact gg_zret C (wl g (sx g A n f r) h) [] (by show wc g h ++ (sx g A n f r ++ []) = (wc g h ++ sx g A n f r) ++ []; rw [List.append_nil, List.append_nil]) ⟨rfl, rfl, q, h, r, rfl, hT⟩ (Or.inr rfl) hr dL_act_330
    · refine gg_tabIn C dL_act_56 322 378 (by decide) (by decide) (by decide) (by decide) ?_
      refine gg_iconst (v := 1) C dL_act_378 (by decide) ?_
      refine gg_iload_n C dL_act_379 2 rfl rfl ?_
      refine gg_iconst (v := 3) C dL_act_380 (by decide) ?_
      refine gg_ishr C dL_act_381 ?_
      refine gg_bipush (v := 100) C dL_act_382 (by decide) ?_
      refine gg_callP (v := bel (x >>> (3 &&& 31)) 100) C mf_L_below (gt_L_below (by decide)) EB.tt EM.tt (fun _ h9 => Or.inr h9) q_m_L_18 rfl rfl (Nat.le_of_ble_eq_true rfl) (by exact ⟨Nat.le_of_ble_eq_true rfl, Nat.le_of_ble_eq_true rfl⟩) (by exact ⟨Nat.le_of_ble_eq_true rfl, Nat.le_of_ble_eq_true rfl⟩) dL_act_384 ?_
      obtain ⟨a, ha, ea⟩ := bel_is (x := x >>> (3 &&& 31)) (N := 100) (by omega) (by omega)
      have ea1 : (1 : Int32) + bel (x >>> (3 &&& 31)) 100 = nI (a + 1) := by rw [show bel (x >>> (3 &&& 31)) 100 = nI a from ea, show (1 : Int32) = nI 1 from rfl, nI_add, Nat.add_comm]
      refine gg_iadd C dL_act_387 ?_
      refine gg_top ea1 ?_
      refine gg_istore C dL_act_388 (by decide) ?_
      refine gg_aload_n C dL_act_390 1 rfl rfl ?_
      refine gs_clay C hn q_f_L_68 dL_act_391 ?_
      refine gg_iload C dL_act_394 rfl ?_
      refine gg_iadd C dL_act_396 ?_
      refine gg_sipush (v := 500) C dL_act_397 (by decide) ?_
      refine gg_icmp_le C dL_act_400 405 (by decide) (fun c400 => ?_) (fun c400 => ?_)
      · refine gg_aload_n C dL_act_405 1 rfl rfl ?_
        refine gg_dup C dL_act_406 rfl ?_
        refine gs_clay C hn q_f_L_68 dL_act_407 ?_
        refine gg_iload C dL_act_410 rfl ?_
        refine gg_iadd C dL_act_412 ?_
        refine gs_putc C hn q_f_L_68 dL_act_413 ?_
        refine gg_aload_n C dL_act_416 0 rfl rfl ?_
        refine gg_iload C dL_act_417 rfl ?_
        obtain ⟨q2, h2, h3, ex, elo, T3, R3⟩ := lw_bring T RR (show 1 ≤ a + 1 ∧ a + 1 ≤ 100 by omega) (Int32.not_lt.mpr c400)
        refine gg_ls (wl g (sx g A n f (hp_up r 1 7 ((r 1 7) + (nI (a + 1)))) ++ []) h) rfl ?_
        refine gc_callX (As := [.int (nI (a + 1))]) C hE mf_X4_bring (xt_X4_bring hst T.2.1) ex q_m_L_87 rfl rfl rfl (Nat.le_of_ble_eq_true rfl) (by exact ⟨Nat.le_of_ble_eq_true rfl, Nat.le_of_ble_eq_true rfl⟩) (by exact ⟨Nat.le_of_ble_eq_true rfl, Nat.le_of_ble_eq_true rfl⟩) dL_act_419 ?_
        refine gg_ls (wc g h3 ++ (sx g A n f (hp_up r 1 7 ((r 1 7) + (nI (a + 1)))) ++ [])) (wl_lo elo) ?_
        refine gg_aload_n C dL_act_422 1 rfl rfl ?_
        refine gs_clay C hn q_f_L_68 dL_act_423 ?_
        refine gg_icmp_ne C dL_act_426 433 (by decide) (fun z9 => absurd hp_upd.symm z9) (fun _ => ?_)
        refine gg_iconst (v := 1) C dL_act_429 (by decide) ?_
        refine gg_goto C dL_act_430 434 (by decide) ?_
        exact gg_zret C (wl g (sx g A n f (hp_up r 1 7 ((r 1 7) + (nI (a + 1))))) h3) [] (by show wc g h3 ++ (sx g A n f _ ++ []) = (wc g h3 ++ sx g A n f _) ++ []; rw [List.append_nil, List.append_nil]) ⟨rfl, rfl, q2, h3, _, rfl, T3, R3, (by first | exact hT.2.2.up (by decide) | exact (hT.2.2.up (by decide)).up (by decide))⟩ (Or.inr rfl) hr dL_act_434
      · refine gg_iconst (v := 1) C dL_act_403 (by decide) ?_
        refine gg_wide 1 6 (by omega) (by omega) ?_
        exact gg_zret C (wl g (sx g A n f r) h) [] (by show wc g h ++ (sx g A n f r ++ []) = (wc g h ++ sx g A n f r) ++ []; rw [List.append_nil, List.append_nil]) ⟨rfl, rfl, q, h, r, rfl, hT⟩ (Or.inr rfl) hr dL_act_404
    · refine gg_tabOut C dL_act_56 435 (Or.inr (by decide)) (by decide) ?_
      refine gg_iload C dL_act_435 rfl ?_
      refine gg_if_ge C dL_act_437 442 (by decide) (fun c437 => ?_) (fun c437 => ?_)
      · have hvj : isN f v := hv.resolve_left (fun y => absurd c437 (by rw [y]; decide))
        obtain ⟨j, hj, rfl⟩ := hvj
        refine gg_aload_n C dL_act_442 1 rfl rfl ?_
        refine gs_flo C hn q_f_L_61 dL_act_443 ?_
        refine gg_iload C dL_act_446 rfl ?_
        refine gs_aldF (j := j) C hn hf rfl hj dL_act_448 ?_
        refine gg_iconst (v := 3) C dL_act_449 (by decide) ?_
        refine gs_ld (o := 26 + j) (k := 3) C hn (by decide) (by unfold sW; omega) dL_act_450 ?_
        refine gg_iconst (v := 1) C dL_act_451 (by decide) ?_
        have K460 : ∀ u : Int32, r (26 + j) 3 = u → GW g p l e (rK 8 1 6) s m ([.ref (gB g + 0), .ref (A 1), .int x] : List Value).toArray below meth c 14 (wc g h ++ (sx g A n f r ++ [])) (FF (AG g) s.heap.size) [(0, .ref (gB g + 0)), (1, .ref (A 1)), (2, .int x), (3, .int (nI n)), (4, .int (nI p0)), (5, .ref (A (15 + p0))), (6, .int (nI j))] 0 0 (MQ below (QG g (AG g) s.heap.size (fun v L2 N => v = some (.int 1) ∧ N = [] ∧ ∃ q2 h2 r2, L2 = wl g (sx g A n f r2) h2 ∧ TS n f t q2 h2 r2)) ([.ref (gB g + 0), .ref (A 1), .int x] : List Value).toArray s 1 6 (FF (AG g) s.heap.size)) 460 [.int u] := by
          intro u hu
          refine gg_istore C dL_act_460 (by decide) ?_
          refine gg_aload_n C dL_act_462 1 rfl rfl ?_
          refine gs_flo C hn q_f_L_61 dL_act_463 ?_
          refine gg_iload C dL_act_466 rfl ?_
          refine gs_aldF (j := j) C hn hf rfl hj dL_act_468 ?_
          refine gg_iconst (v := 3) C dL_act_469 (by decide) ?_
          refine gg_iload_n C dL_act_470 2 rfl rfl ?_
          refine gg_iconst (v := 2) C dL_act_471 (by decide) ?_
          refine gg_ishr C dL_act_472 ?_
          refine gg_iconst (v := 2) C dL_act_473 (by decide) ?_
          refine gg_callP (v := bel (x >>> (2 &&& 31)) 2) C mf_L_below (gt_L_below (by decide)) EB.tt EM.tt (fun _ h9 => Or.inr h9) q_m_L_18 rfl rfl (Nat.le_of_ble_eq_true rfl) (by exact ⟨Nat.le_of_ble_eq_true rfl, Nat.le_of_ble_eq_true rfl⟩) (by exact ⟨Nat.le_of_ble_eq_true rfl, Nat.le_of_ble_eq_true rfl⟩) dL_act_474 ?_
          obtain ⟨b0, hb0, eb⟩ := bel_is (x := x >>> (2 &&& 31)) (N := 2) (by omega) (by omega)
          have hb : bel (x >>> (2 &&& 31)) 2 = 0 ∨ bel (x >>> (2 &&& 31)) 2 = 1 := by
            rw [show bel (x >>> (2 &&& 31)) 2 = nI b0 from eb]
            rcases (show b0 = 0 ∨ b0 = 1 by omega) with rfl | rfl
            · exact Or.inl rfl
            · exact Or.inr rfl
          generalize bel (x >>> (2 &&& 31)) 2 = b at hb ⊢
          refine gs_st (o := 26 + j) (k := 3) C hn (by decide) (by unfold sW; omega) dL_act_477 ?_
          refine gg_aload_n C dL_act_478 0 rfl rfl ?_
          refine gg_iload C dL_act_479 rfl ?_
          refine gg_aload_n C dL_act_481 1 rfl rfl ?_
          refine gs_flo C hn q_f_L_61 dL_act_482 ?_
          refine gg_iload C dL_act_485 rfl ?_
          refine gs_aldF (j := j) C hn hf rfl hj dL_act_487 ?_
          refine gg_iconst (v := 3) C dL_act_488 (by decide) ?_
          refine gs_ld (o := 26 + j) (k := 3) C hn (by decide) (by unfold sW; omega) dL_act_489 ?_
          refine gg_iconst (v := 1) C dL_act_490 (by decide) ?_
          have e7 : hp_up r (26 + j) 3 b (26 + j) 3 = b := hp_upd
          refine gg_icmp_ne C dL_act_491 498 (by decide) (fun c491 => ?_) (fun c491 => ?_)
          · refine gg_iconst (v := 0) C dL_act_498 (by decide) ?_
            refine gg_top (y := b) (by
              rcases hb with y | y
              · exact y.symm
              · exact absurd (e7.trans y) c491) ?_
            obtain ⟨h2, h3, ex, elo, T3, R3⟩ := lw_roams T RR hj hb
            refine gg_ls (wl g (sx g A n f (hp_up r (26 + j) 3 b) ++ []) h) rfl ?_
            refine gc_callX (As := [.int (nI j), .int b]) C hE mf_X4_setRoams (xt_X4_setRoams hst T.2.1 hb) ex q_m_L_64 rfl rfl rfl (Nat.le_of_ble_eq_true rfl) (by exact ⟨Nat.le_of_ble_eq_true rfl, Nat.le_of_ble_eq_true rfl⟩) (by exact ⟨Nat.le_of_ble_eq_true rfl, Nat.le_of_ble_eq_true rfl⟩) dL_act_499 ?_
            refine gg_ls (wc g h3 ++ (sx g A n f (hp_up r (26 + j) 3 b) ++ [])) (wl_lo elo) ?_
            refine gg_iload C dL_act_502 rfl ?_
            refine gg_icmp_ne C dL_act_504 511 (by decide) (fun z9 => absurd hu z9) (fun _ => ?_)
            refine gg_iconst (v := 1) C dL_act_507 (by decide) ?_
            refine gg_goto C dL_act_508 512 (by decide) ?_
            exact gg_zret C (wl g (sx g A n f (hp_up r (26 + j) 3 b)) h3) [] (by show wc g h3 ++ (sx g A n f _ ++ []) = (wc g h3 ++ sx g A n f _) ++ []; rw [List.append_nil, List.append_nil]) ⟨rfl, rfl, q, h3, _, rfl, T3, R3, (by first | exact hT.2.2.up (by decide) | exact (hT.2.2.up (by decide)).up (by decide))⟩ (Or.inr rfl) hr dL_act_512
          · refine gg_iconst (v := 1) C dL_act_494 (by decide) ?_
            refine gg_goto C dL_act_495 499 (by decide) ?_
            refine gg_top (y := b) ((e7.symm.trans c491).symm) ?_
            obtain ⟨h2, h3, ex, elo, T3, R3⟩ := lw_roams T RR hj hb
            refine gg_ls (wl g (sx g A n f (hp_up r (26 + j) 3 b) ++ []) h) rfl ?_
            refine gc_callX (As := [.int (nI j), .int b]) C hE mf_X4_setRoams (xt_X4_setRoams hst T.2.1 hb) ex q_m_L_64 rfl rfl rfl (Nat.le_of_ble_eq_true rfl) (by exact ⟨Nat.le_of_ble_eq_true rfl, Nat.le_of_ble_eq_true rfl⟩) (by exact ⟨Nat.le_of_ble_eq_true rfl, Nat.le_of_ble_eq_true rfl⟩) dL_act_499 ?_
            refine gg_ls (wc g h3 ++ (sx g A n f (hp_up r (26 + j) 3 b) ++ [])) (wl_lo elo) ?_
            refine gg_iload C dL_act_502 rfl ?_
            refine gg_icmp_ne C dL_act_504 511 (by decide) (fun z9 => absurd hu z9) (fun _ => ?_)
            refine gg_iconst (v := 1) C dL_act_507 (by decide) ?_
            refine gg_goto C dL_act_508 512 (by decide) ?_
            exact gg_zret C (wl g (sx g A n f (hp_up r (26 + j) 3 b)) h3) [] (by show wc g h3 ++ (sx g A n f _ ++ []) = (wc g h3 ++ sx g A n f _) ++ []; rw [List.append_nil, List.append_nil]) ⟨rfl, rfl, q, h3, _, rfl, T3, R3, (by first | exact hT.2.2.up (by decide) | exact (hT.2.2.up (by decide)).up (by decide))⟩ (Or.inr rfl) hr dL_act_512
        have h7 : r (26 + j) 3 = 0 ∨ r (26 + j) 3 = 1 := by rw [← RR.fl hj (by omega)]; exact T.2.1.2.2.2.2.2.2.2.2 j hj
        refine gg_icmp_ne C dL_act_452 459 (by decide) (fun c452 => ?_) (fun c452 => ?_)
        · refine gg_iconst (v := 0) C dL_act_459 (by decide) ?_
          refine gg_lv [(0, .ref (gB g + 0)), (1, .ref (A 1)), (2, .int x), (3, .int (nI n)), (4, .int (nI p0)), (5, .ref (A (15 + p0))), (6, .int (nI j))] ⟨rfl, rfl, rfl, rfl, rfl, rfl, rfl, trivial⟩ ?_
          exact K460 0 (h7.resolve_right c452)
        · refine gg_iconst (v := 1) C dL_act_455 (by decide) ?_
          refine gg_goto C dL_act_456 460 (by decide) ?_
          refine gg_lv [(0, .ref (gB g + 0)), (1, .ref (A 1)), (2, .int x), (3, .int (nI n)), (4, .int (nI p0)), (5, .ref (A (15 + p0))), (6, .int (nI j))] ⟨rfl, rfl, rfl, rfl, rfl, rfl, rfl, trivial⟩ ?_
          exact K460 1 c452
      · refine gg_iconst (v := 1) C dL_act_440 (by decide) ?_
        refine gg_wide 1 6 (by omega) (by omega) ?_
        exact gg_zret C (wl g (sx g A n f r) h) [] (by show wc g h ++ (sx g A n f r ++ []) = (wc g h ++ sx g A n f r) ++ []; rw [List.append_nil, List.append_nil]) ⟨rfl, rfl, q, h, r, rfl, hT⟩ (Or.inr rfl) hr dL_act_441
  refine gg_if_ne C dL_act_27 34 (by decide) (fun c27 => ?_) (fun c27 => ?_)
  · have hf1 : 1 ≤ f := by
      rcases Nat.eq_zero_or_pos f with y | y
      · exact absurd (by rw [y]; rfl) c27
      · exact y
    refine gg_iload_n C dL_act_34 2 rfl rfl ?_
    refine gg_iconst (v := 3) C dL_act_35 (by decide) ?_
    refine gg_ishr C dL_act_36 ?_
    refine gg_aload_n C dL_act_37 1 rfl rfl ?_
    refine gs_flo C hn q_f_L_61 dL_act_38 ?_
    refine gs_lenF C hn dL_act_41 ?_
    refine gg_callP (v := bel (x >>> (3 &&& 31)) (nI f)) C mf_L_below (gt_L_below c27) EB.tt EM.tt (fun _ h9 => Or.inr h9) q_m_L_18 rfl rfl (Nat.le_of_ble_eq_true rfl) (by exact ⟨Nat.le_of_ble_eq_true rfl, Nat.le_of_ble_eq_true rfl⟩) (by exact ⟨Nat.le_of_ble_eq_true rfl, Nat.le_of_ble_eq_true rfl⟩) dL_act_42 ?_
    obtain ⟨j, hj, ej⟩ := bel_is (x := x >>> (3 &&& 31)) hf1 (show f < 2 ^ 31 by omega)
    refine gg_lv [(0, .ref (gB g + 0)), (1, .ref (A 1)), (2, .int x), (3, .int (nI n)), (4, .int (nI p0)), (5, .ref (A (15 + p0)))] ⟨rfl, rfl, rfl, rfl, rfl, rfl, trivial⟩ ?_
    exact K45 _ (Or.inr ⟨j, hj, ej⟩)
  · refine gg_iconst (v := (-1)) C dL_act_30 (by decide) ?_
    refine gg_goto C dL_act_31 45 (by decide) ?_
    refine gg_lv [(0, .ref (gB g + 0)), (1, .ref (A 1)), (2, .int x), (3, .int (nI n)), (4, .int (nI p0)), (5, .ref (A (15 + p0)))] ⟨rfl, rfl, rfl, rfl, rfl, rfl, trivial⟩ ?_
    exact K45 _ (Or.inl rfl)
