/-! build: the ponds -/
set_option maxHeartbeats 4000000 in
theorem bd_1 {g : gW} {p : Program} {l : Launch} {e : Env} {s : State} {m : MethodId} {below : List Frame} {meth : Method} {c : Code} {b N : Nat} {xs : Nat → Int32} {Q : State → Prop} (C : CG g p s m ([.ref (gB g + 0), .ref b, .int 7] : List Value).toArray meth c cL_build 13 RL) (hst : l.stackTraces = false) (hE : EXs g s) (hX : XS g b N xs s) (hN : N ≤ 260) {t q : Nat} {P : Nat} (hP : 1 ≤ P ∧ P ≤ 7) (K : ∀ (A : Ad) (k : Nat) (h r : Hp), 1 ≤ k → k ≤ 7 → TS k 0 t q h r → NW k r → GW g p l e (rK 8 100 600) s m ([.ref (gB g + 0), .ref b, .int 7] : List Value).toArray below meth c 13 (wc g h ++ (sx g A k 0 r ++ [])) (FF (AG g) s.heap.size) [(0, .ref (gB g + 0)), (1, .ref b), (3, .ref (A 1))] (14 + 3 * 7) (45 + 27 * 7) Q 325 []) : ∀ (fu i : Nat), i ≤ P → P < fu + i → ∀ (A : Ad) (k : Nat) (h r : Hp), k ≤ i → (0 < i → 1 ≤ k) → TS k 0 t q h r → NW k r → GW g p l e (rK 8 100 600) s m ([.ref (gB g + 0), .ref b, .int 7] : List Value).toArray below meth c 13 (wc g h ++ (sx g A k 0 r ++ [])) (FF (AG g) s.heap.size) [(0, .ref (gB g + 0)), (1, .ref b), (3, .ref (A 1)), (4, .int (nI P)), (5, .int (nI i))] (14 + 3 * i) (45 + 27 * i) Q 24 [] := by
  have hFA : ∀ q, q < s.heap.size → FF (AG g) s.heap.size q → AG g q := fun q h1 h2 => h2.elim id (fun z => absurd h1 (by omega))
  intro fu
  induction fu with
  | zero => intro i h1 h2; omega
  | succ fu ih =>
    intro i hi9 hfu A k h r hki hk1 hT hW
    have hn : k ≤ 10 := by omega
    refine gg_iload C dL_build_24 rfl ?_
    refine gg_iload C dL_build_26 rfl ?_
    refine gg_icmp_ge C dL_build_28 325 (by decide) (fun q9 => ?_) (fun q9 => ?_)
    · have hin := lp_exit rfl q9 hi9 (by omega)
      subst hin
      refine gg_wide (14 + 3 * 7) (45 + 27 * 7) (by omega) (by omega) ?_
      refine gg_lv [(0, .ref (gB g + 0)), (1, .ref b), (3, .ref (A 1))] ⟨rfl, rfl, rfl, trivial⟩ ?_
      exact K A k h r (hk1 (by omega)) (by omega) hT hW
    · have hi := lp_body rfl q9 hi9 (by omega)
      refine gg_aload_n C dL_build_31 1 rfl rfl ?_
      refine gg_iconst (v := 1) C dL_build_32 (by decide) ?_
      refine gg_iload C dL_build_33 rfl ?_
      refine gg_iconst (v := 4) C dL_build_35 (by decide) ?_
      refine gg_irem C dL_build_36 (by decide) ?_
      refine gg_iadd C dL_build_37 ?_
      refine gg_top (y := nI (1 + i % 4)) (by rw [show (4 : Int32) = nI 4 from rfl, mod_nI (by omega) (by omega) (by omega), show (1 : Int32) = nI 1 from rfl, nI_add]) ?_
      refine gg_callP (v := cel N xs (1 + i % 4)) C mf_L_cell (gt_L_cell (by omega) (by omega)) XS_blind (EM.xs hX hFA) (fun _ h9 => Or.inr h9) q_m_L_12 rfl rfl (Nat.le_of_ble_eq_true rfl) (by exact ⟨Nat.le_of_ble_eq_true rfl, Nat.le_of_ble_eq_true rfl⟩) (by exact ⟨by show _ ≤ 100; omega, by show _ ≤ 600; omega⟩) dL_build_38 ?_
      refine gg_iload C dL_build_41 rfl ?_
      refine gg_ishr C dL_build_43 ?_
      refine gg_bipush (v := 11) C dL_build_44 (by decide) ?_
      refine gg_iload C dL_build_46 rfl ?_
      refine gg_imul C dL_build_48 ?_
      refine gg_iadd C dL_build_49 ?_
      generalize (((cel N xs (1 + i % 4)) >>> ((nI i) &&& 31)) + (11 * (nI i))) = x
      refine gg_istore C dL_build_50 (by decide) ?_
      refine gg_bipush (v := 10) C dL_build_52 (by decide) ?_
      refine gg_newi (N := 10) C (fun _ h9 => Or.inr h9) (by rfl) (by omega) (by exact ⟨by show _ ≤ 100; omega, by show _ ≤ 600; omega⟩) dL_build_54 (fun q0 => ?_)
      refine gg_ls (wc g h ++ (sx g A k 0 r ++ [cI g q0 10 (fun _ => 0)])) (by rw [sl_add]; rfl) ?_
      refine gg_dup C dL_build_56 rfl ?_
      refine gg_iconst (v := 0) C dL_build_57 (by decide) ?_
      refine gg_iload C dL_build_58 rfl ?_
      refine gg_bipush (v := 41) C dL_build_60 (by decide) ?_
      refine gg_callP (v := bel x 41) C mf_L_below (gt_L_below (by decide)) EB.tt EM.tt (fun _ h9 => Or.inr h9) q_m_L_18 rfl rfl (Nat.le_of_ble_eq_true rfl) (by exact ⟨Nat.le_of_ble_eq_true rfl, Nat.le_of_ble_eq_true rfl⟩) (by exact ⟨by show _ ≤ 100; omega, by show _ ≤ 600; omega⟩) dL_build_62 ?_
      obtain ⟨a0, ha0, ea0⟩ := bel_is (x := x) (N := 41) (by omega) (by omega)
      refine gg_top (show bel x 41 = nI a0 from ea0) ?_
      refine gs_ystI (j := 0) C 0 rfl (by decide) (by omega) (by omega) dL_build_65 ?_
      refine gg_dup C dL_build_66 rfl ?_
      refine gg_iconst (v := 1) C dL_build_67 (by decide) ?_
      refine gg_iload C dL_build_68 rfl ?_
      refine gg_iconst (v := 2) C dL_build_70 (by decide) ?_
      refine gg_ishr C dL_build_71 ?_
      refine gg_iload C dL_build_72 rfl ?_
      refine gg_bipush (v := 8) C dL_build_74 (by decide) ?_
      refine gg_ishr C dL_build_76 ?_
      refine gg_iconst (v := 2) C dL_build_77 (by decide) ?_
      refine gg_callP (v := bel (x >>> (8 &&& 31)) 2) C mf_L_below (gt_L_below (by decide)) EB.tt EM.tt (fun _ h9 => Or.inr h9) q_m_L_18 rfl rfl (Nat.le_of_ble_eq_true rfl) (by exact ⟨Nat.le_of_ble_eq_true rfl, Nat.le_of_ble_eq_true rfl⟩) (by exact ⟨by show _ ≤ 100; omega, by show _ ≤ 600; omega⟩) dL_build_78 ?_
      have K90 : ∀ cc : Nat, (cc = 41 ∨ cc = 5) → GW g p l e (rK 8 100 600) s m ([.ref (gB g + 0), .ref b, .int 7] : List Value).toArray below meth c 13 (wc g h ++ (sx g A k 0 r ++ [cI g q0 10 (upd (fun _ => 0) 0 (nI a0))])) (FF (AG g) s.heap.size) [(0, .ref (gB g + 0)), (1, .ref b), (3, .ref (A 1)), (4, .int (nI P)), (5, .int (nI i)), (6, .int x)] ((14 + 3 * i) + 1) ((45 + 27 * i) + 10) Q 90 [.int (nI cc), .int (x >>> (2 &&& 31)), .int 1, .ref q0, .ref q0] := by
        intro cc hcc
        refine gg_callP (v := bel (x >>> (2 &&& 31)) (nI cc)) C mf_L_below (gt_L_below (fun z => absurd ((nI_eq (a := cc) (b := 0) (by omega) (by omega)).mp z) (by omega))) EB.tt EM.tt (fun _ h9 => Or.inr h9) q_m_L_18 rfl rfl (Nat.le_of_ble_eq_true rfl) (by exact ⟨Nat.le_of_ble_eq_true rfl, Nat.le_of_ble_eq_true rfl⟩) (by exact ⟨by show _ ≤ 100; omega, by show _ ≤ 600; omega⟩) dL_build_90 ?_
        obtain ⟨a1, ha1, ea1⟩ := bel_is (x := (x >>> (2 &&& 31))) (N := cc) (by omega) (by omega)
        refine gg_top (show bel (x >>> (2 &&& 31)) (nI cc) = nI a1 from ea1) ?_
        refine gs_ystI (j := 1) C 0 rfl (by decide) (by omega) (by omega) dL_build_93 ?_
        refine gg_dup C dL_build_94 rfl ?_
        refine gg_iconst (v := 2) C dL_build_95 (by decide) ?_
        refine gg_iload C dL_build_96 rfl ?_
        refine gg_iconst (v := 4) C dL_build_98 (by decide) ?_
        refine gg_ishr C dL_build_99 ?_
        refine gg_iload C dL_build_100 rfl ?_
        refine gg_bipush (v := 7) C dL_build_102 (by decide) ?_
        refine gg_ishr C dL_build_104 ?_
        refine gg_iconst (v := 2) C dL_build_105 (by decide) ?_
        refine gg_callP (v := bel (x >>> (7 &&& 31)) 2) C mf_L_below (gt_L_below (by decide)) EB.tt EM.tt (fun _ h9 => Or.inr h9) q_m_L_18 rfl rfl (Nat.le_of_ble_eq_true rfl) (by exact ⟨Nat.le_of_ble_eq_true rfl, Nat.le_of_ble_eq_true rfl⟩) (by exact ⟨by show _ ≤ 100; omega, by show _ ≤ 600; omega⟩) dL_build_106 ?_
        have K119 : ∀ dd : Nat, (dd = 301 ∨ dd = 4) → GW g p l e (rK 8 100 600) s m ([.ref (gB g + 0), .ref b, .int 7] : List Value).toArray below meth c 13 (wc g h ++ (sx g A k 0 r ++ [cI g q0 10 (upd (upd (fun _ => 0) 0 (nI a0)) 1 (nI a1))])) (FF (AG g) s.heap.size) [(0, .ref (gB g + 0)), (1, .ref b), (3, .ref (A 1)), (4, .int (nI P)), (5, .int (nI i)), (6, .int x)] ((14 + 3 * i) + 1) ((45 + 27 * i) + 10) Q 119 [.int (nI dd), .int (x >>> (4 &&& 31)), .int 2, .ref q0, .ref q0] := by
          intro dd hdd
          refine gg_callP (v := bel (x >>> (4 &&& 31)) (nI dd)) C mf_L_below (gt_L_below (fun z => absurd ((nI_eq (a := dd) (b := 0) (by omega) (by omega)).mp z) (by omega))) EB.tt EM.tt (fun _ h9 => Or.inr h9) q_m_L_18 rfl rfl (Nat.le_of_ble_eq_true rfl) (by exact ⟨Nat.le_of_ble_eq_true rfl, Nat.le_of_ble_eq_true rfl⟩) (by exact ⟨by show _ ≤ 100; omega, by show _ ≤ 600; omega⟩) dL_build_119 ?_
          obtain ⟨a2, ha2, ea2⟩ := bel_is (x := (x >>> (4 &&& 31))) (N := dd) (by omega) (by omega)
          refine gg_top (show bel (x >>> (4 &&& 31)) (nI dd) = nI a2 from ea2) ?_
          refine gs_ystI (j := 2) C 0 rfl (by decide) (by omega) (by omega) dL_build_122 ?_
          refine gg_dup C dL_build_123 rfl ?_
          refine gg_iconst (v := 3) C dL_build_124 (by decide) ?_
          refine gg_iconst (v := 1) C dL_build_125 (by decide) ?_
          refine gg_iload C dL_build_126 rfl ?_
          refine gg_iconst (v := 3) C dL_build_128 (by decide) ?_
          refine gg_ishr C dL_build_129 ?_
          refine gg_bipush (v := 60) C dL_build_130 (by decide) ?_
          refine gg_callP (v := bel (x >>> (3 &&& 31)) 60) C mf_L_below (gt_L_below (by decide)) EB.tt EM.tt (fun _ h9 => Or.inr h9) q_m_L_18 rfl rfl (Nat.le_of_ble_eq_true rfl) (by exact ⟨Nat.le_of_ble_eq_true rfl, Nat.le_of_ble_eq_true rfl⟩) (by exact ⟨by show _ ≤ 100; omega, by show _ ≤ 600; omega⟩) dL_build_132 ?_
          obtain ⟨a3, ha3, ea3⟩ := bel_is (x := (x >>> (3 &&& 31))) (N := 60) (by omega) (by omega)
          refine gg_top (show bel (x >>> (3 &&& 31)) 60 = nI a3 from ea3) ?_
          refine gg_iadd C dL_build_135 ?_
          refine gg_top (y := nI (a3 + 1)) (by rw [show (1 : Int32) = nI 1 from rfl, nI_add, Nat.add_comm]) ?_
          refine gs_ystI (j := 3) C 0 rfl (by decide) (by omega) (by omega) dL_build_136 ?_
          refine gg_dup C dL_build_137 rfl ?_
          refine gg_iconst (v := 4) C dL_build_138 (by decide) ?_
          refine gg_iconst (v := 1) C dL_build_139 (by decide) ?_
          refine gg_iload C dL_build_140 rfl ?_
          refine gg_iconst (v := 5) C dL_build_142 (by decide) ?_
          refine gg_ishr C dL_build_143 ?_
          refine gg_iload C dL_build_144 rfl ?_
          refine gg_bipush (v := 9) C dL_build_146 (by decide) ?_
          refine gg_ishr C dL_build_148 ?_
          refine gg_iconst (v := 2) C dL_build_149 (by decide) ?_
          refine gg_callP (v := bel (x >>> (9 &&& 31)) 2) C mf_L_below (gt_L_below (by decide)) EB.tt EM.tt (fun _ h9 => Or.inr h9) q_m_L_18 rfl rfl (Nat.le_of_ble_eq_true rfl) (by exact ⟨Nat.le_of_ble_eq_true rfl, Nat.le_of_ble_eq_true rfl⟩) (by exact ⟨by show _ ≤ 100; omega, by show _ ≤ 600; omega⟩) dL_build_150 ?_
          have K162 : ∀ gg : Nat, (gg = 9 ∨ gg = 2) → GW g p l e (rK 8 100 600) s m ([.ref (gB g + 0), .ref b, .int 7] : List Value).toArray below meth c 13 (wc g h ++ (sx g A k 0 r ++ [cI g q0 10 (upd (upd (upd (upd (fun _ => 0) 0 (nI a0)) 1 (nI a1)) 2 (nI a2)) 3 (nI (a3 + 1)))])) (FF (AG g) s.heap.size) [(0, .ref (gB g + 0)), (1, .ref b), (3, .ref (A 1)), (4, .int (nI P)), (5, .int (nI i)), (6, .int x)] ((14 + 3 * i) + 1) ((45 + 27 * i) + 10) Q 162 [.int (nI gg), .int (x >>> (5 &&& 31)), .int 1, .int 4, .ref q0, .ref q0] := by
            intro gg hgg
            refine gg_callP (v := bel (x >>> (5 &&& 31)) (nI gg)) C mf_L_below (gt_L_below (fun z => absurd ((nI_eq (a := gg) (b := 0) (by omega) (by omega)).mp z) (by omega))) EB.tt EM.tt (fun _ h9 => Or.inr h9) q_m_L_18 rfl rfl (Nat.le_of_ble_eq_true rfl) (by exact ⟨Nat.le_of_ble_eq_true rfl, Nat.le_of_ble_eq_true rfl⟩) (by exact ⟨by show _ ≤ 100; omega, by show _ ≤ 600; omega⟩) dL_build_162 ?_
            obtain ⟨a4, ha4, ea4⟩ := bel_is (x := (x >>> (5 &&& 31))) (N := gg) (by omega) (by omega)
            refine gg_top (show bel (x >>> (5 &&& 31)) (nI gg) = nI a4 from ea4) ?_
            refine gg_iadd C dL_build_165 ?_
            refine gg_top (y := nI (a4 + 1)) (by rw [show (1 : Int32) = nI 1 from rfl, nI_add, Nat.add_comm]) ?_
            refine gs_ystI (j := 4) C 0 rfl (by decide) (by omega) (by omega) dL_build_166 ?_
            refine gg_dup C dL_build_167 rfl ?_
            refine gg_iconst (v := 5) C dL_build_168 (by decide) ?_
            refine gg_iconst (v := 0) C dL_build_169 (by decide) ?_
            refine gs_ystI (j := 5) C 0 rfl (by decide) (by omega) (by omega) dL_build_170 ?_
            refine gg_dup C dL_build_171 rfl ?_
            refine gg_bipush (v := 6) C dL_build_172 (by decide) ?_
            refine gg_iconst (v := 0) C dL_build_174 (by decide) ?_
            refine gs_ystI (j := 6) C 0 rfl (by decide) (by omega) (by omega) dL_build_175 ?_
            refine gg_dup C dL_build_176 rfl ?_
            refine gg_bipush (v := 7) C dL_build_177 (by decide) ?_
            refine gg_iconst (v := 0) C dL_build_179 (by decide) ?_
            refine gs_ystI (j := 7) C 0 rfl (by decide) (by omega) (by omega) dL_build_180 ?_
            refine gg_dup C dL_build_181 rfl ?_
            refine gg_bipush (v := 8) C dL_build_182 (by decide) ?_
            refine gg_iconst (v := (-1)) C dL_build_184 (by decide) ?_
            refine gs_ystI (j := 8) C 0 rfl (by decide) (by omega) (by omega) dL_build_185 ?_
            refine gg_dup C dL_build_186 rfl ?_
            refine gg_bipush (v := 9) C dL_build_187 (by decide) ?_
            refine gg_iconst (v := 0) C dL_build_189 (by decide) ?_
            refine gs_ystI (j := 9) C 0 rfl (by decide) (by omega) (by omega) dL_build_190 ?_
            obtain ⟨fb, hfb, b0, b1, b2, b3, b4, b5, b6, b7, b8, b9⟩ : ∃ fb : Nat → Int32, upd (upd (upd (upd (upd (upd (upd (upd (upd (upd (fun _ => 0) 0 (nI a0)) 1 (nI a1)) 2 (nI a2)) 3 (nI (a3 + 1))) 4 (nI (a4 + 1))) 5 0) 6 0) 7 0) 8 (-1)) 9 0 = fb ∧ fb 0 = nI a0 ∧ fb 1 = nI a1 ∧ fb 2 = nI a2 ∧ fb 3 = nI (a3 + 1) ∧ fb 4 = nI (a4 + 1) ∧ fb 5 = 0 ∧ fb 6 = 0 ∧ fb 7 = 0 ∧ fb 8 = -1 ∧ fb 9 = 0 := ⟨_, rfl, rfl, rfl, rfl, rfl, rfl, rfl, rfl, rfl, rfl, rfl⟩
            refine gg_ls (wc g h ++ (sx g A k 0 r ++ [cI g q0 10 fb])) (by rw [← hfb]; rfl) ?_
            refine gg_astore C dL_build_191 (by decide) ?_
            refine gg_iconst (v := 1) C dL_build_193 (by decide) ?_
            refine gg_istore C dL_build_194 (by decide) ?_
            refine gg_aload_n C dL_build_196 3 rfl rfl ?_
            refine gs_pon C hn q_f_L_22 dL_build_197 ?_
            refine gg_astore C dL_build_200 (by decide) ?_
            refine gg_aload C dL_build_202 rfl ?_
            refine gs_lenP C hn dL_build_204 ?_
            refine gg_istore C dL_build_205 (by decide) ?_
            refine gg_iconst (v := 0) C dL_build_207 (by decide) ?_
            refine gg_istore C dL_build_208 (by decide) ?_
            have hl : ∀ (fu2 j : Nat), j ≤ k → k < fu2 + j → ∀ v : Int32, (v = 1 ∧ ∀ o, o < j → ¬ (r (15 + o) 0 = fb 0 ∧ r (15 + o) 1 = fb 1)) ∨ v = 0 → (v = 0 → 1 ≤ k) → GW g p l e (rK 8 100 600) s m ([.ref (gB g + 0), .ref b, .int 7] : List Value).toArray below meth c 13 (wc g h ++ (sx g A k 0 r ++ [cI g q0 10 fb])) (FF (AG g) s.heap.size) [(0, .ref (gB g + 0)), (1, .ref b), (3, .ref (A 1)), (4, .int (nI P)), (5, .int (nI i)), (6, .int x), (7, .ref q0), (8, .int v), (9, .ref (A 13)), (10, .int (nI k)), (11, .int (nI j))] ((14 + 3 * i) + 1) ((45 + 27 * i) + 10) Q 210 [] := by
              intro fu2
              induction fu2 with
              | zero => intro j h1 h2; omega
              | succ fu2 ih2 =>
                intro j hj9 hfu2 v hv hv0
                refine gg_iload C dL_build_210 rfl ?_
                refine gg_iload C dL_build_212 rfl ?_
                refine gg_icmp_ge C dL_build_214 264 (by decide) (fun q9 => ?_) (fun q9 => ?_)
                · have hjn := lp_exit rfl q9 hj9 (by omega)
                  subst hjn
                  refine gg_iload C dL_build_264 rfl ?_
                  have hk01 : v = 0 → 1 ≤ k := hv0
                  refine gg_if_ne C dL_build_266 272 (by decide) (fun c266 => ?_) (fun c266 => ?_)
                  · have hfree : ∀ o, o < k → ¬ (r (15 + o) 0 = nI a0 ∧ r (15 + o) 1 = nI a1) := by
                      rcases hv with y | y
                      · rw [← b0, ← b1]; exact y.2
                      · exact absurd y c266
                    refine gg_aload_n C dL_build_272 0 rfl rfl ?_
                    refine gg_aload C dL_build_273 rfl ?_
                    refine gg_iconst (v := 0) C dL_build_275 (by decide) ?_
                    refine gs_yldI (j := 0) C 0 rfl (by decide) (by omega) (by omega) dL_build_276 ?_
                    refine gg_top (y := nI a0) (b0) ?_
                    refine gg_aload C dL_build_277 rfl ?_
                    refine gg_iconst (v := 1) C dL_build_279 (by decide) ?_
                    refine gs_yldI (j := 1) C 0 rfl (by decide) (by omega) (by omega) dL_build_280 ?_
                    refine gg_top (y := nI a1) (b1) ?_
                    refine gg_aload C dL_build_281 rfl ?_
                    refine gg_iconst (v := 2) C dL_build_283 (by decide) ?_
                    refine gs_yldI (j := 2) C 0 rfl (by decide) (by omega) (by omega) dL_build_284 ?_
                    refine gg_top (y := nI a2) (b2) ?_
                    refine gg_aload C dL_build_285 rfl ?_
                    refine gg_iconst (v := 3) C dL_build_287 (by decide) ?_
                    refine gs_yldI (j := 3) C 0 rfl (by decide) (by omega) (by omega) dL_build_288 ?_
                    refine gg_top (y := nI (a3 + 1)) (b3) ?_
                    refine gg_aload C dL_build_289 rfl ?_
                    refine gg_iconst (v := 4) C dL_build_291 (by decide) ?_
                    refine gs_yldI (j := 4) C 0 rfl (by decide) (by omega) (by omega) dL_build_292 ?_
                    refine gg_top (y := nI (a4 + 1)) (b4) ?_
                    obtain ⟨h2, h3, ex, elo, T3, R3⟩ := lw_dig hT.1 hT.2.1 (show k < 10 by omega) (show a0 ≤ 40 by omega) (show a1 ≤ 40 by omega) (show a2 ≤ 300 by omega) (show 1 ≤ a3 + 1 ∧ a3 + 1 ≤ 60 by omega) (show 1 ≤ a4 + 1 ∧ a4 + 1 ≤ 9 by omega) hfree b0 b1 b2 b3 b4 b5 b6 b7 b8 b9
                    refine gg_ls (wl g (sx g A k 0 r ++ [cI g q0 10 fb]) h) rfl ?_
                    refine gc_callX (As := [.int (nI a0), .int (nI a1), .int (nI a2), .int (nI (a3 + 1)), .int (nI (a4 + 1))]) C hE mf_X4_dig (xt_X4_dig hst hT.1.2.1) ex q_m_L_26 rfl rfl rfl (Nat.le_of_ble_eq_true rfl) (by exact ⟨Nat.le_of_ble_eq_true rfl, Nat.le_of_ble_eq_true rfl⟩) (by exact ⟨by show _ ≤ 100; omega, by show _ ≤ 600; omega⟩) dL_build_293 ?_
                    refine gg_ls (wc g h3 ++ (sx g A k 0 r ++ [cI g q0 10 fb])) (wl_lo elo) ?_
                    refine gg_aload_n C dL_build_296 3 rfl rfl ?_
                    refine gs_pon C hn q_f_L_22 dL_build_297 ?_
                    refine gs_lenP C hn dL_build_300 ?_
                    refine gg_icmp_eq C dL_build_301 306 (by decide) (fun _ => ?_) (fun z9 => absurd rfl z9)
                    refine gg_aload_n C dL_build_306 3 rfl rfl ?_
                    refine gg_aload_n C dL_build_307 3 rfl rfl ?_
                    refine gs_pon C hn q_f_L_22 dL_build_308 ?_
                    refine gg_aload C dL_build_311 rfl ?_
                    refine gs_moreP C hn (by omega) (fun _ h9 => Or.inr h9) q_m_L_32 (Nat.le_of_ble_eq_true rfl) (by exact ⟨Nat.le_of_ble_eq_true rfl, Nat.le_of_ble_eq_true rfl⟩) (by exact ⟨by show _ ≤ 100; omega, by show _ ≤ 600; omega⟩) dL_build_313 (fun q2 => ?_)
                    refine gg_put (T := TX5) (N := 5) C _ (sl_get hn (o := 1) (Or.inl ⟨by omega, by omega⟩)) rfl inX5 tyX5 tyX5_ok nmX5 3 (by decide) q_f_L_22 rfl rfl rfl (Nat.le_of_ble_eq_true rfl) dL_build_316 ?_
                    refine gr_P (q := q0) (q2 := q2) (fb := fb) (show k < 10 by omega) ?_
                    refine gg_iinc (v := nI (i + 1)) C dL_build_319 rfl (nI_inc _) (by decide) ?_
                    refine gg_goto C dL_build_322 24 (by decide) ?_
                    refine gg_wide (14 + 3 * (i + 1)) (45 + 27 * (i + 1)) (by omega) (by omega) ?_
                    refine gg_lv [(0, .ref (gB g + 0)), (1, .ref b), (3, .ref (adP A k q0 q2 1)), (4, .int (nI P)), (5, .int (nI (i + 1)))] ⟨rfl, rfl, (by show some (Value.ref (A 1)) = some (Value.ref (adP A k q0 q2 1)); unfold adP; rw [if_neg (by omega), if_neg (by omega)]), rfl, rfl, trivial⟩ ?_
                    exact ih (i + 1) hi (by omega) (adP A k q0 q2) (k + 1) h3 _ (by omega) (fun _ => by omega) ⟨T3, R3, hT.2.2.new b9⟩ ⟨fun o ho => by
                      by_cases eo : o = k
                      · subst eo; rw [hp_row_eq]; exact ⟨b5, b8⟩
                      · rw [hp_row_ne (by omega)]; exact hW.1 o (by omega), fun o cc ho hc => by rw [hp_row_ne (by omega)]; exact hW.2 o cc ho hc⟩
                  · refine gg_goto C dL_build_269 319 (by decide) ?_
                    refine gg_sub (L2 := wc g h ++ (sx g A k 0 r ++ [])) (List.Sublist.append_left (List.Sublist.append_left (List.nil_sublist _) _) _) ?_
                    refine gg_iinc (v := nI (i + 1)) C dL_build_319 rfl (nI_inc _) (by decide) ?_
                    refine gg_goto C dL_build_322 24 (by decide) ?_
                    refine gg_wide (14 + 3 * (i + 1)) (45 + 27 * (i + 1)) (by omega) (by omega) ?_
                    refine gg_lv [(0, .ref (gB g + 0)), (1, .ref b), (3, .ref (A 1)), (4, .int (nI P)), (5, .int (nI (i + 1)))] ⟨rfl, rfl, rfl, rfl, rfl, trivial⟩ ?_
                    exact ih (i + 1) hi (by omega) A k h r (by omega) (fun _ => hk01 c266) hT hW
                · have hj := lp_body rfl q9 hj9 (by omega)
                  refine gg_aload C dL_build_217 rfl ?_
                  refine gg_iload C dL_build_219 rfl ?_
                  refine gs_aldP (j := j) C hn rfl hj dL_build_221 ?_
                  refine gg_astore C dL_build_222 (by decide) ?_
                  refine gg_iload C dL_build_224 rfl ?_
                  refine gg_if_eq C dL_build_226 255 (by decide) (fun c226 => ?_) (fun c226 => ?_)
                  · refine gg_iconst (v := 0) C dL_build_255 (by decide) ?_
                    refine gg_istore C dL_build_256 (by decide) ?_
                    refine gg_iinc (v := nI (j + 1)) C dL_build_258 rfl (nI_inc _) (by decide) ?_
                    refine gg_goto C dL_build_261 210 (by decide) ?_
                    refine gg_lv [(0, .ref (gB g + 0)), (1, .ref b), (3, .ref (A 1)), (4, .int (nI P)), (5, .int (nI i)), (6, .int x), (7, .ref q0), (8, .int 0), (9, .ref (A 13)), (10, .int (nI k)), (11, .int (nI (j + 1)))] ⟨rfl, rfl, rfl, rfl, rfl, rfl, rfl, rfl, rfl, rfl, rfl, trivial⟩ ?_
                    exact ih2 (j + 1) hj (by omega) 0 (Or.inr rfl) (fun y => by omega)
                  · have hv1 : v = 1 ∧ ∀ o, o < j → ¬ (r (15 + o) 0 = fb 0 ∧ r (15 + o) 1 = fb 1) := hv.resolve_right c226
                    refine gg_aload C dL_build_229 rfl ?_
                    refine gg_iconst (v := 0) C dL_build_231 (by decide) ?_
                    refine gs_ld (o := 15 + j) (k := 0) C hn (by decide) (by unfold sW; omega) dL_build_232 ?_
                    refine gg_aload C dL_build_233 rfl ?_
                    refine gg_iconst (v := 0) C dL_build_235 (by decide) ?_
                    refine gs_yldI (j := 0) C 0 rfl (by decide) (by omega) (by omega) dL_build_236 ?_
                    refine gg_icmp_ne C dL_build_237 251 (by decide) (fun c237 => ?_) (fun c237 => ?_)
                    · refine gg_iconst (v := 1) C dL_build_251 (by decide) ?_
                      refine gg_goto C dL_build_252 256 (by decide) ?_
                      refine gg_istore C dL_build_256 (by decide) ?_
                      refine gg_iinc (v := nI (j + 1)) C dL_build_258 rfl (nI_inc _) (by decide) ?_
                      refine gg_goto C dL_build_261 210 (by decide) ?_
                      refine gg_lv [(0, .ref (gB g + 0)), (1, .ref b), (3, .ref (A 1)), (4, .int (nI P)), (5, .int (nI i)), (6, .int x), (7, .ref q0), (8, .int 1), (9, .ref (A 13)), (10, .int (nI k)), (11, .int (nI (j + 1)))] ⟨rfl, rfl, rfl, rfl, rfl, rfl, rfl, rfl, rfl, rfl, rfl, trivial⟩ ?_
                      exact ih2 (j + 1) hj (by omega) 1 (Or.inl ⟨rfl, fun o ho => by
                        by_cases eo : o = j
                        · subst eo; exact fun y => c237 y.1
                        · exact hv1.2 o (by omega)⟩) (fun y => absurd y (by decide))
                    · refine gg_aload C dL_build_240 rfl ?_
                      refine gg_iconst (v := 1) C dL_build_242 (by decide) ?_
                      refine gs_ld (o := 15 + j) (k := 1) C hn (by decide) (by unfold sW; omega) dL_build_243 ?_
                      refine gg_aload C dL_build_244 rfl ?_
                      refine gg_iconst (v := 1) C dL_build_246 (by decide) ?_
                      refine gs_yldI (j := 1) C 0 rfl (by decide) (by omega) (by omega) dL_build_247 ?_
                      refine gg_icmp_eq C dL_build_248 255 (by decide) (fun c248 => ?_) (fun c248 => ?_)
                      · refine gg_iconst (v := 0) C dL_build_255 (by decide) ?_
                        refine gg_istore C dL_build_256 (by decide) ?_
                        refine gg_iinc (v := nI (j + 1)) C dL_build_258 rfl (nI_inc _) (by decide) ?_
                        refine gg_goto C dL_build_261 210 (by decide) ?_
                        refine gg_lv [(0, .ref (gB g + 0)), (1, .ref b), (3, .ref (A 1)), (4, .int (nI P)), (5, .int (nI i)), (6, .int x), (7, .ref q0), (8, .int 0), (9, .ref (A 13)), (10, .int (nI k)), (11, .int (nI (j + 1)))] ⟨rfl, rfl, rfl, rfl, rfl, rfl, rfl, rfl, rfl, rfl, rfl, trivial⟩ ?_
                        exact ih2 (j + 1) hj (by omega) 0 (Or.inr rfl) (fun y => by omega)
                      · refine gg_iconst (v := 1) C dL_build_251 (by decide) ?_
                        refine gg_goto C dL_build_252 256 (by decide) ?_
                        refine gg_istore C dL_build_256 (by decide) ?_
                        refine gg_iinc (v := nI (j + 1)) C dL_build_258 rfl (nI_inc _) (by decide) ?_
                        refine gg_goto C dL_build_261 210 (by decide) ?_
                        refine gg_lv [(0, .ref (gB g + 0)), (1, .ref b), (3, .ref (A 1)), (4, .int (nI P)), (5, .int (nI i)), (6, .int x), (7, .ref q0), (8, .int 1), (9, .ref (A 13)), (10, .int (nI k)), (11, .int (nI (j + 1)))] ⟨rfl, rfl, rfl, rfl, rfl, rfl, rfl, rfl, rfl, rfl, rfl, trivial⟩ ?_
                        exact ih2 (j + 1) hj (by omega) 1 (Or.inl ⟨rfl, fun o ho => by
                          by_cases eo : o = j
                          · subst eo; exact fun y => c248 y.2
                          · exact hv1.2 o (by omega)⟩) (fun y => absurd y (by decide))
            refine gg_lv [(0, .ref (gB g + 0)), (1, .ref b), (3, .ref (A 1)), (4, .int (nI P)), (5, .int (nI i)), (6, .int x), (7, .ref q0), (8, .int 1), (9, .ref (A 13)), (10, .int (nI k)), (11, .int (nI 0))] ⟨rfl, rfl, rfl, rfl, rfl, rfl, rfl, rfl, rfl, rfl, rfl, trivial⟩ ?_
            exact hl (k + 1) 0 (Nat.zero_le _) (by omega) 1 (Or.inl ⟨rfl, fun o ho => absurd ho (Nat.not_lt_zero o)⟩) (fun y => absurd y (by decide))
          refine gg_if_ne C dL_build_153 161 (by decide) (fun c153 => ?_) (fun c153 => ?_)
          · refine gg_iconst (v := 2) C dL_build_161 (by decide) ?_
            refine gg_lv [(0, .ref (gB g + 0)), (1, .ref b), (3, .ref (A 1)), (4, .int (nI P)), (5, .int (nI i)), (6, .int x)] ⟨rfl, rfl, rfl, rfl, rfl, rfl, trivial⟩ ?_
            exact K162 2 (Or.inr rfl)
          · refine gg_bipush (v := 9) C dL_build_156 (by decide) ?_
            refine gg_goto C dL_build_158 162 (by decide) ?_
            refine gg_lv [(0, .ref (gB g + 0)), (1, .ref b), (3, .ref (A 1)), (4, .int (nI P)), (5, .int (nI i)), (6, .int x)] ⟨rfl, rfl, rfl, rfl, rfl, rfl, trivial⟩ ?_
            exact K162 9 (Or.inl rfl)
        refine gg_if_ne C dL_build_109 118 (by decide) (fun c109 => ?_) (fun c109 => ?_)
        · refine gg_iconst (v := 4) C dL_build_118 (by decide) ?_
          refine gg_lv [(0, .ref (gB g + 0)), (1, .ref b), (3, .ref (A 1)), (4, .int (nI P)), (5, .int (nI i)), (6, .int x)] ⟨rfl, rfl, rfl, rfl, rfl, rfl, trivial⟩ ?_
          exact K119 4 (Or.inr rfl)
        · refine gg_sipush (v := 301) C dL_build_112 (by decide) ?_
          refine gg_goto C dL_build_115 119 (by decide) ?_
          refine gg_lv [(0, .ref (gB g + 0)), (1, .ref b), (3, .ref (A 1)), (4, .int (nI P)), (5, .int (nI i)), (6, .int x)] ⟨rfl, rfl, rfl, rfl, rfl, rfl, trivial⟩ ?_
          exact K119 301 (Or.inl rfl)
      refine gg_if_ne C dL_build_81 89 (by decide) (fun c81 => ?_) (fun c81 => ?_)
      · refine gg_iconst (v := 5) C dL_build_89 (by decide) ?_
        refine gg_lv [(0, .ref (gB g + 0)), (1, .ref b), (3, .ref (A 1)), (4, .int (nI P)), (5, .int (nI i)), (6, .int x)] ⟨rfl, rfl, rfl, rfl, rfl, rfl, trivial⟩ ?_
        exact K90 5 (Or.inr rfl)
      · refine gg_bipush (v := 41) C dL_build_84 (by decide) ?_
        refine gg_goto C dL_build_86 90 (by decide) ?_
        refine gg_lv [(0, .ref (gB g + 0)), (1, .ref b), (3, .ref (A 1)), (4, .int (nI P)), (5, .int (nI i)), (6, .int x)] ⟨rfl, rfl, rfl, rfl, rfl, rfl, trivial⟩ ?_
        exact K90 41 (Or.inl rfl)
