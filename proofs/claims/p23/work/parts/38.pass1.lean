theorem ps_mist {g : gW} {p : Program} {l : Launch} {e : Env} {s : State} {m : MethodId} {below : List Frame} {meth : Method} {c : Code} {A : Ad} {n f : Nat} {r : Hp} {Q : State → Prop} {w : Nat} (hw : 3 ≤ w ∧ w < 13) (C : CG g p s m ([.ref (A 1)] : List Value).toArray meth c cX5_pass 9 RX5) (hn : n ≤ 10) (K : GW g p l e (rK 3 1 10) s m ([.ref (A 1)] : List Value).toArray below meth c 9 ([] ++ (sx g A n f (s_h1 n w r) ++ [])) (FF (SF A n f) s.heap.size) [(0, .ref (A 1)), (1, .ref (A w)), (2, .int 0)] 0 0 Q 96 []) : GW g p l e (rK 3 1 10) s m ([.ref (A 1)] : List Value).toArray below meth c 9 ([] ++ (sx g A n f r ++ [])) (FF (SF A n f) s.heap.size) [(0, .ref (A 1)), (1, .ref (A w))] 0 0 Q 13 [] := by
  have hl : ∀ (fu j : Nat), j ≤ n → n < fu + j → GW g p l e (rK 3 1 10) s m ([.ref (A 1)] : List Value).toArray below meth c 9 ([] ++ (sx g A n f (fd (s_mist w) r j) ++ [])) (FF (SF A n f) s.heap.size) [(0, .ref (A 1)), (1, .ref (A w)), (2, .int 0), (3, .ref (A 13)), (4, .int (nI n)), (5, .int (nI j))] 0 0 Q 27 [] := by
    intro fu
    induction fu with
    | zero => intro j h1 h2; omega
    | succ fu ih =>
      intro j hj9 hfu
      refine gg_iload C dX5_pass_27 rfl ?_
      refine gg_iload C dX5_pass_29 rfl ?_
      refine gg_icmp_ge C dX5_pass_31 96 (by decide) (fun q9 => ?_) (fun q9 => ?_)
      · have hjn := lp_exit rfl q9 hj9 (by omega)
        subst hjn
        refine gg_lv [(0, .ref (A 1)), (1, .ref (A w)), (2, .int 0)] ⟨rfl, rfl, rfl, trivial⟩ ?_
        exact K
      · have hj := lp_body rfl q9 hj9 (by omega)
        refine gg_aload_n C dX5_pass_34 3 rfl rfl ?_
        refine gg_iload C dX5_pass_35 rfl ?_
        refine gs_aldP (j := j) C hn rfl hj dX5_pass_37 ?_
        refine gg_astore C dX5_pass_38 (by decide) ?_
        refine gg_aload_n C dX5_pass_40 1 rfl rfl ?_
        refine gg_iconst (v := 0) C dX5_pass_41 (by decide) ?_
        refine gs_ld (o := w) (k := 0) C hn (by decide) (by unfold sW; omega) dX5_pass_42 ?_
        refine gg_aload C dX5_pass_43 rfl ?_
        refine gg_iconst (v := 3) C dX5_pass_45 (by decide) ?_
        refine gs_ld (o := 15 + j) (k := 3) C hn (by decide) (by unfold sW; omega) dX5_pass_46 ?_
        refine gg_imul C dX5_pass_47 ?_
        refine gg_iconst (v := 4) C dX5_pass_48 (by decide) ?_
        refine gg_idiv C dX5_pass_49 (by decide) ?_
        refine gg_istore C dX5_pass_50 (by decide) ?_
        refine gg_aload C dX5_pass_52 rfl ?_
        refine gg_iconst (v := 5) C dX5_pass_54 (by decide) ?_
        refine gg_dup2 C dX5_pass_55 rfl rfl ?_
        refine gs_ld (o := 15 + j) (k := 5) C hn (by decide) (by unfold sW; omega) dX5_pass_56 ?_
        refine gg_aload C dX5_pass_57 rfl ?_
        refine gg_iconst (v := 2) C dX5_pass_59 (by decide) ?_
        refine gs_ld (o := 15 + j) (k := 2) C hn (by decide) (by unfold sW; omega) dX5_pass_60 ?_
        refine gg_sipush (v := 150) C dX5_pass_61 (by decide) ?_
        refine gg_icmp_ge C dX5_pass_64 72 (by decide) (fun c64 => ?_) (fun c64 => ?_)
        · refine gg_iload C dX5_pass_72 rfl ?_
          refine gg_iload C dX5_pass_74 rfl ?_
          refine gg_iadd C dX5_pass_76 ?_
          refine gg_aload_n C dX5_pass_77 1 rfl rfl ?_
          refine gg_iconst (v := 1) C dX5_pass_78 (by decide) ?_
          refine gs_ld (o := w) (k := 1) C hn (by decide) (by unfold sW; omega) dX5_pass_79 ?_
          refine gg_aload C dX5_pass_80 rfl ?_
          refine gg_iconst (v := 3) C dX5_pass_82 (by decide) ?_
          refine gs_ld (o := 15 + j) (k := 3) C hn (by decide) (by unfold sW; omega) dX5_pass_83 ?_
          refine gg_imul C dX5_pass_84 ?_
          refine gg_iconst (v := 2) C dX5_pass_85 (by decide) ?_
          refine gg_idiv C dX5_pass_86 (by decide) ?_
          refine gg_iadd C dX5_pass_87 ?_
          refine gg_iadd C dX5_pass_88 ?_
          refine gs_st (o := 15 + j) (k := 5) C hn (by decide) (by unfold sW; omega) dX5_pass_89 ?_
          refine gg_iinc (v := nI (j + 1)) C dX5_pass_90 rfl (nI_inc _) (by decide) ?_
          refine gg_goto C dX5_pass_93 27 (by decide) ?_
          refine gg_lv [(0, .ref (A 1)), (1, .ref (A w)), (2, .int 0), (3, .ref (A 13)), (4, .int (nI n)), (5, .int (nI (j + 1)))] ⟨rfl, rfl, rfl, rfl, rfl, rfl, trivial⟩ ?_
          refine gs_r (r2 := fd (s_mist w) r (j + 1)) (by rw [fd_s]; generalize fd (s_mist w) r j = z9 at c64 ⊢; unfold s_mist; rw [if_neg (Int32.not_lt.mpr c64)]) ?_
          exact ih (j + 1) hj (by omega)
        · refine gg_iload C dX5_pass_67 rfl ?_
          refine gg_goto C dX5_pass_69 77 (by decide) ?_
          refine gg_aload_n C dX5_pass_77 1 rfl rfl ?_
          refine gg_iconst (v := 1) C dX5_pass_78 (by decide) ?_
          refine gs_ld (o := w) (k := 1) C hn (by decide) (by unfold sW; omega) dX5_pass_79 ?_
          refine gg_aload C dX5_pass_80 rfl ?_
          refine gg_iconst (v := 3) C dX5_pass_82 (by decide) ?_
          refine gs_ld (o := 15 + j) (k := 3) C hn (by decide) (by unfold sW; omega) dX5_pass_83 ?_
          refine gg_imul C dX5_pass_84 ?_
          refine gg_iconst (v := 2) C dX5_pass_85 (by decide) ?_
          refine gg_idiv C dX5_pass_86 (by decide) ?_
          refine gg_iadd C dX5_pass_87 ?_
          refine gg_iadd C dX5_pass_88 ?_
          refine gs_st (o := 15 + j) (k := 5) C hn (by decide) (by unfold sW; omega) dX5_pass_89 ?_
          refine gg_iinc (v := nI (j + 1)) C dX5_pass_90 rfl (nI_inc _) (by decide) ?_
          refine gg_goto C dX5_pass_93 27 (by decide) ?_
          refine gg_lv [(0, .ref (A 1)), (1, .ref (A w)), (2, .int 0), (3, .ref (A 13)), (4, .int (nI n)), (5, .int (nI (j + 1)))] ⟨rfl, rfl, rfl, rfl, rfl, rfl, trivial⟩ ?_
          refine gs_r (r2 := fd (s_mist w) r (j + 1)) (by rw [fd_s]; generalize fd (s_mist w) r j = z9 at c64 ⊢; unfold s_mist; rw [if_pos (Int32.not_le.mp c64)]) ?_
          exact ih (j + 1) hj (by omega)
  refine gg_iconst (v := 0) C dX5_pass_13 (by decide) ?_
  refine gg_istore_n C dX5_pass_14 2 rfl (by decide) ?_
  refine gg_aload_n C dX5_pass_15 0 rfl rfl ?_
  refine gs_pon C hn q_f_X5_20 dX5_pass_16 ?_
  refine gg_astore_n C dX5_pass_19 3 rfl (by decide) ?_
  refine gg_aload_n C dX5_pass_20 3 rfl rfl ?_
  refine gs_lenP C hn dX5_pass_21 ?_
  refine gg_istore C dX5_pass_22 (by decide) ?_
  refine gg_iconst (v := 0) C dX5_pass_24 (by decide) ?_
  refine gg_istore C dX5_pass_25 (by decide) ?_
  refine gg_lv [(0, .ref (A 1)), (1, .ref (A w)), (2, .int 0), (3, .ref (A 13)), (4, .int (nI n)), (5, .int (nI 0))] ⟨rfl, rfl, rfl, rfl, rfl, rfl, trivial⟩ ?_
  exact hl (n + 1) 0 (Nat.zero_le _) (by omega)
theorem ps_flock {g : gW} {p : Program} {l : Launch} {e : Env} {s : State} {m : MethodId} {below : List Frame} {meth : Method} {c : Code} {A : Ad} {n f : Nat} {r : Hp} {Q : State → Prop} {w : Nat} (C : CG g p s m ([.ref (A 1)] : List Value).toArray meth c cX5_pass 9 RX5) (hn : n ≤ 10) (hf : f ≤ 10) (H : OKS n f r) (K : GW g p l e (rK 3 1 10) s m ([.ref (A 1)] : List Value).toArray below meth c 9 ([] ++ (sx g A n f (fd (s_flock n) r f) ++ [])) (FF (SF A n f) s.heap.size) [(0, .ref (A 1)), (1, .ref (A w)), (2, .int (s_drunk n r f))] 0 0 Q 301 []) : GW g p l e (rK 3 1 10) s m ([.ref (A 1)] : List Value).toArray below meth c 9 ([] ++ (sx g A n f r ++ [])) (FF (SF A n f) s.heap.size) [(0, .ref (A 1)), (1, .ref (A w)), (2, .int 0)] 0 0 Q 96 [] := by
  have hl : ∀ (fu j : Nat), j ≤ f → f < fu + j → GW g p l e (rK 3 1 10) s m ([.ref (A 1)] : List Value).toArray below meth c 9 ([] ++ (sx g A n f (fd (s_flock n) r j) ++ [])) (FF (SF A n f) s.heap.size) [(0, .ref (A 1)), (1, .ref (A w)), (2, .int (s_drunk n r j)), (3, .ref (A 25)), (4, .int (nI f)), (5, .int (nI j))] 0 0 Q 108 [] := by
    intro fu
    induction fu with
    | zero => intro j h1 h2; omega
    | succ fu ih =>
      intro j hj9 hfu
      refine gg_iload C dX5_pass_108 rfl ?_
      refine gg_iload C dX5_pass_110 rfl ?_
      refine gg_icmp_ge C dX5_pass_112 301 (by decide) (fun q9 => ?_) (fun q9 => ?_)
      · have hjn := lp_exit rfl q9 hj9 (by omega)
        subst hjn
        refine gg_lv [(0, .ref (A 1)), (1, .ref (A w)), (2, .int (s_drunk n r f))] ⟨rfl, rfl, rfl, trivial⟩ ?_
        exact K
      · have hj := lp_body rfl q9 hj9 (by omega)
        have Hj := H.h2 hn j hj9
        refine gg_aload_n C dX5_pass_115 3 rfl rfl ?_
        refine gg_iload C dX5_pass_116 rfl ?_
        refine gs_aldF (j := j) C hn hf rfl hj dX5_pass_118 ?_
        refine gg_astore C dX5_pass_119 (by decide) ?_
        refine gg_aload C dX5_pass_121 rfl ?_
        refine gg_iconst (v := 2) C dX5_pass_123 (by decide) ?_
        refine gs_ld (o := 26 + j) (k := 2) C hn (by decide) (by unfold sW; omega) dX5_pass_124 ?_
        refine gg_bipush (v := 10) C dX5_pass_125 (by decide) ?_
        refine gg_icmp_ne C dX5_pass_127 133 (by decide) (fun c127 => ?_) (fun c127 => ?_)
        · have Hg := Hj.go hn hj
          refine gg_aload C dX5_pass_133 rfl ?_
          refine gg_iconst (v := 1) C dX5_pass_135 (by decide) ?_
          refine gg_aload_n C dX5_pass_136 0 rfl rfl ?_
          refine gg_aload C dX5_pass_137 rfl ?_
          refine gg_callV (A := []) (B := []) (q := (RX5, TX5, 5)) (ci := 5) C mf_X5_to (gt_X5_to hn hf hj (Hj.2 j hj)) EB.tt EM.tt sx_mem (sx_hG hn (fun _ h9 => Or.inr h9)) (sx_hap hn) q_m_X5_44 rfl rfl (sJ n 1) (sx_get hn (Or.inl ⟨by omega, by omega⟩)) rfl rfl (Nat.le_of_ble_eq_true rfl) (by exact ⟨Nat.le_of_ble_eq_true rfl, Nat.le_of_ble_eq_true rfl⟩) (by exact ⟨Nat.le_of_ble_eq_true rfl, Nat.le_of_ble_eq_true rfl⟩) dX5_pass_139 (fun v9 L9 N9 hp9 => ?_)
          obtain ⟨rfl, rfl, rfl⟩ := hp9
          refine gg_ls ([] ++ (sx g A n f (fd (s_flock n) r j) ++ [])) (by rw [List.append_nil]) ?_
          refine gs_st (o := 26 + j) (k := 1) C hn (by decide) (by unfold sW; omega) dX5_pass_142 ?_
          refine gs_r (r2 := s_go (fd (s_flock n) r j) n (26 + j)) rfl ?_
          have hpa := s_pa_at Hg hn hj
          generalize hr1 : s_go (fd (s_flock n) r j) n (26 + j) = r1 at Hg hpa ⊢
          have epa : s_pa r1 (26 + j) = 15 + (r1 (26 + j) 1).toNatClampNeg := rfl
          generalize ea : (r1 (26 + j) 1).toNatClampNeg = a at hpa epa
          refine gg_aload_n C dX5_pass_143 0 rfl rfl ?_
          refine gs_pon C hn q_f_X5_20 dX5_pass_144 ?_
          refine gg_aload C dX5_pass_147 rfl ?_
          refine gg_iconst (v := 1) C dX5_pass_149 (by decide) ?_
          refine gs_ld (o := 26 + j) (k := 1) C hn (by decide) (by unfold sW; omega) dX5_pass_150 ?_
          refine gs_aldP (j := a) C hn hpa.1 hpa.2 dX5_pass_151 ?_
          refine gg_astore C dX5_pass_152 (by decide) ?_
          refine gg_aload C dX5_pass_154 rfl ?_
          refine gg_iconst (v := 5) C dX5_pass_156 (by decide) ?_
          refine gs_ld (o := 15 + a) (k := 5) C hn (by decide) (by unfold sW; omega) dX5_pass_157 ?_
          refine gg_iconst (v := 2) C dX5_pass_158 (by decide) ?_
          refine gg_aload C dX5_pass_159 rfl ?_
          refine gg_iconst (v := 0) C dX5_pass_161 (by decide) ?_
          refine gs_ld (o := 26 + j) (k := 0) C hn (by decide) (by unfold sW; omega) dX5_pass_162 ?_
          refine gg_imul C dX5_pass_163 ?_
          have K180 : ∀ v : Int32, v = s_its r1 (26 + j) (15 + a) → GW g p l e (rK 3 1 10) s m ([.ref (A 1)] : List Value).toArray below meth c 9 ([] ++ (sx g A n f r1 ++ [])) (FF (SF A n f) s.heap.size) [(0, .ref (A 1)), (1, .ref (A w)), (2, .int (s_drunk n r j)), (3, .ref (A 25)), (4, .int (nI f)), (5, .int (nI j)), (6, .ref (A (26 + j))), (7, .ref (A (15 + a)))] 0 0 Q 180 [.int v] := by
            intro v hv
            refine gg_istore C dX5_pass_180 (by decide) ?_
            refine gg_aload C dX5_pass_182 rfl ?_
            refine gg_iconst (v := 5) C dX5_pass_184 (by decide) ?_
            refine gg_dup2 C dX5_pass_185 rfl rfl ?_
            refine gs_ld (o := 15 + a) (k := 5) C hn (by decide) (by unfold sW; omega) dX5_pass_186 ?_
            refine gg_iload C dX5_pass_187 rfl ?_
            refine gg_isub C dX5_pass_189 ?_
            refine gs_st (o := 15 + a) (k := 5) C hn (by decide) (by unfold sW; omega) dX5_pass_190 ?_
            refine gg_aload C dX5_pass_191 rfl ?_
            refine gg_iconst (v := 4) C dX5_pass_193 (by decide) ?_
            refine gg_dup2 C dX5_pass_194 rfl rfl ?_
            refine gs_ld (o := 26 + j) (k := 4) C hn (by decide) (by unfold sW; omega) dX5_pass_195 ?_
            refine gg_iload C dX5_pass_196 rfl ?_
            refine gg_iadd C dX5_pass_198 ?_
            refine gs_st (o := 26 + j) (k := 4) C hn (by decide) (by unfold sW; omega) dX5_pass_199 ?_
            refine gs_r (r2 := s_dr3 r1 (26 + j) (15 + a) v) rfl ?_
            refine gg_iload_n C dX5_pass_200 2 rfl rfl ?_
            refine gg_iload C dX5_pass_201 rfl ?_
            refine gg_iadd C dX5_pass_203 ?_
            refine gg_istore_n C dX5_pass_204 2 rfl (by decide) ?_
            refine gg_iload C dX5_pass_205 rfl ?_
            refine gg_iconst (v := 2) C dX5_pass_207 (by decide) ?_
            refine gg_aload C dX5_pass_208 rfl ?_
            refine gg_iconst (v := 0) C dX5_pass_210 (by decide) ?_
            refine gs_ld (o := 26 + j) (k := 0) C hn (by decide) (by unfold sW; omega) dX5_pass_211 ?_
            refine gg_imul C dX5_pass_212 ?_
            have K265 : GW g p l e (rK 3 1 10) s m ([.ref (A 1)] : List Value).toArray below meth c 9 ([] ++ (sx g A n f (s_dr4 (s_dr3 r1 (26 + j) (15 + a) v) (26 + j) v) ++ [])) (FF (SF A n f) s.heap.size) [(0, .ref (A 1)), (1, .ref (A w)), (2, .int ((s_drunk n r j) + v)), (3, .ref (A 25)), (4, .int (nI f)), (5, .int (nI j)), (6, .ref (A (26 + j))), (7, .ref (A (15 + a)))] 0 0 Q 265 [] := by
              refine gg_aload C dX5_pass_265 rfl ?_
              refine gg_bipush (v := 7) C dX5_pass_267 (by decide) ?_
              refine gs_ld (o := 15 + a) (k := 7) C hn (by decide) (by unfold sW; omega) dX5_pass_269 ?_
              refine gg_if_ne C dX5_pass_270 295 (by decide) (fun c270 => ?_) (fun c270 => ?_)
              · refine gg_iinc (v := nI (j + 1)) C dX5_pass_295 rfl (nI_inc _) (by decide) ?_
                refine gg_goto C dX5_pass_298 108 (by decide) ?_
                refine gg_lv [(0, .ref (A 1)), (1, .ref (A w)), (2, .int (s_drunk n r (j + 1))), (3, .ref (A 25)), (4, .int (nI f)), (5, .int (nI (j + 1)))] ⟨rfl, rfl, (congrArg (fun z => some (Value.int z)) (by rw [s_drunk_s]; unfold s_flockU; rw [if_neg c127, hr1, epa, ← hv])), rfl, rfl, rfl, trivial⟩ ?_
                refine gs_r (r2 := fd (s_flock n) r (j + 1)) (by rw [fd_s]; generalize fd (s_flock n) r j = z9 at c127 hr1 ⊢; unfold s_flock; rw [if_neg c127, hr1, epa]; unfold s_drink; rw [← hv]; unfold s_dr5; rw [if_neg c270]) ?_
                exact ih (j + 1) hj (by omega)
              · refine gg_aload C dX5_pass_273 rfl ?_
                refine gg_bipush (v := 6) C dX5_pass_275 (by decide) ?_
                refine gg_iconst (v := 0) C dX5_pass_277 (by decide) ?_
                refine gg_aload C dX5_pass_278 rfl ?_
                refine gg_bipush (v := 6) C dX5_pass_280 (by decide) ?_
                refine gs_ld (o := 15 + a) (k := 6) C hn (by decide) (by unfold sW; omega) dX5_pass_282 ?_
                refine gg_aload C dX5_pass_283 rfl ?_
                refine gg_iconst (v := 0) C dX5_pass_285 (by decide) ?_
                refine gs_ld (o := 26 + j) (k := 0) C hn (by decide) (by unfold sW; omega) dX5_pass_286 ?_
                refine gg_bipush (v := 10) C dX5_pass_287 (by decide) ?_
                refine gg_idiv C dX5_pass_289 (by decide) ?_
                refine gg_isub C dX5_pass_290 ?_
                refine gg_mmax C q_m_X5_48 (Nat.le_of_ble_eq_true rfl) (by first | exact Nat.le_of_ble_eq_true rfl | (simp only [List.map, List.sum]; decide)) (by first | exact Nat.le_of_ble_eq_true rfl | omega) (by first | exact Nat.le_of_ble_eq_true rfl | omega) dX5_pass_291 ?_
                refine gs_st (o := 15 + a) (k := 6) C hn (by decide) (by unfold sW; omega) dX5_pass_294 ?_
                refine gg_iinc (v := nI (j + 1)) C dX5_pass_295 rfl (nI_inc _) (by decide) ?_
                refine gg_goto C dX5_pass_298 108 (by decide) ?_
                refine gg_lv [(0, .ref (A 1)), (1, .ref (A w)), (2, .int (s_drunk n r (j + 1))), (3, .ref (A 25)), (4, .int (nI f)), (5, .int (nI (j + 1)))] ⟨rfl, rfl, (congrArg (fun z => some (Value.int z)) (by rw [s_drunk_s]; unfold s_flockU; rw [if_neg c127, hr1, epa, ← hv])), rfl, rfl, rfl, trivial⟩ ?_
                refine gs_r (r2 := fd (s_flock n) r (j + 1)) (by rw [fd_s]; generalize fd (s_flock n) r j = z9 at c127 hr1 ⊢; unfold s_flock; rw [if_neg c127, hr1, epa]; unfold s_drink; rw [← hv]; unfold s_dr5; rw [if_pos c270]) ?_
                exact ih (j + 1) hj (by omega)
            refine gg_icmp_ne C dX5_pass_213 241 (by decide) (fun c213 => ?_) (fun c213 => ?_)
            · refine gg_aload C dX5_pass_241 rfl ?_
              refine gg_iconst (v := 2) C dX5_pass_243 (by decide) ?_
              refine gg_aload C dX5_pass_244 rfl ?_
              refine gg_iconst (v := 2) C dX5_pass_246 (by decide) ?_
              refine gs_ld (o := 26 + j) (k := 2) C hn (by decide) (by unfold sW; omega) dX5_pass_247 ?_
              refine gg_bipush (v := 7) C dX5_pass_248 (by decide) ?_
              refine gg_icmp_le C dX5_pass_250 258 (by decide) (fun c250 => ?_) (fun c250 => ?_)
              · refine gg_aload C dX5_pass_258 rfl ?_
                refine gg_iconst (v := 2) C dX5_pass_260 (by decide) ?_
                refine gs_ld (o := 26 + j) (k := 2) C hn (by decide) (by unfold sW; omega) dX5_pass_261 ?_
                refine gg_iconst (v := 3) C dX5_pass_262 (by decide) ?_
                refine gg_iadd C dX5_pass_263 ?_
                refine gs_st (o := 26 + j) (k := 2) C hn (by decide) (by unfold sW; omega) dX5_pass_264 ?_
                refine gs_r (r2 := s_dr4 (s_dr3 r1 (26 + j) (15 + a) v) (26 + j) v) (by unfold s_dr4; rw [if_neg c213, if_neg (Int32.not_lt.mpr c250)]) ?_
                refine gg_lv [(0, .ref (A 1)), (1, .ref (A w)), (2, .int ((s_drunk n r j) + v)), (3, .ref (A 25)), (4, .int (nI f)), (5, .int (nI j)), (6, .ref (A (26 + j))), (7, .ref (A (15 + a)))] ⟨rfl, rfl, rfl, rfl, rfl, rfl, rfl, rfl, trivial⟩ ?_
                exact K265
              · refine gg_bipush (v := 10) C dX5_pass_253 (by decide) ?_
                refine gg_goto C dX5_pass_255 264 (by decide) ?_
                refine gs_st (o := 26 + j) (k := 2) C hn (by decide) (by unfold sW; omega) dX5_pass_264 ?_
                refine gs_r (r2 := s_dr4 (s_dr3 r1 (26 + j) (15 + a) v) (26 + j) v) (by unfold s_dr4; rw [if_neg c213, if_pos (Int32.not_le.mp c250)]) ?_
                refine gg_lv [(0, .ref (A 1)), (1, .ref (A w)), (2, .int ((s_drunk n r j) + v)), (3, .ref (A 25)), (4, .int (nI f)), (5, .int (nI j)), (6, .ref (A (26 + j))), (7, .ref (A (15 + a)))] ⟨rfl, rfl, rfl, rfl, rfl, rfl, rfl, rfl, trivial⟩ ?_
                exact K265
            · refine gg_aload C dX5_pass_216 rfl ?_
              refine gg_iconst (v := 2) C dX5_pass_218 (by decide) ?_
              refine gg_aload C dX5_pass_219 rfl ?_
              refine gg_iconst (v := 2) C dX5_pass_221 (by decide) ?_
              refine gs_ld (o := 26 + j) (k := 2) C hn (by decide) (by unfold sW; omega) dX5_pass_222 ?_
              refine gg_iconst (v := 2) C dX5_pass_223 (by decide) ?_
              refine gg_icmp_le C dX5_pass_224 236 (by decide) (fun c224 => ?_) (fun c224 => ?_)
              · refine gg_iconst (v := 0) C dX5_pass_236 (by decide) ?_
                refine gs_st (o := 26 + j) (k := 2) C hn (by decide) (by unfold sW; omega) dX5_pass_237 ?_
                refine gg_goto C dX5_pass_238 265 (by decide) ?_
                refine gs_r (r2 := s_dr4 (s_dr3 r1 (26 + j) (15 + a) v) (26 + j) v) (by unfold s_dr4; rw [if_pos c213, if_neg (Int32.not_lt.mpr c224)]) ?_
                refine gg_lv [(0, .ref (A 1)), (1, .ref (A w)), (2, .int ((s_drunk n r j) + v)), (3, .ref (A 25)), (4, .int (nI f)), (5, .int (nI j)), (6, .ref (A (26 + j))), (7, .ref (A (15 + a)))] ⟨rfl, rfl, rfl, rfl, rfl, rfl, rfl, rfl, trivial⟩ ?_
                exact K265
              · refine gg_aload C dX5_pass_227 rfl ?_
                refine gg_iconst (v := 2) C dX5_pass_229 (by decide) ?_
                refine gs_ld (o := 26 + j) (k := 2) C hn (by decide) (by unfold sW; omega) dX5_pass_230 ?_
                refine gg_iconst (v := 2) C dX5_pass_231 (by decide) ?_
                refine gg_isub C dX5_pass_232 ?_
                refine gg_goto C dX5_pass_233 237 (by decide) ?_
                refine gs_st (o := 26 + j) (k := 2) C hn (by decide) (by unfold sW; omega) dX5_pass_237 ?_
                refine gg_goto C dX5_pass_238 265 (by decide) ?_
                refine gs_r (r2 := s_dr4 (s_dr3 r1 (26 + j) (15 + a) v) (26 + j) v) (by unfold s_dr4; rw [if_pos c213, if_pos (Int32.not_le.mp c224)]) ?_
                refine gg_lv [(0, .ref (A 1)), (1, .ref (A w)), (2, .int ((s_drunk n r j) + v)), (3, .ref (A 25)), (4, .int (nI f)), (5, .int (nI j)), (6, .ref (A (26 + j))), (7, .ref (A (15 + a)))] ⟨rfl, rfl, rfl, rfl, rfl, rfl, rfl, rfl, trivial⟩ ?_
                exact K265
          refine gg_icmp_ge C dX5_pass_164 174 (by decide) (fun c164 => ?_) (fun c164 => ?_)
          · refine gg_iconst (v := 2) C dX5_pass_174 (by decide) ?_
            refine gg_aload C dX5_pass_175 rfl ?_
            refine gg_iconst (v := 0) C dX5_pass_177 (by decide) ?_
            refine gs_ld (o := 26 + j) (k := 0) C hn (by decide) (by unfold sW; omega) dX5_pass_178 ?_
            refine gg_imul C dX5_pass_179 ?_
            refine gg_lv [(0, .ref (A 1)), (1, .ref (A w)), (2, .int (s_drunk n r j)), (3, .ref (A 25)), (4, .int (nI f)), (5, .int (nI j)), (6, .ref (A (26 + j))), (7, .ref (A (15 + a)))] ⟨rfl, rfl, rfl, rfl, rfl, rfl, rfl, rfl, trivial⟩ ?_
            exact K180 _ (by unfold s_its; rw [if_neg (Int32.not_lt.mpr c164)])
          · refine gg_aload C dX5_pass_167 rfl ?_
            refine gg_iconst (v := 5) C dX5_pass_169 (by decide) ?_
            refine gs_ld (o := 15 + a) (k := 5) C hn (by decide) (by unfold sW; omega) dX5_pass_170 ?_
            refine gg_goto C dX5_pass_171 180 (by decide) ?_
            refine gg_lv [(0, .ref (A 1)), (1, .ref (A w)), (2, .int (s_drunk n r j)), (3, .ref (A 25)), (4, .int (nI f)), (5, .int (nI j)), (6, .ref (A (26 + j))), (7, .ref (A (15 + a)))] ⟨rfl, rfl, rfl, rfl, rfl, rfl, rfl, rfl, trivial⟩ ?_
            exact K180 _ (by unfold s_its; rw [if_pos (Int32.not_le.mp c164)])
        · refine gg_goto C dX5_pass_130 295 (by decide) ?_
          refine gg_iinc (v := nI (j + 1)) C dX5_pass_295 rfl (nI_inc _) (by decide) ?_
          refine gg_goto C dX5_pass_298 108 (by decide) ?_
          refine gg_lv [(0, .ref (A 1)), (1, .ref (A w)), (2, .int (s_drunk n r (j + 1))), (3, .ref (A 25)), (4, .int (nI f)), (5, .int (nI (j + 1)))] ⟨rfl, rfl, (congrArg (fun z => some (Value.int z)) (by rw [s_drunk_s]; unfold s_flockU; rw [if_pos c127])), rfl, rfl, rfl, trivial⟩ ?_
          refine gs_r (r2 := fd (s_flock n) r (j + 1)) (by rw [fd_s]; generalize fd (s_flock n) r j = z9 at c127 ⊢; unfold s_flock; rw [if_pos c127]) ?_
          exact ih (j + 1) hj (by omega)
  refine gg_aload_n C dX5_pass_96 0 rfl rfl ?_
  refine gs_flo C hn q_f_X5_23 dX5_pass_97 ?_
  refine gg_astore_n C dX5_pass_100 3 rfl (by decide) ?_
  refine gg_aload_n C dX5_pass_101 3 rfl rfl ?_
  refine gs_lenF C hn dX5_pass_102 ?_
  refine gg_istore C dX5_pass_103 (by decide) ?_
  refine gg_iconst (v := 0) C dX5_pass_105 (by decide) ?_
  refine gg_istore C dX5_pass_106 (by decide) ?_
  refine gg_lv [(0, .ref (A 1)), (1, .ref (A w)), (2, .int 0), (3, .ref (A 25)), (4, .int (nI f)), (5, .int (nI 0))] ⟨rfl, rfl, rfl, rfl, rfl, rfl, trivial⟩ ?_
  exact hl (f + 1) 0 (Nat.zero_le _) (by omega)
theorem ps_sun {g : gW} {p : Program} {l : Launch} {e : Env} {s : State} {m : MethodId} {below : List Frame} {meth : Method} {c : Code} {A : Ad} {n f : Nat} {r : Hp} {Q : State → Prop} {w : Nat} {u : Int32} (hw : 3 ≤ w ∧ w < 13) (C : CG g p s m ([.ref (A 1)] : List Value).toArray meth c cX5_pass 9 RX5) (hn : n ≤ 10) (K : GW g p l e (rK 3 1 10) s m ([.ref (A 1)] : List Value).toArray below meth c 9 ([] ++ (sx g A n f (fd (s_sun w) r n) ++ [])) (FF (SF A n f) s.heap.size) [(0, .ref (A 1)), (2, .int u)] 0 0 Q 407 []) : GW g p l e (rK 3 1 10) s m ([.ref (A 1)] : List Value).toArray below meth c 9 ([] ++ (sx g A n f r ++ [])) (FF (SF A n f) s.heap.size) [(0, .ref (A 1)), (1, .ref (A w)), (2, .int u)] 0 0 Q 301 [] := by
  have hl : ∀ (fu j : Nat), j ≤ n → n < fu + j → GW g p l e (rK 3 1 10) s m ([.ref (A 1)] : List Value).toArray below meth c 9 ([] ++ (sx g A n f (fd (s_sun w) r j) ++ [])) (FF (SF A n f) s.heap.size) [(0, .ref (A 1)), (1, .ref (A w)), (2, .int u), (3, .ref (A 13)), (4, .int (nI n)), (5, .int (nI j))] 0 0 Q 313 [] := by
    intro fu
    induction fu with
    | zero => intro j h1 h2; omega
    | succ fu ih =>
      intro j hj9 hfu
      refine gg_iload C dX5_pass_313 rfl ?_
      refine gg_iload C dX5_pass_315 rfl ?_
      refine gg_icmp_ge C dX5_pass_317 407 (by decide) (fun q9 => ?_) (fun q9 => ?_)
      · have hjn := lp_exit rfl q9 hj9 (by omega)
        subst hjn
        refine gg_lv [(0, .ref (A 1)), (2, .int u)] ⟨rfl, rfl, trivial⟩ ?_
        exact K
      · have hj := lp_body rfl q9 hj9 (by omega)
        refine gg_aload_n C dX5_pass_320 3 rfl rfl ?_
        refine gg_iload C dX5_pass_321 rfl ?_
        refine gs_aldP (j := j) C hn rfl hj dX5_pass_323 ?_
        refine gg_astore C dX5_pass_324 (by decide) ?_
        refine gg_aload_n C dX5_pass_326 1 rfl rfl ?_
        refine gg_iconst (v := 2) C dX5_pass_327 (by decide) ?_
        refine gs_ld (o := w) (k := 2) C hn (by decide) (by unfold sW; omega) dX5_pass_328 ?_
        refine gg_aload C dX5_pass_329 rfl ?_
        refine gg_iconst (v := 3) C dX5_pass_331 (by decide) ?_
        refine gs_ld (o := 15 + j) (k := 3) C hn (by decide) (by unfold sW; omega) dX5_pass_332 ?_
        refine gg_imul C dX5_pass_333 ?_
        refine gg_iconst (v := 5) C dX5_pass_334 (by decide) ?_
        refine gg_idiv C dX5_pass_335 (by decide) ?_
        refine gg_istore C dX5_pass_336 (by decide) ?_
        refine gg_aload C dX5_pass_338 rfl ?_
        refine gg_bipush (v := 7) C dX5_pass_340 (by decide) ?_
        refine gs_ld (o := 15 + j) (k := 7) C hn (by decide) (by unfold sW; omega) dX5_pass_342 ?_
        refine gg_iconst (v := 1) C dX5_pass_343 (by decide) ?_
        have K353 : ∀ v : Int32, v = s_dryX w (fd (s_sun w) r j) (15 + j) → GW g p l e (rK 3 1 10) s m ([.ref (A 1)] : List Value).toArray below meth c 9 ([] ++ (sx g A n f (fd (s_sun w) r j) ++ [])) (FF (SF A n f) s.heap.size) [(0, .ref (A 1)), (1, .ref (A w)), (2, .int u), (3, .ref (A 13)), (4, .int (nI n)), (5, .int (nI j)), (6, .ref (A (15 + j))), (7, .int v)] 0 0 Q 353 [] := by
          intro v hv
          refine gg_aload C dX5_pass_353 rfl ?_
          refine gg_iconst (v := 5) C dX5_pass_355 (by decide) ?_
          refine gg_aload C dX5_pass_356 rfl ?_
          refine gg_iconst (v := 5) C dX5_pass_358 (by decide) ?_
          refine gs_ld (o := 15 + j) (k := 5) C hn (by decide) (by unfold sW; omega) dX5_pass_359 ?_
          refine gg_iload C dX5_pass_360 rfl ?_
          refine gg_icmp_le C dX5_pass_362 375 (by decide) (fun c362 => ?_) (fun c362 => ?_)
          · refine gg_iconst (v := 0) C dX5_pass_375 (by decide) ?_
            refine gs_st (o := 15 + j) (k := 5) C hn (by decide) (by unfold sW; omega) dX5_pass_376 ?_
            refine gg_aload C dX5_pass_377 rfl ?_
            refine gg_iconst (v := 5) C dX5_pass_379 (by decide) ?_
            refine gg_dup2 C dX5_pass_380 rfl rfl ?_
            refine gs_ld (o := 15 + j) (k := 5) C hn (by decide) (by unfold sW; omega) dX5_pass_381 ?_
            refine gg_aload C dX5_pass_382 rfl ?_
            refine gg_iconst (v := 5) C dX5_pass_384 (by decide) ?_
            refine gs_ld (o := 15 + j) (k := 5) C hn (by decide) (by unfold sW; omega) dX5_pass_385 ?_
            refine gg_bipush (v := 100) C dX5_pass_386 (by decide) ?_
            refine gg_aload C dX5_pass_388 rfl ?_
            refine gg_bipush (v := 6) C dX5_pass_390 (by decide) ?_
            refine gs_ld (o := 15 + j) (k := 6) C hn (by decide) (by unfold sW; omega) dX5_pass_392 ?_
            refine gg_isub C dX5_pass_393 ?_
            refine gg_imul C dX5_pass_394 ?_
            refine gg_sipush (v := 200) C dX5_pass_395 (by decide) ?_
            refine gg_idiv C dX5_pass_398 (by decide) ?_
            refine gg_isub C dX5_pass_399 ?_
            refine gs_st (o := 15 + j) (k := 5) C hn (by decide) (by unfold sW; omega) dX5_pass_400 ?_
            refine gg_iinc (v := nI (j + 1)) C dX5_pass_401 rfl (nI_inc _) (by decide) ?_
            refine gg_goto C dX5_pass_404 313 (by decide) ?_
            refine gg_lv [(0, .ref (A 1)), (1, .ref (A w)), (2, .int u), (3, .ref (A 13)), (4, .int (nI n)), (5, .int (nI (j + 1)))] ⟨rfl, rfl, rfl, rfl, rfl, rfl, trivial⟩ ?_
            refine gs_r (r2 := fd (s_sun w) r (j + 1)) (by rw [fd_s]; generalize fd (s_sun w) r j = z9 at hv c362 ⊢; unfold s_sun s_leak s_dry; rw [← hv, if_neg (Int32.not_lt.mpr c362)]) ?_
            exact ih (j + 1) hj (by omega)
          · refine gg_aload C dX5_pass_365 rfl ?_
            refine gg_iconst (v := 5) C dX5_pass_367 (by decide) ?_
            refine gs_ld (o := 15 + j) (k := 5) C hn (by decide) (by unfold sW; omega) dX5_pass_368 ?_
            refine gg_iload C dX5_pass_369 rfl ?_
            refine gg_isub C dX5_pass_371 ?_
            refine gg_goto C dX5_pass_372 376 (by decide) ?_
            refine gs_st (o := 15 + j) (k := 5) C hn (by decide) (by unfold sW; omega) dX5_pass_376 ?_
            refine gg_aload C dX5_pass_377 rfl ?_
            refine gg_iconst (v := 5) C dX5_pass_379 (by decide) ?_
            refine gg_dup2 C dX5_pass_380 rfl rfl ?_
            refine gs_ld (o := 15 + j) (k := 5) C hn (by decide) (by unfold sW; omega) dX5_pass_381 ?_
            refine gg_aload C dX5_pass_382 rfl ?_
            refine gg_iconst (v := 5) C dX5_pass_384 (by decide) ?_
            refine gs_ld (o := 15 + j) (k := 5) C hn (by decide) (by unfold sW; omega) dX5_pass_385 ?_
            refine gg_bipush (v := 100) C dX5_pass_386 (by decide) ?_
            refine gg_aload C dX5_pass_388 rfl ?_
            refine gg_bipush (v := 6) C dX5_pass_390 (by decide) ?_
            refine gs_ld (o := 15 + j) (k := 6) C hn (by decide) (by unfold sW; omega) dX5_pass_392 ?_
            refine gg_isub C dX5_pass_393 ?_
            refine gg_imul C dX5_pass_394 ?_
            refine gg_sipush (v := 200) C dX5_pass_395 (by decide) ?_
            refine gg_idiv C dX5_pass_398 (by decide) ?_
            refine gg_isub C dX5_pass_399 ?_
            refine gs_st (o := 15 + j) (k := 5) C hn (by decide) (by unfold sW; omega) dX5_pass_400 ?_
            refine gg_iinc (v := nI (j + 1)) C dX5_pass_401 rfl (nI_inc _) (by decide) ?_
            refine gg_goto C dX5_pass_404 313 (by decide) ?_
            refine gg_lv [(0, .ref (A 1)), (1, .ref (A w)), (2, .int u), (3, .ref (A 13)), (4, .int (nI n)), (5, .int (nI (j + 1)))] ⟨rfl, rfl, rfl, rfl, rfl, rfl, trivial⟩ ?_
            refine gs_r (r2 := fd (s_sun w) r (j + 1)) (by rw [fd_s]; generalize fd (s_sun w) r j = z9 at hv c362 ⊢; unfold s_sun s_leak s_dry; rw [← hv, if_pos (Int32.not_le.mp c362)]) ?_
            exact ih (j + 1) hj (by omega)
        refine gg_icmp_ne C dX5_pass_344 353 (by decide) (fun c344 => ?_) (fun c344 => ?_)
        · refine gg_lv [(0, .ref (A 1)), (1, .ref (A w)), (2, .int u), (3, .ref (A 13)), (4, .int (nI n)), (5, .int (nI j)), (6, .ref (A (15 + j))), (7, .int ((((fd (s_sun w) r j) w 2) * ((fd (s_sun w) r j) (15 + j) 3)) / 5))] ⟨rfl, rfl, rfl, rfl, rfl, rfl, rfl, rfl, trivial⟩ ?_
          exact K353 _ (by unfold s_dryX; rw [if_neg c344])
        · refine gg_iload C dX5_pass_347 rfl ?_
          refine gg_iconst (v := 2) C dX5_pass_349 (by decide) ?_
          refine gg_idiv C dX5_pass_350 (by decide) ?_
          refine gg_istore C dX5_pass_351 (by decide) ?_
          refine gg_lv [(0, .ref (A 1)), (1, .ref (A w)), (2, .int u), (3, .ref (A 13)), (4, .int (nI n)), (5, .int (nI j)), (6, .ref (A (15 + j))), (7, .int (((((fd (s_sun w) r j) w 2) * ((fd (s_sun w) r j) (15 + j) 3)) / 5) / 2))] ⟨rfl, rfl, rfl, rfl, rfl, rfl, rfl, rfl, trivial⟩ ?_
          exact K353 _ (by unfold s_dryX; rw [if_pos c344])
  refine gg_aload_n C dX5_pass_301 0 rfl rfl ?_
  refine gs_pon C hn q_f_X5_20 dX5_pass_302 ?_
  refine gg_astore_n C dX5_pass_305 3 rfl (by decide) ?_
  refine gg_aload_n C dX5_pass_306 3 rfl rfl ?_
  refine gs_lenP C hn dX5_pass_307 ?_
  refine gg_istore C dX5_pass_308 (by decide) ?_
  refine gg_iconst (v := 0) C dX5_pass_310 (by decide) ?_
  refine gg_istore C dX5_pass_311 (by decide) ?_
  refine gg_lv [(0, .ref (A 1)), (1, .ref (A w)), (2, .int u), (3, .ref (A 13)), (4, .int (nI n)), (5, .int (nI 0))] ⟨rfl, rfl, rfl, rfl, rfl, rfl, trivial⟩ ?_
  exact hl (n + 1) 0 (Nat.zero_le _) (by omega)
