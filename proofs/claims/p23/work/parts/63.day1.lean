/-! the law, a day: what the class tells before it -/
set_option maxHeartbeats 4000000 in
theorem dy_1 {g : gW} {p : Program} {l : Launch} {e : Env} {s : State} {m : MethodId} {below : List Frame} {meth : Method} {c : Code} {b : Nat} {Q : State → Prop} (C : CG g p s m #[.ref b] meth c cL_law 26 RL) {A : Ad} {n f t q ce sl : Nat} {h r : Hp} {x : Int32} (T : TOP n f t q h) (hn1 : 1 ≤ n) (hn7 : n ≤ 7) (hf5 : f ≤ 5) (hce : ce + 100 ≤ 625049) (hsl : sl + 1000 ≤ 7226551)
    (K : ∀ (q7 : Nat) (r7 : Nat → Nat) (P : Nat → Nat → Int32) (q8 : Nat) (r8 : Nat → Nat) (V : Nat → Nat → Int32), PVs n f h P → FVs f h V → GW g p l e room_1 s m #[.ref b] below meth c 26 (wc g h ++ (sx g A n f r ++ (mx g q7 r7 n 12 P ++ (mx g q8 r8 f 6 V ++ [])))) (FF (AG g) s.heap.size) [(0, .ref b), (1, .ref (gB g + 0)), (2, .ref (A 1)), (3, .int (nI n)), (4, .int (nI f)), (5, .int (nI t)), (6, .int x), (7, .ref q7), (8, .ref q8)] (ce + 20) (sl + 200) Q 196 []) :
    GW g p l e room_1 s m #[.ref b] below meth c 26 (wc g h ++ (sx g A n f r ++ [])) (FF (AG g) s.heap.size) [(0, .ref b), (1, .ref (gB g + 0)), (2, .ref (A 1)), (3, .int (nI n)), (4, .int (nI f)), (5, .int (nI t)), (6, .int x)] ce sl Q 82 [] := by
  have hn : n ≤ 10 := by omega
  refine gg_iload_n C dL_law_82 3 rfl rfl ?_
  refine gg_bipush (v := 12) C dL_law_83 (by decide) ?_
  refine gg_mna (N := n) (K := 12) C (fun _ h9 => Or.inr h9) rfl rfl (by omega) (by omega) q_k_L_99 (by exact ⟨by show _ ≤ 625049; omega, by show _ ≤ 7226551; omega⟩) dL_law_85 (fun q7 r7 => ?_)
  refine gg_ls (wc g h ++ (sx g A n f r ++ (mx g q7 r7 n 12 (fun _ _ => 0) ++ []))) (by rw [List.append_nil, List.append_nil, List.append_assoc]) ?_
  refine gg_astore C dL_law_89 (by decide) ?_
  refine gg_iconst (v := 0) C dL_law_91 (by decide) ?_
  refine gg_istore C dL_law_92 (by decide) ?_
  have LP : ∀ (fu k : Nat) (P : Nat → Nat → Int32), k ≤ n → n < fu + k → (∀ j i, j < k → i < 12 → P j i = x_pondV n f h (nI j) i) → GW g p l e room_1 s m #[.ref b] below meth c 26 (wc g h ++ (sx g A n f r ++ (mx g q7 r7 n 12 P ++ []))) (FF (AG g) s.heap.size) [(0, .ref b), (1, .ref (gB g + 0)), (2, .ref (A 1)), (3, .int (nI n)), (4, .int (nI f)), (5, .int (nI t)), (6, .int x), (7, .ref q7), (8, .int (nI k))] (ce + 1 + n) (sl + n + n * 12) Q 94 [] := by
    intro fu
    induction fu with
    | zero => intro k P h1 h2; omega
    | succ fu ih =>
      intro k P hk9 hfu hP
      refine gg_iload C dL_law_94 rfl ?_
      refine gg_iload_n C dL_law_96 3 rfl rfl ?_
      refine gg_icmp_ge C dL_law_97 138 (by decide) (fun q9 => ?_) (fun q9 => ?_)
      · have hkn := lp_exit rfl q9 hk9 (by omega)
        subst hkn
        have HP : PVs n f h P := hP
        refine gg_lv [(0, .ref b), (1, .ref (gB g + 0)), (2, .ref (A 1)), (3, .int (nI n)), (4, .int (nI f)), (5, .int (nI t)), (6, .int x), (7, .ref q7)] ⟨rfl, rfl, rfl, rfl, rfl, rfl, rfl, rfl, trivial⟩ ?_
        refine gg_iload C dL_law_138 rfl ?_
        refine gg_bipush (v := 6) C dL_law_140 (by decide) ?_
        refine gg_mna (N := f) (K := 6) C (fun _ h9 => Or.inr h9) rfl rfl (by omega) (by omega) q_k_L_99 (by exact ⟨by show _ ≤ 625049; omega, by show _ ≤ 7226551; omega⟩) dL_law_142 (fun q8 r8 => ?_)
        refine gg_ls (wc g h ++ (sx g A n f r ++ (mx g q7 r7 n 12 P ++ (mx g q8 r8 f 6 (fun _ _ => 0) ++ [])))) (by rw [List.append_nil, List.append_nil, List.append_assoc, List.append_assoc]) ?_
        refine gg_astore C dL_law_146 (by decide) ?_
        refine gg_iconst (v := 0) C dL_law_148 (by decide) ?_
        refine gg_istore C dL_law_149 (by decide) ?_
        have LV : ∀ (fu k : Nat) (V : Nat → Nat → Int32), k ≤ f → f < fu + k → (∀ j i, j < k → i < 6 → V j i = x_flockV h (nI j) i) → GW g p l e room_1 s m #[.ref b] below meth c 26 (wc g h ++ (sx g A n f r ++ (mx g q7 r7 n 12 P ++ (mx g q8 r8 f 6 V ++ [])))) (FF (AG g) s.heap.size) [(0, .ref b), (1, .ref (gB g + 0)), (2, .ref (A 1)), (3, .int (nI n)), (4, .int (nI f)), (5, .int (nI t)), (6, .int x), (7, .ref q7), (8, .ref q8), (9, .int (nI k))] (ce + 1 + n + 1 + f) (sl + n + n * 12 + f + f * 6) Q 151 [] := by
          intro fu
          induction fu with
          | zero => intro k V h1 h2; omega
          | succ fu ih =>
            intro k V hk9 hfu hV
            refine gg_iload C dL_law_151 rfl ?_
            refine gg_iload C dL_law_153 rfl ?_
            refine gg_icmp_ge C dL_law_155 196 (by decide) (fun q9 => ?_) (fun q9 => ?_)
            · have hkn := lp_exit rfl q9 hk9 (by omega)
              subst hkn
              refine gg_lv [(0, .ref b), (1, .ref (gB g + 0)), (2, .ref (A 1)), (3, .int (nI n)), (4, .int (nI f)), (5, .int (nI t)), (6, .int x), (7, .ref q7), (8, .ref q8)] ⟨rfl, rfl, rfl, rfl, rfl, rfl, rfl, rfl, rfl, trivial⟩ ?_
              refine gg_wide (ce + 20) (sl + 200) (by omega) (by omega) ?_
              exact K q7 r7 P q8 r8 V (fun j i h1 h2 => HP j i h1 h2) (fun j i h1 h2 => hV j i h1 h2)
            · have hk := lp_body rfl q9 hk9 (by omega)
              refine gg_iconst (v := 0) C dL_law_158 (by decide) ?_
              refine gg_istore C dL_law_159 (by decide) ?_
              have LI : ∀ (fu i : Nat) (V : Nat → Nat → Int32), i ≤ 6 → 6 < fu + i → (∀ j i, j < k → i < 6 → V j i = x_flockV h (nI j) i) → (∀ i2, i2 < i → V k i2 = x_flockV h (nI k) i2) → GW g p l e room_1 s m #[.ref b] below meth c 26 (wc g h ++ (sx g A n f r ++ (mx g q7 r7 n 12 P ++ (mx g q8 r8 f 6 V ++ [])))) (FF (AG g) s.heap.size) [(0, .ref b), (1, .ref (gB g + 0)), (2, .ref (A 1)), (3, .int (nI n)), (4, .int (nI f)), (5, .int (nI t)), (6, .int x), (7, .ref q7), (8, .ref q8), (9, .int (nI k)), (10, .int (nI i))] (ce + 1 + n + 1 + f) (sl + n + n * 12 + f + f * 6) Q 161 [] := by
                intro fu2
                induction fu2 with
                | zero => intro i V h1 h2; omega
                | succ fu2 ih2 =>
                  intro i V hi9 hfu2 hV hV2
                  refine gg_iload C dL_law_161 rfl ?_
                  refine gg_bipush (v := 6) C dL_law_163 (by decide) ?_
                  refine gg_icmp_ge C dL_law_165 190 (by decide) (fun q9 => ?_) (fun q9 => ?_)
                  · have hin := lp_exit (n := 6) rfl q9 hi9 (by omega)
                    subst hin
                    refine gg_lv [(0, .ref b), (1, .ref (gB g + 0)), (2, .ref (A 1)), (3, .int (nI n)), (4, .int (nI f)), (5, .int (nI t)), (6, .int x), (7, .ref q7), (8, .ref q8), (9, .int (nI k))] ⟨rfl, rfl, rfl, rfl, rfl, rfl, rfl, rfl, rfl, rfl, trivial⟩ ?_
                    refine gg_iinc (v := nI (k + 1)) C dL_law_190 rfl (nI_inc _) (by decide) ?_
                    refine gg_goto C dL_law_193 151 (by decide) ?_
                    refine gg_lv [(0, .ref b), (1, .ref (gB g + 0)), (2, .ref (A 1)), (3, .int (nI n)), (4, .int (nI f)), (5, .int (nI t)), (6, .int x), (7, .ref q7), (8, .ref q8), (9, .int (nI (k + 1)))] ⟨rfl, rfl, rfl, rfl, rfl, rfl, rfl, rfl, rfl, rfl, trivial⟩ ?_
                    exact ih (k + 1) V hk (by omega) (fun j i h1 h2 => by
                      by_cases ej : j = k
                      · subst ej; exact hV2 i h2
                      · exact hV j i (by omega) h2)
                  · have hi := lp_body (n := 6) rfl q9 hi9 (by omega)
                    refine gg_aload C dL_law_168 rfl ?_
                    refine gg_iload C dL_law_170 rfl ?_
                    refine gy_row2 (j := k) C (by omega) rfl hk dL_law_172 ?_
                    refine gg_iload C dL_law_173 rfl ?_
                    refine gg_aload_n C dL_law_175 1 rfl rfl ?_
                    refine gg_iload C dL_law_176 rfl ?_
                    refine gg_iload C dL_law_178 rfl ?_
                    refine gg_ls (wl g (sx g A n f r ++ (mx g q7 r7 n 12 P ++ (mx g q8 r8 f 6 V ++ []))) h) rfl ?_
                    refine gc_callC (As := [.int (nI k), .int (nI i)]) C mf_X4_flock (ok_X4_flock T.2.1 (k := i) ⟨k, hk, rfl⟩ hi) q_m_L_103 rfl rfl rfl (Nat.le_of_ble_eq_true rfl) (by exact ⟨Nat.le_of_ble_eq_true rfl, Nat.le_of_ble_eq_true rfl⟩) (by exact ⟨by show _ ≤ 625049; omega, by show _ ≤ 7226551; omega⟩) dL_law_180 ?_
                    refine gg_ls (wc g h ++ (sx g A n f r ++ (mx g q7 r7 n 12 P ++ (mx g q8 r8 f 6 V ++ [])))) rfl ?_
                    refine gy_st2 (j := k) (k := i) C (by omega) hk rfl hi dL_law_183 ?_
                    refine gg_iinc (v := nI (i + 1)) C dL_law_184 rfl (nI_inc _) (by decide) ?_
                    refine gg_goto C dL_law_187 161 (by decide) ?_
                    refine gg_lv [(0, .ref b), (1, .ref (gB g + 0)), (2, .ref (A 1)), (3, .int (nI n)), (4, .int (nI f)), (5, .int (nI t)), (6, .int x), (7, .ref q7), (8, .ref q8), (9, .int (nI k)), (10, .int (nI (i + 1)))] ⟨rfl, rfl, rfl, rfl, rfl, rfl, rfl, rfl, rfl, rfl, rfl, trivial⟩ ?_
                    exact ih2 (i + 1) (fun a => if a = k then upd (V k) i (x_flockV h (nI k) i) else V a) hi (by omega) (fun j i2 h1 h2 => by
                      show (if j = k then upd (V k) i (x_flockV h (nI k) i) else V j) i2 = _
                      rw [if_neg (by omega)]; exact hV j i2 h1 h2) (fun i2 h2 => by
                      show (if k = k then upd (V k) i (x_flockV h (nI k) i) else V k) i2 = _
                      rw [if_pos rfl]
                      by_cases ei : i2 = i
                      · subst ei; exact upE
                      · rw [upN ei]; exact hV2 i2 (by omega))
              refine gg_lv [(0, .ref b), (1, .ref (gB g + 0)), (2, .ref (A 1)), (3, .int (nI n)), (4, .int (nI f)), (5, .int (nI t)), (6, .int x), (7, .ref q7), (8, .ref q8), (9, .int (nI k)), (10, .int (nI 0))] ⟨rfl, rfl, rfl, rfl, rfl, rfl, rfl, rfl, rfl, rfl, rfl, trivial⟩ ?_
              exact LI (6 + 1) 0 V (Nat.zero_le _) (by omega) hV (fun i2 h2 => absurd h2 (Nat.not_lt_zero i2))
        refine gg_lv [(0, .ref b), (1, .ref (gB g + 0)), (2, .ref (A 1)), (3, .int (nI n)), (4, .int (nI f)), (5, .int (nI t)), (6, .int x), (7, .ref q7), (8, .ref q8), (9, .int (nI 0))] ⟨rfl, rfl, rfl, rfl, rfl, rfl, rfl, rfl, rfl, rfl, trivial⟩ ?_
        exact LV (f + 1) 0 (fun _ _ => 0) (Nat.zero_le _) (by omega) (fun j i h1 h2 => absurd h1 (Nat.not_lt_zero j))
      · have hk := lp_body rfl q9 hk9 (by omega)
        refine gg_iconst (v := 0) C dL_law_100 (by decide) ?_
        refine gg_istore C dL_law_101 (by decide) ?_
        have LI : ∀ (fu i : Nat) (P : Nat → Nat → Int32), i ≤ 12 → 12 < fu + i → (∀ j i, j < k → i < 12 → P j i = x_pondV n f h (nI j) i) → (∀ i2, i2 < i → P k i2 = x_pondV n f h (nI k) i2) → GW g p l e room_1 s m #[.ref b] below meth c 26 (wc g h ++ (sx g A n f r ++ (mx g q7 r7 n 12 P ++ []))) (FF (AG g) s.heap.size) [(0, .ref b), (1, .ref (gB g + 0)), (2, .ref (A 1)), (3, .int (nI n)), (4, .int (nI f)), (5, .int (nI t)), (6, .int x), (7, .ref q7), (8, .int (nI k)), (9, .int (nI i))] (ce + 1 + n) (sl + n + n * 12) Q 103 [] := by
          intro fu2
          induction fu2 with
          | zero => intro i P h1 h2; omega
          | succ fu2 ih2 =>
            intro i P hi9 hfu2 hP hP2
            refine gg_iload C dL_law_103 rfl ?_
            refine gg_bipush (v := 12) C dL_law_105 (by decide) ?_
            refine gg_icmp_ge C dL_law_107 132 (by decide) (fun q9 => ?_) (fun q9 => ?_)
            · have hin := lp_exit (n := 12) rfl q9 hi9 (by omega)
              subst hin
              refine gg_lv [(0, .ref b), (1, .ref (gB g + 0)), (2, .ref (A 1)), (3, .int (nI n)), (4, .int (nI f)), (5, .int (nI t)), (6, .int x), (7, .ref q7), (8, .int (nI k))] ⟨rfl, rfl, rfl, rfl, rfl, rfl, rfl, rfl, rfl, trivial⟩ ?_
              refine gg_iinc (v := nI (k + 1)) C dL_law_132 rfl (nI_inc _) (by decide) ?_
              refine gg_goto C dL_law_135 94 (by decide) ?_
              refine gg_lv [(0, .ref b), (1, .ref (gB g + 0)), (2, .ref (A 1)), (3, .int (nI n)), (4, .int (nI f)), (5, .int (nI t)), (6, .int x), (7, .ref q7), (8, .int (nI (k + 1)))] ⟨rfl, rfl, rfl, rfl, rfl, rfl, rfl, rfl, rfl, trivial⟩ ?_
              exact ih (k + 1) P hk (by omega) (fun j i h1 h2 => by
                by_cases ej : j = k
                · subst ej; exact hP2 i h2
                · exact hP j i (by omega) h2)
            · have hi := lp_body (n := 12) rfl q9 hi9 (by omega)
              refine gg_aload C dL_law_110 rfl ?_
              refine gg_iload C dL_law_112 rfl ?_
              refine gy_row1 (j := k) C (by omega) rfl hk dL_law_114 ?_
              refine gg_iload C dL_law_115 rfl ?_
              refine gg_aload_n C dL_law_117 1 rfl rfl ?_
              refine gg_iload C dL_law_118 rfl ?_
              refine gg_iload C dL_law_120 rfl ?_
              refine gg_ls (wl g (sx g A n f r ++ (mx g q7 r7 n 12 P ++ [])) h) rfl ?_
              refine gc_callC (As := [.int (nI k), .int (nI i)]) C mf_X4_pond (ok_X4_pond T.2.1 (k := i) ⟨k, hk, rfl⟩ hi) q_m_L_100 rfl rfl rfl (Nat.le_of_ble_eq_true rfl) (by exact ⟨Nat.le_of_ble_eq_true rfl, Nat.le_of_ble_eq_true rfl⟩) (by exact ⟨by show _ ≤ 625049; omega, by show _ ≤ 7226551; omega⟩) dL_law_122 ?_
              refine gg_ls (wc g h ++ (sx g A n f r ++ (mx g q7 r7 n 12 P ++ []))) rfl ?_
              refine gy_st1 (j := k) (k := i) C (by omega) hk rfl hi dL_law_125 ?_
              refine gg_iinc (v := nI (i + 1)) C dL_law_126 rfl (nI_inc _) (by decide) ?_
              refine gg_goto C dL_law_129 103 (by decide) ?_
              refine gg_lv [(0, .ref b), (1, .ref (gB g + 0)), (2, .ref (A 1)), (3, .int (nI n)), (4, .int (nI f)), (5, .int (nI t)), (6, .int x), (7, .ref q7), (8, .int (nI k)), (9, .int (nI (i + 1)))] ⟨rfl, rfl, rfl, rfl, rfl, rfl, rfl, rfl, rfl, rfl, trivial⟩ ?_
              exact ih2 (i + 1) (fun a => if a = k then upd (P k) i (x_pondV n f h (nI k) i) else P a) hi (by omega) (fun j i2 h1 h2 => by
                show (if j = k then upd (P k) i (x_pondV n f h (nI k) i) else P j) i2 = _
                rw [if_neg (by omega)]; exact hP j i2 h1 h2) (fun i2 h2 => by
                show (if k = k then upd (P k) i (x_pondV n f h (nI k) i) else P k) i2 = _
                rw [if_pos rfl]
                by_cases ei : i2 = i
                · subst ei; exact upE
                · rw [upN ei]; exact hP2 i2 (by omega))
        refine gg_lv [(0, .ref b), (1, .ref (gB g + 0)), (2, .ref (A 1)), (3, .int (nI n)), (4, .int (nI f)), (5, .int (nI t)), (6, .int x), (7, .ref q7), (8, .int (nI k)), (9, .int (nI 0))] ⟨rfl, rfl, rfl, rfl, rfl, rfl, rfl, rfl, rfl, rfl, trivial⟩ ?_
        exact LI (12 + 1) 0 P (Nat.zero_le _) (by omega) hP (fun i2 h2 => absurd h2 (Nat.not_lt_zero i2))
  refine gg_lv [(0, .ref b), (1, .ref (gB g + 0)), (2, .ref (A 1)), (3, .int (nI n)), (4, .int (nI f)), (5, .int (nI t)), (6, .int x), (7, .ref q7), (8, .int (nI 0))] ⟨rfl, rfl, rfl, rfl, rfl, rfl, rfl, rfl, rfl, trivial⟩ ?_
  exact LP (n + 1) 0 (fun _ _ => 0) (Nat.zero_le _) (by omega) (fun j i h1 h2 => absurd h1 (Nat.not_lt_zero j))
