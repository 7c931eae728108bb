/-! the law, a day: looking ahead, and the day that comes -/
set_option maxHeartbeats 4000000 in
theorem dy_2 {g : gW} {p : Program} {l : Launch} {e : Env} {s : State} {m : MethodId} {below : List Frame} {meth : Method} {c : Code} {b : Nat} {Q : State → Prop} (C : CG g p s m #[.ref b] meth c cL_law 26 RL) (hst : l.stackTraces = false) (hE : EXs g s) {A : Ad} {n f t q q7 q8 ce sl : Nat} {r7 r8 : Nat → Nat} {P V : Nat → Nat → Int32} {h r : Hp} {x : Int32} (hT : TS n f t q h r) (ht : t < 40) (hn1 : 1 ≤ n) (hn7 : n ≤ 7) (hf5 : f ≤ 5) (hP : PVs n f h P) (hce : ce + 100 ≤ 625049) (hsl : sl + 1000 ≤ 7226551)
    (K : ∀ (h7 : Hp) (its : Nat → Nat) (q17 q18 : Nat), TS n f (t + 1) q h7 (s_day n f t r) → DAYP n f t h h7 its → (∀ j k, j < 10 → k < 3 → h7 (3 + j) k = h (3 + j) k) → GW g p l e room_1 s m #[.ref b] below meth c 26 (wc g h7 ++ (sx g A n f (s_day n f t r) ++ (mx g q7 r7 n 12 P ++ (mx g q8 r8 f 6 V ++ [cI g q17 n (fun _ => 0), cI g q18 n (fun _ => 0)])))) (FF (AG g) s.heap.size) [(0, .ref b), (1, .ref (gB g + 0)), (2, .ref (A 1)), (3, .int (nI n)), (4, .int (nI f)), (5, .int (nI t)), (7, .ref q7), (8, .ref q8), (14, .int (nI (sm its f))), (15, .ref (A (3 + (t % 10)))), (16, .int (nI 0)), (17, .ref q17), (18, .ref q18), (19, .int (nI 0))] (ce + 8) (sl + 100) Q 416 []) :
    GW g p l e room_1 s m #[.ref b] below meth c 26 (wc g h ++ (sx g A n f r ++ (mx g q7 r7 n 12 P ++ (mx g q8 r8 f 6 V ++ [])))) (FF (AG g) s.heap.size) [(0, .ref b), (1, .ref (gB g + 0)), (2, .ref (A 1)), (3, .int (nI n)), (4, .int (nI f)), (5, .int (nI t)), (6, .int x), (7, .ref q7), (8, .ref q8)] ce sl Q 196 [] := by
  have hn : n ≤ 10 := by omega
  have hf : f ≤ 10 := by omega
  have T := hT.1
  have ht16 := T.2.2.2.2.1
  refine gg_iload C dL_law_196 rfl ?_
  refine gg_iconst (v := 3) C dL_law_198 (by decide) ?_
  refine gg_ishr C dL_law_199 ?_
  refine gg_iload_n C dL_law_200 3 rfl rfl ?_
  refine gg_callP (v := bel (x >>> (3 &&& 31)) (nI n)) C mf_L_below (gt_L_below (fun z => absurd ((nI_eq (a := n) (b := 0) (by omega) (by omega)).mp z) (by omega))) EB.tt EM.tt (fun _ h9 => Or.inr h9) q_m_L_18 rfl rfl (Nat.le_of_ble_eq_true rfl) (by exact ⟨Nat.le_of_ble_eq_true rfl, Nat.le_of_ble_eq_true rfl⟩) (by exact ⟨by show _ ≤ 625049; omega, by show _ ≤ 7226551; omega⟩) dL_law_201 ?_
  obtain ⟨u, hu, eu⟩ := bel_is (x := (x >>> (3 &&& 31))) hn1 (show n < 2 ^ 31 by omega)
  refine gg_top (y := nI u) eu ?_
  refine gg_istore C dL_law_204 (by decide) ?_
  have e0 : P u 5 = FW n f t h u 0 := (hP u 5 hu (by omega)).trans (pov (by omega) (by omega) (by omega))
  obtain ⟨h2, ex2, e2⟩ := lw_foresee T hu
  have H2 : TS n f t q h2 r := hT.lo e2
  refine gg_aload_n C dL_law_206 1 rfl rfl ?_
  refine gg_iload C dL_law_207 rfl ?_
  refine gg_iconst (v := 1) C dL_law_209 (by decide) ?_
  refine gg_ls (wl g (sx g A n f r ++ (mx g q7 r7 n 12 P ++ (mx g q8 r8 f 6 V ++ []))) h) rfl ?_
  refine gc_callX (As := [.int (nI u), .int 1]) C hE mf_X4_foresee (xt_X4_foresee hst T.2.1 ht16 (by omega)) ex2 q_m_L_106 rfl rfl rfl (Nat.le_of_ble_eq_true rfl) (by exact ⟨Nat.le_of_ble_eq_true rfl, Nat.le_of_ble_eq_true rfl⟩) (by exact ⟨by show _ ≤ 625049; omega, by show _ ≤ 7226551; omega⟩) dL_law_210 ?_
  refine gg_ls (wc g h2 ++ (sx g A n f r ++ (mx g q7 r7 n 12 P ++ (mx g q8 r8 f 6 V ++ [])))) rfl ?_
  refine gg_istore C dL_law_213 (by decide) ?_
  obtain ⟨v3, h3, ex3, e3, hl3⟩ := lw_lasts H2.1 hu
  have H3 : TS n f t q h3 r := H2.lo e3
  have hl : LST (FW n f t h u) v3 := by rw [show FW n f t h u = FW n f t h2 u from funext (fun i => (fw_lo T e2 hu).symm)]; exact hl3
  have a0 := lst_0 hl
  have a1 := lst_1 hl
  refine gg_aload_n C dL_law_215 1 rfl rfl ?_
  refine gg_iload C dL_law_216 rfl ?_
  refine gg_ls (wl g (sx g A n f r ++ (mx g q7 r7 n 12 P ++ (mx g q8 r8 f 6 V ++ []))) h2) rfl ?_
  refine gc_callX (As := [.int (nI u)]) C hE mf_X4_lasts (xt_X4_lasts hst H2.1.2.1 H2.1.2.2.2.2.1 (by omega)) ex3 q_m_L_109 rfl rfl rfl (Nat.le_of_ble_eq_true rfl) (by exact ⟨Nat.le_of_ble_eq_true rfl, Nat.le_of_ble_eq_true rfl⟩) (by exact ⟨by show _ ≤ 625049; omega, by show _ ≤ 7226551; omega⟩) dL_law_218 ?_
  refine gg_ls (wc g h3 ++ (sx g A n f r ++ (mx g q7 r7 n 12 P ++ (mx g q8 r8 f 6 V ++ [])))) rfl ?_
  refine gg_istore C dL_law_221 (by decide) ?_
  have K241 : ∀ (h4 : Hp) (v4 : Int32), LO h h4 → ¬ 80 < v4 → GW g p l e room_1 s m #[.ref b] below meth c 26 (wc g h4 ++ (sx g A n f r ++ (mx g q7 r7 n 12 P ++ (mx g q8 r8 f 6 V ++ [])))) (FF (AG g) s.heap.size) [(0, .ref b), (1, .ref (gB g + 0)), (2, .ref (A 1)), (3, .int (nI n)), (4, .int (nI f)), (5, .int (nI t)), (6, .int x), (7, .ref q7), (8, .ref q8), (9, .int (nI u)), (10, .int (FW n f t h u 1)), (11, .int v3)] (((ce + 1) + 1) + 1) (((sl + 6) + 6) + 6) Q 241 [.int v4] := by
    intro h4 v4 e4 hv4
    have H4 : TS n f t q h4 r := hT.lo e4
    obtain ⟨h5, h6, its, ex5, e5, H6, D5, T5, W5, F5⟩ := lw_pass H4
    refine gg_istore C dL_law_241 (by decide) ?_
    refine gg_aload_n C dL_law_243 1 rfl rfl ?_
    refine gg_iconst (v := 4) C dL_law_244 (by decide) ?_
    refine gg_ls (wl g (sx g A n f r ++ (mx g q7 r7 n 12 P ++ (mx g q8 r8 f 6 V ++ []))) h4) rfl ?_
    refine gc_callC (As := [.int (nI 4)]) C mf_X4_count (ok_X4_count H4.1.2.1 (k := 4) (by omega)) q_m_L_115 rfl rfl rfl (Nat.le_of_ble_eq_true rfl) (by exact ⟨Nat.le_of_ble_eq_true rfl, Nat.le_of_ble_eq_true rfl⟩) (by exact ⟨by show _ ≤ 625049; omega, by show _ ≤ 7226551; omega⟩) dL_law_245 ?_
    refine gg_ls (wc g h4 ++ (sx g A n f r ++ (mx g q7 r7 n 12 P ++ (mx g q8 r8 f 6 V ++ [])))) rfl ?_
    refine gg_top (y := nI q) H4.1.2.2.2.2.2.2.1 ?_
    refine gg_istore C dL_law_248 (by decide) ?_
    refine gg_aload_n C dL_law_250 1 rfl rfl ?_
    refine gg_iconst (v := 1) C dL_law_251 (by decide) ?_
    refine gg_ls (wl g (sx g A n f r ++ (mx g q7 r7 n 12 P ++ (mx g q8 r8 f 6 V ++ []))) h4) rfl ?_
    refine gc_callX (As := [.int 1]) C hE mf_X4_pass (xt_X4_pass hst H4.1.2.1 H4.1.2.2.2.2.1 (by omega)) ex5 q_m_L_118 rfl rfl rfl (Nat.le_of_ble_eq_true rfl) (by exact ⟨Nat.le_of_ble_eq_true rfl, Nat.le_of_ble_eq_true rfl⟩) (by exact ⟨by show _ ≤ 625049; omega, by show _ ≤ 7226551; omega⟩) dL_law_252 ?_
    refine gg_ls (wc g h6 ++ (sx g A n f r ++ (mx g q7 r7 n 12 P ++ (mx g q8 r8 f 6 V ++ [])))) (wl_lo e5) ?_
    refine gg_istore C dL_law_255 (by decide) ?_
    refine gg_aload_n C dL_law_257 2 rfl rfl ?_
    have r16 : r 1 6 = nI t := H4.2.1.2.1.symm.trans H4.1.2.2.2.2.1
    refine gg_callV (A := wc g h6) (B := (mx g q7 r7 n 12 P ++ (mx g q8 r8 f 6 V ++ []))) (q := (RX5, TX5, 5)) (ci := 5) C mf_X5_pass (gt_X5_pass hn hf (by omega) (H4.2.1.oks H4.1.2.1) r16 T5) EB.tt EM.tt sx_mem (sx_hG hn (fun _ h9 => Or.inr h9)) (sx_hap hn) q_m_L_121 rfl rfl (sJ n 1) (sx_get hn (Or.inl ⟨by omega, by omega⟩)) rfl rfl (Nat.le_of_ble_eq_true rfl) (by exact ⟨Nat.le_of_ble_eq_true rfl, Nat.le_of_ble_eq_true rfl⟩) (by exact ⟨by show _ ≤ 625049; omega, by show _ ≤ 7226551; omega⟩) dL_law_258 (fun v9 L9 N9 hp9 => ?_)
    obtain ⟨rfl, rfl, rfl⟩ := hp9
    refine gg_ls (wc g h6 ++ (sx g A n f (s_day n f t r) ++ (mx g q7 r7 n 12 P ++ (mx g q8 r8 f 6 V ++ [])))) (by rw [List.append_nil]) ?_
    refine gg_pop C dL_law_261 rfl ?_
    refine gg_aload_n C dL_law_262 1 rfl rfl ?_
    refine gg_iload C dL_law_263 rfl ?_
    refine gg_iconst (v := 5) C dL_law_265 (by decide) ?_
    refine gg_ls (wl g (sx g A n f (s_day n f t r) ++ (mx g q7 r7 n 12 P ++ (mx g q8 r8 f 6 V ++ []))) h6) rfl ?_
    refine gc_callC (As := [.int (nI u), .int (nI 5)]) C mf_X4_pond (ok_X4_pond H6.1.2.1 (k := 5) ⟨u, hu, rfl⟩ (by omega)) q_m_L_100 rfl rfl rfl (Nat.le_of_ble_eq_true rfl) (by exact ⟨Nat.le_of_ble_eq_true rfl, Nat.le_of_ble_eq_true rfl⟩) (by exact ⟨by show _ ≤ 625049; omega, by show _ ≤ 7226551; omega⟩) dL_law_266 ?_
    refine gg_ls (wc g h6 ++ (sx g A n f (s_day n f t r) ++ (mx g q7 r7 n 12 P ++ (mx g q8 r8 f 6 V ++ [])))) rfl ?_
    refine gg_top (y := FW n f t h u 1) ((pov (by omega) (by omega) (by omega)).trans ((F5 0 u hu).trans (fw_lo T e4 hu))) ?_
    refine gg_iload C dL_law_269 rfl ?_
    refine gg_icmp_ne C dL_law_271 303 (by decide) (fun q => absurd rfl q) (fun c271 => ?_)
    refine gg_aload_n C dL_law_274 1 rfl rfl ?_
    refine gg_iconst (v := 0) C dL_law_275 (by decide) ?_
    refine gg_ls (wl g (sx g A n f (s_day n f t r) ++ (mx g q7 r7 n 12 P ++ (mx g q8 r8 f 6 V ++ []))) h6) rfl ?_
    refine gc_callC (As := [.int (nI 0)]) C mf_X4_count (ok_X4_count H6.1.2.1 (k := 0) (by omega)) q_m_L_115 rfl rfl rfl (Nat.le_of_ble_eq_true rfl) (by exact ⟨Nat.le_of_ble_eq_true rfl, Nat.le_of_ble_eq_true rfl⟩) (by exact ⟨by show _ ≤ 625049; omega, by show _ ≤ 7226551; omega⟩) dL_law_276 ?_
    refine gg_ls (wc g h6 ++ (sx g A n f (s_day n f t r) ++ (mx g q7 r7 n 12 P ++ (mx g q8 r8 f 6 V ++ [])))) rfl ?_
    refine gg_top (y := nI (t + 1)) H6.1.2.2.2.2.1 ?_
    refine gg_iload C dL_law_279 rfl ?_
    refine gg_iconst (v := 1) C dL_law_281 (by decide) ?_
    refine gg_iadd C dL_law_282 ?_
    refine gg_top (y := nI (t + 1)) (by rw [show (1 : Int32) = nI 1 from rfl, nI_add]) ?_
    refine gg_icmp_ne C dL_law_283 303 (by decide) (fun q => absurd rfl q) (fun c283 => ?_)
    refine gg_aload_n C dL_law_286 1 rfl rfl ?_
    refine gg_iconst (v := 4) C dL_law_287 (by decide) ?_
    refine gg_ls (wl g (sx g A n f (s_day n f t r) ++ (mx g q7 r7 n 12 P ++ (mx g q8 r8 f 6 V ++ []))) h6) rfl ?_
    refine gc_callC (As := [.int (nI 4)]) C mf_X4_count (ok_X4_count H6.1.2.1 (k := 4) (by omega)) q_m_L_115 rfl rfl rfl (Nat.le_of_ble_eq_true rfl) (by exact ⟨Nat.le_of_ble_eq_true rfl, Nat.le_of_ble_eq_true rfl⟩) (by exact ⟨by show _ ≤ 625049; omega, by show _ ≤ 7226551; omega⟩) dL_law_288 ?_
    refine gg_ls (wc g h6 ++ (sx g A n f (s_day n f t r) ++ (mx g q7 r7 n 12 P ++ (mx g q8 r8 f 6 V ++ [])))) rfl ?_
    refine gg_top (y := nI q) H6.1.2.2.2.2.2.2.1 ?_
    refine gg_iload C dL_law_291 rfl ?_
    refine gg_icmp_ne C dL_law_293 303 (by decide) (fun q => absurd rfl q) (fun c293 => ?_)
    refine gg_iload C dL_law_296 rfl ?_
    refine gg_bipush (v := 80) C dL_law_298 (by decide) ?_
    refine gg_icmp_le C dL_law_300 305 (by decide) (fun c300 => ?_) (fun q => absurd (Int32.not_lt.mp hv4) q)
    have b0 : ∀ i, FW n f (t + 1) h6 u i = FW n f t h u (i + 1) := fun i => (F5 i u hu).trans (fw_lo T e4 hu)
    have hp31 : u < 2 ^ 31 := by omega
    have K388 : ∀ h7 : Hp, LO h6 h7 → GW g p l e room_1 s m #[.ref b] below meth c 26 (wc g h7 ++ (sx g A n f (s_day n f t r) ++ (mx g q7 r7 n 12 P ++ (mx g q8 r8 f 6 V ++ [])))) (FF (AG g) s.heap.size) [(0, .ref b), (1, .ref (gB g + 0)), (2, .ref (A 1)), (3, .int (nI n)), (4, .int (nI f)), (5, .int (nI t)), (6, .int x), (7, .ref q7), (8, .ref q8), (9, .int (nI u)), (10, .int (FW n f t h u 1)), (11, .int v3), (12, .int v4), (13, .int (nI q)), (14, .int (nI (sm its f)))] ((((((ce + 1) + 1) + 1) + 1) + 1) + 1) ((((((sl + 6) + 6) + 6) + 6) + 10) + 6) Q 388 [] := by
      intro h7 e7
      have H7 : TS n f (t + 1) q h7 (s_day n f t r) := H6.lo e7
      refine gg_aload_n C dL_law_388 2 rfl rfl ?_
      refine gs_wea C hn q_f_L_55 dL_law_389 ?_
      refine gg_iload C dL_law_392 rfl ?_
      refine gg_bipush (v := 10) C dL_law_394 (by decide) ?_
      refine gg_irem C dL_law_396 (by decide) ?_
      refine gs_aldW (j := t % 10) C hn (day_mod (by omega)) (by omega) dL_law_397 ?_
      refine gg_astore C dL_law_398 (by decide) ?_
      refine gg_iconst (v := 0) C dL_law_400 (by decide) ?_
      refine gg_istore C dL_law_401 (by decide) ?_
      refine gg_iload_n C dL_law_403 3 rfl rfl ?_
      refine gg_lv [(0, .ref b), (1, .ref (gB g + 0)), (2, .ref (A 1)), (3, .int (nI n)), (4, .int (nI f)), (5, .int (nI t)), (7, .ref q7), (8, .ref q8), (14, .int (nI (sm its f))), (15, .ref (A (3 + (t % 10)))), (16, .int 0)] ⟨rfl, rfl, rfl, rfl, rfl, rfl, rfl, rfl, rfl, rfl, rfl, trivial⟩ ?_
      refine gg_newi (N := n) C (fun _ h9 => Or.inr h9) rfl (by omega) (by exact ⟨by show _ ≤ 625049; omega, by show _ ≤ 7226551; omega⟩) dL_law_404 (fun q17 => ?_)
      refine gg_ls (wc g h7 ++ (sx g A n f (s_day n f t r) ++ (mx g q7 r7 n 12 P ++ (mx g q8 r8 f 6 V ++ [cI g q17 n (fun _ => 0)])))) (by simp only [List.append_assoc, List.nil_append]) ?_
      refine gg_astore C dL_law_406 (by decide) ?_
      refine gg_iload_n C dL_law_408 3 rfl rfl ?_
      refine gg_newi (N := n) C (fun _ h9 => Or.inr h9) rfl (by omega) (by exact ⟨by show _ ≤ 625049; omega, by show _ ≤ 7226551; omega⟩) dL_law_409 (fun q18 => ?_)
      refine gg_ls (wc g h7 ++ (sx g A n f (s_day n f t r) ++ (mx g q7 r7 n 12 P ++ (mx g q8 r8 f 6 V ++ [cI g q17 n (fun _ => 0), cI g q18 n (fun _ => 0)])))) (by simp only [List.append_assoc, List.cons_append, List.nil_append]) ?_
      refine gg_astore C dL_law_411 (by decide) ?_
      refine gg_iconst (v := 0) C dL_law_413 (by decide) ?_
      refine gg_istore C dL_law_414 (by decide) ?_
      refine gg_lv [(0, .ref b), (1, .ref (gB g + 0)), (2, .ref (A 1)), (3, .int (nI n)), (4, .int (nI f)), (5, .int (nI t)), (7, .ref q7), (8, .ref q8), (14, .int (nI (sm its f))), (15, .ref (A (3 + (t % 10)))), (16, .int (nI 0)), (17, .ref q17), (18, .ref q18), (19, .int (nI 0))] ⟨rfl, rfl, rfl, rfl, rfl, rfl, rfl, rfl, rfl, rfl, rfl, rfl, rfl, rfl, trivial⟩ ?_
      refine gg_wide (ce + 8) (sl + 100) (by omega) (by omega) ?_
      exact K h7 its q17 q18 H7 (D5.lo hn (by omega) (fun o ho => (e4 o (Or.inl ho)).symm) (fun o ho => e7 o (Or.inl ho))) (fun j k hj hk => by rw [e7 _ (Or.inl (by omega)), W5 j k hj hk, e4 _ (Or.inl (by omega))])
    have K367 : GW g p l e room_1 s m #[.ref b] below meth c 26 (wc g h6 ++ (sx g A n f (s_day n f t r) ++ (mx g q7 r7 n 12 P ++ (mx g q8 r8 f 6 V ++ [])))) (FF (AG g) s.heap.size) [(0, .ref b), (1, .ref (gB g + 0)), (2, .ref (A 1)), (3, .int (nI n)), (4, .int (nI f)), (5, .int (nI t)), (6, .int x), (7, .ref q7), (8, .ref q8), (9, .int (nI u)), (10, .int (FW n f t h u 1)), (11, .int v3), (12, .int v4), (13, .int (nI q)), (14, .int (nI (sm its f)))] (((((ce + 1) + 1) + 1) + 1) + 1) (((((sl + 6) + 6) + 6) + 6) + 10) Q 367 [] := by
      refine gg_iload C dL_law_367 rfl ?_
      refine gg_iconst (v := 1) C dL_law_369 (by decide) ?_
      refine gg_icmp_le C dL_law_370 388 (by decide) (fun c370 => ?_) (fun c370 => ?_)
      · refine gg_wide ((((((ce + 1) + 1) + 1) + 1) + 1) + 1) ((((((sl + 6) + 6) + 6) + 6) + 10) + 6) (by omega) (by omega) ?_
        refine gg_lv [(0, .ref b), (1, .ref (gB g + 0)), (2, .ref (A 1)), (3, .int (nI n)), (4, .int (nI f)), (5, .int (nI t)), (6, .int x), (7, .ref q7), (8, .ref q8), (9, .int (nI u)), (10, .int (FW n f t h u 1)), (11, .int v3), (12, .int v4), (13, .int (nI q)), (14, .int (nI (sm its f)))] ⟨rfl, rfl, rfl, rfl, rfl, rfl, rfl, rfl, rfl, rfl, rfl, rfl, rfl, rfl, rfl, trivial⟩ ?_
        exact K388 h6 LO.refl
      · refine gg_aload_n C dL_law_373 1 rfl rfl ?_
        refine gg_iload C dL_law_374 rfl ?_
        obtain ⟨v9, h7, ex7, e7, hl7⟩ := lw_lasts H6.1 hu
        have hv9 : v9 = v3 - 1 := lst_n hl (Int32.not_le.mp c370) (by rw [show (fun i => FW n f t h u (i + 1)) = FW n f (t + 1) h6 u from funext (fun i => (b0 i).symm)]; exact hl7)
        subst hv9
        refine gg_ls (wl g (sx g A n f (s_day n f t r) ++ (mx g q7 r7 n 12 P ++ (mx g q8 r8 f 6 V ++ []))) h6) rfl ?_
        refine gc_callX (As := [.int (nI u)]) C hE mf_X4_lasts (xt_X4_lasts hst H6.1.2.1 H6.1.2.2.2.2.1 (by omega)) ex7 q_m_L_109 rfl rfl rfl (Nat.le_of_ble_eq_true rfl) (by exact ⟨Nat.le_of_ble_eq_true rfl, Nat.le_of_ble_eq_true rfl⟩) (by exact ⟨by show _ ≤ 625049; omega, by show _ ≤ 7226551; omega⟩) dL_law_376 ?_
        refine gg_ls (wc g h7 ++ (sx g A n f (s_day n f t r) ++ (mx g q7 r7 n 12 P ++ (mx g q8 r8 f 6 V ++ [])))) rfl ?_
        refine gg_iload C dL_law_379 rfl ?_
        refine gg_iconst (v := 1) C dL_law_381 (by decide) ?_
        refine gg_isub C dL_law_382 ?_
        refine gg_icmp_eq C dL_law_383 388 (by decide) (fun c383 => ?_) (fun q => absurd rfl q)
        refine gg_lv [(0, .ref b), (1, .ref (gB g + 0)), (2, .ref (A 1)), (3, .int (nI n)), (4, .int (nI f)), (5, .int (nI t)), (6, .int x), (7, .ref q7), (8, .ref q8), (9, .int (nI u)), (10, .int (FW n f t h u 1)), (11, .int v3), (12, .int v4), (13, .int (nI q)), (14, .int (nI (sm its f)))] ⟨rfl, rfl, rfl, rfl, rfl, rfl, rfl, rfl, rfl, rfl, rfl, rfl, rfl, rfl, rfl, trivial⟩ ?_
        exact K388 h7 e7
    have K333 : GW g p l e room_1 s m #[.ref b] below meth c 26 (wc g h6 ++ (sx g A n f (s_day n f t r) ++ (mx g q7 r7 n 12 P ++ (mx g q8 r8 f 6 V ++ [])))) (FF (AG g) s.heap.size) [(0, .ref b), (1, .ref (gB g + 0)), (2, .ref (A 1)), (3, .int (nI n)), (4, .int (nI f)), (5, .int (nI t)), (6, .int x), (7, .ref q7), (8, .ref q8), (9, .int (nI u)), (10, .int (FW n f t h u 1)), (11, .int v3), (12, .int v4), (13, .int (nI q)), (14, .int (nI (sm its f)))] (((((ce + 1) + 1) + 1) + 1) + 1) (((((sl + 6) + 6) + 6) + 6) + 10) Q 333 [] := by
      refine gg_iload C dL_law_333 rfl ?_
      refine gg_iconst (v := 1) C dL_law_335 (by decide) ?_
      refine gg_icmp_ne C dL_law_336 343 (by decide) (fun c336 => ?_) (fun c336 => ?_)
      · refine gg_iconst (v := 0) C dL_law_343 (by decide) ?_
        refine gg_aload C dL_law_344 rfl ?_
        refine gg_iload C dL_law_346 rfl ?_
        refine gy_row1 (j := u) C (by omega) rfl hu dL_law_348 ?_
        refine gg_iconst (v := 5) C dL_law_349 (by decide) ?_
        refine gy_ld1 (j := u) (k := 5) C (by omega) hu (by first | rfl | decide) (by omega) dL_law_350 ?_
        refine gg_top (y := FW n f t h u 0) e0 ?_
        refine gg_if_le C dL_law_351 363 (by decide) (fun c351 => ?_) (fun c351 => ?_)
        · refine gg_iconst (v := 0) C dL_law_363 (by decide) ?_
          refine gg_icmp_ne C dL_law_364 386 (by decide) (fun q => absurd rfl q) (fun c364 => ?_)
          refine gg_lv [(0, .ref b), (1, .ref (gB g + 0)), (2, .ref (A 1)), (3, .int (nI n)), (4, .int (nI f)), (5, .int (nI t)), (6, .int x), (7, .ref q7), (8, .ref q8), (9, .int (nI u)), (10, .int (FW n f t h u 1)), (11, .int v3), (12, .int v4), (13, .int (nI q)), (14, .int (nI (sm its f)))] ⟨rfl, rfl, rfl, rfl, rfl, rfl, rfl, rfl, rfl, rfl, rfl, rfl, rfl, rfl, rfl, trivial⟩ ?_
          exact K367
        · refine gg_iload C dL_law_354 rfl ?_
          refine gg_if_ne C dL_law_356 363 (by decide) (fun c356 => ?_) (fun q => absurd (a1.mpr ⟨fun z => absurd c351 (by rw [z]; decide), q⟩) c336)
          refine gg_iconst (v := 0) C dL_law_363 (by decide) ?_
          refine gg_icmp_ne C dL_law_364 386 (by decide) (fun q => absurd rfl q) (fun c364 => ?_)
          refine gg_lv [(0, .ref b), (1, .ref (gB g + 0)), (2, .ref (A 1)), (3, .int (nI n)), (4, .int (nI f)), (5, .int (nI t)), (6, .int x), (7, .ref q7), (8, .ref q8), (9, .int (nI u)), (10, .int (FW n f t h u 1)), (11, .int v3), (12, .int v4), (13, .int (nI q)), (14, .int (nI (sm its f)))] ⟨rfl, rfl, rfl, rfl, rfl, rfl, rfl, rfl, rfl, rfl, rfl, rfl, rfl, rfl, rfl, trivial⟩ ?_
          exact K367
      · obtain ⟨d0, d1⟩ := a1.mp c336
        refine gg_iconst (v := 1) C dL_law_339 (by decide) ?_
        refine gg_goto C dL_law_340 344 (by decide) ?_
        refine gg_aload C dL_law_344 rfl ?_
        refine gg_iload C dL_law_346 rfl ?_
        refine gy_row1 (j := u) C (by omega) rfl hu dL_law_348 ?_
        refine gg_iconst (v := 5) C dL_law_349 (by decide) ?_
        refine gy_ld1 (j := u) (k := 5) C (by omega) hu (by first | rfl | decide) (by omega) dL_law_350 ?_
        refine gg_top (y := FW n f t h u 0) e0 ?_
        obtain ⟨w0, hw0, ew0⟩ := fw_nI (t := t) (i := 0) hn (by omega) T.1 hu
        refine gg_if_le C dL_law_351 363 (by decide) (fun q => absurd q (fun z => d0 ((by rw [ew0] at z ⊢; exact (le0 (by omega)).mp z)))) (fun c351 => ?_)
        refine gg_iload C dL_law_354 rfl ?_
        refine gg_if_ne C dL_law_356 363 (by decide) (fun q => absurd d1 q) (fun c356 => ?_)
        refine gg_iconst (v := 1) C dL_law_359 (by decide) ?_
        refine gg_goto C dL_law_360 364 (by decide) ?_
        refine gg_icmp_ne C dL_law_364 386 (by decide) (fun q => absurd rfl q) (fun c364 => ?_)
        refine gg_lv [(0, .ref b), (1, .ref (gB g + 0)), (2, .ref (A 1)), (3, .int (nI n)), (4, .int (nI f)), (5, .int (nI t)), (6, .int x), (7, .ref q7), (8, .ref q8), (9, .int (nI u)), (10, .int (FW n f t h u 1)), (11, .int v3), (12, .int v4), (13, .int (nI q)), (14, .int (nI (sm its f)))] ⟨rfl, rfl, rfl, rfl, rfl, rfl, rfl, rfl, rfl, rfl, rfl, rfl, rfl, rfl, rfl, trivial⟩ ?_
        exact K367
    refine gg_iload C dL_law_305 rfl ?_
    refine gg_if_ne C dL_law_307 314 (by decide) (fun c307 => ?_) (fun c307 => ?_)
    · refine gg_iconst (v := 0) C dL_law_314 (by decide) ?_
      refine gg_aload C dL_law_315 rfl ?_
      refine gg_iload C dL_law_317 rfl ?_
      refine gy_row1 (j := u) C (by omega) rfl hu dL_law_319 ?_
      refine gg_iconst (v := 5) C dL_law_320 (by decide) ?_
      refine gy_ld1 (j := u) (k := 5) C (by omega) hu (by first | rfl | decide) (by omega) dL_law_321 ?_
      refine gg_top (y := FW n f t h u 0) e0 ?_
      refine gg_if_ne C dL_law_322 329 (by decide) (fun c322 => ?_) (fun q => absurd (a0.mpr q) c307)
      refine gg_iconst (v := 0) C dL_law_329 (by decide) ?_
      refine gg_icmp_ne C dL_law_330 386 (by decide) (fun q => absurd rfl q) (fun c330 => ?_)
      refine gg_lv [(0, .ref b), (1, .ref (gB g + 0)), (2, .ref (A 1)), (3, .int (nI n)), (4, .int (nI f)), (5, .int (nI t)), (6, .int x), (7, .ref q7), (8, .ref q8), (9, .int (nI u)), (10, .int (FW n f t h u 1)), (11, .int v3), (12, .int v4), (13, .int (nI q)), (14, .int (nI (sm its f)))] ⟨rfl, rfl, rfl, rfl, rfl, rfl, rfl, rfl, rfl, rfl, rfl, rfl, rfl, rfl, rfl, trivial⟩ ?_
      exact K333
    · refine gg_iconst (v := 1) C dL_law_310 (by decide) ?_
      refine gg_goto C dL_law_311 315 (by decide) ?_
      refine gg_aload C dL_law_315 rfl ?_
      refine gg_iload C dL_law_317 rfl ?_
      refine gy_row1 (j := u) C (by omega) rfl hu dL_law_319 ?_
      refine gg_iconst (v := 5) C dL_law_320 (by decide) ?_
      refine gy_ld1 (j := u) (k := 5) C (by omega) hu (by first | rfl | decide) (by omega) dL_law_321 ?_
      refine gg_top (y := FW n f t h u 0) e0 ?_
      refine gg_if_ne C dL_law_322 329 (by decide) (fun q => absurd (a0.mp c307) q) (fun c322 => ?_)
      refine gg_iconst (v := 1) C dL_law_325 (by decide) ?_
      refine gg_goto C dL_law_326 330 (by decide) ?_
      refine gg_icmp_ne C dL_law_330 386 (by decide) (fun q => absurd rfl q) (fun c330 => ?_)
      refine gg_lv [(0, .ref b), (1, .ref (gB g + 0)), (2, .ref (A 1)), (3, .int (nI n)), (4, .int (nI f)), (5, .int (nI t)), (6, .int x), (7, .ref q7), (8, .ref q8), (9, .int (nI u)), (10, .int (FW n f t h u 1)), (11, .int v3), (12, .int v4), (13, .int (nI q)), (14, .int (nI (sm its f)))] ⟨rfl, rfl, rfl, rfl, rfl, rfl, rfl, rfl, rfl, rfl, rfl, rfl, rfl, rfl, rfl, trivial⟩ ?_
      exact K333
  refine gg_iload C dL_law_223 rfl ?_
  refine gg_iconst (v := 5) C dL_law_225 (by decide) ?_
  refine gg_irem C dL_law_226 (by decide) ?_
  refine gg_if_ne C dL_law_227 240 (by decide) (fun c227 => ?_) (fun c227 => ?_)
  · refine gg_iconst (v := (-1)) C dL_law_240 (by decide) ?_
    refine gg_wide (((ce + 1) + 1) + 1) (((sl + 6) + 6) + 6) (by omega) (by omega) ?_
    refine gg_lv [(0, .ref b), (1, .ref (gB g + 0)), (2, .ref (A 1)), (3, .int (nI n)), (4, .int (nI f)), (5, .int (nI t)), (6, .int x), (7, .ref q7), (8, .ref q8), (9, .int (nI u)), (10, .int (FW n f t h u 1)), (11, .int v3)] ⟨rfl, rfl, rfl, rfl, rfl, rfl, rfl, rfl, rfl, rfl, rfl, rfl, trivial⟩ ?_
    exact K241 h3 (-1) (e2.trans e3) (by decide)
  · obtain ⟨v4, h4, ex4, e4, hv4⟩ := lw_keep H3.1 hu
    refine gg_aload_n C dL_law_230 1 rfl rfl ?_
    refine gg_iload C dL_law_231 rfl ?_
    refine gg_iconst (v := 2) C dL_law_233 (by decide) ?_
    refine gg_ls (wl g (sx g A n f r ++ (mx g q7 r7 n 12 P ++ (mx g q8 r8 f 6 V ++ []))) h3) rfl ?_
    refine gc_callX (As := [.int (nI u), .int 2]) C hE mf_X4_keep (xt_X4_keep hst H3.1.2.1 H3.1.2.2.2.2.1 (by omega)) ex4 q_m_L_112 rfl rfl rfl (Nat.le_of_ble_eq_true rfl) (by exact ⟨Nat.le_of_ble_eq_true rfl, Nat.le_of_ble_eq_true rfl⟩) (by exact ⟨by show _ ≤ 625049; omega, by show _ ≤ 7226551; omega⟩) dL_law_234 ?_
    refine gg_ls (wc g h4 ++ (sx g A n f r ++ (mx g q7 r7 n 12 P ++ (mx g q8 r8 f 6 V ++ [])))) rfl ?_
    refine gg_goto C dL_law_237 241 (by decide) ?_
    refine gg_lv [(0, .ref b), (1, .ref (gB g + 0)), (2, .ref (A 1)), (3, .int (nI n)), (4, .int (nI f)), (5, .int (nI t)), (6, .int x), (7, .ref q7), (8, .ref q8), (9, .int (nI u)), (10, .int (FW n f t h u 1)), (11, .int v3)] ⟨rfl, rfl, rfl, rfl, rfl, rfl, rfl, rfl, rfl, rfl, rfl, rfl, trivial⟩ ?_
    exact K241 h4 (nI v4) ((e2.trans e3).trans e4) (fun z => absurd ((nI_ltI (a := 80) (b := v4) (by omega) (by omega)).mp z) (by omega))
