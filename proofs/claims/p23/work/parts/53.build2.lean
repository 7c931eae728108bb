/-! build: links and water -/
set_option maxHeartbeats 4000000 in
theorem bd_2 {g : gW} {p : Program} {l : Launch} {e : Env} {s : State} {m : MethodId} {below : List Frame} {meth : Method} {c : Code} {b N : Nat} {xs : Nat → Int32} {Q : State → Prop} (C : CG g p s m ([.ref (gB g + 0), .ref b, .int 7] : List Value).toArray meth c cL_build 13 RL) (hst : l.stackTraces = false) (hE : EXs g s) (hX : XS g b N xs s) (hN : N ≤ 260) {A : Ad} {n t q : Nat} (hn1 : 1 ≤ n) (hn7 : n ≤ 7) (K : ∀ (h r : Hp), TS n 0 t q h r → (∀ i c, i < 10 → c < 3 → r (3 + i) c = 0) → GW g p l e (rK 8 100 600) s m ([.ref (gB g + 0), .ref b, .int 7] : List Value).toArray below meth c 13 (wc g h ++ (sx g A n 0 r ++ [])) (FF (AG g) s.heap.size) [(0, .ref (gB g + 0)), (1, .ref b), (3, .ref (A 1)), (5, .int (nI n))] (35 + 2 * 7) (234 + 12 * 7) Q 493 []) : ∀ (fu j : Nat), j ≤ n → n < fu + j → ∀ (h r : Hp), TS n 0 t q h r → (∀ i, j ≤ i → i < n → r (15 + i) 5 = 0 ∧ r (15 + i) 8 = -1) → (∀ i c, i < 10 → c < 3 → r (3 + i) c = 0) → GW g p l e (rK 8 100 600) s m ([.ref (gB g + 0), .ref b, .int 7] : List Value).toArray below meth c 13 (wc g h ++ (sx g A n 0 r ++ [])) (FF (AG g) s.heap.size) [(0, .ref (gB g + 0)), (1, .ref b), (3, .ref (A 1)), (5, .int (nI n)), (6, .int (nI j))] (35 + 2 * j) (234 + 12 * j) Q 335 [] := by
  have hFA : ∀ q, q < s.heap.size → FF (AG g) s.heap.size q → AG g q := fun q h1 h2 => h2.elim id (fun z => absurd h1 (by omega))
  have hn : n ≤ 10 := by omega
  intro fu
  induction fu with
  | zero => intro i h1 h2; omega
  | succ fu ih =>
    intro j hj9 hfu h r hT hW hW0
    refine gg_iload C dL_build_335 rfl ?_
    refine gg_iload C dL_build_337 rfl ?_
    refine gg_icmp_ge C dL_build_339 493 (by decide) (fun q9 => ?_) (fun q9 => ?_)
    · have hin := lp_exit rfl q9 hj9 (by omega)
      subst hin
      refine gg_wide (35 + 2 * 7) (234 + 12 * 7) (by omega) (by omega) ?_
      refine gg_lv [(0, .ref (gB g + 0)), (1, .ref b), (3, .ref (A 1)), (5, .int (nI n))] ⟨rfl, rfl, rfl, rfl, trivial⟩ ?_
      exact K h r hT hW0
    · have hj := lp_body rfl q9 hj9 (by omega)
      have hWj := hW j (Nat.le_refl j) hj
      refine gg_aload_n C dL_build_342 1 rfl rfl ?_
      refine gg_iconst (v := 5) C dL_build_343 (by decide) ?_
      refine gg_top (y := nI 5) rfl ?_
      refine gg_callP (v := cel N xs 5) C mf_L_cell (gt_L_cell (by omega) (by omega)) XS_blind (EM.xs hX hFA) (fun _ h9 => Or.inr h9) q_m_L_12 rfl rfl (Nat.le_of_ble_eq_true rfl) (by exact ⟨Nat.le_of_ble_eq_true rfl, Nat.le_of_ble_eq_true rfl⟩) (by exact ⟨by show _ ≤ 100; omega, by show _ ≤ 600; omega⟩) dL_build_344 ?_
      refine gg_iconst (v := 2) C dL_build_347 (by decide) ?_
      refine gg_iload C dL_build_348 rfl ?_
      refine gg_imul C dL_build_350 ?_
      refine gg_ishr C dL_build_351 ?_
      refine gg_iload C dL_build_352 rfl ?_
      refine gg_callP (v := bel ((cel N xs 5) >>> ((2 * (nI j)) &&& 31)) (nI n)) C mf_L_below (gt_L_below (fun z => absurd ((nI_eq (a := n) (b := 0) (by omega) (by omega)).mp z) (by omega))) EB.tt EM.tt (fun _ h9 => Or.inr h9) q_m_L_18 rfl rfl (Nat.le_of_ble_eq_true rfl) (by exact ⟨Nat.le_of_ble_eq_true rfl, Nat.le_of_ble_eq_true rfl⟩) (by exact ⟨by show _ ≤ 100; omega, by show _ ≤ 600; omega⟩) dL_build_354 ?_
      obtain ⟨o, ho, eo⟩ := bel_is (x := ((cel N xs 5) >>> ((2 * (nI j)) &&& 31))) (N := n) (by omega) (by omega)
      refine gg_top (show bel ((cel N xs 5) >>> ((2 * (nI j)) &&& 31)) (nI n) = nI o from eo) ?_
      refine gg_istore C dL_build_357 (by decide) ?_
      refine gg_aload_n C dL_build_359 3 rfl rfl ?_
      refine gs_pon C hn q_f_L_22 dL_build_360 ?_
      refine gg_iload C dL_build_363 rfl ?_
      refine gs_aldP (j := o) C hn rfl ho dL_build_365 ?_
      refine gg_iconst (v := 2) C dL_build_366 (by decide) ?_
      refine gs_ld (o := 15 + o) (k := 2) C hn (by decide) (by unfold sW; omega) dL_build_367 ?_
      refine gg_aload_n C dL_build_368 3 rfl rfl ?_
      refine gs_pon C hn q_f_L_22 dL_build_369 ?_
      refine gg_iload C dL_build_372 rfl ?_
      refine gs_aldP (j := j) C hn rfl hj dL_build_374 ?_
      refine gg_iconst (v := 2) C dL_build_375 (by decide) ?_
      refine gs_ld (o := 15 + j) (k := 2) C hn (by decide) (by unfold sW; omega) dL_build_376 ?_
      have K406 : ∀ (h r : Hp), TS n 0 t q h r → (∀ i, j + 1 ≤ i → i < n → r (15 + i) 5 = 0 ∧ r (15 + i) 8 = -1) → r (15 + j) 5 = 0 → (∀ i c, i < 10 → c < 3 → r (3 + i) c = 0) → GW g p l e (rK 8 100 600) s m ([.ref (gB g + 0), .ref b, .int 7] : List Value).toArray below meth c 13 (wc g h ++ (sx g A n 0 r ++ [])) (FF (AG g) s.heap.size) [(0, .ref (gB g + 0)), (1, .ref b), (3, .ref (A 1)), (5, .int (nI n)), (6, .int (nI j))] (35 + 2 * j + 1) (234 + 12 * j + 6) Q 406 [] := by
        intro h r hT hW1 h5 hW0
        refine gg_aload_n C dL_build_406 1 rfl rfl ?_
        refine gg_bipush (v := 6) C dL_build_407 (by decide) ?_
        refine gg_top (y := nI 6) rfl ?_
        refine gg_callP (v := cel N xs 6) C mf_L_cell (gt_L_cell (by omega) (by omega)) XS_blind (EM.xs hX hFA) (fun _ h9 => Or.inr h9) q_m_L_12 rfl rfl (Nat.le_of_ble_eq_true rfl) (by exact ⟨Nat.le_of_ble_eq_true rfl, Nat.le_of_ble_eq_true rfl⟩) (by exact ⟨by show _ ≤ 100; omega, by show _ ≤ 600; omega⟩) dL_build_409 ?_
        refine gg_iload C dL_build_412 rfl ?_
        refine gg_ishr C dL_build_414 ?_
        refine gg_iconst (v := 3) C dL_build_415 (by decide) ?_
        refine gg_callP (v := bel ((cel N xs 6) >>> ((nI j) &&& 31)) 3) C mf_L_below (gt_L_below (by decide)) EB.tt EM.tt (fun _ h9 => Or.inr h9) q_m_L_18 rfl rfl (Nat.le_of_ble_eq_true rfl) (by exact ⟨Nat.le_of_ble_eq_true rfl, Nat.le_of_ble_eq_true rfl⟩) (by exact ⟨by show _ ≤ 100; omega, by show _ ≤ 600; omega⟩) dL_build_416 ?_
        have K443 : ∀ a : Nat, a < 6000 → GW g p l e (rK 8 100 600) s m ([.ref (gB g + 0), .ref b, .int 7] : List Value).toArray below meth c 13 (wc g h ++ (sx g A n 0 r ++ [])) (FF (AG g) s.heap.size) [(0, .ref (gB g + 0)), (1, .ref b), (3, .ref (A 1)), (5, .int (nI n)), (6, .int (nI j))] (35 + 2 * j + 1) (234 + 12 * j + 6) Q 443 [.int (nI a)] := by
          intro a ha
          have hh := hold_nI hT.1 hT.2.1 hj
          refine gg_istore C dL_build_443 (by decide) ?_
          refine gg_aload_n C dL_build_445 3 rfl rfl ?_
          refine gs_pon C hn q_f_L_22 dL_build_446 ?_
          refine gg_iload C dL_build_449 rfl ?_
          refine gs_aldP (j := j) C hn rfl hj dL_build_451 ?_
          refine gg_iconst (v := 5) C dL_build_452 (by decide) ?_
          refine gg_iload C dL_build_453 rfl ?_
          refine gg_aload_n C dL_build_455 3 rfl rfl ?_
          refine gg_iload C dL_build_456 rfl ?_
          refine gg_callV (A := wc g h) (B := []) (q := (RX5, TX5, 5)) (ci := 5) C mf_X5_holds (gt_X5_holds hn (j := j) rfl hj) EB.tt EM.tt sx_mem (sx_hG hn (fun _ h9 => Or.inr h9)) (sx_hap hn) q_m_L_39 rfl rfl (sJ n 1) (sx_get hn (Or.inl ⟨by omega, by omega⟩)) rfl rfl (Nat.le_of_ble_eq_true rfl) (by exact ⟨Nat.le_of_ble_eq_true rfl, Nat.le_of_ble_eq_true rfl⟩) (by exact ⟨by show _ ≤ 100; omega, by show _ ≤ 600; omega⟩) dL_build_458 (fun v9 L9 N9 hp9 => ?_)
          obtain ⟨rfl, rfl, rfl⟩ := hp9
          refine gg_ls (wc g h ++ (sx g A n 0 r ++ [])) (by rw [List.append_nil]) ?_
          refine gg_mmin C q_m_L_43 (Nat.le_of_ble_eq_true rfl) (by first | exact Nat.le_of_ble_eq_true rfl | (simp only [List.map, List.sum]; decide)) (by show _ ≤ 100; omega) (by show _ ≤ 600; omega) dL_build_461 ?_
          refine gs_st (o := 15 + j) (k := 5) C hn (by decide) (by unfold sW; omega) dL_build_464 ?_
          refine gg_aload_n C dL_build_465 0 rfl rfl ?_
          refine gg_iload C dL_build_466 rfl ?_
          refine gg_iload C dL_build_468 rfl ?_
          obtain ⟨h2, h3, ex, elo, T3, R3⟩ := lw_pour0 hT.1 hT.2.1 hj ha h5
          refine gg_ls (wl g (sx g A n 0 (hp_up r (15 + j) 5 (mnI (nI a) (s_holds r (15 + j)))) ++ []) h) rfl ?_
          refine gc_callX (As := [.int (nI j), .int (nI a)]) C hE mf_X4_pour (xt_X4_pour hst hT.1.2.1) ex q_m_L_48 rfl rfl rfl (Nat.le_of_ble_eq_true rfl) (by exact ⟨Nat.le_of_ble_eq_true rfl, Nat.le_of_ble_eq_true rfl⟩) (by exact ⟨by show _ ≤ 100; omega, by show _ ≤ 600; omega⟩) dL_build_470 ?_
          refine gg_ls (wc g h3 ++ (sx g A n 0 (hp_up r (15 + j) 5 (mnI (nI a) (s_holds r (15 + j)))) ++ [])) (wl_lo elo) ?_
          refine gg_aload_n C dL_build_473 3 rfl rfl ?_
          refine gs_pon C hn q_f_L_22 dL_build_474 ?_
          refine gg_iload C dL_build_477 rfl ?_
          refine gs_aldP (j := j) C hn rfl hj dL_build_479 ?_
          refine gg_iconst (v := 5) C dL_build_480 (by decide) ?_
          refine gs_ld (o := 15 + j) (k := 5) C hn (by decide) (by unfold sW; omega) dL_build_481 ?_
          refine gg_icmp_eq C dL_build_482 487 (by decide) (fun _ => ?_) (fun z9 => absurd hp_upd.symm z9)
          refine gg_iinc (v := nI (j + 1)) C dL_build_487 rfl (nI_inc _) (by decide) ?_
          refine gg_goto C dL_build_490 335 (by decide) ?_
          refine gg_wide (35 + 2 * (j + 1)) (234 + 12 * (j + 1)) (by omega) (by omega) ?_
          refine gg_lv [(0, .ref (gB g + 0)), (1, .ref b), (3, .ref (A 1)), (5, .int (nI n)), (6, .int (nI (j + 1)))] ⟨rfl, rfl, rfl, rfl, rfl, trivial⟩ ?_
          exact ih (j + 1) hj (by omega) h3 _ ⟨T3, R3, hT.2.2.up (by decide)⟩ (fun i h1 h2 => by rw [hp_off (Or.inl (by omega)), hp_off (Or.inl (by omega))]; exact hW1 i h1 h2) (fun i cc hi hc => by rw [hp_off (Or.inl (by omega))]; exact hW0 i cc hi hc)
        refine gg_if_ne C dL_build_419 426 (by decide) (fun c419 => ?_) (fun c419 => ?_)
        · refine gg_aload_n C dL_build_426 1 rfl rfl ?_
          refine gg_bipush (v := 6) C dL_build_427 (by decide) ?_
          refine gg_top (y := nI 6) rfl ?_
          refine gg_callP (v := cel N xs 6) C mf_L_cell (gt_L_cell (by omega) (by omega)) XS_blind (EM.xs hX hFA) (fun _ h9 => Or.inr h9) q_m_L_12 rfl rfl (Nat.le_of_ble_eq_true rfl) (by exact ⟨Nat.le_of_ble_eq_true rfl, Nat.le_of_ble_eq_true rfl⟩) (by exact ⟨by show _ ≤ 100; omega, by show _ ≤ 600; omega⟩) dL_build_429 ?_
          refine gg_iconst (v := 2) C dL_build_432 (by decide) ?_
          refine gg_iload C dL_build_433 rfl ?_
          refine gg_imul C dL_build_435 ?_
          refine gg_ishr C dL_build_436 ?_
          refine gg_sipush (v := 6000) C dL_build_437 (by decide) ?_
          refine gg_callP (v := bel ((cel N xs 6) >>> ((2 * (nI j)) &&& 31)) 6000) C mf_L_below (gt_L_below (by decide)) EB.tt EM.tt (fun _ h9 => Or.inr h9) q_m_L_18 rfl rfl (Nat.le_of_ble_eq_true rfl) (by exact ⟨Nat.le_of_ble_eq_true rfl, Nat.le_of_ble_eq_true rfl⟩) (by exact ⟨by show _ ≤ 100; omega, by show _ ≤ 600; omega⟩) dL_build_440 ?_
          obtain ⟨a, ha, ea⟩ := bel_is (x := ((cel N xs 6) >>> ((2 * (nI j)) &&& 31))) (N := 6000) (by omega) (by omega)
          refine gg_top (show bel ((cel N xs 6) >>> ((2 * (nI j)) &&& 31)) 6000 = nI a from ea) ?_
          refine gg_lv [(0, .ref (gB g + 0)), (1, .ref b), (3, .ref (A 1)), (5, .int (nI n)), (6, .int (nI j))] ⟨rfl, rfl, rfl, rfl, rfl, trivial⟩ ?_
          exact K443 a ha
        · refine gg_iconst (v := 0) C dL_build_422 (by decide) ?_
          refine gg_goto C dL_build_423 443 (by decide) ?_
          refine gg_top (y := nI 0) rfl ?_
          refine gg_lv [(0, .ref (gB g + 0)), (1, .ref b), (3, .ref (A 1)), (5, .int (nI n)), (6, .int (nI j))] ⟨rfl, rfl, rfl, rfl, rfl, trivial⟩ ?_
          exact K443 0 (by omega)
      refine gg_icmp_ge C dL_build_377 406 (by decide) (fun c377 => ?_) (fun c377 => ?_)
      · refine gg_wide (35 + 2 * j + 1) (234 + 12 * j + 6) (by omega) (by omega) ?_
        refine gg_lv [(0, .ref (gB g + 0)), (1, .ref b), (3, .ref (A 1)), (5, .int (nI n)), (6, .int (nI j))] ⟨rfl, rfl, rfl, rfl, rfl, trivial⟩ ?_
        exact K406 h r hT (fun i h1 h2 => hW i (by omega) h2) hWj.1 hW0
      · refine gg_aload_n C dL_build_380 3 rfl rfl ?_
        refine gs_pon C hn q_f_L_22 dL_build_381 ?_
        refine gg_iload C dL_build_384 rfl ?_
        refine gs_aldP (j := j) C hn rfl hj dL_build_386 ?_
        refine gg_bipush (v := 8) C dL_build_387 (by decide) ?_
        refine gg_iload C dL_build_389 rfl ?_
        refine gs_st (o := 15 + j) (k := 8) C hn (by decide) (by unfold sW; omega) dL_build_391 ?_
        refine gg_aload_n C dL_build_392 0 rfl rfl ?_
        refine gg_iload C dL_build_393 rfl ?_
        refine gg_iload C dL_build_395 rfl ?_
        obtain ⟨h2, h3, ex, elo, T3, R3⟩ := lw_link hT.1 hT.2.1 hj ho (Int32.not_le.mp c377)
        refine gg_ls (wl g (sx g A n 0 (hp_up r (15 + j) 8 (nI o)) ++ []) h) rfl ?_
        refine gc_callX (As := [.int (nI j), .int (nI o)]) C hE mf_X4_link (xt_X4_link hst hT.1.2.1) ex q_m_L_36 rfl rfl rfl (Nat.le_of_ble_eq_true rfl) (by exact ⟨Nat.le_of_ble_eq_true rfl, Nat.le_of_ble_eq_true rfl⟩) (by exact ⟨by show _ ≤ 100; omega, by show _ ≤ 600; omega⟩) dL_build_397 ?_
        refine gg_ls (wc g h3 ++ (sx g A n 0 (hp_up r (15 + j) 8 (nI o)) ++ [])) (wl_lo elo) ?_
        refine gg_iconst (v := (-1)) C dL_build_400 (by decide) ?_
        refine gg_icmp_eq C dL_build_401 406 (by decide) (fun _ => ?_) (fun z9 => absurd hWj.2 z9)
        refine gg_lv [(0, .ref (gB g + 0)), (1, .ref b), (3, .ref (A 1)), (5, .int (nI n)), (6, .int (nI j))] ⟨rfl, rfl, rfl, rfl, rfl, trivial⟩ ?_
        exact K406 h3 _ ⟨T3, R3, hT.2.2.up (by decide)⟩ (fun i h1 h2 => by rw [hp_off (Or.inl (by omega)), hp_off (Or.inl (by omega))]; exact hW i (by omega) h2) (by rw [hp_off (Or.inr (by omega))]; exact hWj.1) (fun i cc hi hc => by rw [hp_off (Or.inl (by omega))]; exact hW0 i cc hi hc)
