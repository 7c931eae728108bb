/-! build: the weather -/
set_option maxHeartbeats 4000000 in
theorem bd_3 {g : gW} {p : Program} {l : Launch} {e : Env} {s : State} {m : MethodId} {below : List Frame} {meth : Method} {c : Code} {b N : Nat} {xs : Nat → Int32} {Q : State → Prop} (C : CG g p s m ([.ref (gB g + 0), .ref b, .int 7] : List Value).toArray meth c cL_build 13 RL) (hst : l.stackTraces = false) (hE : EXs g s) (hX : XS g b N xs s) (hN : N ≤ 260) {n t q : Nat} (hn1 : 1 ≤ n) (hn7 : n ≤ 7) (K : ∀ (A : Ad) (h r : Hp), TS n 0 t q h r → GW g p l e (rK 8 100 600) s m ([.ref (gB g + 0), .ref b, .int 7] : List Value).toArray below meth c 13 (wc g h ++ (sx g A n 0 r ++ [])) (FF (AG g) s.heap.size) [(0, .ref (gB g + 0)), (1, .ref b), (3, .ref (A 1)), (5, .int (nI n))] (49 + 2 * 10) (318 + 9 * 10) Q 611 []) : ∀ (fu i : Nat), i ≤ 10 → 10 < fu + i → ∀ (A : Ad) (h r : Hp), TS n 0 t q h r → (∀ o c, i ≤ o → o < 10 → c < 3 → r (3 + o) c = 0) → GW g p l e (rK 8 100 600) s m ([.ref (gB g + 0), .ref b, .int 7] : List Value).toArray below meth c 13 (wc g h ++ (sx g A n 0 r ++ [])) (FF (AG g) s.heap.size) [(0, .ref (gB g + 0)), (1, .ref b), (3, .ref (A 1)), (5, .int (nI n)), (6, .int (nI i))] (49 + 2 * i) (318 + 9 * i) Q 496 [] := by
  have hFA : ∀ q, q < s.heap.size → FF (AG g) s.heap.size q → AG g q := fun q h1 h2 => h2.elim id (fun z => absurd h1 (by omega))
  have hn : n ≤ 10 := by omega
  intro fu
  induction fu with
  | zero => intro i h1 h2; omega
  | succ fu ih =>
    intro i hi9 hfu A h r hT hW0
    refine gg_iload C dL_build_496 rfl ?_
    refine gg_bipush (v := 10) C dL_build_498 (by decide) ?_
    refine gg_icmp_ge C dL_build_500 611 (by decide) (fun q9 => ?_) (fun q9 => ?_)
    · have hin := lp_exit (n := 10) rfl q9 hi9 (by omega)
      subst hin
      refine gg_lv [(0, .ref (gB g + 0)), (1, .ref b), (3, .ref (A 1)), (5, .int (nI n))] ⟨rfl, rfl, rfl, rfl, trivial⟩ ?_
      exact K A h r hT
    · have hi := lp_body (n := 10) rfl q9 hi9 (by omega)
      refine gg_aload_n C dL_build_503 1 rfl rfl ?_
      refine gg_bipush (v := 7) C dL_build_504 (by decide) ?_
      refine gg_iload C dL_build_506 rfl ?_
      refine gg_iconst (v := 3) C dL_build_508 (by decide) ?_
      refine gg_irem C dL_build_509 (by decide) ?_
      refine gg_iadd C dL_build_510 ?_
      refine gg_top (y := nI (7 + i % 3)) (by rw [show (3 : Int32) = nI 3 from rfl, mod_nI (by omega) (by omega) (by omega), show (7 : Int32) = nI 7 from rfl, nI_add]) ?_
      refine gg_callP (v := cel N xs (7 + i % 3)) C mf_L_cell (gt_L_cell (by omega) (by omega)) XS_blind (EM.xs hX hFA) (fun _ h9 => Or.inr h9) q_m_L_12 rfl rfl (Nat.le_of_ble_eq_true rfl) (by exact ⟨Nat.le_of_ble_eq_true rfl, Nat.le_of_ble_eq_true rfl⟩) (by exact ⟨by show _ ≤ 100; omega, by show _ ≤ 600; omega⟩) dL_build_511 ?_
      refine gg_iload C dL_build_514 rfl ?_
      refine gg_ishr C dL_build_516 ?_
      generalize ((cel N xs (7 + i % 3)) >>> ((nI i) &&& 31)) = x
      refine gg_istore C dL_build_517 (by decide) ?_
      refine gg_iconst (v := 3) C dL_build_519 (by decide) ?_
      refine gg_newi (N := 3) C (fun _ h9 => Or.inr h9) (by rfl) (by omega) (by exact ⟨by show _ ≤ 100; omega, by show _ ≤ 600; omega⟩) dL_build_520 (fun q0 => ?_)
      refine gg_ls (wc g h ++ (sx g A n 0 r ++ [cI g q0 3 (fun _ => 0)])) (by rw [sl_add]; rfl) ?_
      refine gg_dup C dL_build_522 rfl ?_
      refine gg_iconst (v := 0) C dL_build_523 (by decide) ?_
      refine gg_iload C dL_build_524 rfl ?_
      refine gg_bipush (v := 10) C dL_build_526 (by decide) ?_
      refine gg_callP (v := bel x 10) C mf_L_below (gt_L_below (by decide)) EB.tt EM.tt (fun _ h9 => Or.inr h9) q_m_L_18 rfl rfl (Nat.le_of_ble_eq_true rfl) (by exact ⟨Nat.le_of_ble_eq_true rfl, Nat.le_of_ble_eq_true rfl⟩) (by exact ⟨by show _ ≤ 100; omega, by show _ ≤ 600; omega⟩) dL_build_528 ?_
      obtain ⟨a0, ha0, ea0⟩ := bel_is (x := x) (N := 10) (by omega) (by omega)
      refine gg_top (show bel x 10 = nI a0 from ea0) ?_
      refine gs_ystI (j := 0) C 0 rfl (by decide) (by omega) (by omega) dL_build_531 ?_
      refine gg_dup C dL_build_532 rfl ?_
      refine gg_iconst (v := 1) C dL_build_533 (by decide) ?_
      refine gg_iload C dL_build_534 rfl ?_
      refine gg_iconst (v := 2) C dL_build_536 (by decide) ?_
      refine gg_ishr C dL_build_537 ?_
      refine gg_iconst (v := 3) C dL_build_538 (by decide) ?_
      refine gg_callP (v := bel (x >>> (2 &&& 31)) 3) C mf_L_below (gt_L_below (by decide)) EB.tt EM.tt (fun _ h9 => Or.inr h9) q_m_L_18 rfl rfl (Nat.le_of_ble_eq_true rfl) (by exact ⟨Nat.le_of_ble_eq_true rfl, Nat.le_of_ble_eq_true rfl⟩) (by exact ⟨by show _ ≤ 100; omega, by show _ ≤ 600; omega⟩) dL_build_539 ?_
      have K558 : ∀ a1 : Nat, a1 < 10 → GW g p l e (rK 8 100 600) s m ([.ref (gB g + 0), .ref b, .int 7] : List Value).toArray below meth c 13 (wc g h ++ (sx g A n 0 r ++ [cI g q0 3 (upd (fun _ => 0) 0 (nI a0))])) (FF (AG g) s.heap.size) [(0, .ref (gB g + 0)), (1, .ref b), (3, .ref (A 1)), (5, .int (nI n)), (6, .int (nI i)), (7, .int x)] ((49 + 2 * i) + 1) ((318 + 9 * i) + 3) Q 558 [.int (nI a1), .int 1, .ref q0, .ref q0] := by
        intro a1 ha1
        refine gs_ystI (j := 1) C 0 rfl (by decide) (by omega) (by omega) dL_build_558 ?_
        refine gg_dup C dL_build_559 rfl ?_
        refine gg_iconst (v := 2) C dL_build_560 (by decide) ?_
        refine gg_iload C dL_build_561 rfl ?_
        refine gg_iconst (v := 5) C dL_build_563 (by decide) ?_
        refine gg_ishr C dL_build_564 ?_
        refine gg_bipush (v := 10) C dL_build_565 (by decide) ?_
        refine gg_callP (v := bel (x >>> (5 &&& 31)) 10) C mf_L_below (gt_L_below (by decide)) EB.tt EM.tt (fun _ h9 => Or.inr h9) q_m_L_18 rfl rfl (Nat.le_of_ble_eq_true rfl) (by exact ⟨Nat.le_of_ble_eq_true rfl, Nat.le_of_ble_eq_true rfl⟩) (by exact ⟨by show _ ≤ 100; omega, by show _ ≤ 600; omega⟩) dL_build_567 ?_
        obtain ⟨a2, ha2, ea2⟩ := bel_is (x := (x >>> (5 &&& 31))) (N := 10) (by omega) (by omega)
        refine gg_top (show bel (x >>> (5 &&& 31)) 10 = nI a2 from ea2) ?_
        refine gs_ystI (j := 2) C 0 rfl (by decide) (by omega) (by omega) dL_build_570 ?_
        obtain ⟨fb, hfb, b0, b1, b2⟩ : ∃ fb : Nat → Int32, upd (upd (upd (fun _ => 0) 0 (nI a0)) 1 (nI a1)) 2 (nI a2) = fb ∧ fb 0 = nI a0 ∧ fb 1 = nI a1 ∧ fb 2 = nI a2 := ⟨_, rfl, rfl, rfl, rfl⟩
        refine gg_ls (wc g h ++ (sx g A n 0 r ++ [cI g q0 3 fb])) (by rw [← hfb]; rfl) ?_
        refine gg_astore C dL_build_571 (by decide) ?_
        refine gg_aload_n C dL_build_573 0 rfl rfl ?_
        refine gg_iload C dL_build_574 rfl ?_
        refine gg_aload C dL_build_576 rfl ?_
        refine gg_iconst (v := 0) C dL_build_578 (by decide) ?_
        refine gs_yldI (j := 0) C 0 rfl (by decide) (by omega) (by omega) dL_build_579 ?_
        refine gg_top (y := nI a0) (b0) ?_
        refine gg_aload C dL_build_580 rfl ?_
        refine gg_iconst (v := 1) C dL_build_582 (by decide) ?_
        refine gs_yldI (j := 1) C 0 rfl (by decide) (by omega) (by omega) dL_build_583 ?_
        refine gg_top (y := nI a1) (b1) ?_
        refine gg_aload C dL_build_584 rfl ?_
        refine gg_iconst (v := 2) C dL_build_586 (by decide) ?_
        refine gs_yldI (j := 2) C 0 rfl (by decide) (by omega) (by omega) dL_build_587 ?_
        refine gg_top (y := nI a2) (b2) ?_
        obtain ⟨h2, h3, ex, elo, T3, R3⟩ := lw_setW hT.1 hT.2.1 hi (show a0 ≤ 9 by omega) (show a1 ≤ 9 by omega) (show a2 ≤ 9 by omega)
        refine gg_ls (wl g (sx g A n 0 r ++ [cI g q0 3 fb]) h) rfl ?_
        refine gc_callX (As := [.int (nI i), .int (nI a0), .int (nI a1), .int (nI a2)]) C hE mf_X4_setWeather (xt_X4_setWeather hst) ex q_m_L_51 rfl rfl rfl (Nat.le_of_ble_eq_true rfl) (by exact ⟨Nat.le_of_ble_eq_true rfl, Nat.le_of_ble_eq_true rfl⟩) (by exact ⟨by show _ ≤ 100; omega, by show _ ≤ 600; omega⟩) dL_build_588 ?_
        refine gg_ls (wc g h3 ++ (sx g A n 0 r ++ [cI g q0 3 fb])) (wl_lo elo) ?_
        have e0 : w_num r (3 + i) = 0 := by unfold w_num; rw [hW0 i 0 (Nat.le_refl i) hi (by omega), hW0 i 1 (Nat.le_refl i) hi (by omega), hW0 i 2 (Nat.le_refl i) hi (by omega)]; rfl
        refine gg_if_eq C dL_build_591 596 (by decide) (fun _ => ?_) (fun z9 => absurd e0 z9)
        refine gg_aload_n C dL_build_596 3 rfl rfl ?_
        refine gs_wea C hn q_f_L_55 dL_build_597 ?_
        refine gg_iload C dL_build_600 rfl ?_
        refine gg_aload C dL_build_602 rfl ?_
        refine gg_aast (j := i) C ((wc g h3).length + sJ n 2) ((wc g h3).length + (14 + n + 0 + 0)) (sl_get hn (o := 2) (Or.inl ⟨by omega, by omega⟩)) (sl_Y (i := 0) rfl) rfl hi (by omega) dL_build_604 ?_
        refine gr_W (q := q0) (fw := fb) hn hi ?_
        refine gg_iinc (v := nI (i + 1)) C dL_build_605 rfl (nI_inc _) (by decide) ?_
        refine gg_goto C dL_build_608 496 (by decide) ?_
        refine gg_wide (49 + 2 * (i + 1)) (318 + 9 * (i + 1)) (by omega) (by omega) ?_
        refine gg_lv [(0, .ref (gB g + 0)), (1, .ref b), (3, .ref (adW A i q0 1)), (5, .int (nI n)), (6, .int (nI (i + 1)))] ⟨rfl, rfl, (by show some (Value.ref (A 1)) = some (Value.ref (adW A i q0 1)); unfold adW; rw [if_neg (by omega)]), rfl, rfl, trivial⟩ ?_
        refine ih (i + 1) hi (by omega) (adW A i q0) h3 _ ⟨T3, R3.same (fun o k hw => ?_) ?_ ?_, hT.2.2.keep (Or.inl (by omega))⟩ (fun o cc h1 h2 hc => ?_)
        · by_cases eo : o = 3 + i
          · subst eo
            rw [hp_row_eq]
            rcases (show k = 0 ∨ k = 1 ∨ k = 2 by unfold sW at hw; omega) with rfl | rfl | rfl
            · rw [hp_off (Or.inr (by omega)), hp_off (Or.inr (by omega)), hp_upd]; exact b0.symm
            · rw [hp_off (Or.inr (by omega)), hp_upd]; exact b1.symm
            · rw [hp_upd]; exact b2.symm
          · rw [hp_row_ne eo, hp_ne eo, hp_ne eo, hp_ne eo]
        · rw [hp_row_ne (by omega), hp_ne (by omega), hp_ne (by omega), hp_ne (by omega)]
        · rw [hp_row_ne (by omega), hp_ne (by omega), hp_ne (by omega), hp_ne (by omega)]
        · rw [hp_row_ne (by omega)]; exact hW0 o cc (by omega) h2 hc
      refine gg_if_ne C dL_build_542 557 (by decide) (fun c542 => ?_) (fun c542 => ?_)
      · refine gg_iconst (v := 0) C dL_build_557 (by decide) ?_
        refine gg_top (y := nI 0) rfl ?_
        refine gg_lv [(0, .ref (gB g + 0)), (1, .ref b), (3, .ref (A 1)), (5, .int (nI n)), (6, .int (nI i)), (7, .int x)] ⟨rfl, rfl, rfl, rfl, rfl, rfl, trivial⟩ ?_
        exact K558 0 (by omega)
      · refine gg_iload C dL_build_545 rfl ?_
        refine gg_iconst (v := 3) C dL_build_547 (by decide) ?_
        refine gg_ishr C dL_build_548 ?_
        refine gg_bipush (v := 10) C dL_build_549 (by decide) ?_
        refine gg_callP (v := bel (x >>> (3 &&& 31)) 10) C mf_L_below (gt_L_below (by decide)) EB.tt EM.tt (fun _ h9 => Or.inr h9) q_m_L_18 rfl rfl (Nat.le_of_ble_eq_true rfl) (by exact ⟨Nat.le_of_ble_eq_true rfl, Nat.le_of_ble_eq_true rfl⟩) (by exact ⟨by show _ ≤ 100; omega, by show _ ≤ 600; omega⟩) dL_build_551 ?_
        obtain ⟨a1, ha1, ea1⟩ := bel_is (x := (x >>> (3 &&& 31))) (N := 10) (by omega) (by omega)
        refine gg_top (show bel (x >>> (3 &&& 31)) 10 = nI a1 from ea1) ?_
        refine gg_goto C dL_build_554 558 (by decide) ?_
        refine gg_lv [(0, .ref (gB g + 0)), (1, .ref b), (3, .ref (A 1)), (5, .int (nI n)), (6, .int (nI i)), (7, .int x)] ⟨rfl, rfl, rfl, rfl, rfl, rfl, trivial⟩ ?_
        exact K558 a1 ha1
