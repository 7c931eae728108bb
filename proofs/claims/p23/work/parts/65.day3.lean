/-! the law, a day: its flocks -/
theorem lost4 {a : Nat} (ha : a ≤ 10) : (if bI ((10 : Int32) ≤ nI a) = 0 then (0 : Int32) else 1) = if a = 10 then 1 else 0 := by
  by_cases e : a = 10
  · subst e; decide
  · have h9 : ¬ (10 : Int32) ≤ nI a := fun z => absurd ((nI_leI (a := 10) (b := a) (by omega) (by omega)).mp z) (by omega)
    rw [if_neg e, bIf h9, if_pos rfl]
set_option maxHeartbeats 4000000 in
theorem dy_3 {g : gW} {p : Program} {l : Launch} {e : Env} {s : State} {m : MethodId} {below : List Frame} {meth : Method} {c : Code} {b : Nat} {Q : State → Prop} (C : CG g p s m #[.ref b] meth c cL_law 26 RL) {A : Ad} {n f t q q0 q7 q8 q17 q18 ce sl : Nat} {r7 r8 its : Nat → Nat} {P V : Nat → Nat → Int32} {h h7 r : Hp} (T : TOP n f t q0 h) (hT : TS n f (t + 1) q h7 r) (D9 : DAYP n f t h h7 its) (hn7 : n ≤ 7) (hf5 : f ≤ 5) (hV : FVs f h V) (hce : ce + 100 ≤ 625049) (hsl : sl + 1000 ≤ 7226551)
    (K : ∀ ψ : Nat → Int32, GW g p l e room_1 s m #[.ref b] below meth c 26 (wc g h7 ++ (sx g A n f r ++ (mx g q7 r7 n 12 P ++ (mx g q8 r8 f 6 V ++ [cI g q17 n (fd (trS h (fun i => h7 (26 + i))) (fun _ => 0) f), cI g q18 n ψ])))) (FF (AG g) s.heap.size) [(0, .ref b), (1, .ref (gB g + 0)), (2, .ref (A 1)), (3, .int (nI n)), (4, .int (nI f)), (5, .int (nI t)), (7, .ref q7), (8, .ref q8), (14, .int (nI (sm its f))), (15, .ref (A (3 + (t % 10)))), (17, .ref q17), (18, .ref q18)] ce sl Q 704 []) :
    GW g p l e room_1 s m #[.ref b] below meth c 26 (wc g h7 ++ (sx g A n f r ++ (mx g q7 r7 n 12 P ++ (mx g q8 r8 f 6 V ++ [cI g q17 n (fun _ => 0), cI g q18 n (fun _ => 0)])))) (FF (AG g) s.heap.size) [(0, .ref b), (1, .ref (gB g + 0)), (2, .ref (A 1)), (3, .int (nI n)), (4, .int (nI f)), (5, .int (nI t)), (7, .ref q7), (8, .ref q8), (14, .int (nI (sm its f))), (15, .ref (A (3 + (t % 10)))), (16, .int (nI (sm its 0))), (17, .ref q17), (18, .ref q18), (19, .int (nI 0))] ce sl Q 416 [] := by
  have hn : n ≤ 10 := by omega
  have L : ∀ (fu j : Nat) (ψ : Nat → Int32), j ≤ f → f < fu + j → GW g p l e room_1 s m #[.ref b] below meth c 26 (wc g h7 ++ (sx g A n f r ++ (mx g q7 r7 n 12 P ++ (mx g q8 r8 f 6 V ++ [cI g q17 n (fd (trS h (fun i => h7 (26 + i))) (fun _ => 0) j), cI g q18 n ψ])))) (FF (AG g) s.heap.size) [(0, .ref b), (1, .ref (gB g + 0)), (2, .ref (A 1)), (3, .int (nI n)), (4, .int (nI f)), (5, .int (nI t)), (7, .ref q7), (8, .ref q8), (14, .int (nI (sm its f))), (15, .ref (A (3 + (t % 10)))), (16, .int (nI (sm its j))), (17, .ref q17), (18, .ref q18), (19, .int (nI j))] ce sl Q 416 [] := by
    intro fu
    induction fu with
    | zero => intro j ψ h1 h2; omega
    | succ fu ih =>
      intro j ψ hj9 hfu
      refine gg_iload C dL_law_416 rfl ?_
      refine gg_iload C dL_law_418 rfl ?_
      refine gg_icmp_ge C dL_law_420 695 (by decide) (fun q9 => ?_) (fun q9 => ?_)
      · have hjn := lp_exit rfl q9 hj9 (by omega)
        subst hjn
        refine gg_iload C dL_law_695 rfl ?_
        refine gg_iload C dL_law_697 rfl ?_
        refine gg_icmp_eq C dL_law_699 704 (by decide) (fun c699 => ?_) (fun q => absurd rfl q)
        refine gg_lv [(0, .ref b), (1, .ref (gB g + 0)), (2, .ref (A 1)), (3, .int (nI n)), (4, .int (nI f)), (5, .int (nI t)), (7, .ref q7), (8, .ref q8), (14, .int (nI (sm its f))), (15, .ref (A (3 + (t % 10)))), (17, .ref q17), (18, .ref q18)] ⟨rfl, rfl, rfl, rfl, rfl, rfl, rfl, rfl, rfl, rfl, rfl, rfl, trivial⟩ ?_
        exact K ψ
      · have hj := lp_body rfl q9 hj9 (by omega)
        obtain ⟨sh, p0, th, p1, th2, a1, a2, a3, a4, a5, a6, b0, b1, b2, x0, x1, x2, xm, lostF, liveF⟩ := flk_of T.1.2.1.2.2.2.1 hj (D9.1 j hj)
        refine gg_aload_n C dL_law_423 1 rfl rfl ?_
        refine gg_iload C dL_law_424 rfl ?_
        refine gg_iconst (v := 1) C dL_law_426 (by decide) ?_
        refine gg_ls (wl g (sx g A n f r ++ (mx g q7 r7 n 12 P ++ (mx g q8 r8 f 6 V ++ [cI g q17 n (fd (trS h (fun i => h7 (26 + i))) (fun _ => 0) j), cI g q18 n ψ]))) h7) rfl ?_
        refine gc_callC (As := [.int (nI j), .int (nI 1)]) C mf_X4_flock (ok_X4_flock hT.1.2.1 (k := 1) ⟨j, hj, rfl⟩ (by omega)) q_m_L_103 rfl rfl rfl (Nat.le_of_ble_eq_true rfl) (by exact ⟨Nat.le_of_ble_eq_true rfl, Nat.le_of_ble_eq_true rfl⟩) (by exact ⟨by show _ ≤ 625049; omega, by show _ ≤ 7226551; omega⟩) dL_law_427 ?_
        refine gg_ls (wc g h7 ++ (sx g A n f r ++ (mx g q7 r7 n 12 P ++ (mx g q8 r8 f 6 V ++ [cI g q17 n (fd (trS h (fun i => h7 (26 + i))) (fun _ => 0) j), cI g q18 n ψ])))) rfl ?_
        refine gg_top (y := nI p1) ((flv (by omega) (by omega)).trans x1) ?_
        refine gg_istore C dL_law_430 (by decide) ?_
        refine gg_aload_n C dL_law_432 1 rfl rfl ?_
        refine gg_iload C dL_law_433 rfl ?_
        refine gg_iconst (v := 2) C dL_law_435 (by decide) ?_
        refine gg_ls (wl g (sx g A n f r ++ (mx g q7 r7 n 12 P ++ (mx g q8 r8 f 6 V ++ [cI g q17 n (fd (trS h (fun i => h7 (26 + i))) (fun _ => 0) j), cI g q18 n ψ]))) h7) rfl ?_
        refine gc_callC (As := [.int (nI j), .int (nI 2)]) C mf_X4_flock (ok_X4_flock hT.1.2.1 (k := 2) ⟨j, hj, rfl⟩ (by omega)) q_m_L_103 rfl rfl rfl (Nat.le_of_ble_eq_true rfl) (by exact ⟨Nat.le_of_ble_eq_true rfl, Nat.le_of_ble_eq_true rfl⟩) (by exact ⟨by show _ ≤ 625049; omega, by show _ ≤ 7226551; omega⟩) dL_law_436 ?_
        refine gg_ls (wc g h7 ++ (sx g A n f r ++ (mx g q7 r7 n 12 P ++ (mx g q8 r8 f 6 V ++ [cI g q17 n (fd (trS h (fun i => h7 (26 + i))) (fun _ => 0) j), cI g q18 n ψ])))) rfl ?_
        refine gg_top (y := nI th2) ((flv (by omega) (by omega)).trans x2) ?_
        refine gg_istore C dL_law_439 (by decide) ?_
        refine gg_aload_n C dL_law_441 1 rfl rfl ?_
        refine gg_iload C dL_law_442 rfl ?_
        refine gg_iconst (v := 5) C dL_law_444 (by decide) ?_
        refine gg_ls (wl g (sx g A n f r ++ (mx g q7 r7 n 12 P ++ (mx g q8 r8 f 6 V ++ [cI g q17 n (fd (trS h (fun i => h7 (26 + i))) (fun _ => 0) j), cI g q18 n ψ]))) h7) rfl ?_
        refine gc_callC (As := [.int (nI j), .int (nI 5)]) C mf_X4_flock (ok_X4_flock hT.1.2.1 (k := 5) ⟨j, hj, rfl⟩ (by omega)) q_m_L_103 rfl rfl rfl (Nat.le_of_ble_eq_true rfl) (by exact ⟨Nat.le_of_ble_eq_true rfl, Nat.le_of_ble_eq_true rfl⟩) (by exact ⟨by show _ ≤ 625049; omega, by show _ ≤ 7226551; omega⟩) dL_law_445 ?_
        refine gg_ls (wc g h7 ++ (sx g A n f r ++ (mx g q7 r7 n 12 P ++ (mx g q8 r8 f 6 V ++ [cI g q17 n (fd (trS h (fun i => h7 (26 + i))) (fun _ => 0) j), cI g q18 n ψ])))) rfl ?_
        refine gg_top (y := h7 (26 + j) 4) (flv5 (by omega)) ?_
        refine gg_aload C dL_law_448 rfl ?_
        refine gg_iload C dL_law_450 rfl ?_
        refine gy_row2 (j := j) C (by omega) rfl hj dL_law_452 ?_
        refine gg_iconst (v := 5) C dL_law_453 (by decide) ?_
        refine gy_ld2 (j := j) (k := 5) C (by omega) hj (by first | rfl | decide) (by omega) dL_law_454 ?_
        refine gg_top (y := h (26 + j) 4) ((hV j 5 hj (by omega)).trans (flv5 (by omega))) ?_
        refine gg_isub C dL_law_455 ?_
        refine gg_top (y := nI (its j)) xm ?_
        refine gg_istore C dL_law_456 (by decide) ?_
        refine gg_iload C dL_law_458 rfl ?_
        refine gg_iload C dL_law_460 rfl ?_
        refine gg_iadd C dL_law_462 ?_
        refine gg_top (y := nI (sm its (j + 1))) (nI_add _ _) ?_
        refine gg_istore C dL_law_463 (by decide) ?_
        refine gg_iload C dL_law_465 rfl ?_
        refine gg_if_lt C dL_law_467 523 (by decide) (fun q => absurd q (nI_pos (by omega))) (fun c467 => ?_)
        refine gg_iload C dL_law_470 rfl ?_
        refine gg_iconst (v := 2) C dL_law_472 (by decide) ?_
        refine gg_aload C dL_law_473 rfl ?_
        refine gg_iload C dL_law_475 rfl ?_
        refine gy_row2 (j := j) C (by omega) rfl hj dL_law_477 ?_
        refine gg_iconst (v := 0) C dL_law_478 (by decide) ?_
        refine gy_ld2 (j := j) (k := 0) C (by omega) hj (by first | rfl | decide) (by omega) dL_law_479 ?_
        refine gg_top (y := nI sh) ((hV j 0 hj (by omega)).trans ((flv (by omega) (by omega)).trans b0)) ?_
        refine gg_imul C dL_law_480 ?_
        refine gg_top (y := nI (2 * sh)) (pk_mul 2 sh) ?_
        refine gg_icmp_gt C dL_law_481 523 (by decide) (fun q => absurd ((nI_ltI (by omega) (by omega)).mp q) (by omega)) (fun c481 => ?_)
        refine gg_aload_n C dL_law_484 1 rfl rfl ?_
        refine gg_iload C dL_law_485 rfl ?_
        refine gg_iconst (v := 0) C dL_law_487 (by decide) ?_
        refine gg_ls (wl g (sx g A n f r ++ (mx g q7 r7 n 12 P ++ (mx g q8 r8 f 6 V ++ [cI g q17 n (fd (trS h (fun i => h7 (26 + i))) (fun _ => 0) j), cI g q18 n ψ]))) h7) rfl ?_
        refine gc_callC (As := [.int (nI j), .int (nI 0)]) C mf_X4_flock (ok_X4_flock hT.1.2.1 (k := 0) ⟨j, hj, rfl⟩ (by omega)) q_m_L_103 rfl rfl rfl (Nat.le_of_ble_eq_true rfl) (by exact ⟨Nat.le_of_ble_eq_true rfl, Nat.le_of_ble_eq_true rfl⟩) (by exact ⟨by show _ ≤ 625049; omega, by show _ ≤ 7226551; omega⟩) dL_law_488 ?_
        refine gg_ls (wc g h7 ++ (sx g A n f r ++ (mx g q7 r7 n 12 P ++ (mx g q8 r8 f 6 V ++ [cI g q17 n (fd (trS h (fun i => h7 (26 + i))) (fun _ => 0) j), cI g q18 n ψ])))) rfl ?_
        refine gg_top (y := nI sh) ((flv (by omega) (by omega)).trans x0) ?_
        refine gg_aload C dL_law_491 rfl ?_
        refine gg_iload C dL_law_493 rfl ?_
        refine gy_row2 (j := j) C (by omega) rfl hj dL_law_495 ?_
        refine gg_iconst (v := 0) C dL_law_496 (by decide) ?_
        refine gy_ld2 (j := j) (k := 0) C (by omega) hj (by first | rfl | decide) (by omega) dL_law_497 ?_
        refine gg_top (y := nI sh) ((hV j 0 hj (by omega)).trans ((flv (by omega) (by omega)).trans b0)) ?_
        refine gg_icmp_ne C dL_law_498 523 (by decide) (fun q => absurd rfl q) (fun c498 => ?_)
        have K525 : GW g p l e room_1 s m #[.ref b] below meth c 26 (wc g h7 ++ (sx g A n f r ++ (mx g q7 r7 n 12 P ++ (mx g q8 r8 f 6 V ++ [cI g q17 n (fd (trS h (fun i => h7 (26 + i))) (fun _ => 0) j), cI g q18 n ψ])))) (FF (AG g) s.heap.size) [(0, .ref b), (1, .ref (gB g + 0)), (2, .ref (A 1)), (3, .int (nI n)), (4, .int (nI f)), (5, .int (nI t)), (7, .ref q7), (8, .ref q8), (14, .int (nI (sm its f))), (15, .ref (A (3 + (t % 10)))), (16, .int (nI (sm its (j + 1)))), (17, .ref q17), (18, .ref q18), (19, .int (nI j)), (20, .int (nI p1)), (21, .int (nI th2)), (22, .int (nI (its j)))] ce sl Q 525 [] := by
          refine gg_aload C dL_law_525 rfl ?_
          refine gg_iload C dL_law_527 rfl ?_
          refine gy_row2 (j := j) C (by omega) rfl hj dL_law_529 ?_
          refine gg_iconst (v := 4) C dL_law_530 (by decide) ?_
          refine gy_ld2 (j := j) (k := 4) C (by omega) hj (by first | rfl | decide) (by omega) dL_law_531 ?_
          refine gg_top (y := if th = 10 then 1 else 0) ((hV j 4 hj (by omega)).trans ((flv4 (by omega)).trans (by rw [b2]; exact lost4 a3))) ?_
          refine gg_iconst (v := 1) C dL_law_532 (by decide) ?_
          refine gg_icmp_ne C dL_law_533 562 (by decide) (fun c533 => ?_) (fun c533 => ?_)
          · have h10 : ¬ th = 10 := fun z => c533 (if_pos z)
            obtain ⟨l1, l2⟩ := liveF h10
            have eTR : fd (trS h (fun i => h7 (26 + i))) (fun _ => 0) (j + 1) = upd (fd (trS h (fun i => h7 (26 + i))) (fun _ => 0) j) p1 ((fd (trS h (fun i => h7 (26 + i))) (fun _ => 0) j) p1 + nI sh / 10) := by
              rw [fd_s]
              generalize fd (trS h (fun i => h7 (26 + i))) (fun _ => 0) j = φ
              show (if h (26 + j) 2 = 10 then φ else upd φ (h7 (26 + j) 1).toNatClampNeg (φ (h7 (26 + j) 1).toNatClampNeg + h (26 + j) 0 / 10)) = _
              rw [if_neg (by rw [b2]; exact fun y => h10 ((nI_eq (a := th) (b := 10) (by omega) (by omega)).mp y)), x1, nI_clamp (by omega), b0]
            have K661 : GW g p l e room_1 s m #[.ref b] below meth c 26 (wc g h7 ++ (sx g A n f r ++ (mx g q7 r7 n 12 P ++ (mx g q8 r8 f 6 V ++ [cI g q17 n (fd (trS h (fun i => h7 (26 + i))) (fun _ => 0) j), cI g q18 n ψ])))) (FF (AG g) s.heap.size) [(0, .ref b), (1, .ref (gB g + 0)), (2, .ref (A 1)), (3, .int (nI n)), (4, .int (nI f)), (5, .int (nI t)), (7, .ref q7), (8, .ref q8), (14, .int (nI (sm its f))), (15, .ref (A (3 + (t % 10)))), (16, .int (nI (sm its (j + 1)))), (17, .ref q17), (18, .ref q18), (19, .int (nI j)), (20, .int (nI p1)), (21, .int (nI th2)), (22, .int (nI (its j)))] ce sl Q 661 [] := by
              refine gg_aload C dL_law_661 rfl ?_
              refine gg_iload C dL_law_663 rfl ?_
              refine gg_dup2 C dL_law_665 rfl rfl ?_
              refine gy_ldZ C 0 rfl rfl a4 (by omega) dL_law_666 ?_
              refine gg_aload C dL_law_667 rfl ?_
              refine gg_iload C dL_law_669 rfl ?_
              refine gy_row2 (j := j) C (by omega) rfl hj dL_law_671 ?_
              refine gg_iconst (v := 0) C dL_law_672 (by decide) ?_
              refine gy_ld2 (j := j) (k := 0) C (by omega) hj (by first | rfl | decide) (by omega) dL_law_673 ?_
              refine gg_top (y := nI sh) ((hV j 0 hj (by omega)).trans ((flv (by omega) (by omega)).trans b0)) ?_
              refine gg_bipush (v := 10) C dL_law_674 (by decide) ?_
              refine gg_idiv C dL_law_676 (by decide) ?_
              refine gg_iadd C dL_law_677 ?_
              refine gy_stZ C 0 rfl rfl a4 (by omega) dL_law_678 ?_
              refine gg_ls (wc g h7 ++ (sx g A n f r ++ (mx g q7 r7 n 12 P ++ (mx g q8 r8 f 6 V ++ [cI g q17 n (fd (trS h (fun i => h7 (26 + i))) (fun _ => 0) (j + 1)), cI g q18 n ψ])))) (by rw [eTR]; rfl) ?_
              refine gg_aload C dL_law_679 rfl ?_
              refine gg_iload C dL_law_681 rfl ?_
              refine gg_dup2 C dL_law_683 rfl rfl ?_
              refine gy_ldZ C 1 rfl rfl a4 (by omega) dL_law_684 ?_
              refine gg_iload C dL_law_685 rfl ?_
              refine gg_iadd C dL_law_687 ?_
              refine gy_stZ C 1 rfl rfl a4 (by omega) dL_law_688 ?_
              refine gg_iinc (v := nI (j + 1)) C dL_law_689 rfl (nI_inc _) (by decide) ?_
              refine gg_goto C dL_law_692 416 (by decide) ?_
              refine gg_lv [(0, .ref b), (1, .ref (gB g + 0)), (2, .ref (A 1)), (3, .int (nI n)), (4, .int (nI f)), (5, .int (nI t)), (7, .ref q7), (8, .ref q8), (14, .int (nI (sm its f))), (15, .ref (A (3 + (t % 10)))), (16, .int (nI (sm its (j + 1)))), (17, .ref q17), (18, .ref q18), (19, .int (nI (j + 1)))] ⟨rfl, rfl, rfl, rfl, rfl, rfl, rfl, rfl, rfl, rfl, rfl, rfl, rfl, rfl, trivial⟩ ?_
              exact ih (j + 1) (upd ψ p1 (ψ p1 + nI (its j))) hj (by omega)
            have K613 : GW g p l e room_1 s m #[.ref b] below meth c 26 (wc g h7 ++ (sx g A n f r ++ (mx g q7 r7 n 12 P ++ (mx g q8 r8 f 6 V ++ [cI g q17 n (fd (trS h (fun i => h7 (26 + i))) (fun _ => 0) j), cI g q18 n ψ])))) (FF (AG g) s.heap.size) [(0, .ref b), (1, .ref (gB g + 0)), (2, .ref (A 1)), (3, .int (nI n)), (4, .int (nI f)), (5, .int (nI t)), (7, .ref q7), (8, .ref q8), (14, .int (nI (sm its f))), (15, .ref (A (3 + (t % 10)))), (16, .int (nI (sm its (j + 1)))), (17, .ref q17), (18, .ref q18), (19, .int (nI j)), (20, .int (nI p1)), (21, .int (nI th2)), (22, .int (nI (its j)))] ce sl Q 613 [] := by
              refine gg_iload C dL_law_613 rfl ?_
              refine gg_aload C dL_law_615 rfl ?_
              refine gg_iload C dL_law_617 rfl ?_
              refine gy_row2 (j := j) C (by omega) rfl hj dL_law_619 ?_
              refine gg_iconst (v := 1) C dL_law_620 (by decide) ?_
              refine gy_ld2 (j := j) (k := 1) C (by omega) hj (by first | rfl | decide) (by omega) dL_law_621 ?_
              refine gg_top (y := nI p0) ((hV j 1 hj (by omega)).trans ((flv (by omega) (by omega)).trans b1)) ?_
              refine gg_icmp_eq C dL_law_622 661 (by decide) (fun c622 => ?_) (fun c622 => ?_)
              · refine gg_lv [(0, .ref b), (1, .ref (gB g + 0)), (2, .ref (A 1)), (3, .int (nI n)), (4, .int (nI f)), (5, .int (nI t)), (7, .ref q7), (8, .ref q8), (14, .int (nI (sm its f))), (15, .ref (A (3 + (t % 10)))), (16, .int (nI (sm its (j + 1)))), (17, .ref q17), (18, .ref q18), (19, .int (nI j)), (20, .int (nI p1)), (21, .int (nI th2)), (22, .int (nI (its j)))] ⟨rfl, rfl, rfl, rfl, rfl, rfl, rfl, rfl, rfl, rfl, rfl, rfl, rfl, rfl, rfl, rfl, rfl, trivial⟩ ?_
                exact K661
              · obtain ⟨g1, g2, g3⟩ := l2 (fun z => c622 (by rw [z]))
                refine gg_aload C dL_law_625 rfl ?_
                refine gg_iload C dL_law_627 rfl ?_
                refine gy_row2 (j := j) C (by omega) rfl hj dL_law_629 ?_
                refine gg_iconst (v := 3) C dL_law_630 (by decide) ?_
                refine gy_ld2 (j := j) (k := 3) C (by omega) hj (by first | rfl | decide) (by omega) dL_law_631 ?_
                refine gg_top (y := 1) ((hV j 3 hj (by omega)).trans ((flv3 (by omega)).trans (if_neg g1))) ?_
                refine gg_if_eq C dL_law_632 659 (by decide) (fun q => absurd q (by decide)) (fun c632 => ?_)
                refine gg_aload C dL_law_635 rfl ?_
                refine gg_iload C dL_law_637 rfl ?_
                refine gy_row2 (j := j) C (by omega) rfl hj dL_law_639 ?_
                refine gg_iconst (v := 2) C dL_law_640 (by decide) ?_
                refine gy_ld2 (j := j) (k := 2) C (by omega) hj (by first | rfl | decide) (by omega) dL_law_641 ?_
                refine gg_top (y := nI th) ((hV j 2 hj (by omega)).trans ((flv (by omega) (by omega)).trans b2)) ?_
                refine gg_if_eq C dL_law_642 659 (by decide) (fun q => absurd ((nI_eq (a := th) (b := 0) (by omega) (by omega)).mp q) g2) (fun c642 => ?_)
                refine gg_iload C dL_law_645 rfl ?_
                refine gg_iconst (v := 2) C dL_law_647 (by decide) ?_
                refine gg_aload C dL_law_648 rfl ?_
                refine gg_iload C dL_law_650 rfl ?_
                refine gy_row2 (j := j) C (by omega) rfl hj dL_law_652 ?_
                refine gg_iconst (v := 0) C dL_law_653 (by decide) ?_
                refine gy_ld2 (j := j) (k := 0) C (by omega) hj (by first | rfl | decide) (by omega) dL_law_654 ?_
                refine gg_top (y := nI sh) ((hV j 0 hj (by omega)).trans ((flv (by omega) (by omega)).trans b0)) ?_
                refine gg_imul C dL_law_655 ?_
                refine gg_top (y := nI (2 * sh)) (pk_mul 2 sh) ?_
                refine gg_icmp_eq C dL_law_656 661 (by decide) (fun c656 => ?_) (fun q => absurd (by rw [g3]) q)
                refine gg_lv [(0, .ref b), (1, .ref (gB g + 0)), (2, .ref (A 1)), (3, .int (nI n)), (4, .int (nI f)), (5, .int (nI t)), (7, .ref q7), (8, .ref q8), (14, .int (nI (sm its f))), (15, .ref (A (3 + (t % 10)))), (16, .int (nI (sm its (j + 1)))), (17, .ref q17), (18, .ref q18), (19, .int (nI j)), (20, .int (nI p1)), (21, .int (nI th2)), (22, .int (nI (its j)))] ⟨rfl, rfl, rfl, rfl, rfl, rfl, rfl, rfl, rfl, rfl, rfl, rfl, rfl, rfl, rfl, rfl, rfl, trivial⟩ ?_
                exact K661
            refine gg_iload C dL_law_562 rfl ?_
            refine gg_iload C dL_law_564 rfl ?_
            refine gg_iconst (v := 2) C dL_law_566 (by decide) ?_
            refine gg_aload C dL_law_567 rfl ?_
            refine gg_iload C dL_law_569 rfl ?_
            refine gy_row2 (j := j) C (by omega) rfl hj dL_law_571 ?_
            refine gg_iconst (v := 0) C dL_law_572 (by decide) ?_
            refine gy_ld2 (j := j) (k := 0) C (by omega) hj (by first | rfl | decide) (by omega) dL_law_573 ?_
            refine gg_top (y := nI sh) ((hV j 0 hj (by omega)).trans ((flv (by omega) (by omega)).trans b0)) ?_
            refine gg_imul C dL_law_574 ?_
            refine gg_top (y := nI (2 * sh)) (pk_mul 2 sh) ?_
            refine gg_icmp_ne C dL_law_575 594 (by decide) (fun c575 => ?_) (fun c575 => ?_)
            · refine gg_bipush (v := 10) C dL_law_594 (by decide) ?_
              refine gg_aload C dL_law_596 rfl ?_
              refine gg_iload C dL_law_598 rfl ?_
              refine gy_row2 (j := j) C (by omega) rfl hj dL_law_600 ?_
              refine gg_iconst (v := 2) C dL_law_601 (by decide) ?_
              refine gy_ld2 (j := j) (k := 2) C (by omega) hj (by first | rfl | decide) (by omega) dL_law_602 ?_
              refine gg_top (y := nI th) ((hV j 2 hj (by omega)).trans ((flv (by omega) (by omega)).trans b2)) ?_
              refine gg_iconst (v := 3) C dL_law_603 (by decide) ?_
              refine gg_iadd C dL_law_604 ?_
              refine gg_mmin C q_m_L_43 (Nat.le_of_ble_eq_true rfl) (by first | exact Nat.le_of_ble_eq_true rfl | (simp only [List.map, List.sum]; decide)) (by show _ ≤ 625049; omega) (by show _ ≤ 7226551; omega) dL_law_605 ?_
              refine gg_top (y := nI th2) (by rw [l1, if_neg (fun z => c575 (by rw [z])), show (10 : Int32) = nI 10 from rfl, show (3 : Int32) = nI 3 from rfl, nI_add, mnN (by omega) (by omega)]) ?_
              refine gg_icmp_eq C dL_law_608 613 (by decide) (fun c608 => ?_) (fun q => absurd rfl q)
              refine gg_lv [(0, .ref b), (1, .ref (gB g + 0)), (2, .ref (A 1)), (3, .int (nI n)), (4, .int (nI f)), (5, .int (nI t)), (7, .ref q7), (8, .ref q8), (14, .int (nI (sm its f))), (15, .ref (A (3 + (t % 10)))), (16, .int (nI (sm its (j + 1)))), (17, .ref q17), (18, .ref q18), (19, .int (nI j)), (20, .int (nI p1)), (21, .int (nI th2)), (22, .int (nI (its j)))] ⟨rfl, rfl, rfl, rfl, rfl, rfl, rfl, rfl, rfl, rfl, rfl, rfl, rfl, rfl, rfl, rfl, rfl, trivial⟩ ?_
              exact K613
            · refine gg_iconst (v := 0) C dL_law_578 (by decide) ?_
              refine gg_aload C dL_law_579 rfl ?_
              refine gg_iload C dL_law_581 rfl ?_
              refine gy_row2 (j := j) C (by omega) rfl hj dL_law_583 ?_
              refine gg_iconst (v := 2) C dL_law_584 (by decide) ?_
              refine gy_ld2 (j := j) (k := 2) C (by omega) hj (by first | rfl | decide) (by omega) dL_law_585 ?_
              refine gg_top (y := nI th) ((hV j 2 hj (by omega)).trans ((flv (by omega) (by omega)).trans b2)) ?_
              refine gg_iconst (v := 2) C dL_law_586 (by decide) ?_
              refine gg_isub C dL_law_587 ?_
              refine gg_mmax C q_m_L_78 (Nat.le_of_ble_eq_true rfl) (by first | exact Nat.le_of_ble_eq_true rfl | (simp only [List.map, List.sum]; decide)) (by show _ ≤ 625049; omega) (by show _ ≤ 7226551; omega) dL_law_588 ?_
              refine gg_goto C dL_law_591 608 (by decide) ?_
              refine gg_top (y := nI th2) (by rw [l1, if_pos ((nI_eq (by omega) (by omega)).mp c575), show (2 : Int32) = nI 2 from rfl, Int32.sub_eq_add_neg, offN (by omega) (by omega)]) ?_
              refine gg_icmp_eq C dL_law_608 613 (by decide) (fun c608 => ?_) (fun q => absurd rfl q)
              refine gg_lv [(0, .ref b), (1, .ref (gB g + 0)), (2, .ref (A 1)), (3, .int (nI n)), (4, .int (nI f)), (5, .int (nI t)), (7, .ref q7), (8, .ref q8), (14, .int (nI (sm its f))), (15, .ref (A (3 + (t % 10)))), (16, .int (nI (sm its (j + 1)))), (17, .ref q17), (18, .ref q18), (19, .int (nI j)), (20, .int (nI p1)), (21, .int (nI th2)), (22, .int (nI (its j)))] ⟨rfl, rfl, rfl, rfl, rfl, rfl, rfl, rfl, rfl, rfl, rfl, rfl, rfl, rfl, rfl, rfl, rfl, trivial⟩ ?_
              exact K613
          · have h10 : th = 10 := by
              by_cases e9 : th = 10
              · exact e9
              · rw [if_neg e9] at c533; exact absurd c533 (by decide)
            obtain ⟨i0, i1, i2⟩ := lostF h10
            refine gg_iload C dL_law_536 rfl ?_
            refine gg_if_ne C dL_law_538 560 (by decide) (fun q => absurd (show nI (its j) = 0 by rw [i0]; rfl) q) (fun c538 => ?_)
            refine gg_iload C dL_law_541 rfl ?_
            refine gg_bipush (v := 10) C dL_law_543 (by decide) ?_
            refine gg_icmp_ne C dL_law_545 560 (by decide) (fun q => absurd (show nI th2 = 10 by rw [i2]; rfl) q) (fun c545 => ?_)
            refine gg_iload C dL_law_548 rfl ?_
            refine gg_aload C dL_law_550 rfl ?_
            refine gg_iload C dL_law_552 rfl ?_
            refine gy_row2 (j := j) C (by omega) rfl hj dL_law_554 ?_
            refine gg_iconst (v := 1) C dL_law_555 (by decide) ?_
            refine gy_ld2 (j := j) (k := 1) C (by omega) hj (by first | rfl | decide) (by omega) dL_law_556 ?_
            refine gg_top (y := nI p0) ((hV j 1 hj (by omega)).trans ((flv (by omega) (by omega)).trans b1)) ?_
            refine gg_icmp_eq C dL_law_557 689 (by decide) (fun c557 => ?_) (fun q => absurd (by rw [i1]) q)
            have eTR : fd (trS h (fun i => h7 (26 + i))) (fun _ => 0) (j + 1) = fd (trS h (fun i => h7 (26 + i))) (fun _ => 0) j := by
              rw [fd_s]
              generalize fd (trS h (fun i => h7 (26 + i))) (fun _ => 0) j = φ
              show (if h (26 + j) 2 = 10 then φ else upd φ (h7 (26 + j) 1).toNatClampNeg (φ (h7 (26 + j) 1).toNatClampNeg + h (26 + j) 0 / 10)) = _
              rw [if_pos (b2.trans (by rw [h10]; rfl))]
            refine gg_ls (wc g h7 ++ (sx g A n f r ++ (mx g q7 r7 n 12 P ++ (mx g q8 r8 f 6 V ++ [cI g q17 n (fd (trS h (fun i => h7 (26 + i))) (fun _ => 0) (j + 1)), cI g q18 n ψ])))) (by rw [eTR]) ?_
            refine gg_iinc (v := nI (j + 1)) C dL_law_689 rfl (nI_inc _) (by decide) ?_
            refine gg_goto C dL_law_692 416 (by decide) ?_
            refine gg_lv [(0, .ref b), (1, .ref (gB g + 0)), (2, .ref (A 1)), (3, .int (nI n)), (4, .int (nI f)), (5, .int (nI t)), (7, .ref q7), (8, .ref q8), (14, .int (nI (sm its f))), (15, .ref (A (3 + (t % 10)))), (16, .int (nI (sm its (j + 1)))), (17, .ref q17), (18, .ref q18), (19, .int (nI (j + 1)))] ⟨rfl, rfl, rfl, rfl, rfl, rfl, rfl, rfl, rfl, rfl, rfl, rfl, rfl, rfl, trivial⟩ ?_
            exact ih (j + 1) ψ hj (by omega)
        refine gg_aload_n C dL_law_501 1 rfl rfl ?_
        refine gg_iload C dL_law_502 rfl ?_
        refine gg_iconst (v := 4) C dL_law_504 (by decide) ?_
        refine gg_ls (wl g (sx g A n f r ++ (mx g q7 r7 n 12 P ++ (mx g q8 r8 f 6 V ++ [cI g q17 n (fd (trS h (fun i => h7 (26 + i))) (fun _ => 0) j), cI g q18 n ψ]))) h7) rfl ?_
        refine gc_callC (As := [.int (nI j), .int (nI 4)]) C mf_X4_flock (ok_X4_flock hT.1.2.1 (k := 4) ⟨j, hj, rfl⟩ (by omega)) q_m_L_103 rfl rfl rfl (Nat.le_of_ble_eq_true rfl) (by exact ⟨Nat.le_of_ble_eq_true rfl, Nat.le_of_ble_eq_true rfl⟩) (by exact ⟨by show _ ≤ 625049; omega, by show _ ≤ 7226551; omega⟩) dL_law_505 ?_
        refine gg_ls (wc g h7 ++ (sx g A n f r ++ (mx g q7 r7 n 12 P ++ (mx g q8 r8 f 6 V ++ [cI g q17 n (fd (trS h (fun i => h7 (26 + i))) (fun _ => 0) j), cI g q18 n ψ])))) rfl ?_
        refine gg_top (y := if th2 = 10 then 1 else 0) ((flv4 (by omega)).trans (by rw [x2]; exact lost4 a5)) ?_
        refine gg_iload C dL_law_508 rfl ?_
        refine gg_bipush (v := 10) C dL_law_510 (by decide) ?_
        refine gg_icmp_ne C dL_law_512 519 (by decide) (fun c512 => ?_) (fun c512 => ?_)
        · refine gg_iconst (v := 0) C dL_law_519 (by decide) ?_
          refine gg_icmp_eq C dL_law_520 525 (by decide) (fun c520 => ?_) (fun q => absurd (if_neg (fun z => c512 (by rw [z]; rfl))) q)
          refine gg_lv [(0, .ref b), (1, .ref (gB g + 0)), (2, .ref (A 1)), (3, .int (nI n)), (4, .int (nI f)), (5, .int (nI t)), (7, .ref q7), (8, .ref q8), (14, .int (nI (sm its f))), (15, .ref (A (3 + (t % 10)))), (16, .int (nI (sm its (j + 1)))), (17, .ref q17), (18, .ref q18), (19, .int (nI j)), (20, .int (nI p1)), (21, .int (nI th2)), (22, .int (nI (its j)))] ⟨rfl, rfl, rfl, rfl, rfl, rfl, rfl, rfl, rfl, rfl, rfl, rfl, rfl, rfl, rfl, rfl, rfl, trivial⟩ ?_
          exact K525
        · refine gg_iconst (v := 1) C dL_law_515 (by decide) ?_
          refine gg_goto C dL_law_516 520 (by decide) ?_
          refine gg_icmp_eq C dL_law_520 525 (by decide) (fun c520 => ?_) (fun q => absurd (if_pos ((nI_eq (a := th2) (b := 10) (by omega) (by omega)).mp c512)) q)
          refine gg_lv [(0, .ref b), (1, .ref (gB g + 0)), (2, .ref (A 1)), (3, .int (nI n)), (4, .int (nI f)), (5, .int (nI t)), (7, .ref q7), (8, .ref q8), (14, .int (nI (sm its f))), (15, .ref (A (3 + (t % 10)))), (16, .int (nI (sm its (j + 1)))), (17, .ref q17), (18, .ref q18), (19, .int (nI j)), (20, .int (nI p1)), (21, .int (nI th2)), (22, .int (nI (its j)))] ⟨rfl, rfl, rfl, rfl, rfl, rfl, rfl, rfl, rfl, rfl, rfl, rfl, rfl, rfl, rfl, rfl, rfl, trivial⟩ ?_
          exact K525
  exact L (f + 1) 0 (fun _ => 0) (Nat.zero_le _) (by omega)
