/-! the law, a day: its ponds -/
set_option maxHeartbeats 4000000 in
theorem dy_4 {g : gW} {p : Program} {l : Launch} {e : Env} {s : State} {m : MethodId} {below : List Frame} {meth : Method} {c : Code} {b : Nat} {Q : State → Prop} (C : CG g p s m #[.ref b] meth c cL_law 26 RL) {A : Ad} {n f t q q0 q7 q8 q17 q18 ce sl : Nat} {r7 r8 its : Nat → Nat} {P V : Nat → Nat → Int32} {ψ : Nat → Int32} {h h7 r : Hp} (T : TOP n f t q0 h) (hT : TS n f (t + 1) q h7 r) (D9 : DAYP n f t h h7 its) (ht : t < 40) (hn7 : n ≤ 7) (hf5 : f ≤ 5) (hP : PVs n f h P) (hO : OV n t h) (W7 : ∀ j k, j < 10 → k < 3 → h7 (3 + j) k = h (3 + j) k) (hce : ce + 100 ≤ 625049) (hsl : sl + 1000 ≤ 7226551)
    (K : GW g p l e room_1 s m #[.ref b] below meth c 26 (wc g h7 ++ (sx g A n f r ++ [])) (FF (AG g) s.heap.size) [(0, .ref b), (1, .ref (gB g + 0)), (2, .ref (A 1)), (3, .int (nI n)), (4, .int (nI f)), (5, .int (nI t))] ce sl Q 1066 []) :
    GW g p l e room_1 s m #[.ref b] below meth c 26 (wc g h7 ++ (sx g A n f r ++ (mx g q7 r7 n 12 P ++ (mx g q8 r8 f 6 V ++ [cI g q17 n (fd (trS h (fun i => h7 (26 + i))) (fun _ => 0) f), cI g q18 n ψ])))) (FF (AG g) s.heap.size) [(0, .ref b), (1, .ref (gB g + 0)), (2, .ref (A 1)), (3, .int (nI n)), (4, .int (nI f)), (5, .int (nI t)), (7, .ref q7), (8, .ref q8), (14, .int (nI (sm its f))), (15, .ref (A (3 + (t % 10)))), (17, .ref q17), (18, .ref q18)] ce sl Q 704 [] := by
  have hn : n ≤ 10 := by omega
  have hw : t % 10 < 10 := by omega
  have hwr : ∀ k, k < 3 → r (3 + (t % 10)) k = h (3 + (t % 10)) k := fun k hk => (hT.2.1.w hw hk).symm.trans (W7 _ k hw hk)
  have hOK := T.2.1.2.2.2.2.1
  refine gg_iconst (v := 0) C dL_law_704 (by decide) ?_
  refine gg_istore C dL_law_705 (by decide) ?_
  refine gg_iconst (v := 0) C dL_law_707 (by decide) ?_
  refine gg_istore C dL_law_708 (by decide) ?_
  refine gg_iconst (v := 0) C dL_law_710 (by decide) ?_
  refine gg_istore C dL_law_711 (by decide) ?_
  refine gg_iconst (v := 0) C dL_law_713 (by decide) ?_
  refine gg_istore C dL_law_714 (by decide) ?_
  refine gg_iconst (v := 0) C dL_law_716 (by decide) ?_
  refine gg_istore C dL_law_717 (by decide) ?_
  have L : ∀ (fu j : Nat), j ≤ n → n < fu + j → GW g p l e room_1 s m #[.ref b] below meth c 26 (wc g h7 ++ (sx g A n f r ++ (mx g q7 r7 n 12 P ++ (mx g q8 r8 f 6 V ++ [cI g q17 n (fd (trS h (fun i => h7 (26 + i))) (fun _ => 0) f), cI g q18 n ψ])))) (FF (AG g) s.heap.size) [(0, .ref b), (1, .ref (gB g + 0)), (2, .ref (A 1)), (3, .int (nI n)), (4, .int (nI f)), (5, .int (nI t)), (7, .ref q7), (8, .ref q8), (14, .int (nI (sm its f))), (15, .ref (A (3 + (t % 10)))), (17, .ref q17), (18, .ref q18), (19, .int (nI (sm (wN h7) j))), (20, .int (sumN (fun i => if h7 (15 + i) 5 = 0 then (1 : Int32) else 0) j)), (21, .int (nI (sm (gN h (3 + (t % 10))) j))), (22, .int (nI (sm (wN h) j))), (23, .int (nI j))] ce sl Q 719 [] := by
    intro fu
    induction fu with
    | zero => intro j h1 h2; omega
    | succ fu ih =>
      intro j hj9 hfu
      refine gg_iload C dL_law_719 rfl ?_
      refine gg_iload_n C dL_law_721 3 rfl rfl ?_
      refine gg_icmp_ge C dL_law_722 1030 (by decide) (fun q9 => ?_) (fun q9 => ?_)
      · have hjn := lp_exit rfl q9 hj9 (by omega)
        subst hjn
        have B1 : sm (wN h) n ≤ n * 5400 := sm_bd n (fun i hi => (wN_at T.1.2.1.1 (show (5400 : Nat) < 2 ^ 31 by omega) hi).2)
        have B2 : sm (gN h (3 + (t % 10))) n ≤ n * 540 := sm_bd n (fun i hi => (gN_at T.1.2.1.1 T.1.2.1.2.1 hi hw).2)
        have B3 : sm (wN h7) n + sm its f ≤ sm (wN h) n + sm (gN h (3 + (t % 10))) n := D9.2.2
        refine gg_iload C dL_law_1030 rfl ?_
        refine gg_iload C dL_law_1032 rfl ?_
        refine gg_iload C dL_law_1034 rfl ?_
        refine gg_iadd C dL_law_1036 ?_
        refine gg_top (y := nI (sm (wN h) n + sm (gN h (3 + (t % 10))) n)) (nI_add _ _) ?_
        refine gg_iload C dL_law_1037 rfl ?_
        refine gg_isub C dL_law_1039 ?_
        refine gg_top (y := nI (sm (wN h) n + sm (gN h (3 + (t % 10))) n - sm its f)) (pk_sub (by omega)) ?_
        refine gg_icmp_gt C dL_law_1040 1064 (by decide) (fun q => absurd ((nI_ltI (by omega) (by omega)).mp q) (by omega)) (fun c1040 => ?_)
        refine gg_aload_n C dL_law_1043 1 rfl rfl ?_
        refine gg_iconst (v := 5) C dL_law_1044 (by decide) ?_
        refine gg_ls (wl g (sx g A n f r ++ (mx g q7 r7 n 12 P ++ (mx g q8 r8 f 6 V ++ [cI g q17 n (fd (trS h (fun i => h7 (26 + i))) (fun _ => 0) f), cI g q18 n ψ]))) h7) rfl ?_
        refine gc_callC (As := [.int (nI 5)]) C mf_X4_count (ok_X4_count hT.1.2.1 (k := 5) (by omega)) q_m_L_115 rfl rfl rfl (Nat.le_of_ble_eq_true rfl) (by exact ⟨Nat.le_of_ble_eq_true rfl, Nat.le_of_ble_eq_true rfl⟩) (by exact ⟨by show _ ≤ 625049; omega, by show _ ≤ 7226551; omega⟩) dL_law_1045 ?_
        refine gg_ls (wc g h7 ++ (sx g A n f r ++ (mx g q7 r7 n 12 P ++ (mx g q8 r8 f 6 V ++ [cI g q17 n (fd (trS h (fun i => h7 (26 + i))) (fun _ => 0) f), cI g q18 n ψ])))) rfl ?_
        refine gg_top (y := nI (sm (wN h7) n)) (sumN_nI n (fun i hi => (D9.2.1 i hi).2.2.2.1.1)) ?_
        refine gg_iload C dL_law_1048 rfl ?_
        refine gg_icmp_ne C dL_law_1050 1064 (by decide) (fun q => absurd rfl q) (fun c1050 => ?_)
        refine gg_aload_n C dL_law_1053 1 rfl rfl ?_
        refine gg_bipush (v := 6) C dL_law_1054 (by decide) ?_
        refine gg_ls (wl g (sx g A n f r ++ (mx g q7 r7 n 12 P ++ (mx g q8 r8 f 6 V ++ [cI g q17 n (fd (trS h (fun i => h7 (26 + i))) (fun _ => 0) f), cI g q18 n ψ]))) h7) rfl ?_
        refine gc_callC (As := [.int (nI 6)]) C mf_X4_count (ok_X4_count hT.1.2.1 (k := 6) (by omega)) q_m_L_115 rfl rfl rfl (Nat.le_of_ble_eq_true rfl) (by exact ⟨Nat.le_of_ble_eq_true rfl, Nat.le_of_ble_eq_true rfl⟩) (by exact ⟨by show _ ≤ 625049; omega, by show _ ≤ 7226551; omega⟩) dL_law_1056 ?_
        refine gg_ls (wc g h7 ++ (sx g A n f r ++ (mx g q7 r7 n 12 P ++ (mx g q8 r8 f 6 V ++ [cI g q17 n (fd (trS h (fun i => h7 (26 + i))) (fun _ => 0) f), cI g q18 n ψ])))) rfl ?_
        refine gg_top (y := sumN (fun i => if h7 (15 + i) 5 = 0 then (1 : Int32) else 0) n) rfl ?_
        refine gg_iload C dL_law_1059 rfl ?_
        refine gg_icmp_eq C dL_law_1061 1066 (by decide) (fun c1061 => ?_) (fun q => absurd rfl q)
        refine gg_lv [(0, .ref b), (1, .ref (gB g + 0)), (2, .ref (A 1)), (3, .int (nI n)), (4, .int (nI f)), (5, .int (nI t))] ⟨rfl, rfl, rfl, rfl, rfl, rfl, trivial⟩ ?_
        refine gg_sub (L2 := wc g h7 ++ (sx g A n f r ++ [])) (List.Sublist.append_left (List.Sublist.append_left (List.nil_sublist _) _) _) ?_
        exact K
      · have hj := lp_body rfl q9 hj9 (by omega)
        obtain ⟨y1, y2, ⟨Tt, li, t1, t2, t3, t4, t5⟩, ⟨y5, y6⟩, e9, v1, v2, v3⟩ := D9.2.1 j hj
        obtain ⟨o, ho, eo⟩ := hO j hj
        have hw0 := wN_at T.1.2.1.1 (show (5400 : Nat) < 2 ^ 31 by omega) hj
        have hH := hN_at T.1.2.1.1 hj
        have hg := gN_at T.1.2.1.1 T.1.2.1.2.1 hj hw
        refine gg_aload_n C dL_law_725 1 rfl rfl ?_
        refine gg_iload C dL_law_726 rfl ?_
        refine gg_iconst (v := 5) C dL_law_728 (by decide) ?_
        refine gg_ls (wl g (sx g A n f r ++ (mx g q7 r7 n 12 P ++ (mx g q8 r8 f 6 V ++ [cI g q17 n (fd (trS h (fun i => h7 (26 + i))) (fun _ => 0) f), cI g q18 n ψ]))) h7) rfl ?_
        refine gc_callC (As := [.int (nI j), .int (nI 5)]) C mf_X4_pond (ok_X4_pond hT.1.2.1 (k := 5) ⟨j, hj, rfl⟩ (by omega)) q_m_L_100 rfl rfl rfl (Nat.le_of_ble_eq_true rfl) (by exact ⟨Nat.le_of_ble_eq_true rfl, Nat.le_of_ble_eq_true rfl⟩) (by exact ⟨by show _ ≤ 625049; omega, by show _ ≤ 7226551; omega⟩) dL_law_729 ?_
        refine gg_ls (wc g h7 ++ (sx g A n f r ++ (mx g q7 r7 n 12 P ++ (mx g q8 r8 f 6 V ++ [cI g q17 n (fd (trS h (fun i => h7 (26 + i))) (fun _ => 0) f), cI g q18 n ψ])))) rfl ?_
        refine gg_top (y := nI (wN h7 j)) ((pov (by omega) (by omega) (by omega)).trans y5) ?_
        refine gg_istore C dL_law_732 (by decide) ?_
        refine gg_iload C dL_law_734 rfl ?_
        refine gg_iload C dL_law_736 rfl ?_
        refine gg_iadd C dL_law_738 ?_
        refine gg_top (y := nI (sm (wN h7) (j + 1))) (nI_add _ _) ?_
        refine gg_istore C dL_law_739 (by decide) ?_
        refine gg_iload C dL_law_741 rfl ?_
        refine gg_aload C dL_law_743 rfl ?_
        refine gg_iload C dL_law_745 rfl ?_
        refine gy_row1 (j := j) C (by omega) rfl hj dL_law_747 ?_
        refine gg_iconst (v := 5) C dL_law_748 (by decide) ?_
        refine gy_ld1 (j := j) (k := 5) C (by omega) hj (by first | rfl | decide) (by omega) dL_law_749 ?_
        refine gg_top (y := nI (wN h j)) ((hP j 5 hj (by omega)).trans ((pov (by omega) (by omega) (by omega)).trans hw0.1)) ?_
        refine gg_iadd C dL_law_750 ?_
        refine gg_top (y := nI (sm (wN h) (j + 1))) (nI_add _ _) ?_
        refine gg_istore C dL_law_751 (by decide) ?_
        refine gg_aload C dL_law_753 rfl ?_
        refine gg_iconst (v := 0) C dL_law_755 (by decide) ?_
        refine gs_ld (o := 3 + (t % 10)) (k := 0) C hn (by decide) (by unfold sW; omega) dL_law_756 ?_
        refine gg_top (y := h (3 + (t % 10)) 0) (hwr 0 (by omega)) ?_
        refine gg_aload C dL_law_757 rfl ?_
        refine gg_iload C dL_law_759 rfl ?_
        refine gy_row1 (j := j) C (by omega) rfl hj dL_law_761 ?_
        refine gg_iconst (v := 3) C dL_law_762 (by decide) ?_
        refine gy_ld1 (j := j) (k := 3) C (by omega) hj (by first | rfl | decide) (by omega) dL_law_763 ?_
        refine gg_top (y := h (15 + j) 3) ((hP j 3 hj (by omega)).trans (pov (by omega) (by omega) (by omega))) ?_
        refine gg_imul C dL_law_764 ?_
        refine gg_iconst (v := 4) C dL_law_765 (by decide) ?_
        refine gg_idiv C dL_law_766 (by decide) ?_
        refine gg_top (y := h (3 + (t % 10)) 0 * h (15 + j) 3 / 4) rfl ?_
        refine gg_istore C dL_law_767 (by decide) ?_
        refine gg_iload C dL_law_769 rfl ?_
        refine gg_aload C dL_law_771 rfl ?_
        refine gg_iload C dL_law_773 rfl ?_
        refine gy_row1 (j := j) C (by omega) rfl hj dL_law_775 ?_
        refine gg_iconst (v := 2) C dL_law_776 (by decide) ?_
        refine gy_ld1 (j := j) (k := 2) C (by omega) hj (by first | rfl | decide) (by omega) dL_law_777 ?_
        refine gg_top (y := h (15 + j) 2) ((hP j 2 hj (by omega)).trans (pov (by omega) (by omega) (by omega))) ?_
        refine gg_sipush (v := 150) C dL_law_778 (by decide) ?_
        have K793 : GW g p l e room_1 s m #[.ref b] below meth c 26 (wc g h7 ++ (sx g A n f r ++ (mx g q7 r7 n 12 P ++ (mx g q8 r8 f 6 V ++ [cI g q17 n (fd (trS h (fun i => h7 (26 + i))) (fun _ => 0) f), cI g q18 n ψ])))) (FF (AG g) s.heap.size) [(0, .ref b), (1, .ref (gB g + 0)), (2, .ref (A 1)), (3, .int (nI n)), (4, .int (nI f)), (5, .int (nI t)), (7, .ref q7), (8, .ref q8), (14, .int (nI (sm its f))), (15, .ref (A (3 + (t % 10)))), (17, .ref q17), (18, .ref q18), (19, .int (nI (sm (wN h7) (j + 1)))), (20, .int (sumN (fun i => if h7 (15 + i) 5 = 0 then (1 : Int32) else 0) j)), (21, .int (nI (sm (gN h (3 + (t % 10))) j))), (22, .int (nI (sm (wN h) (j + 1)))), (23, .int (nI j)), (24, .int (nI (wN h7 j))), (25, .int (h (3 + (t % 10)) 0 * h (15 + j) 3 / 4))] ce sl Q 793 [.int (if h (15 + j) 2 < 150 then h (3 + (t % 10)) 0 * h (15 + j) 3 / 4 else 2 * (h (3 + (t % 10)) 0 * h (15 + j) 3 / 4)), .int (nI (sm (gN h (3 + (t % 10))) j))] := by
          refine gg_aload C dL_law_793 rfl ?_
          refine gg_iconst (v := 1) C dL_law_795 (by decide) ?_
          refine gs_ld (o := 3 + (t % 10)) (k := 1) C hn (by decide) (by unfold sW; omega) dL_law_796 ?_
          refine gg_top (y := h (3 + (t % 10)) 1) (hwr 1 (by omega)) ?_
          refine gg_aload C dL_law_797 rfl ?_
          refine gg_iload C dL_law_799 rfl ?_
          refine gy_row1 (j := j) C (by omega) rfl hj dL_law_801 ?_
          refine gg_iconst (v := 3) C dL_law_802 (by decide) ?_
          refine gy_ld1 (j := j) (k := 3) C (by omega) hj (by first | rfl | decide) (by omega) dL_law_803 ?_
          refine gg_top (y := h (15 + j) 3) ((hP j 3 hj (by omega)).trans (pov (by omega) (by omega) (by omega))) ?_
          refine gg_imul C dL_law_804 ?_
          refine gg_iconst (v := 2) C dL_law_805 (by decide) ?_
          refine gg_idiv C dL_law_806 (by decide) ?_
          refine gg_iadd C dL_law_807 ?_
          refine gg_top (y := nI (gN h (3 + (t % 10)) j)) hg.1 ?_
          refine gg_iadd C dL_law_808 ?_
          refine gg_top (y := nI (sm (gN h (3 + (t % 10))) (j + 1))) (nI_add _ _) ?_
          refine gg_istore C dL_law_809 (by decide) ?_
          refine gg_iload C dL_law_811 rfl ?_
          refine gg_iload C dL_law_813 rfl ?_
          have K823 : GW g p l e room_1 s m #[.ref b] below meth c 26 (wc g h7 ++ (sx g A n f r ++ (mx g q7 r7 n 12 P ++ (mx g q8 r8 f 6 V ++ [cI g q17 n (fd (trS h (fun i => h7 (26 + i))) (fun _ => 0) f), cI g q18 n ψ])))) (FF (AG g) s.heap.size) [(0, .ref b), (1, .ref (gB g + 0)), (2, .ref (A 1)), (3, .int (nI n)), (4, .int (nI f)), (5, .int (nI t)), (7, .ref q7), (8, .ref q8), (14, .int (nI (sm its f))), (15, .ref (A (3 + (t % 10)))), (17, .ref q17), (18, .ref q18), (19, .int (nI (sm (wN h7) (j + 1)))), (20, .int (sumN (fun i => if h7 (15 + i) 5 = 0 then (1 : Int32) else 0) j)), (21, .int (nI (sm (gN h (3 + (t % 10))) (j + 1)))), (22, .int (nI (sm (wN h) (j + 1)))), (23, .int (nI j)), (24, .int (nI (wN h7 j))), (25, .int (h (3 + (t % 10)) 0 * h (15 + j) 3 / 4))] ce sl Q 823 [.int (if h7 (15 + j) 5 = 0 then 1 else 0), .int (sumN (fun i => if h7 (15 + i) 5 = 0 then (1 : Int32) else 0) j)] := by
            refine gg_iadd C dL_law_823 ?_
            refine gg_top (y := sumN (fun i => if h7 (15 + i) 5 = 0 then (1 : Int32) else 0) (j + 1)) rfl ?_
            refine gg_istore C dL_law_824 (by decide) ?_
            refine gg_iload C dL_law_826 rfl ?_
            refine gg_if_lt C dL_law_828 900 (by decide) (fun q => absurd q (nI_pos (by omega))) (fun c828 => ?_)
            refine gg_iload C dL_law_831 rfl ?_
            refine gg_aload C dL_law_833 rfl ?_
            refine gg_iload C dL_law_835 rfl ?_
            refine gy_row1 (j := j) C (by omega) rfl hj dL_law_837 ?_
            refine gg_iconst (v := 4) C dL_law_838 (by decide) ?_
            refine gy_ld1 (j := j) (k := 4) C (by omega) hj (by first | rfl | decide) (by omega) dL_law_839 ?_
            refine gg_top (y := nI (hN h j)) ((hP j 4 hj (by omega)).trans ((pov4 (by omega)).trans hH.1)) ?_
            refine gg_icmp_gt C dL_law_840 900 (by decide) (fun q => absurd ((nI_ltI (by omega) (by omega)).mp q) (by omega)) (fun c840 => ?_)
            refine gg_aload_n C dL_law_843 1 rfl rfl ?_
            refine gg_iload C dL_law_844 rfl ?_
            refine gg_bipush (v := 10) C dL_law_846 (by decide) ?_
            refine gg_ls (wl g (sx g A n f r ++ (mx g q7 r7 n 12 P ++ (mx g q8 r8 f 6 V ++ [cI g q17 n (fd (trS h (fun i => h7 (26 + i))) (fun _ => 0) f), cI g q18 n ψ]))) h7) rfl ?_
            refine gc_callC (As := [.int (nI j), .int (nI 10)]) C mf_X4_pond (ok_X4_pond hT.1.2.1 (k := 10) ⟨j, hj, rfl⟩ (by omega)) q_m_L_100 rfl rfl rfl (Nat.le_of_ble_eq_true rfl) (by exact ⟨Nat.le_of_ble_eq_true rfl, Nat.le_of_ble_eq_true rfl⟩) (by exact ⟨by show _ ≤ 625049; omega, by show _ ≤ 7226551; omega⟩) dL_law_848 ?_
            refine gg_ls (wc g h7 ++ (sx g A n f r ++ (mx g q7 r7 n 12 P ++ (mx g q8 r8 f 6 V ++ [cI g q17 n (fd (trS h (fun i => h7 (26 + i))) (fun _ => 0) f), cI g q18 n ψ])))) rfl ?_
            refine gg_top (y := nI (o + e9)) ((pov10 (by omega)).trans (v2.trans (by rw [eo, nI_add]))) ?_
            refine gg_aload C dL_law_851 rfl ?_
            refine gg_iload C dL_law_853 rfl ?_
            refine gy_row1 (j := j) C (by omega) rfl hj dL_law_855 ?_
            refine gg_bipush (v := 10) C dL_law_856 (by decide) ?_
            refine gy_ld1 (j := j) (k := 10) C (by omega) hj (by first | rfl | decide) (by omega) dL_law_858 ?_
            refine gg_top (y := nI o) ((hP j 10 hj (by omega)).trans ((pov10 (by omega)).trans eo)) ?_
            refine gg_icmp_lt C dL_law_859 900 (by decide) (fun q => absurd ((nI_ltI (by omega) (by omega)).mp q) (by omega)) (fun c859 => ?_)
            refine gg_aload_n C dL_law_862 1 rfl rfl ?_
            refine gg_iload C dL_law_863 rfl ?_
            refine gg_bipush (v := 8) C dL_law_865 (by decide) ?_
            refine gg_ls (wl g (sx g A n f r ++ (mx g q7 r7 n 12 P ++ (mx g q8 r8 f 6 V ++ [cI g q17 n (fd (trS h (fun i => h7 (26 + i))) (fun _ => 0) f), cI g q18 n ψ]))) h7) rfl ?_
            refine gc_callC (As := [.int (nI j), .int (nI 8)]) C mf_X4_pond (ok_X4_pond hT.1.2.1 (k := 8) ⟨j, hj, rfl⟩ (by omega)) q_m_L_100 rfl rfl rfl (Nat.le_of_ble_eq_true rfl) (by exact ⟨Nat.le_of_ble_eq_true rfl, Nat.le_of_ble_eq_true rfl⟩) (by exact ⟨by show _ ≤ 625049; omega, by show _ ≤ 7226551; omega⟩) dL_law_867 ?_
            refine gg_ls (wc g h7 ++ (sx g A n f r ++ (mx g q7 r7 n 12 P ++ (mx g q8 r8 f 6 V ++ [cI g q17 n (fd (trS h (fun i => h7 (26 + i))) (fun _ => 0) f), cI g q18 n ψ])))) rfl ?_
            refine gg_top (y := h (15 + j) 8) ((pov (by omega) (by omega) (by omega)).trans (y1 8 (by omega))) ?_
            refine gg_aload C dL_law_870 rfl ?_
            refine gg_iload C dL_law_872 rfl ?_
            refine gy_row1 (j := j) C (by omega) rfl hj dL_law_874 ?_
            refine gg_bipush (v := 8) C dL_law_875 (by decide) ?_
            refine gy_ld1 (j := j) (k := 8) C (by omega) hj (by first | rfl | decide) (by omega) dL_law_877 ?_
            refine gg_top (y := h (15 + j) 8) ((hP j 8 hj (by omega)).trans (pov (by omega) (by omega) (by omega))) ?_
            refine gg_icmp_ne C dL_law_878 900 (by decide) (fun q => absurd rfl q) (fun c878 => ?_)
            refine gg_aload_n C dL_law_881 1 rfl rfl ?_
            refine gg_iload C dL_law_882 rfl ?_
            refine gg_bipush (v := 11) C dL_law_884 (by decide) ?_
            refine gg_ls (wl g (sx g A n f r ++ (mx g q7 r7 n 12 P ++ (mx g q8 r8 f 6 V ++ [cI g q17 n (fd (trS h (fun i => h7 (26 + i))) (fun _ => 0) f), cI g q18 n ψ]))) h7) rfl ?_
            refine gc_callC (As := [.int (nI j), .int (nI 11)]) C mf_X4_pond (ok_X4_pond hT.1.2.1 (k := 11) ⟨j, hj, rfl⟩ (by omega)) q_m_L_100 rfl rfl rfl (Nat.le_of_ble_eq_true rfl) (by exact ⟨Nat.le_of_ble_eq_true rfl, Nat.le_of_ble_eq_true rfl⟩) (by exact ⟨by show _ ≤ 625049; omega, by show _ ≤ 7226551; omega⟩) dL_law_886 ?_
            refine gg_ls (wc g h7 ++ (sx g A n f r ++ (mx g q7 r7 n 12 P ++ (mx g q8 r8 f 6 V ++ [cI g q17 n (fd (trS h (fun i => h7 (26 + i))) (fun _ => 0) f), cI g q18 n ψ])))) rfl ?_
            refine gg_top (y := d_src h 1 (nI j) n) (src_same (fun i hi => (D9.2.1 i hi).1 8 (by omega)) hOK hn) ?_
            refine gg_aload C dL_law_889 rfl ?_
            refine gg_iload C dL_law_891 rfl ?_
            refine gy_row1 (j := j) C (by omega) rfl hj dL_law_893 ?_
            refine gg_bipush (v := 11) C dL_law_894 (by decide) ?_
            refine gy_ld1 (j := j) (k := 11) C (by omega) hj (by first | rfl | decide) (by omega) dL_law_896 ?_
            refine gg_top (y := d_src h 1 (nI j) n) ((hP j 11 hj (by omega)).trans rfl) ?_
            refine gg_icmp_eq C dL_law_897 902 (by decide) (fun c897 => ?_) (fun q => absurd rfl q)
            have K1024 : GW g p l e room_1 s m #[.ref b] below meth c 26 (wc g h7 ++ (sx g A n f r ++ (mx g q7 r7 n 12 P ++ (mx g q8 r8 f 6 V ++ [cI g q17 n (fd (trS h (fun i => h7 (26 + i))) (fun _ => 0) f), cI g q18 n ψ])))) (FF (AG g) s.heap.size) [(0, .ref b), (1, .ref (gB g + 0)), (2, .ref (A 1)), (3, .int (nI n)), (4, .int (nI f)), (5, .int (nI t)), (7, .ref q7), (8, .ref q8), (14, .int (nI (sm its f))), (15, .ref (A (3 + (t % 10)))), (17, .ref q17), (18, .ref q18), (19, .int (nI (sm (wN h7) (j + 1)))), (20, .int (sumN (fun i => if h7 (15 + i) 5 = 0 then (1 : Int32) else 0) (j + 1))), (21, .int (nI (sm (gN h (3 + (t % 10))) (j + 1)))), (22, .int (nI (sm (wN h) (j + 1)))), (23, .int (nI j)), (24, .int (nI (wN h7 j))), (25, .int (h (3 + (t % 10)) 0 * h (15 + j) 3 / 4))] ce sl Q 1024 [] := by
              refine gg_iinc (v := nI (j + 1)) C dL_law_1024 rfl (nI_inc _) (by decide) ?_
              refine gg_goto C dL_law_1027 719 (by decide) ?_
              refine gg_lv [(0, .ref b), (1, .ref (gB g + 0)), (2, .ref (A 1)), (3, .int (nI n)), (4, .int (nI f)), (5, .int (nI t)), (7, .ref q7), (8, .ref q8), (14, .int (nI (sm its f))), (15, .ref (A (3 + (t % 10)))), (17, .ref q17), (18, .ref q18), (19, .int (nI (sm (wN h7) (j + 1)))), (20, .int (sumN (fun i => if h7 (15 + i) 5 = 0 then (1 : Int32) else 0) (j + 1))), (21, .int (nI (sm (gN h (3 + (t % 10))) (j + 1)))), (22, .int (nI (sm (wN h) (j + 1)))), (23, .int (nI (j + 1)))] ⟨rfl, rfl, rfl, rfl, rfl, rfl, rfl, rfl, rfl, rfl, rfl, rfl, rfl, rfl, rfl, rfl, rfl, trivial⟩ ?_
              exact ih (j + 1) hj (by omega)
            have K991 : GW g p l e room_1 s m #[.ref b] below meth c 26 (wc g h7 ++ (sx g A n f r ++ (mx g q7 r7 n 12 P ++ (mx g q8 r8 f 6 V ++ [cI g q17 n (fd (trS h (fun i => h7 (26 + i))) (fun _ => 0) f), cI g q18 n ψ])))) (FF (AG g) s.heap.size) [(0, .ref b), (1, .ref (gB g + 0)), (2, .ref (A 1)), (3, .int (nI n)), (4, .int (nI f)), (5, .int (nI t)), (7, .ref q7), (8, .ref q8), (14, .int (nI (sm its f))), (15, .ref (A (3 + (t % 10)))), (17, .ref q17), (18, .ref q18), (19, .int (nI (sm (wN h7) (j + 1)))), (20, .int (sumN (fun i => if h7 (15 + i) 5 = 0 then (1 : Int32) else 0) (j + 1))), (21, .int (nI (sm (gN h (3 + (t % 10))) (j + 1)))), (22, .int (nI (sm (wN h) (j + 1)))), (23, .int (nI j)), (24, .int (nI (wN h7 j))), (25, .int (h (3 + (t % 10)) 0 * h (15 + j) 3 / 4))] ce sl Q 991 [] := by
              refine gg_aload_n C dL_law_991 1 rfl rfl ?_
              refine gg_iload C dL_law_992 rfl ?_
              refine gg_bipush (v := 10) C dL_law_994 (by decide) ?_
              refine gg_ls (wl g (sx g A n f r ++ (mx g q7 r7 n 12 P ++ (mx g q8 r8 f 6 V ++ [cI g q17 n (fd (trS h (fun i => h7 (26 + i))) (fun _ => 0) f), cI g q18 n ψ]))) h7) rfl ?_
              refine gc_callC (As := [.int (nI j), .int (nI 10)]) C mf_X4_pond (ok_X4_pond hT.1.2.1 (k := 10) ⟨j, hj, rfl⟩ (by omega)) q_m_L_100 rfl rfl rfl (Nat.le_of_ble_eq_true rfl) (by exact ⟨Nat.le_of_ble_eq_true rfl, Nat.le_of_ble_eq_true rfl⟩) (by exact ⟨by show _ ≤ 625049; omega, by show _ ≤ 7226551; omega⟩) dL_law_996 ?_
              refine gg_ls (wc g h7 ++ (sx g A n f r ++ (mx g q7 r7 n 12 P ++ (mx g q8 r8 f 6 V ++ [cI g q17 n (fd (trS h (fun i => h7 (26 + i))) (fun _ => 0) f), cI g q18 n ψ])))) rfl ?_
              refine gg_top (y := nI (o + e9)) ((pov10 (by omega)).trans (v2.trans (by rw [eo, nI_add]))) ?_
              refine gg_aload C dL_law_999 rfl ?_
              refine gg_iload C dL_law_1001 rfl ?_
              refine gy_row1 (j := j) C (by omega) rfl hj dL_law_1003 ?_
              refine gg_bipush (v := 10) C dL_law_1004 (by decide) ?_
              refine gy_ld1 (j := j) (k := 10) C (by omega) hj (by first | rfl | decide) (by omega) dL_law_1006 ?_
              refine gg_top (y := nI o) ((hP j 10 hj (by omega)).trans ((pov10 (by omega)).trans eo)) ?_
              refine gg_icmp_le C dL_law_1007 1024 (by decide) (fun c1007 => ?_) (fun c1007 => ?_)
              · refine gg_lv [(0, .ref b), (1, .ref (gB g + 0)), (2, .ref (A 1)), (3, .int (nI n)), (4, .int (nI f)), (5, .int (nI t)), (7, .ref q7), (8, .ref q8), (14, .int (nI (sm its f))), (15, .ref (A (3 + (t % 10)))), (17, .ref q17), (18, .ref q18), (19, .int (nI (sm (wN h7) (j + 1)))), (20, .int (sumN (fun i => if h7 (15 + i) 5 = 0 then (1 : Int32) else 0) (j + 1))), (21, .int (nI (sm (gN h (3 + (t % 10))) (j + 1)))), (22, .int (nI (sm (wN h) (j + 1)))), (23, .int (nI j)), (24, .int (nI (wN h7 j))), (25, .int (h (3 + (t % 10)) 0 * h (15 + j) 3 / 4))] ⟨rfl, rfl, rfl, rfl, rfl, rfl, rfl, rfl, rfl, rfl, rfl, rfl, rfl, rfl, rfl, rfl, rfl, rfl, rfl, trivial⟩ ?_
                exact K1024
              · have he : 0 < e9 := Nat.pos_of_ne_zero (fun z => c1007 ((nI_leI (by omega) (by omega)).mpr (by omega)))
                refine gg_iload C dL_law_1010 rfl ?_
                refine gg_aload C dL_law_1012 rfl ?_
                refine gg_iload C dL_law_1014 rfl ?_
                refine gy_row1 (j := j) C (by omega) rfl hj dL_law_1016 ?_
                refine gg_iconst (v := 4) C dL_law_1017 (by decide) ?_
                refine gy_ld1 (j := j) (k := 4) C (by omega) hj (by first | rfl | decide) (by omega) dL_law_1018 ?_
                refine gg_top (y := nI (hN h j)) ((hP j 4 hj (by omega)).trans ((pov4 (by omega)).trans hH.1)) ?_
                refine gg_icmp_eq C dL_law_1019 1024 (by decide) (fun c1019 => ?_) (fun q => absurd (by rw [v3 he]) q)
                refine gg_lv [(0, .ref b), (1, .ref (gB g + 0)), (2, .ref (A 1)), (3, .int (nI n)), (4, .int (nI f)), (5, .int (nI t)), (7, .ref q7), (8, .ref q8), (14, .int (nI (sm its f))), (15, .ref (A (3 + (t % 10)))), (17, .ref q17), (18, .ref q18), (19, .int (nI (sm (wN h7) (j + 1)))), (20, .int (sumN (fun i => if h7 (15 + i) 5 = 0 then (1 : Int32) else 0) (j + 1))), (21, .int (nI (sm (gN h (3 + (t % 10))) (j + 1)))), (22, .int (nI (sm (wN h) (j + 1)))), (23, .int (nI j)), (24, .int (nI (wN h7 j))), (25, .int (h (3 + (t % 10)) 0 * h (15 + j) 3 / 4))] ⟨rfl, rfl, rfl, rfl, rfl, rfl, rfl, rfl, rfl, rfl, rfl, rfl, rfl, rfl, rfl, rfl, rfl, rfl, rfl, trivial⟩ ?_
                exact K1024
            have K956 : GW g p l e room_1 s m #[.ref b] below meth c 26 (wc g h7 ++ (sx g A n f r ++ (mx g q7 r7 n 12 P ++ (mx g q8 r8 f 6 V ++ [cI g q17 n (fd (trS h (fun i => h7 (26 + i))) (fun _ => 0) f), cI g q18 n ψ])))) (FF (AG g) s.heap.size) [(0, .ref b), (1, .ref (gB g + 0)), (2, .ref (A 1)), (3, .int (nI n)), (4, .int (nI f)), (5, .int (nI t)), (7, .ref q7), (8, .ref q8), (14, .int (nI (sm its f))), (15, .ref (A (3 + (t % 10)))), (17, .ref q17), (18, .ref q18), (19, .int (nI (sm (wN h7) (j + 1)))), (20, .int (sumN (fun i => if h7 (15 + i) 5 = 0 then (1 : Int32) else 0) (j + 1))), (21, .int (nI (sm (gN h (3 + (t % 10))) (j + 1)))), (22, .int (nI (sm (wN h) (j + 1)))), (23, .int (nI j)), (24, .int (nI (wN h7 j))), (25, .int (h (3 + (t % 10)) 0 * h (15 + j) 3 / 4))] ce sl Q 956 [] := by
              refine gg_aload_n C dL_law_956 1 rfl rfl ?_
              refine gg_iload C dL_law_957 rfl ?_
              refine gg_bipush (v := 7) C dL_law_959 (by decide) ?_
              refine gg_ls (wl g (sx g A n f r ++ (mx g q7 r7 n 12 P ++ (mx g q8 r8 f 6 V ++ [cI g q17 n (fd (trS h (fun i => h7 (26 + i))) (fun _ => 0) f), cI g q18 n ψ]))) h7) rfl ?_
              refine gc_callC (As := [.int (nI j), .int (nI 7)]) C mf_X4_pond (ok_X4_pond hT.1.2.1 (k := 7) ⟨j, hj, rfl⟩ (by omega)) q_m_L_100 rfl rfl rfl (Nat.le_of_ble_eq_true rfl) (by exact ⟨Nat.le_of_ble_eq_true rfl, Nat.le_of_ble_eq_true rfl⟩) (by exact ⟨by show _ ≤ 625049; omega, by show _ ≤ 7226551; omega⟩) dL_law_961 ?_
              refine gg_ls (wc g h7 ++ (sx g A n f r ++ (mx g q7 r7 n 12 P ++ (mx g q8 r8 f 6 V ++ [cI g q17 n (fd (trS h (fun i => h7 (26 + i))) (fun _ => 0) f), cI g q18 n ψ])))) rfl ?_
              refine gg_top (y := if h7 (15 + j) 7 = 0 then 0 else 1) (pov7 (by omega)) ?_
              refine gg_iload C dL_law_964 rfl ?_
              refine gg_bipush (v := 10) C dL_law_966 (by decide) ?_
              refine gg_irem C dL_law_968 (by decide) ?_
              refine gg_top (y := nI (t % 10)) (day_mod (by omega)) ?_
              refine gg_bipush (v := 9) C dL_law_969 (by decide) ?_
              refine gg_icmp_ne C dL_law_971 978 (by decide) (fun c971 => ?_) (fun c971 => ?_)
              · have hq9 : ¬ t % 10 = 9 := fun z => c971 (by rw [z]; rfl)
                refine gg_aload C dL_law_978 rfl ?_
                refine gg_iload C dL_law_980 rfl ?_
                refine gy_row1 (j := j) C (by omega) rfl hj dL_law_982 ?_
                refine gg_bipush (v := 7) C dL_law_983 (by decide) ?_
                refine gy_ld1 (j := j) (k := 7) C (by omega) hj (by first | rfl | decide) (by omega) dL_law_985 ?_
                refine gg_top (y := if h (15 + j) 7 = 0 then 0 else 1) ((hP j 7 hj (by omega)).trans (pov7 (by omega))) ?_
                refine gg_icmp_eq C dL_law_986 991 (by decide) (fun c986 => ?_) (fun q => absurd (by rw [y2, if_neg hq9]) q)
                refine gg_lv [(0, .ref b), (1, .ref (gB g + 0)), (2, .ref (A 1)), (3, .int (nI n)), (4, .int (nI f)), (5, .int (nI t)), (7, .ref q7), (8, .ref q8), (14, .int (nI (sm its f))), (15, .ref (A (3 + (t % 10)))), (17, .ref q17), (18, .ref q18), (19, .int (nI (sm (wN h7) (j + 1)))), (20, .int (sumN (fun i => if h7 (15 + i) 5 = 0 then (1 : Int32) else 0) (j + 1))), (21, .int (nI (sm (gN h (3 + (t % 10))) (j + 1)))), (22, .int (nI (sm (wN h) (j + 1)))), (23, .int (nI j)), (24, .int (nI (wN h7 j))), (25, .int (h (3 + (t % 10)) 0 * h (15 + j) 3 / 4))] ⟨rfl, rfl, rfl, rfl, rfl, rfl, rfl, rfl, rfl, rfl, rfl, rfl, rfl, rfl, rfl, rfl, rfl, rfl, rfl, trivial⟩ ?_
                exact K991
              · have hq9 : t % 10 = 9 := (nI_eq (a := t % 10) (b := 9) (by omega) (by omega)).mp c971
                refine gg_iconst (v := 0) C dL_law_974 (by decide) ?_
                refine gg_goto C dL_law_975 986 (by decide) ?_
                refine gg_icmp_eq C dL_law_986 991 (by decide) (fun c986 => ?_) (fun q => absurd (by rw [y2, if_pos hq9, if_pos rfl]) q)
                refine gg_lv [(0, .ref b), (1, .ref (gB g + 0)), (2, .ref (A 1)), (3, .int (nI n)), (4, .int (nI f)), (5, .int (nI t)), (7, .ref q7), (8, .ref q8), (14, .int (nI (sm its f))), (15, .ref (A (3 + (t % 10)))), (17, .ref q17), (18, .ref q18), (19, .int (nI (sm (wN h7) (j + 1)))), (20, .int (sumN (fun i => if h7 (15 + i) 5 = 0 then (1 : Int32) else 0) (j + 1))), (21, .int (nI (sm (gN h (3 + (t % 10))) (j + 1)))), (22, .int (nI (sm (wN h) (j + 1)))), (23, .int (nI j)), (24, .int (nI (wN h7 j))), (25, .int (h (3 + (t % 10)) 0 * h (15 + j) 3 / 4))] ⟨rfl, rfl, rfl, rfl, rfl, rfl, rfl, rfl, rfl, rfl, rfl, rfl, rfl, rfl, rfl, rfl, rfl, rfl, rfl, trivial⟩ ?_
                exact K991
            refine gg_aload_n C dL_law_902 1 rfl rfl ?_
            refine gg_iload C dL_law_903 rfl ?_
            refine gg_bipush (v := 6) C dL_law_905 (by decide) ?_
            refine gg_ls (wl g (sx g A n f r ++ (mx g q7 r7 n 12 P ++ (mx g q8 r8 f 6 V ++ [cI g q17 n (fd (trS h (fun i => h7 (26 + i))) (fun _ => 0) f), cI g q18 n ψ]))) h7) rfl ?_
            refine gc_callC (As := [.int (nI j), .int (nI 6)]) C mf_X4_pond (ok_X4_pond hT.1.2.1 (k := 6) ⟨j, hj, rfl⟩ (by omega)) q_m_L_100 rfl rfl rfl (Nat.le_of_ble_eq_true rfl) (by exact ⟨Nat.le_of_ble_eq_true rfl, Nat.le_of_ble_eq_true rfl⟩) (by exact ⟨by show _ ≤ 625049; omega, by show _ ≤ 7226551; omega⟩) dL_law_907 ?_
            refine gg_ls (wc g h7 ++ (sx g A n f r ++ (mx g q7 r7 n 12 P ++ (mx g q8 r8 f 6 V ++ [cI g q17 n (fd (trS h (fun i => h7 (26 + i))) (fun _ => 0) f), cI g q18 n ψ])))) rfl ?_
            refine gg_top (y := if h (15 + j) 7 = 0 then nI (li - Tt) else nI li) ((pov (by omega) (by omega) (by omega)).trans t5) ?_
            refine gg_aload C dL_law_910 rfl ?_
            refine gg_iload C dL_law_912 rfl ?_
            refine gy_row1 (j := j) C (by omega) rfl hj dL_law_914 ?_
            refine gg_bipush (v := 7) C dL_law_915 (by decide) ?_
            refine gy_ld1 (j := j) (k := 7) C (by omega) hj (by first | rfl | decide) (by omega) dL_law_917 ?_
            refine gg_top (y := if h (15 + j) 7 = 0 then 0 else 1) ((hP j 7 hj (by omega)).trans (pov7 (by omega))) ?_
            refine gg_iconst (v := 1) C dL_law_918 (by decide) ?_
            refine gg_icmp_ne C dL_law_919 933 (by decide) (fun c919 => ?_) (fun c919 => ?_)
            · have e7 : h (15 + j) 7 = 0 := by
                by_cases e8 : h (15 + j) 7 = 0
                · exact e8
                · exact absurd (if_neg e8) c919
              refine gg_iconst (v := 0) C dL_law_933 (by decide) ?_
              refine gg_aload C dL_law_934 rfl ?_
              refine gg_iload C dL_law_936 rfl ?_
              refine gy_row1 (j := j) C (by omega) rfl hj dL_law_938 ?_
              refine gg_bipush (v := 6) C dL_law_939 (by decide) ?_
              refine gy_ld1 (j := j) (k := 6) C (by omega) hj (by first | rfl | decide) (by omega) dL_law_941 ?_
              refine gg_top (y := nI li) ((hP j 6 hj (by omega)).trans ((pov (by omega) (by omega) (by omega)).trans t4)) ?_
              refine gg_aload C dL_law_942 rfl ?_
              refine gg_iload C dL_law_944 rfl ?_
              refine gy_ldZ C 0 rfl rfl hj (by omega) dL_law_946 ?_
              refine gg_top (y := nI Tt) t1 ?_
              refine gg_isub C dL_law_947 ?_
              refine gg_mmax C q_m_L_78 (Nat.le_of_ble_eq_true rfl) (by first | exact Nat.le_of_ble_eq_true rfl | (simp only [List.map, List.sum]; decide)) (by show _ ≤ 625049; omega) (by show _ ≤ 7226551; omega) dL_law_948 ?_
              refine gg_top (y := nI (li - Tt)) (by rw [Int32.sub_eq_add_neg, offN (by omega) (by omega)]) ?_
              refine gg_icmp_eq C dL_law_951 956 (by decide) (fun c951 => ?_) (fun q => absurd (if_pos e7) q)
              refine gg_lv [(0, .ref b), (1, .ref (gB g + 0)), (2, .ref (A 1)), (3, .int (nI n)), (4, .int (nI f)), (5, .int (nI t)), (7, .ref q7), (8, .ref q8), (14, .int (nI (sm its f))), (15, .ref (A (3 + (t % 10)))), (17, .ref q17), (18, .ref q18), (19, .int (nI (sm (wN h7) (j + 1)))), (20, .int (sumN (fun i => if h7 (15 + i) 5 = 0 then (1 : Int32) else 0) (j + 1))), (21, .int (nI (sm (gN h (3 + (t % 10))) (j + 1)))), (22, .int (nI (sm (wN h) (j + 1)))), (23, .int (nI j)), (24, .int (nI (wN h7 j))), (25, .int (h (3 + (t % 10)) 0 * h (15 + j) 3 / 4))] ⟨rfl, rfl, rfl, rfl, rfl, rfl, rfl, rfl, rfl, rfl, rfl, rfl, rfl, rfl, rfl, rfl, rfl, rfl, rfl, trivial⟩ ?_
              exact K956
            · have e7 : ¬ h (15 + j) 7 = 0 := fun z => by rw [if_pos z] at c919; exact absurd c919 (by decide)
              refine gg_aload C dL_law_922 rfl ?_
              refine gg_iload C dL_law_924 rfl ?_
              refine gy_row1 (j := j) C (by omega) rfl hj dL_law_926 ?_
              refine gg_bipush (v := 6) C dL_law_927 (by decide) ?_
              refine gy_ld1 (j := j) (k := 6) C (by omega) hj (by first | rfl | decide) (by omega) dL_law_929 ?_
              refine gg_top (y := nI li) ((hP j 6 hj (by omega)).trans ((pov (by omega) (by omega) (by omega)).trans t4)) ?_
              refine gg_goto C dL_law_930 951 (by decide) ?_
              refine gg_icmp_eq C dL_law_951 956 (by decide) (fun c951 => ?_) (fun q => absurd (if_neg e7) q)
              refine gg_lv [(0, .ref b), (1, .ref (gB g + 0)), (2, .ref (A 1)), (3, .int (nI n)), (4, .int (nI f)), (5, .int (nI t)), (7, .ref q7), (8, .ref q8), (14, .int (nI (sm its f))), (15, .ref (A (3 + (t % 10)))), (17, .ref q17), (18, .ref q18), (19, .int (nI (sm (wN h7) (j + 1)))), (20, .int (sumN (fun i => if h7 (15 + i) 5 = 0 then (1 : Int32) else 0) (j + 1))), (21, .int (nI (sm (gN h (3 + (t % 10))) (j + 1)))), (22, .int (nI (sm (wN h) (j + 1)))), (23, .int (nI j)), (24, .int (nI (wN h7 j))), (25, .int (h (3 + (t % 10)) 0 * h (15 + j) 3 / 4))] ⟨rfl, rfl, rfl, rfl, rfl, rfl, rfl, rfl, rfl, rfl, rfl, rfl, rfl, rfl, rfl, rfl, rfl, rfl, rfl, trivial⟩ ?_
              exact K956
          refine gg_if_ne C dL_law_815 822 (by decide) (fun c815 => ?_) (fun c815 => ?_)
          · refine gg_iconst (v := 0) C dL_law_822 (by decide) ?_
            refine gg_top (y := if h7 (15 + j) 5 = 0 then 1 else 0) (if_neg (by rw [y5]; exact c815)).symm ?_
            refine gg_lv [(0, .ref b), (1, .ref (gB g + 0)), (2, .ref (A 1)), (3, .int (nI n)), (4, .int (nI f)), (5, .int (nI t)), (7, .ref q7), (8, .ref q8), (14, .int (nI (sm its f))), (15, .ref (A (3 + (t % 10)))), (17, .ref q17), (18, .ref q18), (19, .int (nI (sm (wN h7) (j + 1)))), (20, .int (sumN (fun i => if h7 (15 + i) 5 = 0 then (1 : Int32) else 0) j)), (21, .int (nI (sm (gN h (3 + (t % 10))) (j + 1)))), (22, .int (nI (sm (wN h) (j + 1)))), (23, .int (nI j)), (24, .int (nI (wN h7 j))), (25, .int (h (3 + (t % 10)) 0 * h (15 + j) 3 / 4))] ⟨rfl, rfl, rfl, rfl, rfl, rfl, rfl, rfl, rfl, rfl, rfl, rfl, rfl, rfl, rfl, rfl, rfl, rfl, rfl, trivial⟩ ?_
            exact K823
          · refine gg_iconst (v := 1) C dL_law_818 (by decide) ?_
            refine gg_goto C dL_law_819 823 (by decide) ?_
            refine gg_top (y := if h7 (15 + j) 5 = 0 then 1 else 0) (if_pos (y5.trans c815)).symm ?_
            refine gg_lv [(0, .ref b), (1, .ref (gB g + 0)), (2, .ref (A 1)), (3, .int (nI n)), (4, .int (nI f)), (5, .int (nI t)), (7, .ref q7), (8, .ref q8), (14, .int (nI (sm its f))), (15, .ref (A (3 + (t % 10)))), (17, .ref q17), (18, .ref q18), (19, .int (nI (sm (wN h7) (j + 1)))), (20, .int (sumN (fun i => if h7 (15 + i) 5 = 0 then (1 : Int32) else 0) j)), (21, .int (nI (sm (gN h (3 + (t % 10))) (j + 1)))), (22, .int (nI (sm (wN h) (j + 1)))), (23, .int (nI j)), (24, .int (nI (wN h7 j))), (25, .int (h (3 + (t % 10)) 0 * h (15 + j) 3 / 4))] ⟨rfl, rfl, rfl, rfl, rfl, rfl, rfl, rfl, rfl, rfl, rfl, rfl, rfl, rfl, rfl, rfl, rfl, rfl, rfl, trivial⟩ ?_
            exact K823
        refine gg_icmp_ge C dL_law_781 789 (by decide) (fun c781 => ?_) (fun c781 => ?_)
        · refine gg_iconst (v := 2) C dL_law_789 (by decide) ?_
          refine gg_iload C dL_law_790 rfl ?_
          refine gg_imul C dL_law_792 ?_
          refine gg_top (y := (if h (15 + j) 2 < 150 then h (3 + (t % 10)) 0 * h (15 + j) 3 / 4 else 2 * (h (3 + (t % 10)) 0 * h (15 + j) 3 / 4))) (if_neg (fun z => absurd c781 (Int32.not_le.mpr z))).symm ?_
          refine gg_lv [(0, .ref b), (1, .ref (gB g + 0)), (2, .ref (A 1)), (3, .int (nI n)), (4, .int (nI f)), (5, .int (nI t)), (7, .ref q7), (8, .ref q8), (14, .int (nI (sm its f))), (15, .ref (A (3 + (t % 10)))), (17, .ref q17), (18, .ref q18), (19, .int (nI (sm (wN h7) (j + 1)))), (20, .int (sumN (fun i => if h7 (15 + i) 5 = 0 then (1 : Int32) else 0) j)), (21, .int (nI (sm (gN h (3 + (t % 10))) j))), (22, .int (nI (sm (wN h) (j + 1)))), (23, .int (nI j)), (24, .int (nI (wN h7 j))), (25, .int (h (3 + (t % 10)) 0 * h (15 + j) 3 / 4))] ⟨rfl, rfl, rfl, rfl, rfl, rfl, rfl, rfl, rfl, rfl, rfl, rfl, rfl, rfl, rfl, rfl, rfl, rfl, rfl, trivial⟩ ?_
          exact K793
        · refine gg_iload C dL_law_784 rfl ?_
          refine gg_goto C dL_law_786 793 (by decide) ?_
          refine gg_top (y := (if h (15 + j) 2 < 150 then h (3 + (t % 10)) 0 * h (15 + j) 3 / 4 else 2 * (h (3 + (t % 10)) 0 * h (15 + j) 3 / 4))) (if_pos (Int32.not_le.mp c781)).symm ?_
          refine gg_lv [(0, .ref b), (1, .ref (gB g + 0)), (2, .ref (A 1)), (3, .int (nI n)), (4, .int (nI f)), (5, .int (nI t)), (7, .ref q7), (8, .ref q8), (14, .int (nI (sm its f))), (15, .ref (A (3 + (t % 10)))), (17, .ref q17), (18, .ref q18), (19, .int (nI (sm (wN h7) (j + 1)))), (20, .int (sumN (fun i => if h7 (15 + i) 5 = 0 then (1 : Int32) else 0) j)), (21, .int (nI (sm (gN h (3 + (t % 10))) j))), (22, .int (nI (sm (wN h) (j + 1)))), (23, .int (nI j)), (24, .int (nI (wN h7 j))), (25, .int (h (3 + (t % 10)) 0 * h (15 + j) 3 / 4))] ⟨rfl, rfl, rfl, rfl, rfl, rfl, rfl, rfl, rfl, rfl, rfl, rfl, rfl, rfl, rfl, rfl, rfl, rfl, rfl, trivial⟩ ?_
          exact K793
  refine gg_lv [(0, .ref b), (1, .ref (gB g + 0)), (2, .ref (A 1)), (3, .int (nI n)), (4, .int (nI f)), (5, .int (nI t)), (7, .ref q7), (8, .ref q8), (14, .int (nI (sm its f))), (15, .ref (A (3 + (t % 10)))), (17, .ref q17), (18, .ref q18), (19, .int (nI (sm (wN h7) 0))), (20, .int (sumN (fun i => if h7 (15 + i) 5 = 0 then (1 : Int32) else 0) 0)), (21, .int (nI (sm (gN h (3 + (t % 10))) 0))), (22, .int (nI (sm (wN h) 0))), (23, .int (nI 0))] ⟨rfl, rfl, rfl, rfl, rfl, rfl, rfl, rfl, rfl, rfl, rfl, rfl, rfl, rfl, rfl, rfl, rfl, trivial⟩ ?_
  exact L (n + 1) 0 (Nat.zero_le _) (by omega)
