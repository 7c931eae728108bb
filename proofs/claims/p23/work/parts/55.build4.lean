/-! build: the flocks -/
set_option maxHeartbeats 4000000 in
theorem bd_4 {g : gW} {p : Program} {l : Launch} {e : Env} {s : State} {m : MethodId} {below : List Frame} {meth : Method} {c : Code} {b N : Nat} {xs : Nat → Int32} {Q : State → Prop} (C : CG g p s m ([.ref (gB g + 0), .ref b, .int 7] : List Value).toArray meth c cL_build 13 RL) (hst : l.stackTraces = false) (hE : EXs g s) (hX : XS g b N xs s) (hN : N ≤ 260) {n t q nf : Nat} (hn1 : 1 ≤ n) (hn7 : n ≤ 7) (hnf : nf < 6) (K : ∀ (A : Ad) (f : Nat) (h r : Hp), f ≤ 5 → TS n f t q h r → GW g p l e (rK 8 100 600) s m ([.ref (gB g + 0), .ref b, .int 7] : List Value).toArray below meth c 13 (wc g h ++ (sx g A n f r ++ [])) (FF (AG g) s.heap.size) [(0, .ref (gB g + 0)), (1, .ref b), (3, .ref (A 1))] (69 + 4 * 5) (408 + 28 * 5) Q 786 []) : ∀ (fu f : Nat), f ≤ nf → nf < fu + f → ∀ (A : Ad) (h r : Hp), TS n f t q h r → GW g p l e (rK 8 100 600) s m ([.ref (gB g + 0), .ref b, .int 7] : List Value).toArray below meth c 13 (wc g h ++ (sx g A n f r ++ [])) (FF (AG g) s.heap.size) [(0, .ref (gB g + 0)), (1, .ref b), (3, .ref (A 1)), (5, .int (nI n)), (6, .int (nI nf)), (7, .int (nI f))] (69 + 4 * f) (408 + 28 * f) Q 627 [] := by
  have hFA : ∀ q, q < s.heap.size → FF (AG g) s.heap.size q → AG g q := fun q h1 h2 => h2.elim id (fun z => absurd h1 (by omega))
  have hn : n ≤ 10 := by omega
  intro fu
  induction fu with
  | zero => intro i h1 h2; omega
  | succ fu ih =>
    intro f hf9 hfu A h r hT
    have hf : f ≤ 10 := by omega
    refine gg_iload C dL_build_627 rfl ?_
    refine gg_iload C dL_build_629 rfl ?_
    refine gg_icmp_ge C dL_build_631 786 (by decide) (fun q9 => ?_) (fun q9 => ?_)
    · refine gg_wide (69 + 4 * 5) (408 + 28 * 5) (by omega) (by omega) ?_
      refine gg_lv [(0, .ref (gB g + 0)), (1, .ref b), (3, .ref (A 1))] ⟨rfl, rfl, rfl, trivial⟩ ?_
      exact K A f h r (by omega) hT
    · have hfn := lp_body rfl q9 hf9 (by omega)
      refine gg_aload_n C dL_build_634 1 rfl rfl ?_
      refine gg_bipush (v := 11) C dL_build_635 (by decide) ?_
      refine gg_iload C dL_build_637 rfl ?_
      refine gg_iconst (v := 2) C dL_build_639 (by decide) ?_
      refine gg_irem C dL_build_640 (by decide) ?_
      refine gg_iadd C dL_build_641 ?_
      refine gg_top (y := nI (11 + f % 2)) (by rw [show (2 : Int32) = nI 2 from rfl, mod_nI (by omega) (by omega) (by omega), show (11 : Int32) = nI 11 from rfl, nI_add]) ?_
      refine gg_callP (v := cel N xs (11 + f % 2)) C mf_L_cell (gt_L_cell (by omega) (by omega)) XS_blind (EM.xs hX hFA) (fun _ h9 => Or.inr h9) q_m_L_12 rfl rfl (Nat.le_of_ble_eq_true rfl) (by exact ⟨Nat.le_of_ble_eq_true rfl, Nat.le_of_ble_eq_true rfl⟩) (by exact ⟨by show _ ≤ 100; omega, by show _ ≤ 600; omega⟩) dL_build_642 ?_
      refine gg_iload C dL_build_645 rfl ?_
      refine gg_ishr C dL_build_647 ?_
      refine gg_iconst (v := 5) C dL_build_648 (by decide) ?_
      refine gg_iload C dL_build_649 rfl ?_
      refine gg_imul C dL_build_651 ?_
      refine gg_iadd C dL_build_652 ?_
      generalize (((cel N xs (11 + f % 2)) >>> ((nI f) &&& 31)) + (5 * (nI f))) = x
      refine gg_istore C dL_build_653 (by decide) ?_
      refine gg_iconst (v := 1) C dL_build_655 (by decide) ?_
      refine gg_iload C dL_build_656 rfl ?_
      refine gg_iload C dL_build_658 rfl ?_
      refine gg_bipush (v := 6) C dL_build_660 (by decide) ?_
      refine gg_ishr C dL_build_662 ?_
      refine gg_iconst (v := 2) C dL_build_663 (by decide) ?_
      refine gg_callP (v := bel (x >>> (6 &&& 31)) 2) C mf_L_below (gt_L_below (by decide)) EB.tt EM.tt (fun _ h9 => Or.inr h9) q_m_L_18 rfl rfl (Nat.le_of_ble_eq_true rfl) (by exact ⟨Nat.le_of_ble_eq_true rfl, Nat.le_of_ble_eq_true rfl⟩) (by exact ⟨by show _ ≤ 100; omega, by show _ ≤ 600; omega⟩) dL_build_664 ?_
      have K677 : ∀ cc : Nat, (cc = 80 ∨ cc = 15) → GW g p l e (rK 8 100 600) s m ([.ref (gB g + 0), .ref b, .int 7] : List Value).toArray below meth c 13 (wc g h ++ (sx g A n f r ++ [])) (FF (AG g) s.heap.size) [(0, .ref (gB g + 0)), (1, .ref b), (3, .ref (A 1)), (5, .int (nI n)), (6, .int (nI nf)), (7, .int (nI f)), (8, .int x)] (69 + 4 * f) (408 + 28 * f) Q 677 [.int (nI cc), .int x, .int 1] := by
        intro cc hcc
        refine gg_callP (v := bel x (nI cc)) C mf_L_below (gt_L_below (fun z => absurd ((nI_eq (a := cc) (b := 0) (by omega) (by omega)).mp z) (by omega))) EB.tt EM.tt (fun _ h9 => Or.inr h9) q_m_L_18 rfl rfl (Nat.le_of_ble_eq_true rfl) (by exact ⟨Nat.le_of_ble_eq_true rfl, Nat.le_of_ble_eq_true rfl⟩) (by exact ⟨by show _ ≤ 100; omega, by show _ ≤ 600; omega⟩) dL_build_677 ?_
        obtain ⟨a0, ha0, ea0⟩ := bel_is (x := x) (N := cc) (by omega) (by omega)
        refine gg_top (show bel x (nI cc) = nI a0 from ea0) ?_
        refine gg_iadd C dL_build_680 ?_
        refine gg_top (y := nI (a0 + 1)) (by rw [show (1 : Int32) = nI 1 from rfl, nI_add, Nat.add_comm]) ?_
        refine gg_istore C dL_build_681 (by decide) ?_
        refine gg_iload C dL_build_683 rfl ?_
        refine gg_iconst (v := 3) C dL_build_685 (by decide) ?_
        refine gg_ishr C dL_build_686 ?_
        refine gg_iload C dL_build_687 rfl ?_
        refine gg_callP (v := bel (x >>> (3 &&& 31)) (nI n)) C mf_L_below (gt_L_below (fun z => absurd ((nI_eq (a := n) (b := 0) (by omega) (by omega)).mp z) (by omega))) EB.tt EM.tt (fun _ h9 => Or.inr h9) q_m_L_18 rfl rfl (Nat.le_of_ble_eq_true rfl) (by exact ⟨Nat.le_of_ble_eq_true rfl, Nat.le_of_ble_eq_true rfl⟩) (by exact ⟨by show _ ≤ 100; omega, by show _ ≤ 600; omega⟩) dL_build_689 ?_
        obtain ⟨p1, hp1, ep1⟩ := bel_is (x := (x >>> (3 &&& 31))) (N := n) (by omega) (by omega)
        refine gg_top (show bel (x >>> (3 &&& 31)) (nI n) = nI p1 from ep1) ?_
        refine gg_istore C dL_build_692 (by decide) ?_
        refine gg_aload_n C dL_build_694 0 rfl rfl ?_
        refine gg_iload C dL_build_695 rfl ?_
        refine gg_iload C dL_build_697 rfl ?_
        obtain ⟨h2, h3, ex, elo, T3, R3⟩ := lw_addF (fb := fun k => if k = 0 then nI (a0 + 1) else if k = 1 then nI p1 else 0) hT.1 hT.2.1 (show f < 6 by omega) hp1 (show 1 ≤ a0 + 1 ∧ a0 + 1 ≤ 80 by omega) rfl rfl rfl rfl rfl
        refine gg_ls (wl g (sx g A n f r ++ []) h) rfl ?_
        refine gc_callX (As := [.int (nI p1), .int (nI (a0 + 1))]) C hE mf_X4_addFlock (xt_X4_addFlock hst hT.1.2.1) ex q_m_L_58 rfl rfl rfl (Nat.le_of_ble_eq_true rfl) (by exact ⟨Nat.le_of_ble_eq_true rfl, Nat.le_of_ble_eq_true rfl⟩) (by exact ⟨by show _ ≤ 100; omega, by show _ ≤ 600; omega⟩) dL_build_699 ?_
        refine gg_ls (wc g h3 ++ (sx g A n f r ++ [])) (wl_lo elo) ?_
        refine gg_iload C dL_build_702 rfl ?_
        refine gg_icmp_eq C dL_build_704 709 (by decide) (fun _ => ?_) (fun z9 => absurd rfl z9)
        refine gg_aload_n C dL_build_709 3 rfl rfl ?_
        refine gg_aload_n C dL_build_710 3 rfl rfl ?_
        refine gs_flo C hn q_f_L_61 dL_build_711 ?_
        refine gg_iconst (v := 5) C dL_build_714 (by decide) ?_
        refine gg_newi (N := 5) C (fun _ h9 => Or.inr h9) (by rfl) (by omega) (by exact ⟨by show _ ≤ 100; omega, by show _ ≤ 600; omega⟩) dL_build_715 (fun q0 => ?_)
        refine gg_ls (wc g h3 ++ (sx g A n f r ++ [cI g q0 5 (fun _ => 0)])) (by rw [sl_add]; rfl) ?_
        refine gg_dup C dL_build_717 rfl ?_
        refine gg_iconst (v := 0) C dL_build_718 (by decide) ?_
        refine gg_iload C dL_build_719 rfl ?_
        refine gs_ystI (j := 0) C 0 rfl (by decide) (by omega) (by omega) dL_build_721 ?_
        refine gg_dup C dL_build_722 rfl ?_
        refine gg_iconst (v := 1) C dL_build_723 (by decide) ?_
        refine gg_iload C dL_build_724 rfl ?_
        refine gs_ystI (j := 1) C 0 rfl (by decide) (by omega) (by omega) dL_build_726 ?_
        refine gg_dup C dL_build_727 rfl ?_
        refine gg_iconst (v := 2) C dL_build_728 (by decide) ?_
        refine gg_iconst (v := 0) C dL_build_729 (by decide) ?_
        refine gs_ystI (j := 2) C 0 rfl (by decide) (by omega) (by omega) dL_build_730 ?_
        refine gg_dup C dL_build_731 rfl ?_
        refine gg_iconst (v := 3) C dL_build_732 (by decide) ?_
        refine gg_iload C dL_build_733 rfl ?_
        refine gg_iconst (v := 5) C dL_build_735 (by decide) ?_
        refine gg_ishr C dL_build_736 ?_
        refine gg_iconst (v := 2) C dL_build_737 (by decide) ?_
        refine gg_callP (v := bel (x >>> (5 &&& 31)) 2) C mf_L_below (gt_L_below (by decide)) EB.tt EM.tt (fun _ h9 => Or.inr h9) q_m_L_18 rfl rfl (Nat.le_of_ble_eq_true rfl) (by exact ⟨Nat.le_of_ble_eq_true rfl, Nat.le_of_ble_eq_true rfl⟩) (by exact ⟨by show _ ≤ 100; omega, by show _ ≤ 600; omega⟩) dL_build_738 ?_
        obtain ⟨b0, hb0, eb0⟩ := bel_is (x := x >>> (5 &&& 31)) (N := 2) (by omega) (by omega)
        have hbb : bel (x >>> (5 &&& 31)) 2 = 0 ∨ bel (x >>> (5 &&& 31)) 2 = 1 := by
          rw [show bel (x >>> (5 &&& 31)) 2 = nI b0 from eb0]
          rcases (show b0 = 0 ∨ b0 = 1 by omega) with rfl | rfl
          · exact Or.inl rfl
          · exact Or.inr rfl
        refine gs_ystI (j := 3) C 0 rfl (by decide) (by omega) (by omega) dL_build_741 ?_
        refine gg_dup C dL_build_742 rfl ?_
        refine gg_iconst (v := 4) C dL_build_743 (by decide) ?_
        refine gg_iconst (v := 0) C dL_build_744 (by decide) ?_
        refine gs_ystI (j := 4) C 0 rfl (by decide) (by omega) (by omega) dL_build_745 ?_
        generalize ebb : bel (x >>> (5 &&& 31)) 2 = bb at hbb ⊢
        obtain ⟨fb, hfb⟩ : ∃ fb : Nat → Int32, upd (upd (upd (upd (upd (fun _ => 0) 0 (nI (a0 + 1))) 1 (nI p1)) 2 0) 3 bb) 4 0 = fb := ⟨_, rfl⟩
        refine gg_ls (wc g h3 ++ (sx g A n f r ++ [cI g q0 5 fb])) (by rw [← hfb]; rfl) ?_
        refine gs_moreF C hn hf (fun _ h9 => Or.inr h9) q_m_L_32 (Nat.le_of_ble_eq_true rfl) (by exact ⟨Nat.le_of_ble_eq_true rfl, Nat.le_of_ble_eq_true rfl⟩) (by exact ⟨by show _ ≤ 100; omega, by show _ ≤ 600; omega⟩) dL_build_746 (fun q2 => ?_)
        refine gg_put (T := TX5) (N := 5) C _ (sl_get hn (o := 1) (Or.inl ⟨by omega, by omega⟩)) rfl inX5 tyX5 tyX5_ok nmX5 4 (by decide) q_f_L_61 rfl rfl rfl (Nat.le_of_ble_eq_true rfl) dL_build_749 ?_
        refine gr_F (q := q0) (q2 := q2) (fb := fb) hn ?_
        refine gg_aload_n C dL_build_752 0 rfl rfl ?_
        refine gg_iload C dL_build_753 rfl ?_
        refine gg_iload C dL_build_755 rfl ?_
        refine gg_iconst (v := 5) C dL_build_757 (by decide) ?_
        refine gg_ishr C dL_build_758 ?_
        refine gg_iconst (v := 2) C dL_build_759 (by decide) ?_
        refine gg_callP (v := bel (x >>> (5 &&& 31)) 2) C mf_L_below (gt_L_below (by decide)) EB.tt EM.tt (fun _ h9 => Or.inr h9) q_m_L_18 rfl rfl (Nat.le_of_ble_eq_true rfl) (by exact ⟨Nat.le_of_ble_eq_true rfl, Nat.le_of_ble_eq_true rfl⟩) (by exact ⟨by show _ ≤ 100; omega, by show _ ≤ 600; omega⟩) dL_build_760 ?_
        refine gg_top ebb ?_
        refine gg_iconst (v := 1) C dL_build_763 (by decide) ?_
        have R5 : SR n (f + 1) h3 (hp_row r (26 + f) (fun k => if k = 0 then nI (a0 + 1) else if k = 1 then nI p1 else 0)) := R3
        obtain ⟨h4, h5, ex5, elo5, T5, R5⟩ := lw_roams T3 R5 (show f < f + 1 by omega) hbb
        have R6 : SR n (f + 1) h5 (hp_row r (26 + f) fb) := R5.same (fun o k hw => by
          by_cases eo : o = 26 + f
          · subst eo
            rw [hp_row_eq, ← hfb]
            rcases (show k = 0 ∨ k = 1 ∨ k = 2 ∨ k = 3 ∨ k = 4 by unfold sW at hw; omega) with rfl | rfl | rfl | rfl | rfl
            · rw [hp_off (Or.inr (by omega)), hp_row_eq]; rfl
            · rw [hp_off (Or.inr (by omega)), hp_row_eq]; rfl
            · rw [hp_off (Or.inr (by omega)), hp_row_eq]; rfl
            · rw [hp_upd]; rfl
            · rw [hp_off (Or.inr (by omega)), hp_row_eq]; rfl
          · rw [hp_ne eo, hp_row_ne eo, hp_row_ne eo]) (by rw [hp_ne (by omega), hp_row_ne (by omega), hp_row_ne (by omega)]) (by rw [hp_ne (by omega), hp_row_ne (by omega), hp_row_ne (by omega)])
        refine gg_icmp_ne C dL_build_764 771 (by decide) (fun c764 => ?_) (fun c764 => ?_)
        · refine gg_iconst (v := 0) C dL_build_771 (by decide) ?_
          refine gg_top (y := bb) (by
            rcases hbb with y | y
            · exact y.symm
            · exact absurd y c764) ?_
          refine gg_ls (wl g (sx g (adF A f q0 q2) n (f + 1) (hp_row r (26 + f) fb) ++ []) h3) rfl ?_
          refine gc_callX (As := [.int (nI f), .int bb]) C hE mf_X4_setRoams (xt_X4_setRoams hst T3.2.1 hbb) ex5 q_m_L_64 rfl rfl rfl (Nat.le_of_ble_eq_true rfl) (by exact ⟨Nat.le_of_ble_eq_true rfl, Nat.le_of_ble_eq_true rfl⟩) (by exact ⟨by show _ ≤ 100; omega, by show _ ≤ 600; omega⟩) dL_build_772 ?_
          refine gg_ls (wc g h5 ++ (sx g (adF A f q0 q2) n (f + 1) (hp_row r (26 + f) fb) ++ [])) (wl_lo elo5) ?_
          refine gg_if_eq C dL_build_775 780 (by decide) (fun _ => ?_) (fun z9 => absurd (by rw [hp_row_eq]; rfl) z9)
          refine gg_iinc (v := nI (f + 1)) C dL_build_780 rfl (nI_inc _) (by decide) ?_
          refine gg_goto C dL_build_783 627 (by decide) ?_
          refine gg_wide (69 + 4 * (f + 1)) (408 + 28 * (f + 1)) (by omega) (by omega) ?_
          refine gg_lv [(0, .ref (gB g + 0)), (1, .ref b), (3, .ref (adF A f q0 q2 1)), (5, .int (nI n)), (6, .int (nI nf)), (7, .int (nI (f + 1)))] ⟨rfl, rfl, (by show some (Value.ref (A 1)) = some (Value.ref (adF A f q0 q2 1)); unfold adF; rw [if_neg (by omega), if_neg (by omega)]), rfl, rfl, rfl, trivial⟩ ?_
          exact ih (f + 1) hfn (by omega) (adF A f q0 q2) h5 _ ⟨T5, R6, hT.2.2.keep (Or.inr (by omega))⟩
        · refine gg_iconst (v := 1) C dL_build_767 (by decide) ?_
          refine gg_goto C dL_build_768 772 (by decide) ?_
          refine gg_top (y := bb) (c764.symm) ?_
          refine gg_ls (wl g (sx g (adF A f q0 q2) n (f + 1) (hp_row r (26 + f) fb) ++ []) h3) rfl ?_
          refine gc_callX (As := [.int (nI f), .int bb]) C hE mf_X4_setRoams (xt_X4_setRoams hst T3.2.1 hbb) ex5 q_m_L_64 rfl rfl rfl (Nat.le_of_ble_eq_true rfl) (by exact ⟨Nat.le_of_ble_eq_true rfl, Nat.le_of_ble_eq_true rfl⟩) (by exact ⟨by show _ ≤ 100; omega, by show _ ≤ 600; omega⟩) dL_build_772 ?_
          refine gg_ls (wc g h5 ++ (sx g (adF A f q0 q2) n (f + 1) (hp_row r (26 + f) fb) ++ [])) (wl_lo elo5) ?_
          refine gg_if_eq C dL_build_775 780 (by decide) (fun _ => ?_) (fun z9 => absurd (by rw [hp_row_eq]; rfl) z9)
          refine gg_iinc (v := nI (f + 1)) C dL_build_780 rfl (nI_inc _) (by decide) ?_
          refine gg_goto C dL_build_783 627 (by decide) ?_
          refine gg_wide (69 + 4 * (f + 1)) (408 + 28 * (f + 1)) (by omega) (by omega) ?_
          refine gg_lv [(0, .ref (gB g + 0)), (1, .ref b), (3, .ref (adF A f q0 q2 1)), (5, .int (nI n)), (6, .int (nI nf)), (7, .int (nI (f + 1)))] ⟨rfl, rfl, (by show some (Value.ref (A 1)) = some (Value.ref (adF A f q0 q2 1)); unfold adF; rw [if_neg (by omega), if_neg (by omega)]), rfl, rfl, rfl, trivial⟩ ?_
          exact ih (f + 1) hfn (by omega) (adF A f q0 q2) h5 _ ⟨T5, R6, hT.2.2.keep (Or.inr (by omega))⟩
      refine gg_if_ne C dL_build_667 675 (by decide) (fun c667 => ?_) (fun c667 => ?_)
      · refine gg_bipush (v := 15) C dL_build_675 (by decide) ?_
        refine gg_lv [(0, .ref (gB g + 0)), (1, .ref b), (3, .ref (A 1)), (5, .int (nI n)), (6, .int (nI nf)), (7, .int (nI f)), (8, .int x)] ⟨rfl, rfl, rfl, rfl, rfl, rfl, rfl, trivial⟩ ?_
        exact K677 15 (Or.inr rfl)
      · refine gg_bipush (v := 80) C dL_build_670 (by decide) ?_
        refine gg_goto C dL_build_672 677 (by decide) ?_
        refine gg_lv [(0, .ref (gB g + 0)), (1, .ref b), (3, .ref (A 1)), (5, .int (nI n)), (6, .int (nI nf)), (7, .int (nI f)), (8, .int x)] ⟨rfl, rfl, rfl, rfl, rfl, rfl, rfl, trivial⟩ ?_
        exact K677 80 (Or.inl rfl)
