/-! more: a row of references with one more -/
theorem gt_more_P {g : gW} {l : Launch} {A : Ad} {n f b w : Nat} {r : Hp} {fb : Nat → Int32} (hn : n ≤ 10) (hf : f ≤ 10) : GT g l yX5_more cX5_more 4 (some (FieldType.array (FieldType.array FieldType.int))) 0 1 11 [.ref (A 13), .ref b] (fun _ => True) (sx g A n f r ++ [cI g b w fb]) (fun q => SF A n f q ∨ q = b) (fun v L2 N => ∃ q, v = some (.ref q) ∧ L2 = sx g A n f r ++ [cI g b w fb] ∧ N = [cR g q (n + 1) (fun i => if i < n then some (A (15 + i)) else if i = n then some b else none)]) := by
  refine GT.of (lv0 := [(0, .ref (A 13)), (1, .ref b)]) mf_X5_more.1.2.2.2 (Nat.le_of_ble_eq_true rfl) rfl ?_
  intro p e s m below meth c C hE hr hD0 hP0
  refine gg_ls ([] ++ (sx g A n f r ++ [cI g b w fb])) rfl ?_
  refine gg_aload_n C dX5_more_0 0 rfl rfl ?_
  refine gs_lenP C hn dX5_more_1 ?_
  refine gg_iconst (v := 1) C dX5_more_2 (by decide) ?_
  refine gg_iadd C dX5_more_3 ?_
  refine gg_top (y := nI (n + 1)) (by rw [show (1 : Int32) = nI 1 from rfl, nI_add]) ?_
  refine gg_newA C (fun q h => Or.inr h) rfl (by omega) q_k_X5_18 (by exact ⟨Nat.le_of_ble_eq_true rfl, by show 0 + (n + 1) ≤ 11; omega⟩) dX5_more_4 (fun q => ?_)
  refine gg_wide 1 11 (Nat.le_refl 1) (by omega) ?_
  have e0 : (fun _ => none : Nat → Option Nat) = fun i => if i < 0 then some (A (15 + i)) else none := funext (fun i => (if_neg (Nat.not_lt_zero i)).symm)
  rw [e0]
  refine gg_ls ([] ++ (sx g A n f r ++ [cI g b w fb, cR g q (n + 1) (fun i => if i < 0 then some (A (15 + i)) else none)])) (by rw [sl_add]; rfl) ?_
  refine gg_astore_n C dX5_more_7 2 rfl (by decide) ?_
  refine gg_iconst (v := 0) C dX5_more_8 (by decide) ?_
  refine gg_istore_n C dX5_more_9 3 rfl (by decide) ?_
  have hl : ∀ (fu j : Nat), j ≤ n → n < fu + j → GW g p l e (rK 0 1 11) s m ([.ref (A 13), .ref b] : List Value).toArray below meth c 4 ([] ++ (sx g A n f r ++ [cI g b w fb, cR g q (n + 1) (fun i => if i < j then some (A (15 + i)) else none)])) (FF (fun q => SF A n f q ∨ q = b) s.heap.size) [(0, .ref (A 13)), (1, .ref b), (2, .ref q), (3, .int (nI j))] 1 11 (MQ below (QG g (fun q => SF A n f q ∨ q = b) s.heap.size (fun v L2 N => ∃ q, v = some (.ref q) ∧ L2 = sx g A n f r ++ [cI g b w fb] ∧ N = [cR g q (n + 1) (fun i => if i < n then some (A (15 + i)) else if i = n then some b else none)])) ([.ref (A 13), .ref b] : List Value).toArray s 1 11 (FF (fun q => SF A n f q ∨ q = b) s.heap.size)) 10 [] := by
    intro fu
    induction fu with
    | zero => intro j h1 h2; omega
    | succ fu ih =>
      intro j hj9 hfu
      refine gg_iload_n C dX5_more_10 3 rfl rfl ?_
      refine gg_aload_n C dX5_more_11 0 rfl rfl ?_
      refine gs_lenP C hn dX5_more_12 ?_
      refine gg_icmp_ge C dX5_more_13 28 (by decide) (fun q9 => ?_) (fun q9 => ?_)
      · have hjn := lp_exit rfl q9 hj9 (by omega)
        subst hjn
        refine gg_aload_n C dX5_more_28 2 rfl rfl ?_
        refine gg_aload_n C dX5_more_29 0 rfl rfl ?_
        refine gs_lenP C hn dX5_more_30 ?_
        refine gg_aload_n C dX5_more_31 1 rfl rfl ?_
        refine gs_aastY C 1 0 rfl rfl rfl (show n < n + 1 by omega) (by omega) dX5_more_32 ?_
        refine gg_ls ([] ++ (sx g A n f r ++ [cI g b w fb, cR g q (n + 1) (fun i => if i < n then some (A (15 + i)) else if i = n then some b else none)])) ?_ ?_
        · have eu : va_up (fun i => if i < n then some (A (15 + i)) else none) n (some b) = fun i => if i < n then some (A (15 + i)) else if i = n then some b else none := by
            funext i
            unfold va_up
            by_cases e : i = n
            · rw [if_pos e, if_neg (by omega), if_pos e]
            · rw [if_neg e]
              show (if i < n then some (A (15 + i)) else none) = _
              by_cases h9 : i < n
              · rw [if_pos h9, if_pos h9]
              · rw [if_neg h9, if_neg h9, if_neg e]
          rw [eu]; rfl
        refine gg_aload_n C dX5_more_33 2 rfl rfl ?_
        exact gg_aret C (sx g A n f r ++ [cI g b w fb]) _ (by rw [List.append_assoc]; rfl) ⟨q, rfl, rfl, rfl⟩ hr (Or.inr ⟨_, rfl⟩) dX5_more_34
      · have hj := lp_body rfl q9 hj9 (by omega)
        refine gg_aload_n C dX5_more_16 2 rfl rfl ?_
        refine gg_iload_n C dX5_more_17 3 rfl rfl ?_
        refine gg_aload_n C dX5_more_18 0 rfl rfl ?_
        refine gg_iload_n C dX5_more_19 3 rfl rfl ?_
        refine gs_aldP (j := j) C hn rfl hj dX5_more_20 ?_
        refine gs_aast C 1 (k := 0) (j := j) hn rfl (by unfold sW; omega) rfl (by omega) (by omega) dX5_more_21 ?_
        refine gg_ls ([] ++ (sx g A n f r ++ [cI g b w fb, cR g q (n + 1) (fun i => if i < (j + 1) then some (A (15 + i)) else none)])) (by rw [va_up_lt (A := fun i => A (15 + i))]; rfl) ?_
        refine gg_iinc (v := nI (j + 1)) C dX5_more_22 rfl (nI_inc _) (by decide) ?_
        refine gg_goto C dX5_more_25 10 (by decide) ?_
        refine gg_lv [(0, .ref (A 13)), (1, .ref b), (2, .ref q), (3, .int (nI (j + 1)))] ⟨rfl, rfl, rfl, rfl, trivial⟩ ?_
        exact ih (j + 1) hj (by omega)
  refine gg_lv [(0, .ref (A 13)), (1, .ref b), (2, .ref q), (3, .int (nI 0))] ⟨rfl, rfl, rfl, rfl, trivial⟩ ?_
  exact hl (n + 1) 0 (Nat.zero_le _) (by omega)
theorem gt_more_F {g : gW} {l : Launch} {A : Ad} {n f b w : Nat} {r : Hp} {fb : Nat → Int32} (hn : n ≤ 10) (hf : f ≤ 10) : GT g l yX5_more cX5_more 4 (some (FieldType.array (FieldType.array FieldType.int))) 0 1 11 [.ref (A 25), .ref b] (fun _ => True) (sx g A n f r ++ [cI g b w fb]) (fun q => SF A n f q ∨ q = b) (fun v L2 N => ∃ q, v = some (.ref q) ∧ L2 = sx g A n f r ++ [cI g b w fb] ∧ N = [cR g q (f + 1) (fun i => if i < f then some (A (26 + i)) else if i = f then some b else none)]) := by
  refine GT.of (lv0 := [(0, .ref (A 25)), (1, .ref b)]) mf_X5_more.1.2.2.2 (Nat.le_of_ble_eq_true rfl) rfl ?_
  intro p e s m below meth c C hE hr hD0 hP0
  refine gg_ls ([] ++ (sx g A n f r ++ [cI g b w fb])) rfl ?_
  refine gg_aload_n C dX5_more_0 0 rfl rfl ?_
  refine gs_lenF C hn dX5_more_1 ?_
  refine gg_iconst (v := 1) C dX5_more_2 (by decide) ?_
  refine gg_iadd C dX5_more_3 ?_
  refine gg_top (y := nI (f + 1)) (by rw [show (1 : Int32) = nI 1 from rfl, nI_add]) ?_
  refine gg_newA C (fun q h => Or.inr h) rfl (by omega) q_k_X5_18 (by exact ⟨Nat.le_of_ble_eq_true rfl, by show 0 + (f + 1) ≤ 11; omega⟩) dX5_more_4 (fun q => ?_)
  refine gg_wide 1 11 (Nat.le_refl 1) (by omega) ?_
  have e0 : (fun _ => none : Nat → Option Nat) = fun i => if i < 0 then some (A (26 + i)) else none := funext (fun i => (if_neg (Nat.not_lt_zero i)).symm)
  rw [e0]
  refine gg_ls ([] ++ (sx g A n f r ++ [cI g b w fb, cR g q (f + 1) (fun i => if i < 0 then some (A (26 + i)) else none)])) (by rw [sl_add]; rfl) ?_
  refine gg_astore_n C dX5_more_7 2 rfl (by decide) ?_
  refine gg_iconst (v := 0) C dX5_more_8 (by decide) ?_
  refine gg_istore_n C dX5_more_9 3 rfl (by decide) ?_
  have hl : ∀ (fu j : Nat), j ≤ f → f < fu + j → GW g p l e (rK 0 1 11) s m ([.ref (A 25), .ref b] : List Value).toArray below meth c 4 ([] ++ (sx g A n f r ++ [cI g b w fb, cR g q (f + 1) (fun i => if i < j then some (A (26 + i)) else none)])) (FF (fun q => SF A n f q ∨ q = b) s.heap.size) [(0, .ref (A 25)), (1, .ref b), (2, .ref q), (3, .int (nI j))] 1 11 (MQ below (QG g (fun q => SF A n f q ∨ q = b) s.heap.size (fun v L2 N => ∃ q, v = some (.ref q) ∧ L2 = sx g A n f r ++ [cI g b w fb] ∧ N = [cR g q (f + 1) (fun i => if i < f then some (A (26 + i)) else if i = f then some b else none)])) ([.ref (A 25), .ref b] : List Value).toArray s 1 11 (FF (fun q => SF A n f q ∨ q = b) s.heap.size)) 10 [] := by
    intro fu
    induction fu with
    | zero => intro j h1 h2; omega
    | succ fu ih =>
      intro j hj9 hfu
      refine gg_iload_n C dX5_more_10 3 rfl rfl ?_
      refine gg_aload_n C dX5_more_11 0 rfl rfl ?_
      refine gs_lenF C hn dX5_more_12 ?_
      refine gg_icmp_ge C dX5_more_13 28 (by decide) (fun q9 => ?_) (fun q9 => ?_)
      · have hjn := lp_exit rfl q9 hj9 (by omega)
        subst hjn
        refine gg_aload_n C dX5_more_28 2 rfl rfl ?_
        refine gg_aload_n C dX5_more_29 0 rfl rfl ?_
        refine gs_lenF C hn dX5_more_30 ?_
        refine gg_aload_n C dX5_more_31 1 rfl rfl ?_
        refine gs_aastY C 1 0 rfl rfl rfl (show f < f + 1 by omega) (by omega) dX5_more_32 ?_
        refine gg_ls ([] ++ (sx g A n f r ++ [cI g b w fb, cR g q (f + 1) (fun i => if i < f then some (A (26 + i)) else if i = f then some b else none)])) ?_ ?_
        · have eu : va_up (fun i => if i < f then some (A (26 + i)) else none) f (some b) = fun i => if i < f then some (A (26 + i)) else if i = f then some b else none := by
            funext i
            unfold va_up
            by_cases e : i = f
            · rw [if_pos e, if_neg (by omega), if_pos e]
            · rw [if_neg e]
              show (if i < f then some (A (26 + i)) else none) = _
              by_cases h9 : i < f
              · rw [if_pos h9, if_pos h9]
              · rw [if_neg h9, if_neg h9, if_neg e]
          rw [eu]; rfl
        refine gg_aload_n C dX5_more_33 2 rfl rfl ?_
        exact gg_aret C (sx g A n f r ++ [cI g b w fb]) _ (by rw [List.append_assoc]; rfl) ⟨q, rfl, rfl, rfl⟩ hr (Or.inr ⟨_, rfl⟩) dX5_more_34
      · have hj := lp_body rfl q9 hj9 (by omega)
        refine gg_aload_n C dX5_more_16 2 rfl rfl ?_
        refine gg_iload_n C dX5_more_17 3 rfl rfl ?_
        refine gg_aload_n C dX5_more_18 0 rfl rfl ?_
        refine gg_iload_n C dX5_more_19 3 rfl rfl ?_
        refine gs_aldF (j := j) C hn hf rfl hj dX5_more_20 ?_
        refine gs_aast C 1 (k := 0) (j := j) hn rfl (by unfold sW; omega) rfl (by omega) (by omega) dX5_more_21 ?_
        refine gg_ls ([] ++ (sx g A n f r ++ [cI g b w fb, cR g q (f + 1) (fun i => if i < (j + 1) then some (A (26 + i)) else none)])) (by rw [va_up_lt (A := fun i => A (26 + i))]; rfl) ?_
        refine gg_iinc (v := nI (j + 1)) C dX5_more_22 rfl (nI_inc _) (by decide) ?_
        refine gg_goto C dX5_more_25 10 (by decide) ?_
        refine gg_lv [(0, .ref (A 25)), (1, .ref b), (2, .ref q), (3, .int (nI (j + 1)))] ⟨rfl, rfl, rfl, rfl, trivial⟩ ?_
        exact ih (j + 1) hj (by omega)
  refine gg_lv [(0, .ref (A 25)), (1, .ref b), (2, .ref q), (3, .int (nI 0))] ⟨rfl, rfl, rfl, rfl, trivial⟩ ?_
  exact hl (f + 1) 0 (Nat.zero_le _) (by omega)
