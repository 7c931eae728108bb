/-! SMALL METHODS OF THE LAW -/
/-- below(v, n) -/
def bel (v n : Int32) : Int32 := (v &&& 2147483647) - (v &&& 2147483647) / n * n
/-- cell(s, k) -/
def cel (N : Nat) (xs : Nat → Int32) (k : Nat) : Int32 := if k < N then xs k else 790386105 * (nI k + 3)
def s_holds (r : Hp) (o : Nat) : Int32 := 10 * r o 3 * r o 4
def s_far (r : Hp) (a b : Nat) : Int32 := abI (r a 0 - r b 0) + abI (r a 1 - r b 1)
/-- to(f): the search from above; o: the flock's row, a: the row of the pond where it is -/
def s_toS (r : Hp) (o a : Nat) (b : Int32) (p : Nat) : Int32 := if nI p = r o 1 then b else if r (15 + p) 5 < 2 * r o 0 then b else if b = r o 1 then nI p else if s_far r a (15 + b.toNatClampNeg) < s_far r a (15 + p) then b else nI p
def s_toB (r : Hp) (o a : Nat) : Nat → Int32 → Int32
  | 0, b => b
  | p + 1, b => s_toB r o a p (s_toS r o a b p)
def s_to (r : Hp) (n o : Nat) : Int32 := if r o 3 = 0 then r o 1 else if r o 2 = 0 then r o 1 else if r (15 + (r o 1).toNatClampNeg) 5 < 2 * r o 0 then s_toB r o (15 + (r o 1).toNatClampNeg) n (r o 1) else r o 1

theorem gt_L_below {g : gW} {l : Launch} {v n : Int32} (hn0 : ¬ n = 0) : GT g l yL_below cL_below 2 (some FieldType.int) 0 0 0 [.int v, .int n] (fun _ => True) ([]) (fun _ => False) (fun w L2 N => w = some (.int (bel v n)) ∧ L2 = [] ∧ N = []) := by
  refine GT.of (lv0 := [(0, .int v), (1, .int n)]) mf_L_below.1.2.2.2 (Nat.le_of_ble_eq_true rfl) rfl ?_
  intro p e s m below meth c C hE hr hD0 hP0
  refine gg_iload_n C dL_below_0 0 rfl rfl ?_
  refine gg_ldc C dL_below_1 q_d_L_7 ?_
  refine gg_iand C dL_below_3 ?_
  refine gg_iload_n C dL_below_4 1 rfl rfl ?_
  refine gg_irem C dL_below_5 hn0 ?_
  exact gg_iret C [] [] rfl ⟨rfl, rfl, rfl⟩ hr dL_below_6
theorem gt_L_cell {g : gW} {l : Launch} {b N k : Nat} {xs : Nat → Int32} (hN : N < 2 ^ 31) (hk : k < 2 ^ 30) : GT g l yL_cell cL_cell 2 (some FieldType.int) 0 0 0 [.ref b, .int (nI k)] (XS g b N xs) ([]) (fun _ => False) (fun w L2 N2 => w = some (.int (cel N xs k)) ∧ L2 = [] ∧ N2 = []) := by
  refine GT.of (lv0 := [(0, .ref b), (1, .int (nI k))]) mf_L_cell.1.2.2.2 (Nat.le_of_ble_eq_true rfl) rfl ?_
  intro p e s m below meth c C hE hr hD0 hP0
  refine gg_iload_n C dL_cell_0 1 rfl rfl ?_
  refine gg_aload_n C dL_cell_1 0 rfl rfl ?_
  refine gg_slen C hE.1 hE.2.2 (by rintro (z | z); exact z; exact absurd hE.2.2 (by omega)) dL_cell_2 ?_
  have eN : Int32.ofNat N = nI N := rfl
  rw [eN]
  refine gg_icmp_ge C dL_cell_3 12 (by decide) (fun c9 => ?_) (fun c9 => ?_)
  · have hge : ¬ k < N := fun z => absurd ((nI_leI hN (by omega)).mp c9) (by omega)
    refine gg_ldc C dL_cell_12 q_d_L_8 ?_
    refine gg_iload_n C dL_cell_14 1 rfl rfl ?_
    refine gg_iconst (v := 3) C dL_cell_15 (by decide) ?_
    refine gg_iadd C dL_cell_16 ?_
    refine gg_imul C dL_cell_17 ?_
    exact gg_iret C [] [] rfl ⟨by unfold cel; rw [if_neg hge], rfl, rfl⟩ hr dL_cell_18
  · have hlt : k < N := Nat.not_le.mp (fun z => c9 ((nI_leI hN (by omega)).mpr z))
    refine gg_aload_n C dL_cell_6 0 rfl rfl ?_
    refine gg_iload_n C dL_cell_7 1 rfl rfl ?_
    refine gg_sld C hE.1 hE.2.2 (by rintro (z | z); exact z; exact absurd hE.2.2 (by omega)) rfl hlt hN dL_cell_8 ?_
    refine gg_goto C dL_cell_9 18 (by decide) ?_
    exact gg_iret C [] [] rfl ⟨by unfold cel; rw [if_pos hlt], rfl, rfl⟩ hr dL_cell_18
theorem gt_X5_holds {g : gW} {l : Launch} {A : Ad} {n f j : Nat} {r : Hp} (hn : n ≤ 10) {x : Int32} (hx : x = nI j) (hj : j < n) : GT g l yX5_holds cX5_holds 2 (some FieldType.int) 0 0 0 [.ref (A 1), .int x] (fun _ => True) (sx g A n f r) (SF A n f) (fun v L2 N => v = some (.int (s_holds r (15 + j))) ∧ L2 = sx g A n f r ∧ N = []) := by
  refine GT.of (lv0 := [(0, .ref (A 1)), (1, .int x)]) mf_X5_holds.1.2.2.2 (Nat.le_of_ble_eq_true rfl) rfl ?_
  intro p e s m below meth c C hE hr hD0 hP0
  refine gg_ls ([] ++ (sx g A n f r ++ [])) (by rw [List.nil_append, List.append_nil]) ?_
  refine gg_bipush (v := 10) C dX5_holds_0 (by decide) ?_
  refine gg_aload_n C dX5_holds_2 0 rfl rfl ?_
  refine gs_pon C hn q_f_X5_20 dX5_holds_3 ?_
  refine gg_iload_n C dX5_holds_6 1 rfl rfl ?_
  refine gs_aldP (j := j) C hn hx hj dX5_holds_7 ?_
  refine gg_iconst (v := 3) C dX5_holds_8 (by decide) ?_
  refine gs_ld (o := 15 + j) (k := 3) C hn (by decide) (by unfold sW; omega) dX5_holds_9 ?_
  refine gg_imul C dX5_holds_10 ?_
  refine gg_aload_n C dX5_holds_11 0 rfl rfl ?_
  refine gs_pon C hn q_f_X5_20 dX5_holds_12 ?_
  refine gg_iload_n C dX5_holds_15 1 rfl rfl ?_
  refine gs_aldP (j := j) C hn hx hj dX5_holds_16 ?_
  refine gg_iconst (v := 4) C dX5_holds_17 (by decide) ?_
  refine gs_ld (o := 15 + j) (k := 4) C hn (by decide) (by unfold sW; omega) dX5_holds_18 ?_
  refine gg_imul C dX5_holds_19 ?_
  exact gg_iret C (sx g A n f r) [] rfl ⟨rfl, rfl, rfl⟩ hr dX5_holds_20
theorem gt_X5_far {g : gW} {l : Launch} {A : Ad} {n f i j : Nat} {r : Hp} (hn : n ≤ 10) {x y : Int32} (hx : x = nI i) (hi : i < n) (hy : y = nI j) (hj : j < n) : GT g l yX5_far cX5_far 3 (some FieldType.int) 1 0 0 [.ref (A 1), .int x, .int y] (fun _ => True) (sx g A n f r) (SF A n f) (fun v L2 N => v = some (.int (s_far r (15 + i) (15 + j))) ∧ L2 = sx g A n f r ∧ N = []) := by
  refine GT.of (lv0 := [(0, .ref (A 1)), (1, .int x), (2, .int y)]) mf_X5_far.1.2.2.2 (Nat.le_of_ble_eq_true rfl) rfl ?_
  intro p e s m below meth c C hE hr hD0 hP0
  refine gg_ls ([] ++ (sx g A n f r ++ [])) (by rw [List.nil_append, List.append_nil]) ?_
  refine gg_aload_n C dX5_far_0 0 rfl rfl ?_
  refine gs_pon C hn q_f_X5_20 dX5_far_1 ?_
  refine gg_iload_n C dX5_far_4 1 rfl rfl ?_
  refine gs_aldP (j := i) C hn hx hi dX5_far_5 ?_
  refine gg_iconst (v := 0) C dX5_far_6 (by decide) ?_
  refine gs_ld (o := 15 + i) (k := 0) C hn (by decide) (by unfold sW; omega) dX5_far_7 ?_
  refine gg_aload_n C dX5_far_8 0 rfl rfl ?_
  refine gs_pon C hn q_f_X5_20 dX5_far_9 ?_
  refine gg_iload_n C dX5_far_12 2 rfl rfl ?_
  refine gs_aldP (j := j) C hn hy hj dX5_far_13 ?_
  refine gg_iconst (v := 0) C dX5_far_14 (by decide) ?_
  refine gs_ld (o := 15 + j) (k := 0) C hn (by decide) (by unfold sW; omega) dX5_far_15 ?_
  refine gg_isub C dX5_far_16 ?_
  refine gg_mabs C q_m_X5_34 (Nat.le_of_ble_eq_true rfl) (by first | exact Nat.le_of_ble_eq_true rfl | (simp only [List.map, List.sum]; decide)) (by first | exact Nat.le_of_ble_eq_true rfl | omega) (by first | exact Nat.le_of_ble_eq_true rfl | omega) dX5_far_17 ?_
  refine gg_aload_n C dX5_far_20 0 rfl rfl ?_
  refine gs_pon C hn q_f_X5_20 dX5_far_21 ?_
  refine gg_iload_n C dX5_far_24 1 rfl rfl ?_
  refine gs_aldP (j := i) C hn hx hi dX5_far_25 ?_
  refine gg_iconst (v := 1) C dX5_far_26 (by decide) ?_
  refine gs_ld (o := 15 + i) (k := 1) C hn (by decide) (by unfold sW; omega) dX5_far_27 ?_
  refine gg_aload_n C dX5_far_28 0 rfl rfl ?_
  refine gs_pon C hn q_f_X5_20 dX5_far_29 ?_
  refine gg_iload_n C dX5_far_32 2 rfl rfl ?_
  refine gs_aldP (j := j) C hn hy hj dX5_far_33 ?_
  refine gg_iconst (v := 1) C dX5_far_34 (by decide) ?_
  refine gs_ld (o := 15 + j) (k := 1) C hn (by decide) (by unfold sW; omega) dX5_far_35 ?_
  refine gg_isub C dX5_far_36 ?_
  refine gg_mabs C q_m_X5_34 (Nat.le_of_ble_eq_true rfl) (by first | exact Nat.le_of_ble_eq_true rfl | (simp only [List.map, List.sum]; decide)) (by first | exact Nat.le_of_ble_eq_true rfl | omega) (by first | exact Nat.le_of_ble_eq_true rfl | omega) dX5_far_37 ?_
  refine gg_iadd C dX5_far_40 ?_
  exact gg_iret C (sx g A n f r) [] rfl ⟨rfl, rfl, rfl⟩ hr dX5_far_41
theorem gt_X5_to {g : gW} {l : Launch} {A : Ad} {n f j : Nat} {r : Hp} (hn : n ≤ 10) (hf : f ≤ 10) (hj : j < f) (hat : isN n (r (26 + j) 1)) : GT g l yX5_to cX5_to 5 (some FieldType.int) 2 0 0 [.ref (A 1), .ref (A (26 + j))] (fun _ => True) (sx g A n f r) (SF A n f) (fun v L2 N => v = some (.int (s_to r n (26 + j))) ∧ L2 = sx g A n f r ∧ N = []) := by
  refine GT.of (lv0 := [(0, .ref (A 1)), (1, .ref (A (26 + j)))]) mf_X5_to.1.2.2.2 (Nat.le_of_ble_eq_true rfl) rfl ?_
  intro p e s m below meth c C hE hr hD0 hP0
  refine gg_ls ([] ++ (sx g A n f r ++ [])) (by rw [List.nil_append, List.append_nil]) ?_
  have h1 := isN_at hat (by omega)
  generalize ea : (r (26 + j) 1).toNatClampNeg = a at h1
  have hn31 : n < 2 ^ 31 := by omega
  refine gg_aload_n C dX5_to_0 1 rfl rfl ?_
  refine gg_iconst (v := 3) C dX5_to_1 (by decide) ?_
  refine gs_ld (o := 26 + j) (k := 3) C hn (by decide) (by unfold sW; omega) dX5_to_2 ?_
  refine gg_if_eq C dX5_to_3 12 (by decide) (fun c3 => ?_) (fun c3 => ?_)
  · refine gg_aload_n C dX5_to_12 1 rfl rfl ?_
    refine gg_iconst (v := 1) C dX5_to_13 (by decide) ?_
    refine gs_ld (o := 26 + j) (k := 1) C hn (by decide) (by unfold sW; omega) dX5_to_14 ?_
    exact gg_iret C (sx g A n f r) [] rfl ⟨by unfold s_to; rw [if_pos c3], rfl, rfl⟩ hr dX5_to_15
  · refine gg_aload_n C dX5_to_6 1 rfl rfl ?_
    refine gg_iconst (v := 2) C dX5_to_7 (by decide) ?_
    refine gs_ld (o := 26 + j) (k := 2) C hn (by decide) (by unfold sW; omega) dX5_to_8 ?_
    refine gg_if_ne C dX5_to_9 16 (by decide) (fun c9 => ?_) (fun c9 => ?_)
    · refine gg_aload_n C dX5_to_16 1 rfl rfl ?_
      refine gg_iconst (v := 1) C dX5_to_17 (by decide) ?_
      refine gs_ld (o := 26 + j) (k := 1) C hn (by decide) (by unfold sW; omega) dX5_to_18 ?_
      refine gg_istore_n C dX5_to_19 2 rfl (by decide) ?_
      refine gg_aload_n C dX5_to_20 0 rfl rfl ?_
      refine gs_pon C hn q_f_X5_20 dX5_to_21 ?_
      refine gg_aload_n C dX5_to_24 1 rfl rfl ?_
      refine gg_iconst (v := 1) C dX5_to_25 (by decide) ?_
      refine gs_ld (o := 26 + j) (k := 1) C hn (by decide) (by unfold sW; omega) dX5_to_26 ?_
      refine gs_aldP (j := a) C hn h1.1 h1.2 dX5_to_27 ?_
      refine gg_iconst (v := 5) C dX5_to_28 (by decide) ?_
      refine gs_ld (o := 15 + a) (k := 5) C hn (by decide) (by unfold sW; omega) dX5_to_29 ?_
      refine gg_iconst (v := 2) C dX5_to_30 (by decide) ?_
      refine gg_aload_n C dX5_to_31 1 rfl rfl ?_
      refine gg_iconst (v := 0) C dX5_to_32 (by decide) ?_
      refine gs_ld (o := 26 + j) (k := 0) C hn (by decide) (by unfold sW; omega) dX5_to_33 ?_
      refine gg_imul C dX5_to_34 ?_
      refine gg_icmp_lt C dX5_to_35 42 (by decide) (fun c35 => ?_) (fun c35 => ?_)
      · refine gg_iconst (v := 0) C dX5_to_42 (by decide) ?_
        refine gg_istore_n C dX5_to_43 3 rfl (by decide) ?_
        refine gg_aload_n C dX5_to_44 0 rfl rfl ?_
        refine gs_pon C hn q_f_X5_20 dX5_to_45 ?_
        refine gs_lenP C hn dX5_to_48 ?_
        refine gg_iconst (v := 1) C dX5_to_49 (by decide) ?_
        refine gg_isub C dX5_to_50 ?_
        refine gg_istore C dX5_to_51 (by decide) ?_
        have K : ∀ (k : Nat), k ≤ n → ∀ b : Int32, isN n b → s_to r n (26 + j) = s_toB r (26 + j) (15 + a) k b → GW g p l e (rK 2 0 0) s m ([.ref (A 1), .ref (A (26 + j))] : List Value).toArray below meth c 5 ([] ++ (sx g A n f r ++ [])) (FF (SF A n f) s.heap.size) [(0, .ref (A 1)), (1, .ref (A (26 + j))), (2, .int b), (3, .int 0), (4, .int (nI k - 1))] 0 0 (MQ below (QG g (SF A n f) s.heap.size (fun v L2 N => v = some (.int (s_to r n (26 + j))) ∧ L2 = sx g A n f r ∧ N = [])) ([.ref (A 1), .ref (A (26 + j))] : List Value).toArray s 0 0 (FF (SF A n f) s.heap.size)) 53 [] := by
          intro k
          induction k with
          | zero =>
            intro _ b hb he
            refine gg_iload C dX5_to_53 rfl ?_
            refine gg_if_lt C dX5_to_55 126 (by decide) (fun c => ?_) (fun q => absurd (show nI 0 - 1 < 0 by decide) q)
            refine gg_iload_n C dX5_to_126 2 rfl rfl ?_
            exact gg_iret C (sx g A n f r) [] rfl ⟨by rw [he]; rfl, rfl, rfl⟩ hr dX5_to_127
          | succ k ih =>
            intro hk b hb he
            have hk1 : k < n := by omega
            have ek : nI (k + 1) - 1 = nI k := by rw [show (1 : Int32) = nI 1 from rfl, pk_sub (by omega)]; rfl
            have hbn := isN_at hb hn31
            have ekc : nI (k + 1) - 1 + Int32.ofInt (-1) = nI k - 1 := by rw [ek, Int32.sub_eq_add_neg, show Int32.ofInt (-1) = -(1 : Int32) from by decide]
            refine gg_iload C dX5_to_53 rfl ?_
            refine gg_if_lt C dX5_to_55 126 (by decide) (fun q => absurd q (by rw [ek]; exact nI_pos (by omega))) (fun c => ?_)
            refine gg_iload_n C dX5_to_58 3 rfl rfl ?_
            refine gg_if_ne C dX5_to_59 126 (by decide) (fun q => absurd rfl q) (fun c => ?_)
            refine gg_iload C dX5_to_62 rfl ?_
            refine gg_aload_n C dX5_to_64 1 rfl rfl ?_
            refine gg_iconst (v := 1) C dX5_to_65 (by decide) ?_
            refine gs_ld (o := 26 + j) (k := 1) C hn (by decide) (by unfold sW; omega) dX5_to_66 ?_
            refine gg_icmp_eq C dX5_to_67 120 (by decide) (fun c67 => ?_) (fun c67 => ?_)
            · refine gg_iinc (v := nI k - 1) C dX5_to_120 rfl ekc (by decide) ?_
              refine gg_goto C dX5_to_123 53 (by decide) ?_
              refine gg_lv [(0, .ref (A 1)), (1, .ref (A (26 + j))), (2, .int b), (3, .int 0), (4, .int (nI k - 1))] ⟨rfl, rfl, rfl, rfl, rfl, trivial⟩ ?_
              exact ih (by omega) b hb (by rw [he]; show s_toB r (26 + j) (15 + a) k (s_toS r (26 + j) (15 + a) b k) = _; unfold s_toS; rw [if_pos (by rw [← ek]; exact c67)])
            · refine gg_aload_n C dX5_to_70 0 rfl rfl ?_
              refine gs_pon C hn q_f_X5_20 dX5_to_71 ?_
              refine gg_iload C dX5_to_74 rfl ?_
              refine gs_aldP (j := k) C hn ek hk1 dX5_to_76 ?_
              refine gg_iconst (v := 5) C dX5_to_77 (by decide) ?_
              refine gs_ld (o := 15 + k) (k := 5) C hn (by decide) (by unfold sW; omega) dX5_to_78 ?_
              refine gg_iconst (v := 2) C dX5_to_79 (by decide) ?_
              refine gg_aload_n C dX5_to_80 1 rfl rfl ?_
              refine gg_iconst (v := 0) C dX5_to_81 (by decide) ?_
              refine gs_ld (o := 26 + j) (k := 0) C hn (by decide) (by unfold sW; omega) dX5_to_82 ?_
              refine gg_imul C dX5_to_83 ?_
              refine gg_icmp_ge C dX5_to_84 90 (by decide) (fun c84 => ?_) (fun c84 => ?_)
              · refine gg_iload_n C dX5_to_90 2 rfl rfl ?_
                refine gg_aload_n C dX5_to_91 1 rfl rfl ?_
                refine gg_iconst (v := 1) C dX5_to_92 (by decide) ?_
                refine gs_ld (o := 26 + j) (k := 1) C hn (by decide) (by unfold sW; omega) dX5_to_93 ?_
                refine gg_icmp_eq C dX5_to_94 117 (by decide) (fun c94 => ?_) (fun c94 => ?_)
                · refine gg_iload C dX5_to_117 rfl ?_
                  refine gg_istore_n C dX5_to_119 2 rfl (by decide) ?_
                  refine gg_iinc (v := nI k - 1) C dX5_to_120 rfl ekc (by decide) ?_
                  refine gg_goto C dX5_to_123 53 (by decide) ?_
                  refine gg_lv [(0, .ref (A 1)), (1, .ref (A (26 + j))), (2, .int (nI k)), (3, .int 0), (4, .int (nI k - 1))] ⟨rfl, rfl, (congrArg (fun z => some (Value.int z)) ek), rfl, rfl, trivial⟩ ?_
                  exact ih (by omega) (nI k) ⟨k, hk1, rfl⟩ (by rw [he]; show s_toB r (26 + j) (15 + a) k (s_toS r (26 + j) (15 + a) b k) = _; unfold s_toS; rw [if_neg (fun z => c67 (by rw [ek]; exact z)), if_neg (fun z => absurd z (Int32.not_lt.mpr c84)), if_pos c94])
                · refine gg_aload_n C dX5_to_97 0 rfl rfl ?_
                  refine gg_aload_n C dX5_to_98 1 rfl rfl ?_
                  refine gg_iconst (v := 1) C dX5_to_99 (by decide) ?_
                  refine gs_ld (o := 26 + j) (k := 1) C hn (by decide) (by unfold sW; omega) dX5_to_100 ?_
                  refine gg_iload C dX5_to_101 rfl ?_
                  refine gg_callV (A := []) (B := []) (q := (RX5, TX5, 5)) (ci := 5) C mf_X5_far (gt_X5_far hn (i := a) (j := k) h1.1 h1.2 ek hk1) EB.tt EM.tt sx_mem (sx_hG hn (fun _ h9 => Or.inr h9)) (sx_hap hn) q_m_X5_40 rfl rfl (sJ n 1) (sx_get hn (Or.inl ⟨by omega, by omega⟩)) rfl rfl (Nat.le_of_ble_eq_true rfl) (by exact ⟨Nat.le_of_ble_eq_true rfl, Nat.le_of_ble_eq_true rfl⟩) (by exact ⟨Nat.le_of_ble_eq_true rfl, Nat.le_of_ble_eq_true rfl⟩) dX5_to_103 (fun v9 L9 N9 hp9 => ?_)
                  obtain ⟨rfl, rfl, rfl⟩ := hp9
                  refine gg_ls ([] ++ (sx g A n f r ++ [])) (by rw [List.append_nil]) ?_
                  refine gg_aload_n C dX5_to_106 0 rfl rfl ?_
                  refine gg_aload_n C dX5_to_107 1 rfl rfl ?_
                  refine gg_iconst (v := 1) C dX5_to_108 (by decide) ?_
                  refine gs_ld (o := 26 + j) (k := 1) C hn (by decide) (by unfold sW; omega) dX5_to_109 ?_
                  refine gg_iload_n C dX5_to_110 2 rfl rfl ?_
                  refine gg_callV (A := []) (B := []) (q := (RX5, TX5, 5)) (ci := 5) C mf_X5_far (gt_X5_far hn (i := a) (j := b.toNatClampNeg) h1.1 h1.2 hbn.1 hbn.2) EB.tt EM.tt sx_mem (sx_hG hn (fun _ h9 => Or.inr h9)) (sx_hap hn) q_m_X5_40 rfl rfl (sJ n 1) (sx_get hn (Or.inl ⟨by omega, by omega⟩)) rfl rfl (Nat.le_of_ble_eq_true rfl) (by exact ⟨Nat.le_of_ble_eq_true rfl, Nat.le_of_ble_eq_true rfl⟩) (by exact ⟨Nat.le_of_ble_eq_true rfl, Nat.le_of_ble_eq_true rfl⟩) dX5_to_111 (fun v9 L9 N9 hp9 => ?_)
                  obtain ⟨rfl, rfl, rfl⟩ := hp9
                  refine gg_ls ([] ++ (sx g A n f r ++ [])) (by rw [List.append_nil]) ?_
                  refine gg_icmp_gt C dX5_to_114 120 (by decide) (fun c114 => ?_) (fun c114 => ?_)
                  · refine gg_iinc (v := nI k - 1) C dX5_to_120 rfl ekc (by decide) ?_
                    refine gg_goto C dX5_to_123 53 (by decide) ?_
                    refine gg_lv [(0, .ref (A 1)), (1, .ref (A (26 + j))), (2, .int b), (3, .int 0), (4, .int (nI k - 1))] ⟨rfl, rfl, rfl, rfl, rfl, trivial⟩ ?_
                    exact ih (by omega) b hb (by rw [he]; show s_toB r (26 + j) (15 + a) k (s_toS r (26 + j) (15 + a) b k) = _; unfold s_toS; rw [if_neg (fun z => c67 (by rw [ek]; exact z)), if_neg (fun z => absurd z (Int32.not_lt.mpr c84)), if_neg c94, if_pos c114])
                  · refine gg_iload C dX5_to_117 rfl ?_
                    refine gg_istore_n C dX5_to_119 2 rfl (by decide) ?_
                    refine gg_iinc (v := nI k - 1) C dX5_to_120 rfl ekc (by decide) ?_
                    refine gg_goto C dX5_to_123 53 (by decide) ?_
                    refine gg_lv [(0, .ref (A 1)), (1, .ref (A (26 + j))), (2, .int (nI k)), (3, .int 0), (4, .int (nI k - 1))] ⟨rfl, rfl, (congrArg (fun z => some (Value.int z)) ek), rfl, rfl, trivial⟩ ?_
                    exact ih (by omega) (nI k) ⟨k, hk1, rfl⟩ (by rw [he]; show s_toB r (26 + j) (15 + a) k (s_toS r (26 + j) (15 + a) b k) = _; unfold s_toS; rw [if_neg (fun z => c67 (by rw [ek]; exact z)), if_neg (fun z => absurd z (Int32.not_lt.mpr c84)), if_neg c94, if_neg c114])
              · refine gg_goto C dX5_to_87 120 (by decide) ?_
                refine gg_iinc (v := nI k - 1) C dX5_to_120 rfl ekc (by decide) ?_
                refine gg_goto C dX5_to_123 53 (by decide) ?_
                refine gg_lv [(0, .ref (A 1)), (1, .ref (A (26 + j))), (2, .int b), (3, .int 0), (4, .int (nI k - 1))] ⟨rfl, rfl, rfl, rfl, rfl, trivial⟩ ?_
                exact ih (by omega) b hb (by rw [he]; show s_toB r (26 + j) (15 + a) k (s_toS r (26 + j) (15 + a) b k) = _; unfold s_toS; rw [if_neg (fun z => c67 (by rw [ek]; exact z)), if_pos (Int32.not_le.mp c84)])
        refine gg_lv [(0, .ref (A 1)), (1, .ref (A (26 + j))), (2, .int (r (26 + j) 1)), (3, .int 0), (4, .int (nI n - 1))] ⟨rfl, rfl, rfl, rfl, rfl, trivial⟩ ?_
        exact K n (Nat.le_refl n) _ hat (by unfold s_to; rw [if_neg c3, if_neg c9, ea, if_pos c35])
      · refine gg_iconst (v := 1) C dX5_to_38 (by decide) ?_
        refine gg_goto C dX5_to_39 43 (by decide) ?_
        refine gg_istore_n C dX5_to_43 3 rfl (by decide) ?_
        refine gg_aload_n C dX5_to_44 0 rfl rfl ?_
        refine gs_pon C hn q_f_X5_20 dX5_to_45 ?_
        refine gs_lenP C hn dX5_to_48 ?_
        refine gg_iconst (v := 1) C dX5_to_49 (by decide) ?_
        refine gg_isub C dX5_to_50 ?_
        refine gg_istore C dX5_to_51 (by decide) ?_
        refine gg_iload C dX5_to_53 rfl ?_
        refine gg_if_lt C dX5_to_55 126 (by decide) (fun c55 => ?_) (fun c55 => ?_)
        · refine gg_iload_n C dX5_to_126 2 rfl rfl ?_
          exact gg_iret C (sx g A n f r) [] rfl ⟨by unfold s_to; rw [if_neg c3, if_neg c9, ea, if_neg c35], rfl, rfl⟩ hr dX5_to_127
        · refine gg_iload_n C dX5_to_58 3 rfl rfl ?_
          refine gg_if_ne C dX5_to_59 126 (by decide) (fun c => ?_) (fun q => absurd q (by decide))
          refine gg_iload_n C dX5_to_126 2 rfl rfl ?_
          exact gg_iret C (sx g A n f r) [] rfl ⟨by unfold s_to; rw [if_neg c3, if_neg c9, ea, if_neg c35], rfl, rfl⟩ hr dX5_to_127
    · refine gg_aload_n C dX5_to_12 1 rfl rfl ?_
      refine gg_iconst (v := 1) C dX5_to_13 (by decide) ?_
      refine gs_ld (o := 26 + j) (k := 1) C hn (by decide) (by unfold sW; omega) dX5_to_14 ?_
      exact gg_iret C (sx g A n f r) [] rfl ⟨by unfold s_to; rw [if_neg c3, if_pos c9], rfl, rfl⟩ hr dX5_to_15
