def b01 (b : Bool) : Int32 := cond b 1 0
theorem b01_01 (b : Bool) : b01 b = 0 ∨ b01 b = 1 := by cases b <;> simp [b01]
def d_tk (h : Hp) (d : Nat) (x y : Int32) : Nat → Bool
  | 0 => false
  | j + 1 => d_tk h d x y j || (decide (h (d + 14 + j) 0 = x) && decide (h (d + 14 + j) 1 = y))
theorem d_tk_up {h : Hp} {d j n : Nat} {x y : Int32} (hj : j < n) (hx : h (d + 14 + j) 0 = x) (hy : h (d + 14 + j) 1 = y) : d_tk h d x y n = true := by
  induction n with
  | zero => omega
  | succ n ih =>
    show (d_tk h d x y n || _) = true
    by_cases e : j = n
    · subst e; simp [hx, hy]
    · rw [ih (by omega)]; rfl
/-- from the link x on, at most k steps: does the water come to the goal -/
def d_dn (h : Hp) (d : Nat) (goal : Int32) : Nat → Int32 → Bool
  | 0, _ => false
  | k + 1, x => if x = -1 then false else if x = goal then true else d_dn h d goal k (h (d + 14 + x.toNatClampNeg) 8)
set_option maxRecDepth 100000 in
set_option maxHeartbeats 4000000 in
theorem ct_X0_isTaken {g : gW} {l : Launch} {h : Hp} {d n : Nat} {x y : Int32} (hd : isD d) (hn : h d 4 = nI n) (hn10 : n ≤ 10) : CT g l yX0_isTaken cX0_isTaken 4 (some FieldType.boolean) 0 0 0 [.ref (gB g + d), .int x, .int y] h (some (.int (b01 (d_tk h d x y n)))) h := by
  refine CT.of (lv0 := [(0, .ref (gB g + d)), (1, .int x), (2, .int y)]) mf_X0_isTaken.1.2.2.2 (Nat.le_of_ble_eq_true rfl) rfl ?_
  intro p e s m below meth c C hr
  have L : ∀ (fu j : Nat), j ≤ n → n < fu + j → d_tk h d x y j = false → WW g p l e (rK 0 0 0) s m ([.ref (gB g + d), .int x, .int y] : List Value).toArray below meth c 4 [] h [(0, .ref (gB g + d)), (1, .int x), (2, .int y), (3, .int (nI j))] 0 0 (MQ below (QW g s.heap.size (some (.int (b01 (d_tk h d x y n)))) h) ([.ref (gB g + d), .int x, .int y] : List Value).toArray s 0 0 (AA g s.heap.size)) 2 [] := by
    intro fu
    induction fu with
    | zero => intro j h1 h2; omega
    | succ fu ih =>
      intro j hj hfu hi
      refine ww_iload_n C dX0_isTaken_2 3 rfl rfl ?_
      refine ww_aload_n C dX0_isTaken_3 0 rfl rfl ?_
      refine ww_getD C (by assumption) 4 (by decide) q_f_X0_53 dX0_isTaken_4 ?_
      refine ww_icmp_ge C dX0_isTaken_7 44 (by decide) (fun q => ?_) (fun q => ?_)
      · have hjn := lp_exit hn q hj (by omega)
        subst hjn
        refine ww_iconst (v := 0) C dX0_isTaken_44 (by decide) ?_
        exact ww_zret C hr (by first | exact Or.inl rfl | exact Or.inr rfl | assumption) (by rw [hi]; rfl) rfl dX0_isTaken_45
      · have hjn := lp_body hn q hj (by omega)
        have hP := isP_of hd (show j < 10 by omega)
        refine ww_aload_n C dX0_isTaken_10 0 rfl rfl ?_
        refine ww_getDp C (by assumption) q_f_X0_24 dX0_isTaken_11 ?_
        refine ww_iload_n C dX0_isTaken_14 3 rfl rfl ?_
        refine ww_aaldP C hd (by omega) dX0_isTaken_15 ?_
        refine ww_getP C (by assumption) 0 (by decide) q_f_X0_90 dX0_isTaken_16 ?_
        refine ww_iload_n C dX0_isTaken_19 1 rfl rfl ?_
        refine ww_icmp_ne C dX0_isTaken_20 38 (by decide) (fun c20 => ?_) (fun c20 => ?_)
        · refine ww_iinc (v := nI (j + 1)) C dX0_isTaken_38 rfl (nI_inc _) (by decide) ?_
          refine ww_goto C dX0_isTaken_41 2 (by decide) ?_
          refine ww_lv [(0, .ref (gB g + d)), (1, .int x), (2, .int y), (3, .int (nI (j + 1)))] ⟨rfl, rfl, rfl, rfl, trivial⟩ ?_
          exact ih (j + 1) hjn (by omega) (by show (d_tk h d x y j || _) = false; rw [hi]; simp only [Bool.false_or, Bool.and_eq_false_iff, decide_eq_false_iff_not]; first | exact Or.inl c20 | exact Or.inr c33)
        · refine ww_aload_n C dX0_isTaken_23 0 rfl rfl ?_
          refine ww_getDp C (by assumption) q_f_X0_24 dX0_isTaken_24 ?_
          refine ww_iload_n C dX0_isTaken_27 3 rfl rfl ?_
          refine ww_aaldP C hd (by omega) dX0_isTaken_28 ?_
          refine ww_getP C (by assumption) 1 (by decide) q_f_X0_93 dX0_isTaken_29 ?_
          refine ww_iload_n C dX0_isTaken_32 2 rfl rfl ?_
          refine ww_icmp_ne C dX0_isTaken_33 38 (by decide) (fun c33 => ?_) (fun c33 => ?_)
          · refine ww_iinc (v := nI (j + 1)) C dX0_isTaken_38 rfl (nI_inc _) (by decide) ?_
            refine ww_goto C dX0_isTaken_41 2 (by decide) ?_
            refine ww_lv [(0, .ref (gB g + d)), (1, .int x), (2, .int y), (3, .int (nI (j + 1)))] ⟨rfl, rfl, rfl, rfl, trivial⟩ ?_
            exact ih (j + 1) hjn (by omega) (by show (d_tk h d x y j || _) = false; rw [hi]; simp only [Bool.false_or, Bool.and_eq_false_iff, decide_eq_false_iff_not]; first | exact Or.inl c20 | exact Or.inr c33)
          · refine ww_iconst (v := 1) C dX0_isTaken_36 (by decide) ?_
            exact ww_zret C hr (by first | exact Or.inl rfl | exact Or.inr rfl | assumption) (by rw [d_tk_up (by omega) c20 c33]; rfl) rfl dX0_isTaken_37
  refine ww_iconst (v := 0) C dX0_isTaken_0 (by decide) ?_
  refine ww_istore_n C dX0_isTaken_1 3 rfl (by decide) ?_
  refine ww_lv [(0, .ref (gB g + d)), (1, .int x), (2, .int y), (3, .int (nI 0))] ⟨rfl, rfl, rfl, rfl, trivial⟩ ?_
  exact L (n + 1) 0 (Nat.zero_le _) (by omega) rfl
set_option maxRecDepth 100000 in
set_option maxHeartbeats 4000000 in
theorem ct_X0_rotStraw {g : gW} {l : Launch} {h : Hp} {d n f : Nat} (hd : isD d) (H : OK d n f h) : CT g l yX0_rotStraw cX0_rotStraw 2 none 0 0 0 [.ref (gB g + d)] h none (fd (d_rot d) h n) := by
  refine CT.of (lv0 := [(0, .ref (gB g + d))]) mf_X0_rotStraw.1.2.2.2 (Nat.le_of_ble_eq_true rfl) rfl ?_
  intro p e s m below meth c C hr
  have hn := H.1
  have hn10 := H.2.1
  have hf := H.2.2.1
  have hfr := H.2.2.2.1
  have hr7 : rmD d ≤ 7 := rm7
  have L : ∀ (fu j : Nat), j ≤ n → n < fu + j → WW g p l e (rK 0 0 0) s m ([.ref (gB g + d)] : List Value).toArray below meth c 2 [] (fd (d_rot d) h j) [(0, .ref (gB g + d)), (1, .int (nI j))] 0 0 (MQ below (QW g s.heap.size none (fd (d_rot d) h n)) ([.ref (gB g + d)] : List Value).toArray s 0 0 (AA g s.heap.size)) 2 [] := by
    intro fu
    induction fu with
    | zero => intro j h1 h2; omega
    | succ fu ih =>
      intro j hj hfu
      refine ww_iload_n C dX0_rotStraw_2 1 rfl rfl ?_
      refine ww_aload_n C dX0_rotStraw_3 0 rfl rfl ?_
      refine ww_getD C (by assumption) 4 (by decide) q_f_X0_53 dX0_rotStraw_4 ?_
      refine ww_icmp_ge C dX0_rotStraw_7 26 (by decide) (fun q => ?_) (fun q => ?_)
      · have hjn := lp_exit ((H.h5 hj).1) q hj (by omega)
        subst hjn
        exact ww_vret C hr rfl rfl dX0_rotStraw_26
      · have hjn := lp_body ((H.h5 hj).1) q hj (by omega)
        have hP := isP_of hd (show j < 10 by omega)
        refine ww_aload_n C dX0_rotStraw_10 0 rfl rfl ?_
        refine ww_getDp C (by assumption) q_f_X0_24 dX0_rotStraw_11 ?_
        refine ww_iload_n C dX0_rotStraw_14 1 rfl rfl ?_
        refine ww_aaldP C hd (by omega) dX0_rotStraw_15 ?_
        refine ww_iconst (v := 0) C dX0_rotStraw_16 (by decide) ?_
        refine ww_putPb C (by assumption) (by first | exact Or.inl rfl | exact Or.inr rfl | assumption) q_f_X0_207 dX0_rotStraw_17 ?_
        refine ww_iinc (v := nI (j + 1)) C dX0_rotStraw_20 rfl (nI_inc _) (by decide) ?_
        refine ww_goto C dX0_rotStraw_23 2 (by decide) ?_
        refine ww_lv [(0, .ref (gB g + d)), (1, .int (nI (j + 1)))] ⟨rfl, rfl, trivial⟩ ?_
        exact ih (j + 1) hjn (by omega)
  refine ww_iconst (v := 0) C dX0_rotStraw_0 (by decide) ?_
  refine ww_istore_n C dX0_rotStraw_1 1 rfl (by decide) ?_
  refine ww_lv [(0, .ref (gB g + d)), (1, .int (nI 0))] ⟨rfl, rfl, trivial⟩ ?_
  exact L (n + 1) 0 (Nat.zero_le _) (by omega)
set_option maxRecDepth 100000 in
set_option maxHeartbeats 4000000 in
theorem ct_X0_runsDownTo {g : gW} {l : Launch} {h : Hp} {d n f : Nat} (hd : isD d) (H : OK d n f h) {s0 goal : Int32} (hs : isN n s0) : CT g l yX0_runsDownTo cX0_runsDownTo 5 (some FieldType.boolean) 1 0 0 [.ref (gB g + d), .int s0, .int goal] h (some (.int (b01 (d_dn h d goal 10 (h (d + 14 + s0.toNatClampNeg) 8))))) h := by
  refine CT.of (lv0 := [(0, .ref (gB g + d)), (1, .int s0), (2, .int goal)]) mf_X0_runsDownTo.1.2.2.2 (Nat.le_of_ble_eq_true rfl) rfl ?_
  intro p e s m below meth c C hr
  have hn := H.1
  have hn10 := H.2.1
  have hf := H.2.2.1
  have hfr := H.2.2.2.1
  have hr7 : rmD d ≤ 7 := rm7
  have hP := isP_x hd hn10 hs
  obtain ⟨q0, hq0, e0⟩ := hs
  have x0 : s0.toNatClampNeg = q0 := by rw [e0, nI_clamp (by omega)]
  have L : ∀ (fu j : Nat), j ≤ 10 → 10 < fu + j → ∀ x : Int32, (x = -1 ∨ isN n x) → d_dn h d goal 10 (h (d + 14 + s0.toNatClampNeg) 8) = d_dn h d goal (10 - j) x → WW g p l e (rK 1 0 0) s m ([.ref (gB g + d), .int s0, .int goal] : List Value).toArray below meth c 5 [] h [(0, .ref (gB g + d)), (1, .int s0), (2, .int goal), (3, .int x), (4, .int (nI j))] 0 0 (MQ below (QW g s.heap.size (some (.int (b01 (d_dn h d goal 10 (h (d + 14 + s0.toNatClampNeg) 8))))) h) ([.ref (gB g + d), .int s0, .int goal] : List Value).toArray s 0 0 (AA g s.heap.size)) 12 [] := by
    intro fu
    induction fu with
    | zero => intro j h1 h2; omega
    | succ fu ih =>
      intro j hj hfu x hx hi
      refine ww_iload C dX0_runsDownTo_12 rfl ?_
      refine ww_bipush (v := 10) C dX0_runsDownTo_14 (by decide) ?_
      refine ww_icmp_ge C dX0_runsDownTo_16 46 (by decide) (fun q => ?_) (fun q => ?_)
      · have hjn := lp_exit (show (10 : Int32) = nI 10 from rfl) q hj (by omega)
        subst hjn
        refine ww_iconst (v := 0) C dX0_runsDownTo_46 (by decide) ?_
        exact ww_zret C hr (by first | exact Or.inl rfl | exact Or.inr rfl) (by first | (rw [hi, e10]; show some (Value.int (b01 (if x = -1 then false else if x = goal then true else _))) = _; rw [if_pos c21]; rfl) | (rw [hi]; rfl)) rfl dX0_runsDownTo_47
      · have hjn := lp_body (show (10 : Int32) = nI 10 from rfl) q hj (by omega)
        have e10 : 10 - j = (10 - (j + 1)) + 1 := by omega
        refine ww_iload_n C dX0_runsDownTo_19 3 rfl rfl ?_
        refine ww_iconst (v := (-1)) C dX0_runsDownTo_20 (by decide) ?_
        refine ww_icmp_eq C dX0_runsDownTo_21 46 (by decide) (fun c21 => ?_) (fun c21 => ?_)
        · refine ww_iconst (v := 0) C dX0_runsDownTo_46 (by decide) ?_
          exact ww_zret C hr (by first | exact Or.inl rfl | exact Or.inr rfl) (by first | (rw [hi, e10]; show some (Value.int (b01 (if x = -1 then false else if x = goal then true else _))) = _; rw [if_pos c21]; rfl) | (rw [hi]; rfl)) rfl dX0_runsDownTo_47
        · refine ww_iload_n C dX0_runsDownTo_24 3 rfl rfl ?_
          refine ww_iload_n C dX0_runsDownTo_25 2 rfl rfl ?_
          refine ww_icmp_ne C dX0_runsDownTo_26 31 (by decide) (fun c26 => ?_) (fun c26 => ?_)
          · refine ww_aload_n C dX0_runsDownTo_31 0 rfl rfl ?_
            refine ww_iload_n C dX0_runsDownTo_32 3 rfl rfl ?_
            refine ww_callD C mf_X0_pondAt dX0_runsDownTo_33 (ok_X0_pondAt hd hn hn10 (hx.resolve_left c21)) q_m_X0_105 (by assumption) rfl rfl rfl (Nat.le_of_ble_eq_true rfl) (by exact ⟨Nat.le_of_ble_eq_true rfl, Nat.le_of_ble_eq_true rfl⟩) (by exact ⟨Nat.le_of_ble_eq_true rfl, Nat.le_of_ble_eq_true rfl⟩) ?_
            have hP2 := isP_x hd hn10 (hx.resolve_left c21)
            refine ww_getP C (by assumption) 8 (by decide) q_f_X0_204 dX0_runsDownTo_36 ?_
            refine ww_istore_n C dX0_runsDownTo_39 3 rfl (by decide) ?_
            refine ww_iinc (v := nI (j + 1)) C dX0_runsDownTo_40 rfl (nI_inc _) (by decide) ?_
            refine ww_goto C dX0_runsDownTo_43 12 (by decide) ?_
            refine ww_lv [(0, .ref (gB g + d)), (1, .int s0), (2, .int goal), (3, .int (h (d + 14 + x.toNatClampNeg) 8)), (4, .int (nI (j + 1)))] ⟨rfl, rfl, rfl, rfl, rfl, trivial⟩ ?_
            exact ih (j + 1) hjn (by omega) _ (by obtain ⟨q2, hq2, e2⟩ := hx.resolve_left c21; rw [e2, nI_clamp (by omega)]; exact H.2.2.2.2.1 q2 hq2) (by rw [hi, show 10 - j = (10 - (j + 1)) + 1 by omega]; show (if x = -1 then false else if x = goal then true else _) = _; rw [if_neg c21, if_neg c26])
          · refine ww_iconst (v := 1) C dX0_runsDownTo_29 (by decide) ?_
            exact ww_zret C hr (by first | exact Or.inl rfl | exact Or.inr rfl) (by rw [hi, e10]; show some (Value.int (b01 (if x = -1 then false else if x = goal then true else _))) = _; rw [if_neg c21, if_pos c26]; rfl) rfl dX0_runsDownTo_30
  refine ww_aload_n C dX0_runsDownTo_0 0 rfl rfl ?_
  refine ww_iload_n C dX0_runsDownTo_1 1 rfl rfl ?_
  refine ww_callD C mf_X0_pondAt dX0_runsDownTo_2 (ok_X0_pondAt hd hn hn10 ⟨q0, hq0, e0⟩) q_m_X0_105 (by assumption) rfl rfl rfl (Nat.le_of_ble_eq_true rfl) (by exact ⟨Nat.le_of_ble_eq_true rfl, Nat.le_of_ble_eq_true rfl⟩) (by exact ⟨Nat.le_of_ble_eq_true rfl, Nat.le_of_ble_eq_true rfl⟩) ?_
  refine ww_getP C (by assumption) 8 (by decide) q_f_X0_204 dX0_runsDownTo_5 ?_
  refine ww_istore_n C dX0_runsDownTo_8 3 rfl (by decide) ?_
  refine ww_iconst (v := 0) C dX0_runsDownTo_9 (by decide) ?_
  refine ww_istore C dX0_runsDownTo_10 (by decide) ?_
  refine ww_lv [(0, .ref (gB g + d)), (1, .int s0), (2, .int goal), (3, .int (h (d + 14 + s0.toNatClampNeg) 8)), (4, .int (nI 0))] ⟨rfl, rfl, rfl, rfl, rfl, trivial⟩ ?_
  exact L (10 + 1) 0 (Nat.zero_le _) (by omega) _ (by rw [x0]; exact H.2.2.2.2.1 q0 hq0) rfl
def d_src (h : Hp) (d : Nat) (goal : Int32) : Nat → Int32 := fd (fun z j => if d_dn h d goal 10 (h (d + 14 + j) 8) = true then z ||| ((1 : Int32) <<< (nI j &&& 31)) else z) 0
theorem b01_0 {b : Bool} (h : b01 b = 0) : ¬ b = true := by intro e; subst e; exact absurd h (by decide)
theorem b01_1 {b : Bool} (h : ¬ b01 b = 0) : b = true := by cases b; exact absurd rfl h; rfl
set_option maxRecDepth 100000 in
set_option maxHeartbeats 4000000 in
theorem ct_X0_sourcesOf {g : gW} {l : Launch} {h : Hp} {d n f : Nat} (hd : isD d) (H : OK d n f h) {goal : Int32} : CT g l yX0_sourcesOf cX0_sourcesOf 4 (some FieldType.int) 2 0 0 [.ref (gB g + d), .int goal] h (some (.int (d_src h d goal n))) h := by
  refine CT.of (lv0 := [(0, .ref (gB g + d)), (1, .int goal)]) mf_X0_sourcesOf.1.2.2.2 (Nat.le_of_ble_eq_true rfl) rfl ?_
  intro p e s m below meth c C hr
  have hn := H.1
  have hn10 := H.2.1
  have hf := H.2.2.1
  have hfr := H.2.2.2.1
  have hr7 : rmD d ≤ 7 := rm7
  have L : ∀ (fu j : Nat), j ≤ n → n < fu + j → WW g p l e (rK 2 0 0) s m ([.ref (gB g + d), .int goal] : List Value).toArray below meth c 4 [] h [(0, .ref (gB g + d)), (1, .int goal), (2, .int (d_src h d goal j)), (3, .int (nI j))] 0 0 (MQ below (QW g s.heap.size (some (.int (d_src h d goal n))) h) ([.ref (gB g + d), .int goal] : List Value).toArray s 0 0 (AA g s.heap.size)) 4 [] := by
    intro fu
    induction fu with
    | zero => intro j h1 h2; omega
    | succ fu ih =>
      intro j hj hfu
      refine ww_iload_n C dX0_sourcesOf_4 3 rfl rfl ?_
      refine ww_aload_n C dX0_sourcesOf_5 0 rfl rfl ?_
      refine ww_getD C (by assumption) 4 (by decide) q_f_X0_53 dX0_sourcesOf_6 ?_
      refine ww_icmp_ge C dX0_sourcesOf_9 33 (by decide) (fun q => ?_) (fun q => ?_)
      · have hjn := lp_exit hn q hj (by omega)
        subst hjn
        refine ww_iload_n C dX0_sourcesOf_33 2 rfl rfl ?_
        exact ww_iret C hr rfl rfl dX0_sourcesOf_34
      · have hjn := lp_body hn q hj (by omega)
        have hs : isN n (nI j) := ⟨j, hjn, rfl⟩
        have ej : (nI j).toNatClampNeg = j := nI_clamp (by omega)
        refine ww_aload_n C dX0_sourcesOf_12 0 rfl rfl ?_
        refine ww_iload_n C dX0_sourcesOf_13 3 rfl rfl ?_
        refine ww_iload_n C dX0_sourcesOf_14 1 rfl rfl ?_
        refine ww_callD C mf_X0_runsDownTo dX0_sourcesOf_15 (ct_X0_runsDownTo hd H hs) q_m_X0_210 (by assumption) rfl rfl rfl (Nat.le_of_ble_eq_true rfl) (by exact ⟨Nat.le_of_ble_eq_true rfl, Nat.le_of_ble_eq_true rfl⟩) (by exact ⟨Nat.le_of_ble_eq_true rfl, Nat.le_of_ble_eq_true rfl⟩) ?_
        refine ww_if_eq C dX0_sourcesOf_18 27 (by decide) (fun c18 => ?_) (fun c18 => ?_)
        · refine ww_iinc (v := nI (j + 1)) C dX0_sourcesOf_27 rfl (nI_inc _) (by decide) ?_
          refine ww_goto C dX0_sourcesOf_30 4 (by decide) ?_
          refine ww_lv [(0, .ref (gB g + d)), (1, .int goal), (2, .int (d_src h d goal (j + 1))), (3, .int (nI (j + 1)))] ⟨rfl, rfl, (by show some (Value.int _) = some (Value.int (if _ then _ else _)); first | (rw [ej] at c18; rw [if_pos (b01_1 c18)]; try rfl; done) | (rw [ej] at c18; rw [if_neg (b01_0 c18)]; try rfl; done)), rfl, trivial⟩ ?_
          exact ih (j + 1) hjn (by omega)
        · refine ww_iload_n C dX0_sourcesOf_21 2 rfl rfl ?_
          refine ww_iconst (v := 1) C dX0_sourcesOf_22 (by decide) ?_
          refine ww_iload_n C dX0_sourcesOf_23 3 rfl rfl ?_
          refine ww_ishl C dX0_sourcesOf_24 ?_
          refine ww_ior C dX0_sourcesOf_25 ?_
          refine ww_istore_n C dX0_sourcesOf_26 2 rfl (by decide) ?_
          refine ww_iinc (v := nI (j + 1)) C dX0_sourcesOf_27 rfl (nI_inc _) (by decide) ?_
          refine ww_goto C dX0_sourcesOf_30 4 (by decide) ?_
          refine ww_lv [(0, .ref (gB g + d)), (1, .int goal), (2, .int (d_src h d goal (j + 1))), (3, .int (nI (j + 1)))] ⟨rfl, rfl, (by show some (Value.int _) = some (Value.int (if _ then _ else _)); first | (rw [ej] at c18; rw [if_pos (b01_1 c18)]; try rfl; done) | (rw [ej] at c18; rw [if_neg (b01_0 c18)]; try rfl; done)), rfl, trivial⟩ ?_
          exact ih (j + 1) hjn (by omega)
  refine ww_iconst (v := 0) C dX0_sourcesOf_0 (by decide) ?_
  refine ww_istore_n C dX0_sourcesOf_1 2 rfl (by decide) ?_
  refine ww_iconst (v := 0) C dX0_sourcesOf_2 (by decide) ?_
  refine ww_istore_n C dX0_sourcesOf_3 3 rfl (by decide) ?_
  refine ww_lv [(0, .ref (gB g + d)), (1, .int goal), (2, .int (d_src h d goal 0)), (3, .int (nI 0))] ⟨rfl, rfl, rfl, rfl, trivial⟩ ?_
  exact L (n + 1) 0 (Nat.zero_le _) (by omega)
theorem nearS_lt {h : Hp} {d fo here j : Nat} {z : Int32 × Int32} (c : h (d + 14 + j) 5 < f_need h fo) : d_nearS h d fo here z j = z := if_pos c
theorem nearS_le {h : Hp} {d fo here j : Nat} {z : Int32 × Int32} (c : ¬ h (d + 14 + j) 5 < f_need h fo) (c2 : z.1 ≤ p_dist h here (d + 14 + j)) : d_nearS h d fo here z j = z := (if_neg c).trans (if_pos c2)
theorem nearS_up {h : Hp} {d fo here j : Nat} {z : Int32 × Int32} (c : ¬ h (d + 14 + j) 5 < f_need h fo) (c2 : ¬ z.1 ≤ p_dist h here (d + 14 + j)) : d_nearS h d fo here z j = (p_dist h here (d + 14 + j), nI j) := (if_neg c).trans (if_neg c2)
set_option maxRecDepth 100000 in
set_option maxHeartbeats 4000000 in
theorem ct_X0_nearestWaterFor {g : gW} {l : Launch} {h : Hp} {d n f : Nat} (hd : isD d) (H : OK d n f h) {fo : Nat} (hfo : isF fo) (hx : isN n (h fo 1)) : CT g l yX0_nearestWaterFor cX0_nearestWaterFor 7 (some FieldType.int) 2 0 0 [.ref (gB g + d), .ref (gB g + fo)] h (some (.int (d_near h d n fo))) h := by
  refine CT.of (lv0 := [(0, .ref (gB g + d)), (1, .ref (gB g + fo))]) mf_X0_nearestWaterFor.1.2.2.2 (Nat.le_of_ble_eq_true rfl) rfl ?_
  intro p e s m below meth c C hr
  have hn := H.1
  have hn10 := H.2.1
  have hf := H.2.2.1
  have hfr := H.2.2.2.1
  have hr7 : rmD d ≤ 7 := rm7
  have hP := isP_x hd hn10 hx
  have L : ∀ (fu j : Nat), j ≤ n → n < fu + j → h (d + 14 + (h fo 1).toNatClampNeg) 5 < f_need h fo → WW g p l e (rK 2 0 0) s m ([.ref (gB g + d), .ref (gB g + fo)] : List Value).toArray below meth c 7 [] h [(0, .ref (gB g + d)), (1, .ref (gB g + fo)), (2, .ref (gB g + (d + 14 + (h fo 1).toNatClampNeg))), (3, .int (fd (d_nearS h d fo (d + 14 + (h fo 1).toNatClampNeg)) (2147483647, h fo 1) j).2), (4, .int (fd (d_nearS h d fo (d + 14 + (h fo 1).toNatClampNeg)) (2147483647, h fo 1) j).1), (5, .int (nI j))] 0 0 (MQ below (QW g s.heap.size (some (.int (d_near h d n fo))) h) ([.ref (gB g + d), .ref (gB g + fo)] : List Value).toArray s 0 0 (AA g s.heap.size)) 34 [] := by
    intro fu
    induction fu with
    | zero => intro j h1 h2; omega
    | succ fu ih =>
      intro j hj hfu hlow
      refine ww_iload C dX0_nearestWaterFor_34 rfl ?_
      refine ww_aload_n C dX0_nearestWaterFor_36 0 rfl rfl ?_
      refine ww_getD C (by assumption) 4 (by decide) q_f_X0_53 dX0_nearestWaterFor_37 ?_
      refine ww_icmp_ge C dX0_nearestWaterFor_40 93 (by decide) (fun q => ?_) (fun q => ?_)
      · have hjn := lp_exit hn q hj (by omega)
        subst hjn
        refine ww_iload_n C dX0_nearestWaterFor_93 3 rfl rfl ?_
        exact ww_iret C hr (by unfold d_near; rw [if_pos hlow]) rfl dX0_nearestWaterFor_94
      · have hjn := lp_body hn q hj (by omega)
        have hPj := isP_of hd (show j < 10 by omega)
        refine ww_aload_n C dX0_nearestWaterFor_43 2 rfl rfl ?_
        refine ww_aload_n C dX0_nearestWaterFor_44 0 rfl rfl ?_
        refine ww_getDp C (by assumption) q_f_X0_24 dX0_nearestWaterFor_45 ?_
        refine ww_iload C dX0_nearestWaterFor_48 rfl ?_
        refine ww_aaldP C hd (by omega) dX0_nearestWaterFor_50 ?_
        refine ww_callP C mf_X2_distanceTo dX0_nearestWaterFor_51 (ct_X2_distanceTo hP hPj) q_m_X0_197 (by assumption) rfl rfl rfl (Nat.le_of_ble_eq_true rfl) (by exact ⟨Nat.le_of_ble_eq_true rfl, Nat.le_of_ble_eq_true rfl⟩) (by exact ⟨Nat.le_of_ble_eq_true rfl, Nat.le_of_ble_eq_true rfl⟩) ?_
        refine ww_istore C dX0_nearestWaterFor_54 (by decide) ?_
        refine ww_aload_n C dX0_nearestWaterFor_56 0 rfl rfl ?_
        refine ww_getDp C (by assumption) q_f_X0_24 dX0_nearestWaterFor_57 ?_
        refine ww_iload C dX0_nearestWaterFor_60 rfl ?_
        refine ww_aaldP C hd (by omega) dX0_nearestWaterFor_62 ?_
        refine ww_getP C (by assumption) 5 (by decide) q_f_X0_191 dX0_nearestWaterFor_63 ?_
        refine ww_aload_n C dX0_nearestWaterFor_66 1 rfl rfl ?_
        refine ww_callF C mf_X1_need dX0_nearestWaterFor_67 (ct_X1_need hfo) q_m_X0_175 (by assumption) rfl rfl rfl (Nat.le_of_ble_eq_true rfl) (by exact ⟨Nat.le_of_ble_eq_true rfl, Nat.le_of_ble_eq_true rfl⟩) (by exact ⟨Nat.le_of_ble_eq_true rfl, Nat.le_of_ble_eq_true rfl⟩) ?_
        refine ww_icmp_lt C dX0_nearestWaterFor_70 87 (by decide) (fun c70 => ?_) (fun c70 => ?_)
        · refine ww_iinc (v := nI (j + 1)) C dX0_nearestWaterFor_87 rfl (nI_inc _) (by decide) ?_
          refine ww_goto C dX0_nearestWaterFor_90 34 (by decide) ?_
          refine ww_lv [(0, .ref (gB g + d)), (1, .ref (gB g + fo)), (2, .ref (gB g + (d + 14 + (h fo 1).toNatClampNeg))), (3, .int (fd (d_nearS h d fo (d + 14 + (h fo 1).toNatClampNeg)) (2147483647, h fo 1) (j + 1)).2), (4, .int (fd (d_nearS h d fo (d + 14 + (h fo 1).toNatClampNeg)) (2147483647, h fo 1) (j + 1)).1), (5, .int (nI (j + 1)))] ⟨rfl, rfl, rfl, (by first | exact congrArg (fun z : Int32 × Int32 => some (Value.int z.2)) (nearS_lt c70).symm | exact congrArg (fun z : Int32 × Int32 => some (Value.int z.2)) (nearS_le c70 c77).symm | exact congrArg (fun z : Int32 × Int32 => some (Value.int z.2)) (nearS_up c70 c77).symm), (by first | exact congrArg (fun z : Int32 × Int32 => some (Value.int z.1)) (nearS_lt c70).symm | exact congrArg (fun z : Int32 × Int32 => some (Value.int z.1)) (nearS_le c70 c77).symm | exact congrArg (fun z : Int32 × Int32 => some (Value.int z.1)) (nearS_up c70 c77).symm), rfl, trivial⟩ ?_
          exact ih (j + 1) hjn (by omega) hlow
        · refine ww_iload C dX0_nearestWaterFor_73 rfl ?_
          refine ww_iload C dX0_nearestWaterFor_75 rfl ?_
          refine ww_icmp_ge C dX0_nearestWaterFor_77 87 (by decide) (fun c77 => ?_) (fun c77 => ?_)
          · refine ww_iinc (v := nI (j + 1)) C dX0_nearestWaterFor_87 rfl (nI_inc _) (by decide) ?_
            refine ww_goto C dX0_nearestWaterFor_90 34 (by decide) ?_
            refine ww_lv [(0, .ref (gB g + d)), (1, .ref (gB g + fo)), (2, .ref (gB g + (d + 14 + (h fo 1).toNatClampNeg))), (3, .int (fd (d_nearS h d fo (d + 14 + (h fo 1).toNatClampNeg)) (2147483647, h fo 1) (j + 1)).2), (4, .int (fd (d_nearS h d fo (d + 14 + (h fo 1).toNatClampNeg)) (2147483647, h fo 1) (j + 1)).1), (5, .int (nI (j + 1)))] ⟨rfl, rfl, rfl, (by first | exact congrArg (fun z : Int32 × Int32 => some (Value.int z.2)) (nearS_lt c70).symm | exact congrArg (fun z : Int32 × Int32 => some (Value.int z.2)) (nearS_le c70 c77).symm | exact congrArg (fun z : Int32 × Int32 => some (Value.int z.2)) (nearS_up c70 c77).symm), (by first | exact congrArg (fun z : Int32 × Int32 => some (Value.int z.1)) (nearS_lt c70).symm | exact congrArg (fun z : Int32 × Int32 => some (Value.int z.1)) (nearS_le c70 c77).symm | exact congrArg (fun z : Int32 × Int32 => some (Value.int z.1)) (nearS_up c70 c77).symm), rfl, trivial⟩ ?_
            exact ih (j + 1) hjn (by omega) hlow
          · refine ww_iload C dX0_nearestWaterFor_80 rfl ?_
            refine ww_istore C dX0_nearestWaterFor_82 (by decide) ?_
            refine ww_iload C dX0_nearestWaterFor_84 rfl ?_
            refine ww_istore_n C dX0_nearestWaterFor_86 3 rfl (by decide) ?_
            refine ww_iinc (v := nI (j + 1)) C dX0_nearestWaterFor_87 rfl (nI_inc _) (by decide) ?_
            refine ww_goto C dX0_nearestWaterFor_90 34 (by decide) ?_
            refine ww_lv [(0, .ref (gB g + d)), (1, .ref (gB g + fo)), (2, .ref (gB g + (d + 14 + (h fo 1).toNatClampNeg))), (3, .int (fd (d_nearS h d fo (d + 14 + (h fo 1).toNatClampNeg)) (2147483647, h fo 1) (j + 1)).2), (4, .int (fd (d_nearS h d fo (d + 14 + (h fo 1).toNatClampNeg)) (2147483647, h fo 1) (j + 1)).1), (5, .int (nI (j + 1)))] ⟨rfl, rfl, rfl, (by first | exact congrArg (fun z : Int32 × Int32 => some (Value.int z.2)) (nearS_lt c70).symm | exact congrArg (fun z : Int32 × Int32 => some (Value.int z.2)) (nearS_le c70 c77).symm | exact congrArg (fun z : Int32 × Int32 => some (Value.int z.2)) (nearS_up c70 c77).symm), (by first | exact congrArg (fun z : Int32 × Int32 => some (Value.int z.1)) (nearS_lt c70).symm | exact congrArg (fun z : Int32 × Int32 => some (Value.int z.1)) (nearS_le c70 c77).symm | exact congrArg (fun z : Int32 × Int32 => some (Value.int z.1)) (nearS_up c70 c77).symm), rfl, trivial⟩ ?_
            exact ih (j + 1) hjn (by omega) hlow
  refine ww_aload_n C dX0_nearestWaterFor_0 0 rfl rfl ?_
  refine ww_aload_n C dX0_nearestWaterFor_1 1 rfl rfl ?_
  refine ww_getF C (by assumption) 1 (by decide) q_f_X0_172 dX0_nearestWaterFor_2 ?_
  refine ww_callD C mf_X0_pondAt dX0_nearestWaterFor_5 (ok_X0_pondAt hd hn hn10 hx) q_m_X0_105 (by assumption) rfl rfl rfl (Nat.le_of_ble_eq_true rfl) (by exact ⟨Nat.le_of_ble_eq_true rfl, Nat.le_of_ble_eq_true rfl⟩) (by exact ⟨Nat.le_of_ble_eq_true rfl, Nat.le_of_ble_eq_true rfl⟩) ?_
  refine ww_astore_n C dX0_nearestWaterFor_8 2 rfl (by decide) ?_
  refine ww_aload_n C dX0_nearestWaterFor_9 1 rfl rfl ?_
  refine ww_getF C (by assumption) 1 (by decide) q_f_X0_172 dX0_nearestWaterFor_10 ?_
  refine ww_istore_n C dX0_nearestWaterFor_13 3 rfl (by decide) ?_
  refine ww_aload_n C dX0_nearestWaterFor_14 2 rfl rfl ?_
  refine ww_getP C (by assumption) 5 (by decide) q_f_X0_191 dX0_nearestWaterFor_15 ?_
  refine ww_aload_n C dX0_nearestWaterFor_18 1 rfl rfl ?_
  refine ww_callF C mf_X1_need dX0_nearestWaterFor_19 (ct_X1_need hfo) q_m_X0_175 (by assumption) rfl rfl rfl (Nat.le_of_ble_eq_true rfl) (by exact ⟨Nat.le_of_ble_eq_true rfl, Nat.le_of_ble_eq_true rfl⟩) (by exact ⟨Nat.le_of_ble_eq_true rfl, Nat.le_of_ble_eq_true rfl⟩) ?_
  refine ww_icmp_lt C dX0_nearestWaterFor_22 27 (by decide) (fun c22 => ?_) (fun c22 => ?_)
  · refine ww_ldc C dX0_nearestWaterFor_27 q_d_X0_196 ?_
    refine ww_istore C dX0_nearestWaterFor_29 (by decide) ?_
    refine ww_iconst (v := 0) C dX0_nearestWaterFor_31 (by decide) ?_
    refine ww_istore C dX0_nearestWaterFor_32 (by decide) ?_
    refine ww_lv [(0, .ref (gB g + d)), (1, .ref (gB g + fo)), (2, .ref (gB g + (d + 14 + (h fo 1).toNatClampNeg))), (3, .int (fd (d_nearS h d fo (d + 14 + (h fo 1).toNatClampNeg)) (2147483647, h fo 1) 0).2), (4, .int (fd (d_nearS h d fo (d + 14 + (h fo 1).toNatClampNeg)) (2147483647, h fo 1) 0).1), (5, .int (nI 0))] ⟨rfl, rfl, rfl, rfl, rfl, rfl, trivial⟩ ?_
    exact L (n + 1) 0 (Nat.zero_le _) (by omega) c22
  · refine ww_iload_n C dX0_nearestWaterFor_25 3 rfl rfl ?_
    exact ww_iret C hr (by unfold d_near; rw [if_neg c22]) rfl dX0_nearestWaterFor_26
