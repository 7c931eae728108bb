theorem in1 {k M : Int32} {N : Nat} (hM : M = nI N) (hN : N < 2 ^ 31) (c : ¬ bI (1 ≤ k ∧ k ≤ M) = 0) : k = nI k.toNatClampNeg ∧ k.toNatClampNeg ≤ N := by
  have h := bI1 c
  obtain ⟨j, hj, ej⟩ := nI_of2 (M := M) (n := N) (by rw [hM]; exact nI_toInt hN) (Int32.not_lt.mpr (Int32.le_trans (by decide : (0 : Int32) ≤ 1) h.1)) h.2
  subst ej
  rw [nI_clamp (by omega)]
  exact ⟨rfl, hj⟩
theorem in0 {k M : Int32} {N : Nat} (hM : M = nI N) (hN : N < 2 ^ 31) (c : ¬ bI (0 ≤ k ∧ k ≤ M) = 0) : k = nI k.toNatClampNeg ∧ k.toNatClampNeg ≤ N := by
  have h := bI1 c
  obtain ⟨j, hj, ej⟩ := nI_of2 (M := M) (n := N) (by rw [hM]; exact nI_toInt hN) (Int32.not_lt.mpr h.1) h.2
  subst ej
  rw [nI_clamp (by omega)]
  exact ⟨rfl, hj⟩
theorem chS_n {h : Hp} {p b s : Int32} : ∀ (F : Nat) {x : Int32}, x = -1 → m_chS h p b F x s = s
  | 0, _, _ => rfl
  | _ + 1, _, hx => if_pos hx
theorem chS_y {h : Hp} {p b s : Int32} {F : Nat} {x : Int32} (hx : ¬ x = -1) : m_chS h p b (F + 1) x s = m_chS h p b F (m_po h x 3) (if x = p then s ||| b else s) := if_neg hx
/-- the chains of links end -/
def HCh (n : Nat) (h : Hp) : Prop := ∀ j, j < n → m_ch h 10 (m_po h (nI j) 3)
def m_pondV (n f : Nat) (h : Hp) (x : Int32) : Nat → Int32
  | 0 => m_fx h x 0
  | 1 => m_fx h x 1
  | 2 => m_fx h x 2
  | 3 => m_fx h x 3
  | 4 => m_holds h x
  | 5 => m_po h x 0
  | 6 => m_po h x 1
  | 7 => m_po h x 2
  | 8 => m_po h x 3
  | 9 => m_at h f x
  | 10 => m_po h x 4
  | _ => m_abv h x n
def m_flV (h : Hp) (x : Int32) : Nat → Int32
  | 0 => m_fl h x 0
  | 1 => m_fl h x 1
  | 2 => m_fl h x 2
  | 3 => m_fl h x 3
  | 5 => m_fl h x 4
  | _ => if m_fl h x 2 = 10 then 1 else 0
def m_cnV (n f : Nat) (h : Hp) : Nat → Int32
  | 0 => h 69 0
  | 1 => h 64 1
  | 2 => h 64 3
  | 3 => m_lost h f
  | 4 => h 69 1
  | 5 => m_all h n
  | 6 => m_dry h n
  | _ => m_sheep h f
def y_pond (n f : Nat) (h : Hp) (x w : Int32) : Int32 × Hp := if bI (0 ≤ x ∧ x ≤ y0 h 64 1 - 1) = 0 then yF h 1 else if bI (0 ≤ w ∧ w ≤ 11) = 0 then yF h 1 else (m_pondV n f (y0 h) x w.toNatClampNeg, y0 h)
def y_flock (h : Hp) (x w : Int32) : Int32 × Hp := if bI (0 ≤ x ∧ x ≤ y0 h 64 3 - 1) = 0 then yF h 1 else if bI (0 ≤ w ∧ w ≤ 5) = 0 then yF h 1 else (m_flV (y0 h) x w.toNatClampNeg, y0 h)
def y_count (n f : Nat) (h : Hp) (w : Int32) : Int32 × Hp := if bI (0 ≤ w ∧ w ≤ 7) = 0 then yF h 1 else (m_cnV n f (y0 h) w.toNatClampNeg, y0 h)
set_option maxRecDepth 100000 in
set_option maxHeartbeats 1600000 in
theorem ct_X5_pass {g : gW} {l : Launch} {h : Hp} {n f t : Nat} (H : OM n f h) (ht : h 69 0 = nI t) (ht31 : t + 100 < 2 ^ 31) {k : Int32} : CT g l yX5_pass cX5_pass 4 (some FieldType.int) 5 0 0 [.ref (gB g + 64), .int k] h (some (.int (y_pass n f t h k).1)) (y_pass n f t h k).2 := by
  refine CT.of (lv0 := [(0, .ref (gB g + 64)), (1, .int k)]) mf_X5_pass.1.2.2.2 (Nat.le_of_ble_eq_true rfl) rfl ?_
  intro p e s m below meth c C hr
  have ht0 : y0 h 69 0 = nI t := by rw [y0_ne (by omega)]; exact ht
  have L : ∀ (fu j : Nat), j ≤ k.toNatClampNeg → k.toNatClampNeg < fu + j → ¬ bI (1 ≤ k ∧ k ≤ 100) = 0 → k = nI k.toNatClampNeg → k.toNatClampNeg ≤ 100 → WW g p l e (rK 5 0 0) s m ([.ref (gB g + 64), .int k] : List Value).toArray below meth c 4 [] (m_days n f t (y0 h) j) [(0, .ref (gB g + 64)), (1, .int k), (2, .int (m_daysU n f t (y0 h) j)), (3, .int (nI j))] 0 0 (MQ below (QW g s.heap.size (some (.int (y_pass n f t h k).1)) (y_pass n f t h k).2) ([.ref (gB g + 64), .int k] : List Value).toArray s 0 0 (AA g s.heap.size)) 25 [] := by
    intro fu
    induction fu with
    | zero => intro j h1 h2; omega
    | succ fu ih =>
      intro j hj hfu c12 ek hk
      have Hj := mdays_ok H.yy ht0 j
      refine ww_iload_n C dX5_pass_25 3 rfl rfl ?_
      refine ww_iload_n C dX5_pass_26 1 rfl rfl ?_
      refine ww_icmp_ge C dX5_pass_27 43 (by decide) (fun q => ?_) (fun q => ?_)
      · have hjn := lp_exit ek q hj (by omega)
        subst hjn
        refine ww_iload_n C dX5_pass_43 2 rfl rfl ?_
        exact ww_iret C hr (by simp only [y_pass, yF, c12, if_true, if_false]) (by simp only [y_pass, yF, c12, if_true, if_false]) dX5_pass_44
      · have hjn := lp_body ek q hj (by omega)
        refine ww_iload_n C dX5_pass_30 2 rfl rfl ?_
        refine ww_aload_n C dX5_pass_31 0 rfl rfl ?_
        refine ww_callM C mf_X5_dayOn dX5_pass_32 (ct_X5_dayOn Hj.1 Hj.2 (by omega)) q_m_X5_131 rfl rfl rfl (Nat.le_of_ble_eq_true rfl) (by exact ⟨Nat.le_of_ble_eq_true rfl, Nat.le_of_ble_eq_true rfl⟩) (by exact ⟨Nat.le_of_ble_eq_true rfl, Nat.le_of_ble_eq_true rfl⟩) ?_
        refine ww_iadd C dX5_pass_35 ?_
        refine ww_istore_n C dX5_pass_36 2 rfl (by decide) ?_
        refine ww_iinc (v := nI (j + 1)) C dX5_pass_37 rfl (nI_inc _) (by decide) ?_
        refine ww_goto C dX5_pass_40 25 (by decide) ?_
        refine ww_lv [(0, .ref (gB g + 64)), (1, .int k), (2, .int (m_daysU n f t (y0 h) (j + 1))), (3, .int (nI (j + 1)))] ⟨rfl, rfl, rfl, rfl, trivial⟩ ?_
        exact ih (j + 1) hjn (by omega) c12 ek hk
  refine ww_aload_n C dX5_pass_0 0 rfl rfl ?_
  refine ww_iconst (v := 0) C dX5_pass_1 (by decide) ?_
  refine ww_putM C 0 (by decide) q_f_X5_25 dX5_pass_2 ?_
  refine ww_heap (h2 := y0 h) rfl ?_
  refine ww_iload_n C dX5_pass_5 1 rfl rfl ?_
  refine ww_iconst (v := 1) C dX5_pass_6 (by decide) ?_
  refine ww_bipush (v := 100) C dX5_pass_7 (by decide) ?_
  refine ww_callS C mf_X5_isIn ct_X5_isIn q_m_X5_32 rfl rfl (Nat.le_of_ble_eq_true rfl) (by exact ⟨Nat.le_of_ble_eq_true rfl, Nat.le_of_ble_eq_true rfl⟩) (by exact ⟨Nat.le_of_ble_eq_true rfl, Nat.le_of_ble_eq_true rfl⟩) dX5_pass_9 ?_
  refine ww_if_ne C dX5_pass_12 21 (by decide) (fun c12 => ?_) (fun c12 => ?_)
  · obtain ⟨ek, hk⟩ := in1 (N := 100) rfl (by omega) c12
    refine ww_iconst (v := 0) C dX5_pass_21 (by decide) ?_
    refine ww_istore_n C dX5_pass_22 2 rfl (by decide) ?_
    refine ww_iconst (v := 0) C dX5_pass_23 (by decide) ?_
    refine ww_istore_n C dX5_pass_24 3 rfl (by decide) ?_
    refine ww_lv [(0, .ref (gB g + 64)), (1, .int k), (2, .int (m_daysU n f t (y0 h) 0)), (3, .int (nI 0))] ⟨rfl, rfl, rfl, rfl, trivial⟩ ?_
    exact L (k.toNatClampNeg + 1) 0 (Nat.zero_le _) (by omega) c12 ek hk
  · refine ww_aload_n C dX5_pass_15 0 rfl rfl ?_
    refine ww_iconst (v := 1) C dX5_pass_16 (by decide) ?_
    refine ww_callM C mf_X5_fail dX5_pass_17 ct_X5_fail q_m_X5_49 rfl rfl rfl (Nat.le_of_ble_eq_true rfl) (by exact ⟨Nat.le_of_ble_eq_true rfl, Nat.le_of_ble_eq_true rfl⟩) (by exact ⟨Nat.le_of_ble_eq_true rfl, Nat.le_of_ble_eq_true rfl⟩) ?_
    exact ww_iret C hr (by simp only [y_pass, yF, c12, if_true, if_false]) (by simp only [y_pass, yF, c12, if_true, if_false]) dX5_pass_20
set_option maxRecDepth 100000 in
set_option maxHeartbeats 1600000 in
theorem ct_X5_above {g : gW} {l : Launch} {h : Hp} {n f : Nat} (H : OM n f h) (HC : HCh n h) {x : Int32} : CT g l yX5_above cX5_above 5 (some FieldType.int) 2 0 0 [.ref (gB g + 64), .int x] h (some (.int (m_abv h x n))) h := by
  refine CT.of (lv0 := [(0, .ref (gB g + 64)), (1, .int x)]) mf_X5_above.1.2.2.2 (Nat.le_of_ble_eq_true rfl) rfl ?_
  intro p e s m below meth c C hr
  have hn := H.1
  have hn10 := H.2.1
  have hf := H.2.2.1
  have hf7 := H.2.2.2.1
  have Li : ∀ (j : Nat) (q F : Nat) (x4 s0 : Int32), j < n → q ≤ F → m_ch h q x4 → (x4 = -1 ∨ isN n x4) → WW g p l e (rK 2 0 0) s m ([.ref (gB g + 64), .int x] : List Value).toArray below meth c 5 [] h [(0, .ref (gB g + 64)), (1, .int x), (2, .int (m_chS h x ((1 : Int32) <<< (nI j &&& 31)) F x4 s0)), (3, .int (nI j))] 0 0 (MQ below (QW g s.heap.size (some (.int (m_abv h x n))) h) ([.ref (gB g + 64), .int x] : List Value).toArray s 0 0 (AA g s.heap.size)) 50 [] → WW g p l e (rK 2 0 0) s m ([.ref (gB g + 64), .int x] : List Value).toArray below meth c 5 [] h [(0, .ref (gB g + 64)), (1, .int x), (2, .int s0), (3, .int (nI j)), (4, .int x4)] 0 0 (MQ below (QW g s.heap.size (some (.int (m_abv h x n))) h) ([.ref (gB g + 64), .int x] : List Value).toArray s 0 0 (AA g s.heap.size)) 20 [] := by
    intro j q
    induction q with
    | zero =>
      intro F x4 s0 hj hq hc hx4 hcont
      refine ww_iload C dX5_above_20 rfl ?_
      refine ww_iconst (v := (-1)) C dX5_above_22 (by decide) ?_
      refine ww_icmp_eq C dX5_above_23 50 (by decide) (fun _ => ?_) (fun q => absurd hc q)
      rw [chS_n F hc] at hcont
      refine ww_lv [(0, .ref (gB g + 64)), (1, .int x), (2, .int s0), (3, .int (nI j))] ⟨rfl, rfl, rfl, rfl, trivial⟩ ?_
      exact hcont
    | succ q ih =>
      intro F x4 s0 hj hq hc hx4n hcont
      have hx4 := hx4n
      refine ww_iload C dX5_above_20 rfl ?_
      refine ww_iconst (v := (-1)) C dX5_above_22 (by decide) ?_
      refine ww_icmp_eq C dX5_above_23 50 (by decide) (fun c23 => ?_) (fun c23 => ?_)
      · rw [chS_n F c23] at hcont
        refine ww_lv [(0, .ref (gB g + 64)), (1, .int x), (2, .int s0), (3, .int (nI j))] ⟨rfl, rfl, rfl, rfl, trivial⟩ ?_
        exact hcont
      · have hx4 : isN 10 x4 := isN_up (hx4.resolve_left c23) hn10
        have hl : m_po h x4 3 = -1 ∨ isN n (m_po h x4 3) := by
          obtain ⟨a, ha, ea⟩ := hx4n.resolve_left c23
          rw [ea]
          exact m_po_in H ha
        obtain ⟨F, rfl⟩ : ∃ F2, F = F2 + 1 := ⟨F - 1, by omega⟩
        rw [chS_y c23] at hcont
        refine ww_iload C dX5_above_26 rfl ?_
        refine ww_iload_n C dX5_above_28 1 rfl rfl ?_
        refine ww_icmp_ne C dX5_above_29 38 (by decide) (fun c29 => ?_) (fun c29 => ?_)
        · refine ww_aload_n C dX5_above_38 0 rfl rfl ?_
          refine ww_iload C dX5_above_39 rfl ?_
          refine ww_iconst (v := 3) C dX5_above_41 (by decide) ?_
          refine ww_callM C mf_X5_po dX5_above_42 (ct_X5_po (by first | exact ix_0 (by assumption) | exact ix_1 (by assumption) | exact ix_2 (by assumption) | exact ix_3 (by assumption) | exact ix_4 (by assumption))) q_m_X5_66 rfl rfl rfl (Nat.le_of_ble_eq_true rfl) (by exact ⟨Nat.le_of_ble_eq_true rfl, Nat.le_of_ble_eq_true rfl⟩) (by exact ⟨Nat.le_of_ble_eq_true rfl, Nat.le_of_ble_eq_true rfl⟩) ?_
          refine ww_istore C dX5_above_45 (by decide) ?_
          refine ww_goto C dX5_above_47 20 (by decide) ?_
          refine ww_lv [(0, .ref (gB g + 64)), (1, .int x), (2, .int (if x4 = x then s0 ||| ((1 : Int32) <<< (nI j &&& 31)) else s0)), (3, .int (nI j)), (4, .int (m_po h x4 3))] ⟨rfl, rfl, (by first | exact (congrArg (fun z => some (Value.int z)) (if_pos c29)).symm | exact (congrArg (fun z => some (Value.int z)) (if_neg c29)).symm), rfl, rfl, trivial⟩ ?_
          exact ih F _ _ hj (by omega) (hc.resolve_left c23) hl hcont
        · refine ww_iload_n C dX5_above_32 2 rfl rfl ?_
          refine ww_iconst (v := 1) C dX5_above_33 (by decide) ?_
          refine ww_iload_n C dX5_above_34 3 rfl rfl ?_
          refine ww_ishl C dX5_above_35 ?_
          refine ww_ior C dX5_above_36 ?_
          refine ww_istore_n C dX5_above_37 2 rfl (by decide) ?_
          refine ww_aload_n C dX5_above_38 0 rfl rfl ?_
          refine ww_iload C dX5_above_39 rfl ?_
          refine ww_iconst (v := 3) C dX5_above_41 (by decide) ?_
          refine ww_callM C mf_X5_po dX5_above_42 (ct_X5_po (by first | exact ix_0 (by assumption) | exact ix_1 (by assumption) | exact ix_2 (by assumption) | exact ix_3 (by assumption) | exact ix_4 (by assumption))) q_m_X5_66 rfl rfl rfl (Nat.le_of_ble_eq_true rfl) (by exact ⟨Nat.le_of_ble_eq_true rfl, Nat.le_of_ble_eq_true rfl⟩) (by exact ⟨Nat.le_of_ble_eq_true rfl, Nat.le_of_ble_eq_true rfl⟩) ?_
          refine ww_istore C dX5_above_45 (by decide) ?_
          refine ww_goto C dX5_above_47 20 (by decide) ?_
          refine ww_lv [(0, .ref (gB g + 64)), (1, .int x), (2, .int (if x4 = x then s0 ||| ((1 : Int32) <<< (nI j &&& 31)) else s0)), (3, .int (nI j)), (4, .int (m_po h x4 3))] ⟨rfl, rfl, (by first | exact (congrArg (fun z => some (Value.int z)) (if_pos c29)).symm | exact (congrArg (fun z => some (Value.int z)) (if_neg c29)).symm), rfl, rfl, trivial⟩ ?_
          exact ih F _ _ hj (by omega) (hc.resolve_left c23) hl hcont
  have L : ∀ (fu j : Nat), j ≤ n → n < fu + j → WW g p l e (rK 2 0 0) s m ([.ref (gB g + 64), .int x] : List Value).toArray below meth c 5 [] h [(0, .ref (gB g + 64)), (1, .int x), (2, .int (m_abv h x j)), (3, .int (nI j))] 0 0 (MQ below (QW g s.heap.size (some (.int (m_abv h x n))) h) ([.ref (gB g + 64), .int x] : List Value).toArray s 0 0 (AA g s.heap.size)) 4 [] := by
    intro fu
    induction fu with
    | zero => intro j h1 h2; omega
    | succ fu ih =>
      intro j hj hfu
      refine ww_iload_n C dX5_above_4 3 rfl rfl ?_
      refine ww_aload_n C dX5_above_5 0 rfl rfl ?_
      refine ww_getM C 1 (by decide) q_f_X5_29 dX5_above_6 ?_
      refine ww_icmp_ge C dX5_above_9 56 (by decide) (fun q => ?_) (fun q => ?_)
      · have hjn := lp_exit hn q hj (by omega)
        subst hjn
        refine ww_iload_n C dX5_above_56 2 rfl rfl ?_
        exact ww_iret C hr rfl rfl dX5_above_57
      · have hjn := lp_body hn q hj (by omega)
        have hx : isN 10 (nI j) := ⟨j, by omega, rfl⟩
        refine ww_aload_n C dX5_above_12 0 rfl rfl ?_
        refine ww_iload_n C dX5_above_13 3 rfl rfl ?_
        refine ww_iconst (v := 3) C dX5_above_14 (by decide) ?_
        refine ww_callM C mf_X5_po dX5_above_15 (ct_X5_po (by first | exact ix_0 (by assumption) | exact ix_1 (by assumption) | exact ix_2 (by assumption) | exact ix_3 (by assumption) | exact ix_4 (by assumption))) q_m_X5_66 rfl rfl rfl (Nat.le_of_ble_eq_true rfl) (by exact ⟨Nat.le_of_ble_eq_true rfl, Nat.le_of_ble_eq_true rfl⟩) (by exact ⟨Nat.le_of_ble_eq_true rfl, Nat.le_of_ble_eq_true rfl⟩) ?_
        refine ww_istore C dX5_above_18 (by decide) ?_
        refine ww_lv [(0, .ref (gB g + 64)), (1, .int x), (2, .int (m_abv h x j)), (3, .int (nI j)), (4, .int (m_po h (nI j) 3))] ⟨rfl, rfl, rfl, rfl, rfl, trivial⟩ ?_
        refine Li j 10 11 _ _ hjn (by omega) (HC j hjn) (m_po_in H hjn) ?_
        refine ww_lv [(0, .ref (gB g + 64)), (1, .int x), (2, .int (m_abv h x (j + 1))), (3, .int (nI j))] ⟨rfl, rfl, rfl, rfl, trivial⟩ ?_
        refine ww_iinc (v := nI (j + 1)) C dX5_above_50 rfl (nI_inc _) (by decide) ?_
        refine ww_goto C dX5_above_53 4 (by decide) ?_
        refine ww_lv [(0, .ref (gB g + 64)), (1, .int x), (2, .int (m_abv h x (j + 1))), (3, .int (nI (j + 1)))] ⟨rfl, rfl, rfl, rfl, trivial⟩ ?_
        exact ih (j + 1) hjn (by omega)
  refine ww_iconst (v := 0) C dX5_above_0 (by decide) ?_
  refine ww_istore_n C dX5_above_1 2 rfl (by decide) ?_
  refine ww_iconst (v := 0) C dX5_above_2 (by decide) ?_
  refine ww_istore_n C dX5_above_3 3 rfl (by decide) ?_
  refine ww_lv [(0, .ref (gB g + 64)), (1, .int x), (2, .int (m_abv h x 0)), (3, .int (nI 0))] ⟨rfl, rfl, rfl, rfl, trivial⟩ ?_
  exact L (n + 1) 0 (Nat.zero_le _) (by omega)
set_option maxRecDepth 100000 in
set_option maxHeartbeats 1600000 in
theorem ct_X5_pondTold {g : gW} {l : Launch} {h : Hp} {n f : Nat} (H : OM n f h) (HC : HCh n h) {x : Int32} {k : Nat} (hx0 : isN n x) (hk : k < 12) : CT g l yX5_pondTold cX5_pondTold 3 (some FieldType.int) 3 0 0 [.ref (gB g + 64), .int x, .int (nI k)] h (some (.int (m_pondV n f h x k))) h := by
  refine CT.of (lv0 := [(0, .ref (gB g + 64)), (1, .int x), (2, .int (nI k))]) mf_X5_pondTold.1.2.2.2 (Nat.le_of_ble_eq_true rfl) rfl ?_
  intro p e s m below meth c C hr
  have hn := H.1
  have hn10 := H.2.1
  have hf := H.2.2.1
  have hf7 := H.2.2.2.1
  have hx := isN_up hx0 hn10
  refine ww_iload_n C dX5_pondTold_0 2 rfl rfl ?_
  rcases (show k = 0 ∨ k = 1 ∨ k = 2 ∨ k = 3 ∨ k = 4 ∨ k = 5 ∨ k = 6 ∨ k = 7 ∨ k = 8 ∨ k = 9 ∨ k = 10 ∨ k = 11 by omega) with rfl | rfl | rfl | rfl | rfl | rfl | rfl | rfl | rfl | rfl | rfl | rfl
  · refine ww_tabIn C dX5_pondTold_1 59 60 (by decide) (by decide) (by decide) (by decide) ?_
    refine ww_aload_n C dX5_pondTold_60 0 rfl rfl ?_
    refine ww_iload_n C dX5_pondTold_61 1 rfl rfl ?_
    refine ww_iload_n C dX5_pondTold_62 2 rfl rfl ?_
    refine ww_top (show nI 0 = 0 from rfl) ?_
    refine ww_callM C mf_X5_fx dX5_pondTold_63 (ct_X5_fx (by first | exact ix_0 (by assumption) | exact ix_1 (by assumption) | exact ix_2 (by assumption) | exact ix_3 (by assumption) | exact ix_4 (by assumption))) q_m_X5_39 rfl rfl rfl (Nat.le_of_ble_eq_true rfl) (by exact ⟨Nat.le_of_ble_eq_true rfl, Nat.le_of_ble_eq_true rfl⟩) (by exact ⟨Nat.le_of_ble_eq_true rfl, Nat.le_of_ble_eq_true rfl⟩) ?_
    exact ww_iret C hr rfl rfl dX5_pondTold_66
  · refine ww_tabIn C dX5_pondTold_1 59 60 (by decide) (by decide) (by decide) (by decide) ?_
    refine ww_aload_n C dX5_pondTold_60 0 rfl rfl ?_
    refine ww_iload_n C dX5_pondTold_61 1 rfl rfl ?_
    refine ww_iload_n C dX5_pondTold_62 2 rfl rfl ?_
    refine ww_top (show nI 1 = 1 from rfl) ?_
    refine ww_callM C mf_X5_fx dX5_pondTold_63 (ct_X5_fx (by first | exact ix_0 (by assumption) | exact ix_1 (by assumption) | exact ix_2 (by assumption) | exact ix_3 (by assumption) | exact ix_4 (by assumption))) q_m_X5_39 rfl rfl rfl (Nat.le_of_ble_eq_true rfl) (by exact ⟨Nat.le_of_ble_eq_true rfl, Nat.le_of_ble_eq_true rfl⟩) (by exact ⟨Nat.le_of_ble_eq_true rfl, Nat.le_of_ble_eq_true rfl⟩) ?_
    exact ww_iret C hr rfl rfl dX5_pondTold_66
  · refine ww_tabIn C dX5_pondTold_1 59 60 (by decide) (by decide) (by decide) (by decide) ?_
    refine ww_aload_n C dX5_pondTold_60 0 rfl rfl ?_
    refine ww_iload_n C dX5_pondTold_61 1 rfl rfl ?_
    refine ww_iload_n C dX5_pondTold_62 2 rfl rfl ?_
    refine ww_top (show nI 2 = 2 from rfl) ?_
    refine ww_callM C mf_X5_fx dX5_pondTold_63 (ct_X5_fx (by first | exact ix_0 (by assumption) | exact ix_1 (by assumption) | exact ix_2 (by assumption) | exact ix_3 (by assumption) | exact ix_4 (by assumption))) q_m_X5_39 rfl rfl rfl (Nat.le_of_ble_eq_true rfl) (by exact ⟨Nat.le_of_ble_eq_true rfl, Nat.le_of_ble_eq_true rfl⟩) (by exact ⟨Nat.le_of_ble_eq_true rfl, Nat.le_of_ble_eq_true rfl⟩) ?_
    exact ww_iret C hr rfl rfl dX5_pondTold_66
  · refine ww_tabIn C dX5_pondTold_1 59 60 (by decide) (by decide) (by decide) (by decide) ?_
    refine ww_aload_n C dX5_pondTold_60 0 rfl rfl ?_
    refine ww_iload_n C dX5_pondTold_61 1 rfl rfl ?_
    refine ww_iload_n C dX5_pondTold_62 2 rfl rfl ?_
    refine ww_top (show nI 3 = 3 from rfl) ?_
    refine ww_callM C mf_X5_fx dX5_pondTold_63 (ct_X5_fx (by first | exact ix_0 (by assumption) | exact ix_1 (by assumption) | exact ix_2 (by assumption) | exact ix_3 (by assumption) | exact ix_4 (by assumption))) q_m_X5_39 rfl rfl rfl (Nat.le_of_ble_eq_true rfl) (by exact ⟨Nat.le_of_ble_eq_true rfl, Nat.le_of_ble_eq_true rfl⟩) (by exact ⟨Nat.le_of_ble_eq_true rfl, Nat.le_of_ble_eq_true rfl⟩) ?_
    exact ww_iret C hr rfl rfl dX5_pondTold_66
  · refine ww_tabIn C dX5_pondTold_1 66 67 (by decide) (by decide) (by decide) (by decide) ?_
    refine ww_aload_n C dX5_pondTold_67 0 rfl rfl ?_
    refine ww_iload_n C dX5_pondTold_68 1 rfl rfl ?_
    refine ww_callM C mf_X5_holds dX5_pondTold_69 (ct_X5_holds hx) q_m_X5_69 rfl rfl rfl (Nat.le_of_ble_eq_true rfl) (by exact ⟨Nat.le_of_ble_eq_true rfl, Nat.le_of_ble_eq_true rfl⟩) (by exact ⟨Nat.le_of_ble_eq_true rfl, Nat.le_of_ble_eq_true rfl⟩) ?_
    exact ww_iret C hr rfl rfl dX5_pondTold_72
  · refine ww_tabIn C dX5_pondTold_1 72 73 (by decide) (by decide) (by decide) (by decide) ?_
    refine ww_aload_n C dX5_pondTold_73 0 rfl rfl ?_
    refine ww_iload_n C dX5_pondTold_74 1 rfl rfl ?_
    refine ww_iload_n C dX5_pondTold_75 2 rfl rfl ?_
    refine ww_iconst (v := 5) C dX5_pondTold_76 (by decide) ?_
    refine ww_isub C dX5_pondTold_77 ?_
    refine ww_top (show nI 5 - 5 = 0 from by decide) ?_
    refine ww_callM C mf_X5_po dX5_pondTold_78 (ct_X5_po (by first | exact ix_0 (by assumption) | exact ix_1 (by assumption) | exact ix_2 (by assumption) | exact ix_3 (by assumption) | exact ix_4 (by assumption))) q_m_X5_66 rfl rfl rfl (Nat.le_of_ble_eq_true rfl) (by exact ⟨Nat.le_of_ble_eq_true rfl, Nat.le_of_ble_eq_true rfl⟩) (by exact ⟨Nat.le_of_ble_eq_true rfl, Nat.le_of_ble_eq_true rfl⟩) ?_
    exact ww_iret C hr rfl rfl dX5_pondTold_81
  · refine ww_tabIn C dX5_pondTold_1 72 73 (by decide) (by decide) (by decide) (by decide) ?_
    refine ww_aload_n C dX5_pondTold_73 0 rfl rfl ?_
    refine ww_iload_n C dX5_pondTold_74 1 rfl rfl ?_
    refine ww_iload_n C dX5_pondTold_75 2 rfl rfl ?_
    refine ww_iconst (v := 5) C dX5_pondTold_76 (by decide) ?_
    refine ww_isub C dX5_pondTold_77 ?_
    refine ww_top (show nI 6 - 5 = 1 from by decide) ?_
    refine ww_callM C mf_X5_po dX5_pondTold_78 (ct_X5_po (by first | exact ix_0 (by assumption) | exact ix_1 (by assumption) | exact ix_2 (by assumption) | exact ix_3 (by assumption) | exact ix_4 (by assumption))) q_m_X5_66 rfl rfl rfl (Nat.le_of_ble_eq_true rfl) (by exact ⟨Nat.le_of_ble_eq_true rfl, Nat.le_of_ble_eq_true rfl⟩) (by exact ⟨Nat.le_of_ble_eq_true rfl, Nat.le_of_ble_eq_true rfl⟩) ?_
    exact ww_iret C hr rfl rfl dX5_pondTold_81
  · refine ww_tabIn C dX5_pondTold_1 72 73 (by decide) (by decide) (by decide) (by decide) ?_
    refine ww_aload_n C dX5_pondTold_73 0 rfl rfl ?_
    refine ww_iload_n C dX5_pondTold_74 1 rfl rfl ?_
    refine ww_iload_n C dX5_pondTold_75 2 rfl rfl ?_
    refine ww_iconst (v := 5) C dX5_pondTold_76 (by decide) ?_
    refine ww_isub C dX5_pondTold_77 ?_
    refine ww_top (show nI 7 - 5 = 2 from by decide) ?_
    refine ww_callM C mf_X5_po dX5_pondTold_78 (ct_X5_po (by first | exact ix_0 (by assumption) | exact ix_1 (by assumption) | exact ix_2 (by assumption) | exact ix_3 (by assumption) | exact ix_4 (by assumption))) q_m_X5_66 rfl rfl rfl (Nat.le_of_ble_eq_true rfl) (by exact ⟨Nat.le_of_ble_eq_true rfl, Nat.le_of_ble_eq_true rfl⟩) (by exact ⟨Nat.le_of_ble_eq_true rfl, Nat.le_of_ble_eq_true rfl⟩) ?_
    exact ww_iret C hr rfl rfl dX5_pondTold_81
  · refine ww_tabIn C dX5_pondTold_1 72 73 (by decide) (by decide) (by decide) (by decide) ?_
    refine ww_aload_n C dX5_pondTold_73 0 rfl rfl ?_
    refine ww_iload_n C dX5_pondTold_74 1 rfl rfl ?_
    refine ww_iload_n C dX5_pondTold_75 2 rfl rfl ?_
    refine ww_iconst (v := 5) C dX5_pondTold_76 (by decide) ?_
    refine ww_isub C dX5_pondTold_77 ?_
    refine ww_top (show nI 8 - 5 = 3 from by decide) ?_
    refine ww_callM C mf_X5_po dX5_pondTold_78 (ct_X5_po (by first | exact ix_0 (by assumption) | exact ix_1 (by assumption) | exact ix_2 (by assumption) | exact ix_3 (by assumption) | exact ix_4 (by assumption))) q_m_X5_66 rfl rfl rfl (Nat.le_of_ble_eq_true rfl) (by exact ⟨Nat.le_of_ble_eq_true rfl, Nat.le_of_ble_eq_true rfl⟩) (by exact ⟨Nat.le_of_ble_eq_true rfl, Nat.le_of_ble_eq_true rfl⟩) ?_
    exact ww_iret C hr rfl rfl dX5_pondTold_81
  · refine ww_tabIn C dX5_pondTold_1 81 82 (by decide) (by decide) (by decide) (by decide) ?_
    refine ww_aload_n C dX5_pondTold_82 0 rfl rfl ?_
    refine ww_iload_n C dX5_pondTold_83 1 rfl rfl ?_
    refine ww_callM C mf_X5_flocksAt dX5_pondTold_84 (ct_X5_flocksAt H) q_m_X5_90 rfl rfl rfl (Nat.le_of_ble_eq_true rfl) (by exact ⟨Nat.le_of_ble_eq_true rfl, Nat.le_of_ble_eq_true rfl⟩) (by exact ⟨Nat.le_of_ble_eq_true rfl, Nat.le_of_ble_eq_true rfl⟩) ?_
    exact ww_iret C hr rfl rfl dX5_pondTold_87
  · refine ww_tabIn C dX5_pondTold_1 87 88 (by decide) (by decide) (by decide) (by decide) ?_
    refine ww_aload_n C dX5_pondTold_88 0 rfl rfl ?_
    refine ww_iload_n C dX5_pondTold_89 1 rfl rfl ?_
    refine ww_iconst (v := 4) C dX5_pondTold_90 (by decide) ?_
    refine ww_callM C mf_X5_po dX5_pondTold_91 (ct_X5_po (by first | exact ix_0 (by assumption) | exact ix_1 (by assumption) | exact ix_2 (by assumption) | exact ix_3 (by assumption) | exact ix_4 (by assumption))) q_m_X5_66 rfl rfl rfl (Nat.le_of_ble_eq_true rfl) (by exact ⟨Nat.le_of_ble_eq_true rfl, Nat.le_of_ble_eq_true rfl⟩) (by exact ⟨Nat.le_of_ble_eq_true rfl, Nat.le_of_ble_eq_true rfl⟩) ?_
    exact ww_iret C hr rfl rfl dX5_pondTold_94
  · refine ww_tabOut C dX5_pondTold_1 95 (Or.inr (by decide)) (by decide) ?_
    refine ww_aload_n C dX5_pondTold_95 0 rfl rfl ?_
    refine ww_iload_n C dX5_pondTold_96 1 rfl rfl ?_
    refine ww_callM C mf_X5_above dX5_pondTold_97 (ct_X5_above H HC) q_m_X5_93 rfl rfl rfl (Nat.le_of_ble_eq_true rfl) (by exact ⟨Nat.le_of_ble_eq_true rfl, Nat.le_of_ble_eq_true rfl⟩) (by exact ⟨Nat.le_of_ble_eq_true rfl, Nat.le_of_ble_eq_true rfl⟩) ?_
    exact ww_iret C hr rfl rfl dX5_pondTold_100
set_option maxRecDepth 100000 in
set_option maxHeartbeats 1600000 in
theorem ct_X5_pond {g : gW} {l : Launch} {h : Hp} {n f : Nat} (H : OM n f h) (HC : HCh n (y0 h)) {x w : Int32} : CT g l yX5_pond cX5_pond 3 (some FieldType.int) 4 0 0 [.ref (gB g + 64), .int x, .int w] h (some (.int (y_pond n f h x w).1)) (y_pond n f h x w).2 := by
  refine CT.of (lv0 := [(0, .ref (gB g + 64)), (1, .int x), (2, .int w)]) mf_X5_pond.1.2.2.2 (Nat.le_of_ble_eq_true rfl) rfl ?_
  intro p e s m below meth c C hr
  have hn : y0 h 64 1 = nI n := H.yy.1
  have hn10 := H.2.1
  have hf : y0 h 64 3 = nI f := H.yy.2.2.1
  refine ww_aload_n C dX5_pond_0 0 rfl rfl ?_
  refine ww_iconst (v := 0) C dX5_pond_1 (by decide) ?_
  refine ww_putM C 0 (by decide) q_f_X5_25 dX5_pond_2 ?_
  refine ww_heap (h2 := y0 h) rfl ?_
  refine ww_aload_n C dX5_pond_5 0 rfl rfl ?_
  refine ww_iload_n C dX5_pond_6 1 rfl rfl ?_
  refine ww_callM C mf_X5_isPond dX5_pond_7 ct_X5_isPond q_m_X5_62 rfl rfl rfl (Nat.le_of_ble_eq_true rfl) (by exact ⟨Nat.le_of_ble_eq_true rfl, Nat.le_of_ble_eq_true rfl⟩) (by exact ⟨Nat.le_of_ble_eq_true rfl, Nat.le_of_ble_eq_true rfl⟩) ?_
  refine ww_if_eq C dX5_pond_10 32 (by decide) (fun c10 => ?_) (fun c10 => ?_)
  · refine ww_aload_n C dX5_pond_32 0 rfl rfl ?_
    refine ww_iconst (v := 1) C dX5_pond_33 (by decide) ?_
    refine ww_callM C mf_X5_fail dX5_pond_34 ct_X5_fail q_m_X5_49 rfl rfl rfl (Nat.le_of_ble_eq_true rfl) (by exact ⟨Nat.le_of_ble_eq_true rfl, Nat.le_of_ble_eq_true rfl⟩) (by exact ⟨Nat.le_of_ble_eq_true rfl, Nat.le_of_ble_eq_true rfl⟩) ?_
    exact ww_iret C hr (by simp only [y_pond, yF, c10, if_true, if_false]) (by simp only [y_pond, yF, c10, if_true, if_false]) dX5_pond_37
  · refine ww_iload_n C dX5_pond_13 2 rfl rfl ?_
    refine ww_iconst (v := 0) C dX5_pond_14 (by decide) ?_
    refine ww_bipush (v := 11) C dX5_pond_15 (by decide) ?_
    refine ww_callS C mf_X5_isIn ct_X5_isIn q_m_X5_32 rfl rfl (Nat.le_of_ble_eq_true rfl) (by exact ⟨Nat.le_of_ble_eq_true rfl, Nat.le_of_ble_eq_true rfl⟩) (by exact ⟨Nat.le_of_ble_eq_true rfl, Nat.le_of_ble_eq_true rfl⟩) dX5_pond_17 ?_
    refine ww_if_eq C dX5_pond_20 32 (by decide) (fun c20 => ?_) (fun c20 => ?_)
    · refine ww_aload_n C dX5_pond_32 0 rfl rfl ?_
      refine ww_iconst (v := 1) C dX5_pond_33 (by decide) ?_
      refine ww_callM C mf_X5_fail dX5_pond_34 ct_X5_fail q_m_X5_49 rfl rfl rfl (Nat.le_of_ble_eq_true rfl) (by exact ⟨Nat.le_of_ble_eq_true rfl, Nat.le_of_ble_eq_true rfl⟩) (by exact ⟨Nat.le_of_ble_eq_true rfl, Nat.le_of_ble_eq_true rfl⟩) ?_
      exact ww_iret C hr (by simp only [y_pond, yF, c10, c20, if_true, if_false]) (by simp only [y_pond, yF, c10, c20, if_true, if_false]) dX5_pond_37
    · have hx : isN n x := mN hn hn10 c10
      obtain ⟨ek, hk⟩ := in0 (N := 11) rfl (by omega) c20
      refine ww_aload_n C dX5_pond_23 0 rfl rfl ?_
      refine ww_iload_n C dX5_pond_24 1 rfl rfl ?_
      refine ww_iload_n C dX5_pond_25 2 rfl rfl ?_
      refine ww_top ek ?_
      refine ww_callM C mf_X5_pondTold dX5_pond_26 (ct_X5_pondTold H.yy HC hx (by omega)) q_m_X5_96 rfl rfl rfl (Nat.le_of_ble_eq_true rfl) (by exact ⟨Nat.le_of_ble_eq_true rfl, Nat.le_of_ble_eq_true rfl⟩) (by exact ⟨Nat.le_of_ble_eq_true rfl, Nat.le_of_ble_eq_true rfl⟩) ?_
      refine ww_goto C dX5_pond_29 37 (by decide) ?_
      exact ww_iret C hr (by simp only [y_pond, yF, c10, c20, if_true, if_false]) (by simp only [y_pond, yF, c10, c20, if_true, if_false]) dX5_pond_37
set_option maxRecDepth 100000 in
set_option maxHeartbeats 1600000 in
theorem ct_X5_flockTold {g : gW} {l : Launch} {h : Hp} {x : Int32} {k : Nat} (hx : isN 7 x) (hk : k < 6) : CT g l yX5_flockTold cX5_flockTold 3 (some FieldType.int) 2 0 0 [.ref (gB g + 64), .int x, .int (nI k)] h (some (.int (m_flV h x k))) h := by
  refine CT.of (lv0 := [(0, .ref (gB g + 64)), (1, .int x), (2, .int (nI k))]) mf_X5_flockTold.1.2.2.2 (Nat.le_of_ble_eq_true rfl) rfl ?_
  intro p e s m below meth c C hr
  rcases (show k = 0 ∨ k = 1 ∨ k = 2 ∨ k = 3 ∨ k = 4 ∨ k = 5 by omega) with rfl | rfl | rfl | rfl | rfl | rfl
  · refine ww_iload_n C dX5_flockTold_0 2 rfl rfl ?_
    refine ww_iconst (v := 4) C dX5_flockTold_1 (by decide) ?_
    refine ww_icmp_ge C dX5_flockTold_2 14 (by decide) (fun q => absurd q (show ¬ nI 0 ≥ 4 from by decide)) (fun _ => ?_)
    refine ww_aload_n C dX5_flockTold_5 0 rfl rfl ?_
    refine ww_iload_n C dX5_flockTold_6 1 rfl rfl ?_
    refine ww_iload_n C dX5_flockTold_7 2 rfl rfl ?_
    refine ww_top (show nI 0 = 0 from rfl) ?_
    refine ww_callM C mf_X5_fl dX5_flockTold_8 (ct_X5_fl (by first | exact jx_0 (by assumption) | exact jx_1 (by assumption) | exact jx_2 (by assumption) | exact jx_3 (by assumption) | exact jx_4 (by assumption))) q_m_X5_84 rfl rfl rfl (Nat.le_of_ble_eq_true rfl) (by exact ⟨Nat.le_of_ble_eq_true rfl, Nat.le_of_ble_eq_true rfl⟩) (by exact ⟨Nat.le_of_ble_eq_true rfl, Nat.le_of_ble_eq_true rfl⟩) ?_
    refine ww_goto C dX5_flockTold_11 41 (by decide) ?_
    exact ww_iret C hr rfl rfl dX5_flockTold_41
  · refine ww_iload_n C dX5_flockTold_0 2 rfl rfl ?_
    refine ww_iconst (v := 4) C dX5_flockTold_1 (by decide) ?_
    refine ww_icmp_ge C dX5_flockTold_2 14 (by decide) (fun q => absurd q (show ¬ nI 1 ≥ 4 from by decide)) (fun _ => ?_)
    refine ww_aload_n C dX5_flockTold_5 0 rfl rfl ?_
    refine ww_iload_n C dX5_flockTold_6 1 rfl rfl ?_
    refine ww_iload_n C dX5_flockTold_7 2 rfl rfl ?_
    refine ww_top (show nI 1 = 1 from rfl) ?_
    refine ww_callM C mf_X5_fl dX5_flockTold_8 (ct_X5_fl (by first | exact jx_0 (by assumption) | exact jx_1 (by assumption) | exact jx_2 (by assumption) | exact jx_3 (by assumption) | exact jx_4 (by assumption))) q_m_X5_84 rfl rfl rfl (Nat.le_of_ble_eq_true rfl) (by exact ⟨Nat.le_of_ble_eq_true rfl, Nat.le_of_ble_eq_true rfl⟩) (by exact ⟨Nat.le_of_ble_eq_true rfl, Nat.le_of_ble_eq_true rfl⟩) ?_
    refine ww_goto C dX5_flockTold_11 41 (by decide) ?_
    exact ww_iret C hr rfl rfl dX5_flockTold_41
  · refine ww_iload_n C dX5_flockTold_0 2 rfl rfl ?_
    refine ww_iconst (v := 4) C dX5_flockTold_1 (by decide) ?_
    refine ww_icmp_ge C dX5_flockTold_2 14 (by decide) (fun q => absurd q (show ¬ nI 2 ≥ 4 from by decide)) (fun _ => ?_)
    refine ww_aload_n C dX5_flockTold_5 0 rfl rfl ?_
    refine ww_iload_n C dX5_flockTold_6 1 rfl rfl ?_
    refine ww_iload_n C dX5_flockTold_7 2 rfl rfl ?_
    refine ww_top (show nI 2 = 2 from rfl) ?_
    refine ww_callM C mf_X5_fl dX5_flockTold_8 (ct_X5_fl (by first | exact jx_0 (by assumption) | exact jx_1 (by assumption) | exact jx_2 (by assumption) | exact jx_3 (by assumption) | exact jx_4 (by assumption))) q_m_X5_84 rfl rfl rfl (Nat.le_of_ble_eq_true rfl) (by exact ⟨Nat.le_of_ble_eq_true rfl, Nat.le_of_ble_eq_true rfl⟩) (by exact ⟨Nat.le_of_ble_eq_true rfl, Nat.le_of_ble_eq_true rfl⟩) ?_
    refine ww_goto C dX5_flockTold_11 41 (by decide) ?_
    exact ww_iret C hr rfl rfl dX5_flockTold_41
  · refine ww_iload_n C dX5_flockTold_0 2 rfl rfl ?_
    refine ww_iconst (v := 4) C dX5_flockTold_1 (by decide) ?_
    refine ww_icmp_ge C dX5_flockTold_2 14 (by decide) (fun q => absurd q (show ¬ nI 3 ≥ 4 from by decide)) (fun _ => ?_)
    refine ww_aload_n C dX5_flockTold_5 0 rfl rfl ?_
    refine ww_iload_n C dX5_flockTold_6 1 rfl rfl ?_
    refine ww_iload_n C dX5_flockTold_7 2 rfl rfl ?_
    refine ww_top (show nI 3 = 3 from rfl) ?_
    refine ww_callM C mf_X5_fl dX5_flockTold_8 (ct_X5_fl (by first | exact jx_0 (by assumption) | exact jx_1 (by assumption) | exact jx_2 (by assumption) | exact jx_3 (by assumption) | exact jx_4 (by assumption))) q_m_X5_84 rfl rfl rfl (Nat.le_of_ble_eq_true rfl) (by exact ⟨Nat.le_of_ble_eq_true rfl, Nat.le_of_ble_eq_true rfl⟩) (by exact ⟨Nat.le_of_ble_eq_true rfl, Nat.le_of_ble_eq_true rfl⟩) ?_
    refine ww_goto C dX5_flockTold_11 41 (by decide) ?_
    exact ww_iret C hr rfl rfl dX5_flockTold_41
  · refine ww_iload_n C dX5_flockTold_0 2 rfl rfl ?_
    refine ww_iconst (v := 4) C dX5_flockTold_1 (by decide) ?_
    refine ww_icmp_ge C dX5_flockTold_2 14 (by decide) (fun _ => ?_) (fun q => absurd (show nI 4 ≥ 4 from by decide) q)
    refine ww_iload_n C dX5_flockTold_14 2 rfl rfl ?_
    refine ww_iconst (v := 5) C dX5_flockTold_15 (by decide) ?_
    refine ww_icmp_ne C dX5_flockTold_16 28 (by decide) (fun _ => ?_) (fun q => absurd q (show ¬ nI 4 = 5 from by decide))
    refine ww_aload_n C dX5_flockTold_28 0 rfl rfl ?_
    refine ww_iload_n C dX5_flockTold_29 1 rfl rfl ?_
    refine ww_callM C mf_X5_isLost dX5_flockTold_30 (ct_X5_isLost (by assumption)) q_m_X5_87 rfl rfl rfl (Nat.le_of_ble_eq_true rfl) (by exact ⟨Nat.le_of_ble_eq_true rfl, Nat.le_of_ble_eq_true rfl⟩) (by exact ⟨Nat.le_of_ble_eq_true rfl, Nat.le_of_ble_eq_true rfl⟩) ?_
    refine ww_if_eq C dX5_flockTold_33 40 (by decide) (fun c33 => ?_) (fun c33 => ?_)
    · refine ww_iconst (v := 0) C dX5_flockTold_40 (by decide) ?_
      exact ww_iret C hr (by show some (Value.int (if m_fl h x 2 = 10 then 1 else 0)) = _; first | rw [if_pos (bI1 c33)] | rw [if_neg (bI0 c33)]) rfl dX5_flockTold_41
    · refine ww_iconst (v := 1) C dX5_flockTold_36 (by decide) ?_
      refine ww_goto C dX5_flockTold_37 41 (by decide) ?_
      exact ww_iret C hr (by show some (Value.int (if m_fl h x 2 = 10 then 1 else 0)) = _; first | rw [if_pos (bI1 c33)] | rw [if_neg (bI0 c33)]) rfl dX5_flockTold_41
  · refine ww_iload_n C dX5_flockTold_0 2 rfl rfl ?_
    refine ww_iconst (v := 4) C dX5_flockTold_1 (by decide) ?_
    refine ww_icmp_ge C dX5_flockTold_2 14 (by decide) (fun _ => ?_) (fun q => absurd (show nI 5 ≥ 4 from by decide) q)
    refine ww_iload_n C dX5_flockTold_14 2 rfl rfl ?_
    refine ww_iconst (v := 5) C dX5_flockTold_15 (by decide) ?_
    refine ww_icmp_ne C dX5_flockTold_16 28 (by decide) (fun q => absurd (show nI 5 = 5 from rfl) q) (fun _ => ?_)
    refine ww_aload_n C dX5_flockTold_19 0 rfl rfl ?_
    refine ww_iload_n C dX5_flockTold_20 1 rfl rfl ?_
    refine ww_iconst (v := 4) C dX5_flockTold_21 (by decide) ?_
    refine ww_callM C mf_X5_fl dX5_flockTold_22 (ct_X5_fl (by first | exact jx_0 (by assumption) | exact jx_1 (by assumption) | exact jx_2 (by assumption) | exact jx_3 (by assumption) | exact jx_4 (by assumption))) q_m_X5_84 rfl rfl rfl (Nat.le_of_ble_eq_true rfl) (by exact ⟨Nat.le_of_ble_eq_true rfl, Nat.le_of_ble_eq_true rfl⟩) (by exact ⟨Nat.le_of_ble_eq_true rfl, Nat.le_of_ble_eq_true rfl⟩) ?_
    refine ww_goto C dX5_flockTold_25 41 (by decide) ?_
    exact ww_iret C hr rfl rfl dX5_flockTold_41
set_option maxRecDepth 100000 in
set_option maxHeartbeats 1600000 in
theorem ct_X5_flock {g : gW} {l : Launch} {h : Hp} {n f : Nat} (H : OM n f h) {x w : Int32} : CT g l yX5_flock cX5_flock 3 (some FieldType.int) 3 0 0 [.ref (gB g + 64), .int x, .int w] h (some (.int (y_flock h x w).1)) (y_flock h x w).2 := by
  refine CT.of (lv0 := [(0, .ref (gB g + 64)), (1, .int x), (2, .int w)]) mf_X5_flock.1.2.2.2 (Nat.le_of_ble_eq_true rfl) rfl ?_
  intro p e s m below meth c C hr
  have hf : y0 h 64 3 = nI f := H.yy.2.2.1
  have hf7 := H.2.2.2.1
  refine ww_aload_n C dX5_flock_0 0 rfl rfl ?_
  refine ww_iconst (v := 0) C dX5_flock_1 (by decide) ?_
  refine ww_putM C 0 (by decide) q_f_X5_25 dX5_flock_2 ?_
  refine ww_heap (h2 := y0 h) rfl ?_
  refine ww_aload_n C dX5_flock_5 0 rfl rfl ?_
  refine ww_iload_n C dX5_flock_6 1 rfl rfl ?_
  refine ww_callM C mf_X5_isFlock dX5_flock_7 ct_X5_isFlock q_m_X5_106 rfl rfl rfl (Nat.le_of_ble_eq_true rfl) (by exact ⟨Nat.le_of_ble_eq_true rfl, Nat.le_of_ble_eq_true rfl⟩) (by exact ⟨Nat.le_of_ble_eq_true rfl, Nat.le_of_ble_eq_true rfl⟩) ?_
  refine ww_if_eq C dX5_flock_10 31 (by decide) (fun c10 => ?_) (fun c10 => ?_)
  · refine ww_aload_n C dX5_flock_31 0 rfl rfl ?_
    refine ww_iconst (v := 1) C dX5_flock_32 (by decide) ?_
    refine ww_callM C mf_X5_fail dX5_flock_33 ct_X5_fail q_m_X5_49 rfl rfl rfl (Nat.le_of_ble_eq_true rfl) (by exact ⟨Nat.le_of_ble_eq_true rfl, Nat.le_of_ble_eq_true rfl⟩) (by exact ⟨Nat.le_of_ble_eq_true rfl, Nat.le_of_ble_eq_true rfl⟩) ?_
    exact ww_iret C hr (by simp only [y_flock, yF, c10, if_true, if_false]) (by simp only [y_flock, yF, c10, if_true, if_false]) dX5_flock_36
  · refine ww_iload_n C dX5_flock_13 2 rfl rfl ?_
    refine ww_iconst (v := 0) C dX5_flock_14 (by decide) ?_
    refine ww_iconst (v := 5) C dX5_flock_15 (by decide) ?_
    refine ww_callS C mf_X5_isIn ct_X5_isIn q_m_X5_32 rfl rfl (Nat.le_of_ble_eq_true rfl) (by exact ⟨Nat.le_of_ble_eq_true rfl, Nat.le_of_ble_eq_true rfl⟩) (by exact ⟨Nat.le_of_ble_eq_true rfl, Nat.le_of_ble_eq_true rfl⟩) dX5_flock_16 ?_
    refine ww_if_eq C dX5_flock_19 31 (by decide) (fun c19 => ?_) (fun c19 => ?_)
    · refine ww_aload_n C dX5_flock_31 0 rfl rfl ?_
      refine ww_iconst (v := 1) C dX5_flock_32 (by decide) ?_
      refine ww_callM C mf_X5_fail dX5_flock_33 ct_X5_fail q_m_X5_49 rfl rfl rfl (Nat.le_of_ble_eq_true rfl) (by exact ⟨Nat.le_of_ble_eq_true rfl, Nat.le_of_ble_eq_true rfl⟩) (by exact ⟨Nat.le_of_ble_eq_true rfl, Nat.le_of_ble_eq_true rfl⟩) ?_
      exact ww_iret C hr (by simp only [y_flock, yF, c10, c19, if_true, if_false]) (by simp only [y_flock, yF, c10, c19, if_true, if_false]) dX5_flock_36
    · have hx : isN 7 x := isN_up (mN hf (by omega) c10) (by omega)
      obtain ⟨ek, hk⟩ := in0 (N := 5) rfl (by omega) c19
      refine ww_aload_n C dX5_flock_22 0 rfl rfl ?_
      refine ww_iload_n C dX5_flock_23 1 rfl rfl ?_
      refine ww_iload_n C dX5_flock_24 2 rfl rfl ?_
      refine ww_top ek ?_
      refine ww_callM C mf_X5_flockTold dX5_flock_25 (ct_X5_flockTold hx (by omega)) q_m_X5_115 rfl rfl rfl (Nat.le_of_ble_eq_true rfl) (by exact ⟨Nat.le_of_ble_eq_true rfl, Nat.le_of_ble_eq_true rfl⟩) (by exact ⟨Nat.le_of_ble_eq_true rfl, Nat.le_of_ble_eq_true rfl⟩) ?_
      refine ww_goto C dX5_flock_28 36 (by decide) ?_
      exact ww_iret C hr (by simp only [y_flock, yF, c10, c19, if_true, if_false]) (by simp only [y_flock, yF, c10, c19, if_true, if_false]) dX5_flock_36
