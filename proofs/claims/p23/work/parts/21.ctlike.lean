def d_mkF (d f : Nat) (h : Hp) (pond sheep : Int32) : Hp := hp_up (f_start h (d + 25 + f) pond sheep) d 5 (f_start h (d + 25 + f) pond sheep d 5 + 1)
def d_mkFR (d f : Nat) (h : Hp) (pond sheep : Int32) : (Option Value × Hp) ⊕ String := if nI f < nI (rmD d) then .inl (some (.int (nI f)), d_mkF d f h pond sheep) else .inr E_S
def bl_0 (h : Hp) : Hp := hp_up (hp_up h 32 6 (h 1 6)) 32 7 (hp_up h 32 6 (h 1 6) 1 7)
def bl_w (z : Hp) (j : Nat) : Hp := w_copy z (32 + 2 + j) (1 + 2 + j)
def bl_1 (h : Hp) : Hp := fd bl_w (bl_0 h) 10
def bl_2 (h : Hp) : Hp := hp_up (bl_1 h) 32 4 (bl_1 h 1 4)
def bl_p (z : Hp) (j : Nat) : Hp := hp_up (p_copy z (32 + 14 + j) (1 + 14 + j)) (32 + 13) j (p_copy z (32 + 14 + j) (1 + 14 + j) (1 + 13) j)
def bl_3 (n : Nat) (h : Hp) : Hp := fd bl_p (bl_2 h) n
def bl_4 (n : Nat) (h : Hp) : Hp := hp_up (bl_3 n h) 32 5 (mnI (bl_3 n h 1 5) 7)
def bl_f (z : Hp) (j : Nat) : Hp := f_copy z (32 + 25 + j) (1 + 25 + j)
/-- the downs ahead become like the real ones -/
def d_like (n f : Nat) (h : Hp) : Hp := fd bl_f (bl_4 n h) f
theorem bl_0r {h : Hp} {a : Nat} (ha : a < 32) : bl_0 h a = h a := by unfold bl_0; rw [hp_ne (by omega), hp_ne (by omega)]
theorem bl_1r {h : Hp} {a k : Nat} (ha : a < 32) : fd bl_w (bl_0 h) k a = h a := (fd_keep (P := fun x : Hp => x a) k (fun x i hi => w_copy_ne (by omega))).trans (bl_0r ha)
theorem bl_2r {h : Hp} {a : Nat} (ha : a < 32) : bl_2 h a = h a := by unfold bl_2; rw [hp_ne (by omega)]; exact bl_1r ha
theorem bl_3r {h : Hp} {a k : Nat} (ha : a < 32) : fd bl_p (bl_2 h) k a = h a := (fd_keep (P := fun x : Hp => x a) k (fun x i hi => by show bl_p x i a = x a; unfold bl_p; rw [hp_ne (by omega), p_copy_ne (by omega)])).trans (bl_2r ha)
theorem bl_4r {n : Nat} {h : Hp} {a : Nat} (ha : a < 32) : bl_4 n h a = h a := by unfold bl_4; rw [hp_ne (by omega)]; exact bl_3r ha
theorem bl_5r {n k : Nat} {h : Hp} {a : Nat} (ha : a < 32) : fd bl_f (bl_4 n h) k a = h a := (fd_keep (P := fun x : Hp => x a) k (fun x i hi => f_copy_ne (by omega))).trans (bl_4r ha)
theorem bl_3n {h : Hp} {n k : Nat} (hn : h 1 4 = nI n) : fd bl_p (bl_2 h) k 32 4 = nI n := by
  have e : fd bl_p (bl_2 h) k 32 = bl_2 h 32 := fd_keep (P := fun x : Hp => x 32) k (fun x i hi => by show bl_p x i 32 = x 32; unfold bl_p; rw [hp_ne (by omega), p_copy_ne (by omega)])
  rw [e]
  unfold bl_2
  rw [hp_eq]
  have e1 : bl_1 h 1 = h 1 := bl_1r (by omega)
  simp only [upd, if_true, e1, hn]
theorem bl_5n {h : Hp} {n f k : Nat} (hf : h 1 5 = nI f) (hf6 : f ≤ 6) : fd bl_f (bl_4 n h) k 32 5 = nI f := by
  have e : fd bl_f (bl_4 n h) k 32 = bl_4 n h 32 := fd_keep (P := fun x : Hp => x 32) k (fun x i hi => f_copy_ne (by omega))
  rw [e]
  unfold bl_4
  rw [hp_eq]
  have e1 : bl_3 n h 1 = h 1 := bl_3r (by omega)
  simp only [upd, if_true, e1, hf]
  unfold mnI
  rw [if_neg]
  have := nI_ltI (a := 7) (b := f) (by omega) (by omega)
  intro hh
  exact absurd (this.mp hh) (by omega)
theorem in_range {x a b : Int32} (h1 : ¬ x < a) (h2 : ¬ b < x) : a ≤ x ∧ x ≤ b := ⟨Int32.not_lt.mp h1, Int32.not_lt.mp h2⟩
set_option maxRecDepth 100000 in
set_option maxHeartbeats 4000000 in
theorem ct_X4_isWithin {g : gW} {l : Launch} {h : Hp} {x a b : Int32} : CT g l yX4_isWithin cX4_isWithin 3 (some FieldType.boolean) 0 0 0 [.int x, .int a, .int b] h (some (.int (bI (a ≤ x ∧ x ≤ b)))) h := by
  refine CT.of (lv0 := [(0, .int x), (1, .int a), (2, .int b)]) mf_X4_isWithin.1.2.2.2 (Nat.le_of_ble_eq_true rfl) rfl ?_
  intro p e s m below meth c C hr
  refine ww_iload_n C dX4_isWithin_0 0 rfl rfl ?_
  refine ww_iload_n C dX4_isWithin_1 1 rfl rfl ?_
  refine ww_icmp_lt C dX4_isWithin_2 14 (by decide) (fun c2 => ?_) (fun c2 => ?_)
  · refine ww_iconst (v := 0) C dX4_isWithin_14 (by decide) ?_
    exact ww_zret C hr (by first | exact Or.inl rfl | exact Or.inr rfl | assumption) (by first | (rw [bIt (in_range c2 c7)]; done) | (rw [bIf (fun z => absurd c2 (Int32.not_lt.mpr z.1))]; done) | (rw [bIf (fun z => absurd c7 (Int32.not_lt.mpr z.2))]; done)) rfl dX4_isWithin_15
  · refine ww_iload_n C dX4_isWithin_5 0 rfl rfl ?_
    refine ww_iload_n C dX4_isWithin_6 2 rfl rfl ?_
    refine ww_icmp_gt C dX4_isWithin_7 14 (by decide) (fun c7 => ?_) (fun c7 => ?_)
    · refine ww_iconst (v := 0) C dX4_isWithin_14 (by decide) ?_
      exact ww_zret C hr (by first | exact Or.inl rfl | exact Or.inr rfl | assumption) (by first | (rw [bIt (in_range c2 c7)]; done) | (rw [bIf (fun z => absurd c2 (Int32.not_lt.mpr z.1))]; done) | (rw [bIf (fun z => absurd c7 (Int32.not_lt.mpr z.2))]; done)) rfl dX4_isWithin_15
    · refine ww_iconst (v := 1) C dX4_isWithin_10 (by decide) ?_
      refine ww_goto C dX4_isWithin_11 15 (by decide) ?_
      exact ww_zret C hr (by first | exact Or.inl rfl | exact Or.inr rfl | assumption) (by first | (rw [bIt (in_range c2 c7)]; done) | (rw [bIf (fun z => absurd c2 (Int32.not_lt.mpr z.1))]; done) | (rw [bIf (fun z => absurd c7 (Int32.not_lt.mpr z.2))]; done)) rfl dX4_isWithin_15
set_option maxRecDepth 100000 in
set_option maxHeartbeats 4000000 in
theorem xt_X0_makeFlock {g : gW} {l : Launch} {h : Hp} (hst : l.stackTraces = false) {d n f : Nat} {x y : Int32} (hd : isD d) (H : OK d n f h) : XT g l yX0_makeFlock cX0_makeFlock 4 (some FieldType.int) 6 [.ref (gB g + d), .int x, .int y] h (d_mkFR d f h x y) := by
  refine XT.of (lv0 := [(0, .ref (gB g + d)), (1, .int x), (2, .int y)]) (by decide +kernel) (Nat.le_of_ble_eq_true rfl) rfl ?_
  intro p e s m below meth c C hE hex hr
  have hn := H.1
  have hn10 := H.2.1
  have hf := H.2.2.1
  have hfr := H.2.2.2.1
  have hr7 : rmD d ≤ 7 := rm7
  refine ww_aload_n C dX0_makeFlock_0 0 rfl rfl ?_
  refine ww_getD C (by assumption) 5 (by decide) q_f_X0_59 dX0_makeFlock_1 ?_
  refine ww_aload_n C dX0_makeFlock_4 0 rfl rfl ?_
  refine ww_getDf C (by assumption) q_f_X0_41 dX0_makeFlock_5 ?_
  refine ww_alenF C hd rfl dX0_makeFlock_8 ?_
  refine ww_icmp_lt C dX0_makeFlock_9 22 (by decide) (fun c9 => ?_) (fun c9 => ?_)
  · rw [hf] at c9
    have hlt : f < rmD d := (nI_ltI (by omega) (by omega)).mp c9
    have hPf := isF_of hd hlt
    refine ww_aload_n C dX0_makeFlock_22 0 rfl rfl ?_
    refine ww_getD C (by assumption) 5 (by decide) q_f_X0_59 dX0_makeFlock_23 ?_
    refine ww_top hf ?_
    refine ww_istore_n C dX0_makeFlock_26 3 rfl (by decide) ?_
    refine ww_aload_n C dX0_makeFlock_27 0 rfl rfl ?_
    refine ww_getDf C (by assumption) q_f_X0_41 dX0_makeFlock_28 ?_
    refine ww_iload_n C dX0_makeFlock_31 3 rfl rfl ?_
    refine ww_aaldF C hd (by omega) dX0_makeFlock_32 ?_
    refine ww_iload_n C dX0_makeFlock_33 1 rfl rfl ?_
    refine ww_iload_n C dX0_makeFlock_34 2 rfl rfl ?_
    refine ww_callF C mf_X1_startAt dX0_makeFlock_35 (ct_X1_startAt hPf) q_m_X0_111 (by assumption) rfl rfl rfl (Nat.le_of_ble_eq_true rfl) (by exact ⟨Nat.le_of_ble_eq_true rfl, Nat.le_of_ble_eq_true rfl⟩) (by exact ⟨Nat.le_of_ble_eq_true rfl, Nat.le_of_ble_eq_true rfl⟩) ?_
    refine ww_aload_n C dX0_makeFlock_38 0 rfl rfl ?_
    refine ww_dup C dX0_makeFlock_39 rfl ?_
    refine ww_getD C (by assumption) 5 (by decide) q_f_X0_59 dX0_makeFlock_40 ?_
    refine ww_iconst (v := 1) C dX0_makeFlock_43 (by decide) ?_
    refine ww_iadd C dX0_makeFlock_44 ?_
    refine ww_putD C (by assumption) 5 (by decide) q_f_X0_59 dX0_makeFlock_45 ?_
    refine ww_iload_n C dX0_makeFlock_48 3 rfl rfl ?_
    exact ww_xret (mc := 1) (ms := 6) (by simp only [d_mkFR, c9, if_true]; rfl) (ww_wide 1 6 (Nat.le_of_ble_eq_true rfl) (Nat.le_of_ble_eq_true rfl) (ww_iret C hr rfl rfl dX0_makeFlock_49))
  · exact ww_throw (cls := E_S) (text := "there are as many flocks as there may be") C hE hex hst (by rw [hf] at c9; simp only [d_mkFR, c9, if_false]) (by decide +kernel) q_k_X0_79 q_n_E_S (by decide +kernel) gx_X0_83 gy_X0_83 dX0_makeFlock_12 dX0_makeFlock_15 dX0_makeFlock_16 dX0_makeFlock_18 dX0_makeFlock_21 (Nat.le_of_ble_eq_true rfl) (Nat.le_of_ble_eq_true rfl) (Nat.le_of_ble_eq_true rfl) (Nat.le_of_ble_eq_true rfl) (Nat.le_of_ble_eq_true rfl) (Nat.le_of_ble_eq_true rfl)
set_option maxRecDepth 100000 in
set_option maxHeartbeats 4000000 in
theorem ok_X0_makeFlock {g : gW} {l : Launch} {h : Hp} {d n f : Nat} {x y : Int32} (hd : isD d) (H : OK d n f h) (hlt : f < rmD d) : CT g l yX0_makeFlock cX0_makeFlock 4 (some FieldType.int) 1 0 0 [.ref (gB g + d), .int x, .int y] h (some (.int (nI f))) (d_mkF d f h x y) := by
  refine CT.of (lv0 := [(0, .ref (gB g + d)), (1, .int x), (2, .int y)]) mf_X0_makeFlock.1.2.2.2 (Nat.le_of_ble_eq_true rfl) rfl ?_
  intro p e s m below meth c C hr
  have hn := H.1
  have hn10 := H.2.1
  have hf := H.2.2.1
  have hfr := H.2.2.2.1
  have hr7 : rmD d ≤ 7 := rm7
  have hPf := isF_of hd hlt
  have h9 : h d 5 < nI (rmD d) := by rw [hf]; exact (nI_ltI (by omega) (by omega)).mpr hlt
  refine ww_aload_n C dX0_makeFlock_0 0 rfl rfl ?_
  refine ww_getD C (by assumption) 5 (by decide) q_f_X0_59 dX0_makeFlock_1 ?_
  refine ww_aload_n C dX0_makeFlock_4 0 rfl rfl ?_
  refine ww_getDf C (by assumption) q_f_X0_41 dX0_makeFlock_5 ?_
  refine ww_alenF C hd rfl dX0_makeFlock_8 ?_
  refine ww_icmp_lt C dX0_makeFlock_9 22 (by decide) (fun _ => ?_) (fun q => absurd h9 q)
  refine ww_aload_n C dX0_makeFlock_22 0 rfl rfl ?_
  refine ww_getD C (by assumption) 5 (by decide) q_f_X0_59 dX0_makeFlock_23 ?_
  refine ww_top hf ?_
  refine ww_istore_n C dX0_makeFlock_26 3 rfl (by decide) ?_
  refine ww_aload_n C dX0_makeFlock_27 0 rfl rfl ?_
  refine ww_getDf C (by assumption) q_f_X0_41 dX0_makeFlock_28 ?_
  refine ww_iload_n C dX0_makeFlock_31 3 rfl rfl ?_
  refine ww_aaldF C hd (by omega) dX0_makeFlock_32 ?_
  refine ww_iload_n C dX0_makeFlock_33 1 rfl rfl ?_
  refine ww_iload_n C dX0_makeFlock_34 2 rfl rfl ?_
  refine ww_callF C mf_X1_startAt dX0_makeFlock_35 (ct_X1_startAt hPf) q_m_X0_111 (by assumption) rfl rfl rfl (Nat.le_of_ble_eq_true rfl) (by exact ⟨Nat.le_of_ble_eq_true rfl, Nat.le_of_ble_eq_true rfl⟩) (by exact ⟨Nat.le_of_ble_eq_true rfl, Nat.le_of_ble_eq_true rfl⟩) ?_
  refine ww_aload_n C dX0_makeFlock_38 0 rfl rfl ?_
  refine ww_dup C dX0_makeFlock_39 rfl ?_
  refine ww_getD C (by assumption) 5 (by decide) q_f_X0_59 dX0_makeFlock_40 ?_
  refine ww_iconst (v := 1) C dX0_makeFlock_43 (by decide) ?_
  refine ww_iadd C dX0_makeFlock_44 ?_
  refine ww_putD C (by assumption) 5 (by decide) q_f_X0_59 dX0_makeFlock_45 ?_
  refine ww_iload_n C dX0_makeFlock_48 3 rfl rfl ?_
  exact ww_iret C hr rfl rfl dX0_makeFlock_49
set_option maxRecDepth 100000 in
set_option maxHeartbeats 4000000 in
theorem ct_X0_becomeLike {g : gW} {l : Launch} {h : Hp} {n f : Nat} (H : OK 1 n f h) : CT g l yX0_becomeLike cX0_becomeLike 3 none 1 0 0 [.ref (gB g + 32), .ref (gB g + 1)] h none (d_like n f h) := by
  refine CT.of (lv0 := [(0, .ref (gB g + 32)), (1, .ref (gB g + 1))]) mf_X0_becomeLike.1.2.2.2 (Nat.le_of_ble_eq_true rfl) rfl ?_
  intro p e s m below meth c C hr
  have hn := H.1
  have hn10 := H.2.1
  have hf := H.2.2.1
  have hf6 : f ≤ 6 := H.2.2.2.1
  have hd : isD 32 := Or.inr rfl
  have hd1 : isD 1 := Or.inl rfl
  have L3 : ∀ (fu j : Nat), j ≤ f → f < fu + j → WW g p l e (rK 1 0 0) s m ([.ref (gB g + 32), .ref (gB g + 1)] : List Value).toArray below meth c 3 [] (fd bl_f (bl_4 n h) j) [(0, .ref (gB g + 32)), (1, .ref (gB g + 1)), (2, .int (nI j))] 0 0 (MQ below (QW g s.heap.size none (d_like n f h)) ([.ref (gB g + 32), .ref (gB g + 1)] : List Value).toArray s 0 0 (AA g s.heap.size)) 114 [] := by
    intro fu
    induction fu with
    | zero => intro j h1 h2; omega
    | succ fu ih =>
      intro j hj hfu
      refine ww_iload_n C dX0_becomeLike_114 2 rfl rfl ?_
      refine ww_aload_n C dX0_becomeLike_115 0 rfl rfl ?_
      refine ww_getD C (by assumption) 5 (by decide) q_f_X0_59 dX0_becomeLike_116 ?_
      refine ww_icmp_ge C dX0_becomeLike_119 143 (by decide) (fun q => ?_) (fun q => ?_)
      · have hjn := lp_exit (bl_5n hf hf6) q hj (by omega)
        subst hjn
        exact ww_vret C hr rfl rfl dX0_becomeLike_143
      · have hjn := lp_body (bl_5n hf hf6) q hj (by omega)
        have hPa := isF_of hd (show j < 7 by omega)
        have hPb := isF_of hd1 (show j < 6 by omega)
        refine ww_aload_n C dX0_becomeLike_122 0 rfl rfl ?_
        refine ww_getDf C (by assumption) q_f_X0_41 dX0_becomeLike_123 ?_
        refine ww_iload_n C dX0_becomeLike_126 2 rfl rfl ?_
        refine ww_aaldF C hd (show j < 7 by omega) dX0_becomeLike_127 ?_
        refine ww_aload_n C dX0_becomeLike_128 1 rfl rfl ?_
        refine ww_getDf C (by assumption) q_f_X0_41 dX0_becomeLike_129 ?_
        refine ww_iload_n C dX0_becomeLike_132 2 rfl rfl ?_
        refine ww_aaldF C hd1 (show j < 6 by omega) dX0_becomeLike_133 ?_
        refine ww_callF C mf_X1_becomeLike dX0_becomeLike_134 (ct_X1_becomeLike hPa hPb (by rw [bl_5r (by omega)]; exact H.2.2.2.2.2.2.2.2 j (by omega))) q_m_X0_65 (by assumption) rfl rfl rfl (Nat.le_of_ble_eq_true rfl) (by exact ⟨Nat.le_of_ble_eq_true rfl, Nat.le_of_ble_eq_true rfl⟩) (by exact ⟨Nat.le_of_ble_eq_true rfl, Nat.le_of_ble_eq_true rfl⟩) ?_
        refine ww_iinc (v := nI (j + 1)) C dX0_becomeLike_137 rfl (nI_inc _) (by decide) ?_
        refine ww_goto C dX0_becomeLike_140 114 (by decide) ?_
        refine ww_lv [(0, .ref (gB g + 32)), (1, .ref (gB g + 1)), (2, .int (nI (j + 1)))] ⟨rfl, rfl, rfl, trivial⟩ ?_
        exact ih (j + 1) hjn (by omega)
  have L2 : ∀ (fu j : Nat), j ≤ n → n < fu + j → WW g p l e (rK 1 0 0) s m ([.ref (gB g + 32), .ref (gB g + 1)] : List Value).toArray below meth c 3 [] (fd bl_p (bl_2 h) j) [(0, .ref (gB g + 32)), (1, .ref (gB g + 1)), (2, .int (nI j))] 0 0 (MQ below (QW g s.heap.size none (d_like n f h)) ([.ref (gB g + 32), .ref (gB g + 1)] : List Value).toArray s 0 0 (AA g s.heap.size)) 55 [] := by
    intro fu
    induction fu with
    | zero => intro j h1 h2; omega
    | succ fu ih =>
      intro j hj hfu
      refine ww_iload_n C dX0_becomeLike_55 2 rfl rfl ?_
      refine ww_aload_n C dX0_becomeLike_56 0 rfl rfl ?_
      refine ww_getD C (by assumption) 4 (by decide) q_f_X0_53 dX0_becomeLike_57 ?_
      refine ww_icmp_ge C dX0_becomeLike_60 96 (by decide) (fun q => ?_) (fun q => ?_)
      · have hjn := lp_exit (bl_3n hn) q hj (by omega)
        subst hjn
        refine ww_aload_n C dX0_becomeLike_96 0 rfl rfl ?_
        refine ww_aload_n C dX0_becomeLike_97 1 rfl rfl ?_
        refine ww_getD C (by assumption) 5 (by decide) q_f_X0_59 dX0_becomeLike_98 ?_
        refine ww_aload_n C dX0_becomeLike_101 0 rfl rfl ?_
        refine ww_getDf C (by assumption) q_f_X0_41 dX0_becomeLike_102 ?_
        refine ww_alenF (v := 7) C hd rfl dX0_becomeLike_105 ?_
        refine ww_mmin C q_m_X0_62 (Nat.le_of_ble_eq_true rfl) (Nat.le_of_ble_eq_true rfl) (by first | exact Nat.le_of_ble_eq_true rfl | omega) (by first | exact Nat.le_of_ble_eq_true rfl | omega) dX0_becomeLike_106 ?_
        refine ww_putD C (by assumption) 5 (by decide) q_f_X0_59 dX0_becomeLike_109 ?_
        refine ww_iconst (v := 0) C dX0_becomeLike_112 (by decide) ?_
        refine ww_istore_n C dX0_becomeLike_113 2 rfl (by decide) ?_
        refine ww_lv [(0, .ref (gB g + 32)), (1, .ref (gB g + 1)), (2, .int (nI 0))] ⟨rfl, rfl, rfl, trivial⟩ ?_
        exact L3 (f + 1) 0 (Nat.zero_le _) (by omega)
      · have hjn := lp_body (bl_3n hn) q hj (by omega)
        have hPa := isP_of hd (show j < 10 by omega)
        have hPb := isP_of hd1 (show j < 10 by omega)
        refine ww_aload_n C dX0_becomeLike_63 0 rfl rfl ?_
        refine ww_getDp C (by assumption) q_f_X0_24 dX0_becomeLike_64 ?_
        refine ww_iload_n C dX0_becomeLike_67 2 rfl rfl ?_
        refine ww_aaldP C hd (by omega) dX0_becomeLike_68 ?_
        refine ww_aload_n C dX0_becomeLike_69 1 rfl rfl ?_
        refine ww_getDp C (by assumption) q_f_X0_24 dX0_becomeLike_70 ?_
        refine ww_iload_n C dX0_becomeLike_73 2 rfl rfl ?_
        refine ww_aaldP C hd1 (by omega) dX0_becomeLike_74 ?_
        refine ww_callP C mf_X2_becomeLike dX0_becomeLike_75 (ct_X2_becomeLike hPa hPb (by rw [bl_3r (by omega)]; exact H.2.2.2.2.2.2.2.1 j (by omega))) q_m_X0_56 (by assumption) rfl rfl rfl (Nat.le_of_ble_eq_true rfl) (by exact ⟨Nat.le_of_ble_eq_true rfl, Nat.le_of_ble_eq_true rfl⟩) (by exact ⟨Nat.le_of_ble_eq_true rfl, Nat.le_of_ble_eq_true rfl⟩) ?_
        refine ww_aload_n C dX0_becomeLike_78 0 rfl rfl ?_
        refine ww_getDb C (by assumption) q_f_X0_28 dX0_becomeLike_79 ?_
        refine ww_iload_n C dX0_becomeLike_82 2 rfl rfl ?_
        refine ww_aload_n C dX0_becomeLike_83 1 rfl rfl ?_
        refine ww_getDb C (by assumption) q_f_X0_28 dX0_becomeLike_84 ?_
        refine ww_iload_n C dX0_becomeLike_87 2 rfl rfl ?_
        refine ww_iald (n := 10) C (by omega) (fun r => ce_Ba hd1) (by omega) (by omega) dX0_becomeLike_88 ?_
        refine ww_iast (n := 10) C (by omega) (fun r => ce_Ba hd) (by omega) (by omega) dX0_becomeLike_89 ?_
        refine ww_iinc (v := nI (j + 1)) C dX0_becomeLike_90 rfl (nI_inc _) (by decide) ?_
        refine ww_goto C dX0_becomeLike_93 55 (by decide) ?_
        refine ww_lv [(0, .ref (gB g + 32)), (1, .ref (gB g + 1)), (2, .int (nI (j + 1)))] ⟨rfl, rfl, rfl, trivial⟩ ?_
        exact ih (j + 1) hjn (by omega)
  have L1 : ∀ (fu j : Nat), j ≤ 10 → 10 < fu + j → WW g p l e (rK 1 0 0) s m ([.ref (gB g + 32), .ref (gB g + 1)] : List Value).toArray below meth c 3 [] (fd bl_w (bl_0 h) j) [(0, .ref (gB g + 32)), (1, .ref (gB g + 1)), (2, .int (nI j))] 0 0 (MQ below (QW g s.heap.size none (d_like n f h)) ([.ref (gB g + 32), .ref (gB g + 1)] : List Value).toArray s 0 0 (AA g s.heap.size)) 18 [] := by
    intro fu
    induction fu with
    | zero => intro j h1 h2; omega
    | succ fu ih =>
      intro j hj hfu
      refine ww_iload_n C dX0_becomeLike_18 2 rfl rfl ?_
      refine ww_bipush (v := 10) C dX0_becomeLike_19 (by decide) ?_
      refine ww_icmp_ge C dX0_becomeLike_21 45 (by decide) (fun q => ?_) (fun q => ?_)
      · have hjn := lp_exit (show (10 : Int32) = nI 10 from rfl) q hj (by omega)
        subst hjn
        refine ww_aload_n C dX0_becomeLike_45 0 rfl rfl ?_
        refine ww_aload_n C dX0_becomeLike_46 1 rfl rfl ?_
        refine ww_getD C (by assumption) 4 (by decide) q_f_X0_53 dX0_becomeLike_47 ?_
        refine ww_putD C (by assumption) 4 (by decide) q_f_X0_53 dX0_becomeLike_50 ?_
        refine ww_iconst (v := 0) C dX0_becomeLike_53 (by decide) ?_
        refine ww_istore_n C dX0_becomeLike_54 2 rfl (by decide) ?_
        refine ww_lv [(0, .ref (gB g + 32)), (1, .ref (gB g + 1)), (2, .int (nI 0))] ⟨rfl, rfl, rfl, trivial⟩ ?_
        exact L2 (n + 1) 0 (Nat.zero_le _) (by omega)
      · have hjn := lp_body (show (10 : Int32) = nI 10 from rfl) q hj (by omega)
        have hPa := isWt_of hd (show j < 10 by omega)
        have hPb := isWt_of hd1 (show j < 10 by omega)
        refine ww_aload_n C dX0_becomeLike_24 0 rfl rfl ?_
        refine ww_getDw C (by assumption) q_f_X0_17 dX0_becomeLike_25 ?_
        refine ww_iload_n C dX0_becomeLike_28 2 rfl rfl ?_
        refine ww_aaldW C hd (by omega) dX0_becomeLike_29 ?_
        refine ww_aload_n C dX0_becomeLike_30 1 rfl rfl ?_
        refine ww_getDw C (by assumption) q_f_X0_17 dX0_becomeLike_31 ?_
        refine ww_iload_n C dX0_becomeLike_34 2 rfl rfl ?_
        refine ww_aaldW C hd1 (by omega) dX0_becomeLike_35 ?_
        refine ww_callW C mf_X3_becomeLike dX0_becomeLike_36 (ct_X3_becomeLike hPa hPb) q_m_X0_49 (by assumption) rfl rfl rfl (Nat.le_of_ble_eq_true rfl) (by exact ⟨Nat.le_of_ble_eq_true rfl, Nat.le_of_ble_eq_true rfl⟩) (by exact ⟨Nat.le_of_ble_eq_true rfl, Nat.le_of_ble_eq_true rfl⟩) ?_
        refine ww_iinc (v := nI (j + 1)) C dX0_becomeLike_39 rfl (nI_inc _) (by decide) ?_
        refine ww_goto C dX0_becomeLike_42 18 (by decide) ?_
        refine ww_lv [(0, .ref (gB g + 32)), (1, .ref (gB g + 1)), (2, .int (nI (j + 1)))] ⟨rfl, rfl, rfl, trivial⟩ ?_
        exact ih (j + 1) hjn (by omega)
  refine ww_aload_n C dX0_becomeLike_0 0 rfl rfl ?_
  refine ww_aload_n C dX0_becomeLike_1 1 rfl rfl ?_
  refine ww_getD C (by assumption) 6 (by decide) q_f_X0_46 dX0_becomeLike_2 ?_
  refine ww_putD C (by assumption) 6 (by decide) q_f_X0_46 dX0_becomeLike_5 ?_
  refine ww_aload_n C dX0_becomeLike_8 0 rfl rfl ?_
  refine ww_aload_n C dX0_becomeLike_9 1 rfl rfl ?_
  refine ww_getD C (by assumption) 7 (by decide) q_f_X0_9 dX0_becomeLike_10 ?_
  refine ww_putD C (by assumption) 7 (by decide) q_f_X0_9 dX0_becomeLike_13 ?_
  refine ww_iconst (v := 0) C dX0_becomeLike_16 (by decide) ?_
  refine ww_istore_n C dX0_becomeLike_17 2 rfl (by decide) ?_
  refine ww_lv [(0, .ref (gB g + 32)), (1, .ref (gB g + 1)), (2, .int (nI 0))] ⟨rfl, rfl, rfl, trivial⟩ ?_
  exact L1 (10 + 1) 0 (Nat.zero_le _) (by omega)
