theorem bI0 {c : Prop} [Decidable c] (h : bI c = 0) : ¬ c := by intro hc; rw [bI, if_pos hc] at h; exact absurd h (by decide)
theorem bI1 {c : Prop} [Decidable c] (h : ¬ bI c = 0) : c := by apply Classical.byContradiction; intro hc; rw [bI, if_neg hc] at h; exact h rfl
theorem bIt {c : Prop} [Decidable c] (h : c) : bI c = 1 := if_pos h
theorem bIf {c : Prop} [Decidable c] (h : ¬ c) : bI c = 0 := if_neg h
set_option maxRecDepth 100000 in
set_option maxHeartbeats 4000000 in
theorem ok_X0_pondAt {g : gW} {l : Launch} {h : Hp} {d n : Nat} {x : Int32} (hd : isD d) (hn : h d 4 = nI n) (hb : n ≤ 10) (hx : isN n x) : CT g l yX0_pondAt cX0_pondAt 2 (some (FieldType.object "DewPond$Pond")) 0 0 0 [.ref (gB g + d), .int x] h (some (.ref (gB g + (d + 14 + x.toNatClampNeg)))) h := by
  refine CT.of (lv0 := [(0, .ref (gB g + d)), (1, .int x)]) mf_X0_pondAt.1.2.2.2 (Nat.le_of_ble_eq_true rfl) rfl ?_
  intro p e s m below meth c C hr
  obtain ⟨q, hq, rfl⟩ := hx
  have h1 : ¬ nI q < 0 := nI_pos (by omega)
  have h2 : nI q < h d 4 := by rw [hn]; exact (nI_ltI (by omega) (by omega)).mpr hq
  refine ww_iload_n C dX0_pondAt_0 1 rfl rfl ?_
  refine ww_if_lt C dX0_pondAt_1 12 (by decide) (fun q => absurd q h1) (fun _ => ?_)
  refine ww_iload_n C dX0_pondAt_4 1 rfl rfl ?_
  refine ww_aload_n C dX0_pondAt_5 0 rfl rfl ?_
  refine ww_getD C (by assumption) 4 (by decide) q_f_X0_53 dX0_pondAt_6 ?_
  refine ww_icmp_lt C dX0_pondAt_9 22 (by decide) (fun _ => ?_) (fun q => absurd h2 q)
  refine ww_aload_n C dX0_pondAt_22 0 rfl rfl ?_
  refine ww_getDp C (by assumption) q_f_X0_24 dX0_pondAt_23 ?_
  refine ww_iload_n C dX0_pondAt_26 1 rfl rfl ?_
  refine ww_aaldP C hd (by omega) dX0_pondAt_27 ?_
  exact ww_aret C hr (by rw [nI_clamp (by omega)]) rfl dX0_pondAt_28
set_option maxRecDepth 100000 in
set_option maxHeartbeats 4000000 in
theorem ok_X0_flockAt {g : gW} {l : Launch} {h : Hp} {d f : Nat} {x : Int32} (hd : isD d) (hf : h d 5 = nI f) (hb : f ≤ rmD d) (hx : isN f x) : CT g l yX0_flockAt cX0_flockAt 2 (some (FieldType.object "DewPond$Flock")) 0 0 0 [.ref (gB g + d), .int x] h (some (.ref (gB g + (d + 25 + x.toNatClampNeg)))) h := by
  refine CT.of (lv0 := [(0, .ref (gB g + d)), (1, .int x)]) mf_X0_flockAt.1.2.2.2 (Nat.le_of_ble_eq_true rfl) rfl ?_
  intro p e s m below meth c C hr
  obtain ⟨q, hq, rfl⟩ := hx
  have hr7 : rmD d ≤ 7 := by unfold rmD; split <;> omega
  have h1 : ¬ nI q < 0 := nI_pos (by omega)
  have h2 : nI q < h d 5 := by rw [hf]; exact (nI_ltI (by omega) (by omega)).mpr hq
  refine ww_iload_n C dX0_flockAt_0 1 rfl rfl ?_
  refine ww_if_lt C dX0_flockAt_1 12 (by decide) (fun q => absurd q h1) (fun _ => ?_)
  refine ww_iload_n C dX0_flockAt_4 1 rfl rfl ?_
  refine ww_aload_n C dX0_flockAt_5 0 rfl rfl ?_
  refine ww_getD C (by assumption) 5 (by decide) q_f_X0_59 dX0_flockAt_6 ?_
  refine ww_icmp_lt C dX0_flockAt_9 22 (by decide) (fun _ => ?_) (fun q => absurd h2 q)
  refine ww_aload_n C dX0_flockAt_22 0 rfl rfl ?_
  refine ww_getDf C (by assumption) q_f_X0_41 dX0_flockAt_23 ?_
  refine ww_iload_n C dX0_flockAt_26 1 rfl rfl ?_
  refine ww_aaldF C hd (by omega) dX0_flockAt_27 ?_
  exact ww_aret C hr (by rw [nI_clamp (by omega)]) rfl dX0_flockAt_28
set_option maxRecDepth 100000 in
set_option maxHeartbeats 4000000 in
theorem ok_X0_weatherAt {g : gW} {l : Launch} {h : Hp} {d : Nat} {x : Int32} (hd : isD d) (hx : isN 10 x) : CT g l yX0_weatherAt cX0_weatherAt 2 (some (FieldType.object "DewPond$Weather")) 0 0 0 [.ref (gB g + d), .int x] h (some (.ref (gB g + (d + 2 + x.toNatClampNeg)))) h := by
  refine CT.of (lv0 := [(0, .ref (gB g + d)), (1, .int x)]) mf_X0_weatherAt.1.2.2.2 (Nat.le_of_ble_eq_true rfl) rfl ?_
  intro p e s m below meth c C hr
  obtain ⟨q, hq, rfl⟩ := hx
  have h1 : ¬ nI q < 0 := nI_pos (by omega)
  have h2 : nI q < 10 := (nI_ltI (a := q) (b := 10) (by omega) (by omega)).mpr hq
  refine ww_iload_n C dX0_weatherAt_0 1 rfl rfl ?_
  refine ww_if_lt C dX0_weatherAt_1 13 (by decide) (fun q => absurd q h1) (fun _ => ?_)
  refine ww_iload_n C dX0_weatherAt_4 1 rfl rfl ?_
  refine ww_aload_n C dX0_weatherAt_5 0 rfl rfl ?_
  refine ww_getDw C (by assumption) q_f_X0_17 dX0_weatherAt_6 ?_
  refine ww_alenW (v := 10) C hd rfl dX0_weatherAt_9 ?_
  refine ww_icmp_lt C dX0_weatherAt_10 23 (by decide) (fun _ => ?_) (fun q => absurd h2 q)
  refine ww_aload_n C dX0_weatherAt_23 0 rfl rfl ?_
  refine ww_getDw C (by assumption) q_f_X0_17 dX0_weatherAt_24 ?_
  refine ww_iload_n C dX0_weatherAt_27 1 rfl rfl ?_
  refine ww_aaldW C hd (by omega) dX0_weatherAt_28 ?_
  exact ww_aret C hr (by rw [nI_clamp (by omega)]) rfl dX0_weatherAt_29
set_option maxRecDepth 100000 in
set_option maxHeartbeats 4000000 in
theorem ct_X0_allWater {g : gW} {l : Launch} {h : Hp} {d n : Nat} (hd : isD d) (hn : h d 4 = nI n) (hn10 : n ≤ 10) : CT g l yX0_allWater cX0_allWater 3 (some FieldType.int) 0 0 0 [.ref (gB g + d)] h (some (.int (d_all h d n))) h := by
  refine CT.of (lv0 := [(0, .ref (gB g + d))]) mf_X0_allWater.1.2.2.2 (Nat.le_of_ble_eq_true rfl) rfl ?_
  intro p e s m below meth c C hr
  have L : ∀ (fu j : Nat), j ≤ n → n < fu + j → WW g p l e (rK 0 0 0) s m ([.ref (gB g + d)] : List Value).toArray below meth c 3 [] h [(0, .ref (gB g + d)), (1, .int (d_all h d j)), (2, .int (nI j))] 0 0 (MQ below (QW g s.heap.size (some (.int (d_all h d n))) h) ([.ref (gB g + d)] : List Value).toArray s 0 0 (AA g s.heap.size)) 4 [] := by
    intro fu
    induction fu with
    | zero => intro j h1 h2; omega
    | succ fu ih =>
      intro j hj hfu
      refine ww_iload_n C dX0_allWater_4 2 rfl rfl ?_
      refine ww_aload_n C dX0_allWater_5 0 rfl rfl ?_
      refine ww_getD C (by assumption) 4 (by decide) q_f_X0_53 dX0_allWater_6 ?_
      refine ww_icmp_ge C dX0_allWater_9 30 (by decide) (fun q => ?_) (fun q => ?_)
      · have hjn := lp_exit hn q hj (by omega)
        subst hjn
        refine ww_iload_n C dX0_allWater_30 1 rfl rfl ?_
        exact ww_iret C hr rfl rfl dX0_allWater_31
      · have hjn := lp_body hn q hj (by omega)
        have hP := isP_of hd (show j < 10 by omega)
        refine ww_iload_n C dX0_allWater_12 1 rfl rfl ?_
        refine ww_aload_n C dX0_allWater_13 0 rfl rfl ?_
        refine ww_getDp C (by assumption) q_f_X0_24 dX0_allWater_14 ?_
        refine ww_iload_n C dX0_allWater_17 2 rfl rfl ?_
        refine ww_aaldP C hd (by omega) dX0_allWater_18 ?_
        refine ww_getP C (by assumption) 5 (by decide) q_f_X0_191 dX0_allWater_19 ?_
        refine ww_iadd C dX0_allWater_22 ?_
        refine ww_istore_n C dX0_allWater_23 1 rfl (by decide) ?_
        refine ww_iinc (v := nI (j + 1)) C dX0_allWater_24 rfl (nI_inc _) (by decide) ?_
        refine ww_goto C dX0_allWater_27 4 (by decide) ?_
        refine ww_lv [(0, .ref (gB g + d)), (1, .int (d_all h d (j + 1))), (2, .int (nI (j + 1)))] ⟨rfl, rfl, rfl, trivial⟩ ?_
        exact ih (j + 1) hjn (by omega)
  refine ww_iconst (v := 0) C dX0_allWater_0 (by decide) ?_
  refine ww_istore_n C dX0_allWater_1 1 rfl (by decide) ?_
  refine ww_iconst (v := 0) C dX0_allWater_2 (by decide) ?_
  refine ww_istore_n C dX0_allWater_3 2 rfl (by decide) ?_
  refine ww_lv [(0, .ref (gB g + d)), (1, .int (d_all h d 0)), (2, .int (nI 0))] ⟨rfl, rfl, rfl, trivial⟩ ?_
  exact L (n + 1) 0 (Nat.zero_le _) (by omega)
set_option maxRecDepth 100000 in
set_option maxHeartbeats 4000000 in
theorem ct_X0_emptyPonds {g : gW} {l : Launch} {h : Hp} {d n : Nat} (hd : isD d) (hn : h d 4 = nI n) (hn10 : n ≤ 10) : CT g l yX0_emptyPonds cX0_emptyPonds 3 (some FieldType.int) 0 0 0 [.ref (gB g + d)] h (some (.int (d_dry h d n))) h := by
  refine CT.of (lv0 := [(0, .ref (gB g + d))]) mf_X0_emptyPonds.1.2.2.2 (Nat.le_of_ble_eq_true rfl) rfl ?_
  intro p e s m below meth c C hr
  have L : ∀ (fu j : Nat), j ≤ n → n < fu + j → WW g p l e (rK 0 0 0) s m ([.ref (gB g + d)] : List Value).toArray below meth c 3 [] h [(0, .ref (gB g + d)), (1, .int (d_dry h d j)), (2, .int (nI j))] 0 0 (MQ below (QW g s.heap.size (some (.int (d_dry h d n))) h) ([.ref (gB g + d)] : List Value).toArray s 0 0 (AA g s.heap.size)) 4 [] := by
    intro fu
    induction fu with
    | zero => intro j h1 h2; omega
    | succ fu ih =>
      intro j hj hfu
      refine ww_iload_n C dX0_emptyPonds_4 2 rfl rfl ?_
      refine ww_aload_n C dX0_emptyPonds_5 0 rfl rfl ?_
      refine ww_getD C (by assumption) 4 (by decide) q_f_X0_53 dX0_emptyPonds_6 ?_
      refine ww_icmp_ge C dX0_emptyPonds_9 33 (by decide) (fun q => ?_) (fun q => ?_)
      · have hjn := lp_exit hn q hj (by omega)
        subst hjn
        refine ww_iload_n C dX0_emptyPonds_33 1 rfl rfl ?_
        exact ww_iret C hr rfl rfl dX0_emptyPonds_34
      · have hjn := lp_body hn q hj (by omega)
        have hP := isP_of hd (show j < 10 by omega)
        refine ww_aload_n C dX0_emptyPonds_12 0 rfl rfl ?_
        refine ww_getDp C (by assumption) q_f_X0_24 dX0_emptyPonds_13 ?_
        refine ww_iload_n C dX0_emptyPonds_16 2 rfl rfl ?_
        refine ww_aaldP C hd (by omega) dX0_emptyPonds_17 ?_
        refine ww_getP C (by assumption) 5 (by decide) q_f_X0_191 dX0_emptyPonds_18 ?_
        refine ww_if_ne C dX0_emptyPonds_21 27 (by decide) (fun c21 => ?_) (fun c21 => ?_)
        · refine ww_iinc (v := nI (j + 1)) C dX0_emptyPonds_27 rfl (nI_inc _) (by decide) ?_
          refine ww_goto C dX0_emptyPonds_30 4 (by decide) ?_
          refine ww_lv [(0, .ref (gB g + d)), (1, .int (d_dry h d (j + 1))), (2, .int (nI (j + 1)))] ⟨rfl, (by show some (Value.int _) = some (Value.int (_ + (if _ then _ else _))); first | (rw [if_pos c21]; rfl) | (rw [if_neg c21, Int32.add_zero]; rfl) | (rw [if_pos (bI1 c21)]; rfl) | (rw [if_neg (bI0 c21), Int32.add_zero]; rfl)), rfl, trivial⟩ ?_
          exact ih (j + 1) hjn (by omega)
        · refine ww_iinc C dX0_emptyPonds_24 rfl rfl (by decide) ?_
          refine ww_iinc (v := nI (j + 1)) C dX0_emptyPonds_27 rfl (nI_inc _) (by decide) ?_
          refine ww_goto C dX0_emptyPonds_30 4 (by decide) ?_
          refine ww_lv [(0, .ref (gB g + d)), (1, .int (d_dry h d (j + 1))), (2, .int (nI (j + 1)))] ⟨rfl, (by show some (Value.int _) = some (Value.int (_ + (if _ then _ else _))); first | (rw [if_pos c21]; rfl) | (rw [if_neg c21, Int32.add_zero]; rfl) | (rw [if_pos (bI1 c21)]; rfl) | (rw [if_neg (bI0 c21), Int32.add_zero]; rfl)), rfl, trivial⟩ ?_
          exact ih (j + 1) hjn (by omega)
  refine ww_iconst (v := 0) C dX0_emptyPonds_0 (by decide) ?_
  refine ww_istore_n C dX0_emptyPonds_1 1 rfl (by decide) ?_
  refine ww_iconst (v := 0) C dX0_emptyPonds_2 (by decide) ?_
  refine ww_istore_n C dX0_emptyPonds_3 2 rfl (by decide) ?_
  refine ww_lv [(0, .ref (gB g + d)), (1, .int (d_dry h d 0)), (2, .int (nI 0))] ⟨rfl, rfl, rfl, trivial⟩ ?_
  exact L (n + 1) 0 (Nat.zero_le _) (by omega)
set_option maxRecDepth 100000 in
set_option maxHeartbeats 4000000 in
theorem ct_X0_lostFlocks {g : gW} {l : Launch} {h : Hp} {d f : Nat} (hd : isD d) (hf : h d 5 = nI f) (hfr : f ≤ rmD d) : CT g l yX0_lostFlocks cX0_lostFlocks 3 (some FieldType.int) 1 0 0 [.ref (gB g + d)] h (some (.int (d_lost h d f))) h := by
  refine CT.of (lv0 := [(0, .ref (gB g + d))]) mf_X0_lostFlocks.1.2.2.2 (Nat.le_of_ble_eq_true rfl) rfl ?_
  intro p e s m below meth c C hr
  have hr7 : rmD d ≤ 7 := by unfold rmD; split <;> omega
  have L : ∀ (fu j : Nat), j ≤ f → f < fu + j → WW g p l e (rK 1 0 0) s m ([.ref (gB g + d)] : List Value).toArray below meth c 3 [] h [(0, .ref (gB g + d)), (1, .int (d_lost h d j)), (2, .int (nI j))] 0 0 (MQ below (QW g s.heap.size (some (.int (d_lost h d f))) h) ([.ref (gB g + d)] : List Value).toArray s 0 0 (AA g s.heap.size)) 4 [] := by
    intro fu
    induction fu with
    | zero => intro j h1 h2; omega
    | succ fu ih =>
      intro j hj hfu
      refine ww_iload_n C dX0_lostFlocks_4 2 rfl rfl ?_
      refine ww_aload_n C dX0_lostFlocks_5 0 rfl rfl ?_
      refine ww_getD C (by assumption) 5 (by decide) q_f_X0_59 dX0_lostFlocks_6 ?_
      refine ww_icmp_ge C dX0_lostFlocks_9 33 (by decide) (fun q => ?_) (fun q => ?_)
      · have hjn := lp_exit hf q hj (by omega)
        subst hjn
        refine ww_iload_n C dX0_lostFlocks_33 1 rfl rfl ?_
        exact ww_iret C hr rfl rfl dX0_lostFlocks_34
      · have hjn := lp_body hf q hj (by omega)
        have hP := isF_of hd (show j < rmD d by omega)
        refine ww_aload_n C dX0_lostFlocks_12 0 rfl rfl ?_
        refine ww_getDf C (by assumption) q_f_X0_41 dX0_lostFlocks_13 ?_
        refine ww_iload_n C dX0_lostFlocks_16 2 rfl rfl ?_
        refine ww_aaldF C hd (by omega) dX0_lostFlocks_17 ?_
        refine ww_callF C mf_X1_isLost dX0_lostFlocks_18 (ct_X1_isLost hP) q_m_X0_157 (by assumption) rfl rfl rfl (Nat.le_of_ble_eq_true rfl) (by exact ⟨Nat.le_of_ble_eq_true rfl, Nat.le_of_ble_eq_true rfl⟩) (by exact ⟨Nat.le_of_ble_eq_true rfl, Nat.le_of_ble_eq_true rfl⟩) ?_
        refine ww_if_eq C dX0_lostFlocks_21 27 (by decide) (fun c21 => ?_) (fun c21 => ?_)
        · refine ww_iinc (v := nI (j + 1)) C dX0_lostFlocks_27 rfl (nI_inc _) (by decide) ?_
          refine ww_goto C dX0_lostFlocks_30 4 (by decide) ?_
          refine ww_lv [(0, .ref (gB g + d)), (1, .int (d_lost h d (j + 1))), (2, .int (nI (j + 1)))] ⟨rfl, (by show some (Value.int _) = some (Value.int (_ + (if _ then _ else _))); first | (rw [if_pos c21]; rfl) | (rw [if_neg c21, Int32.add_zero]; rfl) | (rw [if_pos (bI1 c21)]; rfl) | (rw [if_neg (bI0 c21), Int32.add_zero]; rfl)), rfl, trivial⟩ ?_
          exact ih (j + 1) hjn (by omega)
        · refine ww_iinc C dX0_lostFlocks_24 rfl rfl (by decide) ?_
          refine ww_iinc (v := nI (j + 1)) C dX0_lostFlocks_27 rfl (nI_inc _) (by decide) ?_
          refine ww_goto C dX0_lostFlocks_30 4 (by decide) ?_
          refine ww_lv [(0, .ref (gB g + d)), (1, .int (d_lost h d (j + 1))), (2, .int (nI (j + 1)))] ⟨rfl, (by show some (Value.int _) = some (Value.int (_ + (if _ then _ else _))); first | (rw [if_pos c21]; rfl) | (rw [if_neg c21, Int32.add_zero]; rfl) | (rw [if_pos (bI1 c21)]; rfl) | (rw [if_neg (bI0 c21), Int32.add_zero]; rfl)), rfl, trivial⟩ ?_
          exact ih (j + 1) hjn (by omega)
  refine ww_iconst (v := 0) C dX0_lostFlocks_0 (by decide) ?_
  refine ww_istore_n C dX0_lostFlocks_1 1 rfl (by decide) ?_
  refine ww_iconst (v := 0) C dX0_lostFlocks_2 (by decide) ?_
  refine ww_istore_n C dX0_lostFlocks_3 2 rfl (by decide) ?_
  refine ww_lv [(0, .ref (gB g + d)), (1, .int (d_lost h d 0)), (2, .int (nI 0))] ⟨rfl, rfl, rfl, trivial⟩ ?_
  exact L (f + 1) 0 (Nat.zero_le _) (by omega)
set_option maxRecDepth 100000 in
set_option maxHeartbeats 4000000 in
theorem ct_X0_livingSheep {g : gW} {l : Launch} {h : Hp} {d f : Nat} (hd : isD d) (hf : h d 5 = nI f) (hfr : f ≤ rmD d) : CT g l yX0_livingSheep cX0_livingSheep 3 (some FieldType.int) 1 0 0 [.ref (gB g + d)] h (some (.int (d_sheep h d f))) h := by
  refine CT.of (lv0 := [(0, .ref (gB g + d))]) mf_X0_livingSheep.1.2.2.2 (Nat.le_of_ble_eq_true rfl) rfl ?_
  intro p e s m below meth c C hr
  have hr7 : rmD d ≤ 7 := by unfold rmD; split <;> omega
  have L : ∀ (fu j : Nat), j ≤ f → f < fu + j → WW g p l e (rK 1 0 0) s m ([.ref (gB g + d)] : List Value).toArray below meth c 3 [] h [(0, .ref (gB g + d)), (1, .int (d_sheep h d j)), (2, .int (nI j))] 0 0 (MQ below (QW g s.heap.size (some (.int (d_sheep h d f))) h) ([.ref (gB g + d)] : List Value).toArray s 0 0 (AA g s.heap.size)) 4 [] := by
    intro fu
    induction fu with
    | zero => intro j h1 h2; omega
    | succ fu ih =>
      intro j hj hfu
      refine ww_iload_n C dX0_livingSheep_4 2 rfl rfl ?_
      refine ww_aload_n C dX0_livingSheep_5 0 rfl rfl ?_
      refine ww_getD C (by assumption) 5 (by decide) q_f_X0_59 dX0_livingSheep_6 ?_
      refine ww_icmp_ge C dX0_livingSheep_9 42 (by decide) (fun q => ?_) (fun q => ?_)
      · have hjn := lp_exit hf q hj (by omega)
        subst hjn
        refine ww_iload_n C dX0_livingSheep_42 1 rfl rfl ?_
        exact ww_iret C hr rfl rfl dX0_livingSheep_43
      · have hjn := lp_body hf q hj (by omega)
        have hP := isF_of hd (show j < rmD d by omega)
        refine ww_aload_n C dX0_livingSheep_12 0 rfl rfl ?_
        refine ww_getDf C (by assumption) q_f_X0_41 dX0_livingSheep_13 ?_
        refine ww_iload_n C dX0_livingSheep_16 2 rfl rfl ?_
        refine ww_aaldF C hd (by omega) dX0_livingSheep_17 ?_
        refine ww_callF C mf_X1_isLost dX0_livingSheep_18 (ct_X1_isLost hP) q_m_X0_157 (by assumption) rfl rfl rfl (Nat.le_of_ble_eq_true rfl) (by exact ⟨Nat.le_of_ble_eq_true rfl, Nat.le_of_ble_eq_true rfl⟩) (by exact ⟨Nat.le_of_ble_eq_true rfl, Nat.le_of_ble_eq_true rfl⟩) ?_
        refine ww_if_ne C dX0_livingSheep_21 36 (by decide) (fun c21 => ?_) (fun c21 => ?_)
        · refine ww_iinc (v := nI (j + 1)) C dX0_livingSheep_36 rfl (nI_inc _) (by decide) ?_
          refine ww_goto C dX0_livingSheep_39 4 (by decide) ?_
          refine ww_lv [(0, .ref (gB g + d)), (1, .int (d_sheep h d (j + 1))), (2, .int (nI (j + 1)))] ⟨rfl, (by show some (Value.int _) = some (Value.int (_ + (if _ then _ else _))); first | (rw [if_pos (bI1 c21), Int32.add_zero]; rfl) | (rw [if_neg (bI0 c21)]; rfl)), rfl, trivial⟩ ?_
          exact ih (j + 1) hjn (by omega)
        · refine ww_iload_n C dX0_livingSheep_24 1 rfl rfl ?_
          refine ww_aload_n C dX0_livingSheep_25 0 rfl rfl ?_
          refine ww_getDf C (by assumption) q_f_X0_41 dX0_livingSheep_26 ?_
          refine ww_iload_n C dX0_livingSheep_29 2 rfl rfl ?_
          refine ww_aaldF C hd (by omega) dX0_livingSheep_30 ?_
          refine ww_getF C (by assumption) 0 (by decide) q_f_X0_185 dX0_livingSheep_31 ?_
          refine ww_iadd C dX0_livingSheep_34 ?_
          refine ww_istore_n C dX0_livingSheep_35 1 rfl (by decide) ?_
          refine ww_iinc (v := nI (j + 1)) C dX0_livingSheep_36 rfl (nI_inc _) (by decide) ?_
          refine ww_goto C dX0_livingSheep_39 4 (by decide) ?_
          refine ww_lv [(0, .ref (gB g + d)), (1, .int (d_sheep h d (j + 1))), (2, .int (nI (j + 1)))] ⟨rfl, (by show some (Value.int _) = some (Value.int (_ + (if _ then _ else _))); first | (rw [if_pos (bI1 c21), Int32.add_zero]; rfl) | (rw [if_neg (bI0 c21)]; rfl)), rfl, trivial⟩ ?_
          exact ih (j + 1) hjn (by omega)
  refine ww_iconst (v := 0) C dX0_livingSheep_0 (by decide) ?_
  refine ww_istore_n C dX0_livingSheep_1 1 rfl (by decide) ?_
  refine ww_iconst (v := 0) C dX0_livingSheep_2 (by decide) ?_
  refine ww_istore_n C dX0_livingSheep_3 2 rfl (by decide) ?_
  refine ww_lv [(0, .ref (gB g + d)), (1, .int (d_sheep h d 0)), (2, .int (nI 0))] ⟨rfl, rfl, rfl, trivial⟩ ?_
  exact L (f + 1) 0 (Nat.zero_le _) (by omega)
set_option maxRecDepth 100000 in
set_option maxHeartbeats 4000000 in
theorem ct_X0_flocksAt {g : gW} {l : Launch} {h : Hp} {d f : Nat} {x : Int32} (hd : isD d) (hf : h d 5 = nI f) (hfr : f ≤ rmD d) : CT g l yX0_flocksAt cX0_flocksAt 4 (some FieldType.int) 1 0 0 [.ref (gB g + d), .int x] h (some (.int (d_at h d f x))) h := by
  refine CT.of (lv0 := [(0, .ref (gB g + d)), (1, .int x)]) mf_X0_flocksAt.1.2.2.2 (Nat.le_of_ble_eq_true rfl) rfl ?_
  intro p e s m below meth c C hr
  have hr7 : rmD d ≤ 7 := by unfold rmD; split <;> omega
  have L : ∀ (fu j : Nat), j ≤ f → f < fu + j → WW g p l e (rK 1 0 0) s m ([.ref (gB g + d), .int x] : List Value).toArray below meth c 4 [] h [(0, .ref (gB g + d)), (1, .int x), (2, .int (d_at h d j x)), (3, .int (nI j))] 0 0 (MQ below (QW g s.heap.size (some (.int (d_at h d f x))) h) ([.ref (gB g + d), .int x] : List Value).toArray s 0 0 (AA g s.heap.size)) 4 [] := by
    intro fu
    induction fu with
    | zero => intro j h1 h2; omega
    | succ fu ih =>
      intro j hj hfu
      refine ww_iload_n C dX0_flocksAt_4 3 rfl rfl ?_
      refine ww_aload_n C dX0_flocksAt_5 0 rfl rfl ?_
      refine ww_getD C (by assumption) 5 (by decide) q_f_X0_59 dX0_flocksAt_6 ?_
      refine ww_icmp_ge C dX0_flocksAt_9 46 (by decide) (fun q => ?_) (fun q => ?_)
      · have hjn := lp_exit hf q hj (by omega)
        subst hjn
        refine ww_iload_n C dX0_flocksAt_46 2 rfl rfl ?_
        exact ww_iret C hr rfl rfl dX0_flocksAt_47
      · have hjn := lp_body hf q hj (by omega)
        have hP := isF_of hd (show j < rmD d by omega)
        refine ww_aload_n C dX0_flocksAt_12 0 rfl rfl ?_
        refine ww_getDf C (by assumption) q_f_X0_41 dX0_flocksAt_13 ?_
        refine ww_iload_n C dX0_flocksAt_16 3 rfl rfl ?_
        refine ww_aaldF C hd (by omega) dX0_flocksAt_17 ?_
        refine ww_getF C (by assumption) 1 (by decide) q_f_X0_172 dX0_flocksAt_18 ?_
        refine ww_iload_n C dX0_flocksAt_21 1 rfl rfl ?_
        refine ww_icmp_ne C dX0_flocksAt_22 40 (by decide) (fun c22 => ?_) (fun c22 => ?_)
        · refine ww_iinc (v := nI (j + 1)) C dX0_flocksAt_40 rfl (nI_inc _) (by decide) ?_
          refine ww_goto C dX0_flocksAt_43 4 (by decide) ?_
          refine ww_lv [(0, .ref (gB g + d)), (1, .int x), (2, .int (d_at h d (j + 1) x)), (3, .int (nI (j + 1)))] ⟨rfl, rfl, (by show some (Value.int _) = some (Value.int (_ + (if _ then (if _ then _ else _) else _))); first | (rw [if_neg c22, Int32.add_zero]; rfl) | (rw [if_pos c22, if_pos (bI1 c34), Int32.add_zero]; rfl) | (rw [if_pos c22, if_neg (bI0 c34)]; rfl)), rfl, trivial⟩ ?_
          exact ih (j + 1) hjn (by omega)
        · refine ww_aload_n C dX0_flocksAt_25 0 rfl rfl ?_
          refine ww_getDf C (by assumption) q_f_X0_41 dX0_flocksAt_26 ?_
          refine ww_iload_n C dX0_flocksAt_29 3 rfl rfl ?_
          refine ww_aaldF C hd (by omega) dX0_flocksAt_30 ?_
          refine ww_callF C mf_X1_isLost dX0_flocksAt_31 (ct_X1_isLost hP) q_m_X0_157 (by assumption) rfl rfl rfl (Nat.le_of_ble_eq_true rfl) (by exact ⟨Nat.le_of_ble_eq_true rfl, Nat.le_of_ble_eq_true rfl⟩) (by exact ⟨Nat.le_of_ble_eq_true rfl, Nat.le_of_ble_eq_true rfl⟩) ?_
          refine ww_if_ne C dX0_flocksAt_34 40 (by decide) (fun c34 => ?_) (fun c34 => ?_)
          · refine ww_iinc (v := nI (j + 1)) C dX0_flocksAt_40 rfl (nI_inc _) (by decide) ?_
            refine ww_goto C dX0_flocksAt_43 4 (by decide) ?_
            refine ww_lv [(0, .ref (gB g + d)), (1, .int x), (2, .int (d_at h d (j + 1) x)), (3, .int (nI (j + 1)))] ⟨rfl, rfl, (by show some (Value.int _) = some (Value.int (_ + (if _ then (if _ then _ else _) else _))); first | (rw [if_neg c22, Int32.add_zero]; rfl) | (rw [if_pos c22, if_pos (bI1 c34), Int32.add_zero]; rfl) | (rw [if_pos c22, if_neg (bI0 c34)]; rfl)), rfl, trivial⟩ ?_
            exact ih (j + 1) hjn (by omega)
          · refine ww_iinc C dX0_flocksAt_37 rfl rfl (by decide) ?_
            refine ww_iinc (v := nI (j + 1)) C dX0_flocksAt_40 rfl (nI_inc _) (by decide) ?_
            refine ww_goto C dX0_flocksAt_43 4 (by decide) ?_
            refine ww_lv [(0, .ref (gB g + d)), (1, .int x), (2, .int (d_at h d (j + 1) x)), (3, .int (nI (j + 1)))] ⟨rfl, rfl, (by show some (Value.int _) = some (Value.int (_ + (if _ then (if _ then _ else _) else _))); first | (rw [if_neg c22, Int32.add_zero]; rfl) | (rw [if_pos c22, if_pos (bI1 c34), Int32.add_zero]; rfl) | (rw [if_pos c22, if_neg (bI0 c34)]; rfl)), rfl, trivial⟩ ?_
            exact ih (j + 1) hjn (by omega)
  refine ww_iconst (v := 0) C dX0_flocksAt_0 (by decide) ?_
  refine ww_istore_n C dX0_flocksAt_1 2 rfl (by decide) ?_
  refine ww_iconst (v := 0) C dX0_flocksAt_2 (by decide) ?_
  refine ww_istore_n C dX0_flocksAt_3 3 rfl (by decide) ?_
  refine ww_lv [(0, .ref (gB g + d)), (1, .int x), (2, .int (d_at h d 0 x)), (3, .int (nI 0))] ⟨rfl, rfl, rfl, rfl, trivial⟩ ?_
  exact L (f + 1) 0 (Nat.zero_le _) (by omega)
