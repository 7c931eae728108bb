set_option maxRecDepth 100000 in
set_option maxHeartbeats 1600000 in
theorem ct_X5_foresee {g : gW} {l : Launch} {h : Hp} {n f t : Nat} (H : OM n f h) (ht : h 69 0 = nI t) (ht31 : t + 300 < 2 ^ 31) {x k : Int32} : CTK g l yX5_foresee cX5_foresee 5 (some FieldType.int) 5 4 90 [.ref (gB g + 64), .int x, .int k] h (some (.int (y_foresee n f t h x k).1)) (y_foresee n f t h x k).2 := by
  have hn : y0 h 64 1 = nI n := H.yy.1
  have hn10 := H.2.1
  have hf : y0 h 64 3 = nI f := H.yy.2.2.1
  have ht0 : y0 h 69 0 = nI t := by rw [y0_ne (by omega)]; exact ht
  refine CTK.of (lv0 := [(0, .ref (gB g + 64)), (1, .int x), (2, .int k)]) mf_X5_foresee.1.2.2.2 (Nat.le_of_ble_eq_true rfl) rfl ?_
  intro p e s m below meth c C hX hr
  refine ww_aload_n C dX5_foresee_0 0 rfl rfl ?_
  refine ww_iconst (v := 0) C dX5_foresee_1 (by decide) ?_
  refine ww_putM C 0 (by decide) q_f_X5_25 dX5_foresee_2 ?_
  refine ww_heap (h2 := y0 h) rfl ?_
  refine ww_aload_n C dX5_foresee_5 0 rfl rfl ?_
  refine ww_iload_n C dX5_foresee_6 1 rfl rfl ?_
  refine ww_callM C mf_X5_isPond dX5_foresee_7 ct_X5_isPond q_m_X5_62 rfl rfl rfl (Nat.le_of_ble_eq_true rfl) (by exact ⟨Nat.le_of_ble_eq_true rfl, Nat.le_of_ble_eq_true rfl⟩) (by exact ⟨Nat.le_of_ble_eq_true rfl, Nat.le_of_ble_eq_true rfl⟩) ?_
  refine ww_if_ne C dX5_foresee_10 19 (by decide) (fun c10 => ?_) (fun c10 => ?_)
  · have hx : isN 10 x := isN_up (mN hn hn10 c10) hn10
    refine ww_iload_n C dX5_foresee_19 2 rfl rfl ?_
    refine ww_iconst (v := 1) C dX5_foresee_20 (by decide) ?_
    refine ww_bipush (v := 100) C dX5_foresee_21 (by decide) ?_
    refine ww_callS C mf_X5_isIn ct_X5_isIn q_m_X5_32 rfl rfl (Nat.le_of_ble_eq_true rfl) (by exact ⟨Nat.le_of_ble_eq_true rfl, Nat.le_of_ble_eq_true rfl⟩) (by exact ⟨Nat.le_of_ble_eq_true rfl, Nat.le_of_ble_eq_true rfl⟩) dX5_foresee_23 ?_
    refine ww_if_ne C dX5_foresee_26 35 (by decide) (fun c26 => ?_) (fun c26 => ?_)
    · obtain ⟨ek, hk⟩ := in1 (N := 100) rfl (by omega) c26
      refine ww_aload_n C dX5_foresee_35 0 rfl rfl ?_
      refine ww_callK C hX kt_X5 q_m_X5_146 (Nat.le_of_ble_eq_true rfl) ⟨(Nat.le_of_ble_eq_true rfl), (Nat.le_of_ble_eq_true rfl)⟩ ⟨(Nat.le_of_ble_eq_true rfl), (Nat.le_of_ble_eq_true rfl)⟩ dX5_foresee_36 (fun a a0 a1 a2 => ?_)
      have L : ∀ (fu j : Nat), j ≤ k.toNatClampNeg → k.toNatClampNeg < fu + j → WW g p l e (rK 5 4 90) s m ([.ref (gB g + 64), .int x, .int k] : List Value).toArray below meth c 5 (xK g a a0 a1 a2 (y0 h)) (m_days n f t (y0 h) j) [(0, .ref (gB g + 64)), (1, .int x), (2, .int k), (3, .ref a), (4, .int (nI j))] 4 90 (MQ below (QW g s.heap.size (some (.int (y_foresee n f t h x k).1)) (y_foresee n f t h x k).2) ([.ref (gB g + 64), .int x, .int k] : List Value).toArray s 4 90 (AA g s.heap.size)) 43 [] := by
        intro fu
        induction fu with
        | zero => intro j h1 h2; omega
        | succ fu ih =>
          intro j hj hfu
          have Hj := mdays_ok H.yy ht0 j
          refine ww_iload C dX5_foresee_43 rfl ?_
          refine ww_iload_n C dX5_foresee_45 2 rfl rfl ?_
          refine ww_icmp_ge C dX5_foresee_46 60 (by decide) (fun q => ?_) (fun q => ?_)
          · have hjn := lp_exit ek q hj (by omega)
            subst hjn
            refine ww_aload_n C dX5_foresee_60 0 rfl rfl ?_
            refine ww_iload_n C dX5_foresee_61 1 rfl rfl ?_
            refine ww_iconst (v := 0) C dX5_foresee_62 (by decide) ?_
            refine ww_callM C mf_X5_po dX5_foresee_63 (ct_X5_po (by first | exact ix_0 (by assumption) | exact ix_1 (by assumption) | exact ix_2 (by assumption) | exact ix_3 (by assumption) | exact ix_4 (by assumption))) q_m_X5_66 rfl rfl rfl (Nat.le_of_ble_eq_true rfl) (by exact ⟨Nat.le_of_ble_eq_true rfl, Nat.le_of_ble_eq_true rfl⟩) (by exact ⟨Nat.le_of_ble_eq_true rfl, Nat.le_of_ble_eq_true rfl⟩) ?_
            refine ww_istore C dX5_foresee_66 (by decide) ?_
            refine ww_aload_n C dX5_foresee_68 0 rfl rfl ?_
            refine ww_aload_n C dX5_foresee_69 3 rfl rfl ?_
            refine ww_callB C bt_X5 rfl q_m_X5_150 (Nat.le_of_ble_eq_true rfl) ⟨(Nat.le_of_ble_eq_true rfl), (Nat.le_of_ble_eq_true rfl)⟩ ⟨(Nat.le_of_ble_eq_true rfl), (Nat.le_of_ble_eq_true rfl)⟩ dX5_foresee_70 ?_
            refine ww_agree (back_days H.yy ht0) ?_
            refine ww_iload C dX5_foresee_73 rfl ?_
            exact ww_wide 4 90 (Nat.le_of_ble_eq_true rfl) (Nat.le_of_ble_eq_true rfl) (ww_iret C hr (by unfold y_foresee; rw [if_neg c10, if_neg c26]) (by unfold y_foresee; rw [if_neg c10, if_neg c26]) dX5_foresee_75)
          · have hjn := lp_body ek q hj (by omega)
            refine ww_aload_n C dX5_foresee_49 0 rfl rfl ?_
            refine ww_callM C mf_X5_dayOn dX5_foresee_50 (ct_X5_dayOn Hj.1 Hj.2 (by omega)) q_m_X5_131 rfl rfl rfl (Nat.le_of_ble_eq_true rfl) (by exact ⟨Nat.le_of_ble_eq_true rfl, Nat.le_of_ble_eq_true rfl⟩) (by exact ⟨Nat.le_of_ble_eq_true rfl, Nat.le_of_ble_eq_true rfl⟩) ?_
            refine ww_pop C dX5_foresee_53 rfl ?_
            refine ww_iinc (v := nI (j + 1)) C dX5_foresee_54 rfl (nI_inc _) (by decide) ?_
            refine ww_goto C dX5_foresee_57 43 (by decide) ?_
            refine ww_lv [(0, .ref (gB g + 64)), (1, .int x), (2, .int k), (3, .ref a), (4, .int (nI (j + 1)))] ⟨rfl, rfl, rfl, rfl, rfl, trivial⟩ ?_
            exact ih (j + 1) hjn (by omega)
      refine ww_astore_n C dX5_foresee_39 3 rfl (by decide) ?_
      refine ww_iconst (v := 0) C dX5_foresee_40 (by decide) ?_
      refine ww_istore C dX5_foresee_41 (by decide) ?_
      refine ww_lv [(0, .ref (gB g + 64)), (1, .int x), (2, .int k), (3, .ref a), (4, .int (nI 0))] ⟨rfl, rfl, rfl, rfl, rfl, trivial⟩ ?_
      exact L (k.toNatClampNeg + 1) 0 (Nat.zero_le _) (by omega)
    · refine ww_aload_n C dX5_foresee_29 0 rfl rfl ?_
      refine ww_iconst (v := 2) C dX5_foresee_30 (by decide) ?_
      refine ww_callM C mf_X5_fail dX5_foresee_31 ct_X5_fail q_m_X5_49 rfl rfl rfl (Nat.le_of_ble_eq_true rfl) (by exact ⟨Nat.le_of_ble_eq_true rfl, Nat.le_of_ble_eq_true rfl⟩) (by exact ⟨Nat.le_of_ble_eq_true rfl, Nat.le_of_ble_eq_true rfl⟩) ?_
      exact ww_wide 4 90 (Nat.le_of_ble_eq_true rfl) (Nat.le_of_ble_eq_true rfl) (ww_iret C hr (by unfold y_foresee; rw [if_neg c10, if_pos c26]; rfl) (by unfold y_foresee; rw [if_neg c10, if_pos c26]; rfl) dX5_foresee_34)
  · refine ww_aload_n C dX5_foresee_13 0 rfl rfl ?_
    refine ww_iconst (v := 1) C dX5_foresee_14 (by decide) ?_
    refine ww_callM C mf_X5_fail dX5_foresee_15 ct_X5_fail q_m_X5_49 rfl rfl rfl (Nat.le_of_ble_eq_true rfl) (by exact ⟨Nat.le_of_ble_eq_true rfl, Nat.le_of_ble_eq_true rfl⟩) (by exact ⟨Nat.le_of_ble_eq_true rfl, Nat.le_of_ble_eq_true rfl⟩) ?_
    exact ww_wide 4 90 (Nat.le_of_ble_eq_true rfl) (Nat.le_of_ble_eq_true rfl) (ww_iret C hr (by unfold y_foresee; rw [if_pos c10]; rfl) (by unfold y_foresee; rw [if_pos c10]; rfl) dX5_foresee_18)
set_option maxRecDepth 100000 in
set_option maxHeartbeats 1600000 in
theorem ct_X5_lasts {g : gW} {l : Launch} {h : Hp} {n f t : Nat} (H : OM n f h) (ht : h 69 0 = nI t) (ht31 : t + 300 < 2 ^ 31) {x : Int32} : CTK g l yX5_lasts cX5_lasts 4 (some FieldType.int) 5 4 90 [.ref (gB g + 64), .int x] h (some (.int (y_lasts n f t h x).1)) (y_lasts n f t h x).2 := by
  have hn : y0 h 64 1 = nI n := H.yy.1
  have hn10 := H.2.1
  have hf : y0 h 64 3 = nI f := H.yy.2.2.1
  have ht0 : y0 h 69 0 = nI t := by rw [y0_ne (by omega)]; exact ht
  refine CTK.of (lv0 := [(0, .ref (gB g + 64)), (1, .int x)]) mf_X5_lasts.1.2.2.2 (Nat.le_of_ble_eq_true rfl) rfl ?_
  intro p e s m below meth c C hX hr
  refine ww_aload_n C dX5_lasts_0 0 rfl rfl ?_
  refine ww_iconst (v := 0) C dX5_lasts_1 (by decide) ?_
  refine ww_putM C 0 (by decide) q_f_X5_25 dX5_lasts_2 ?_
  refine ww_heap (h2 := y0 h) rfl ?_
  refine ww_aload_n C dX5_lasts_5 0 rfl rfl ?_
  refine ww_iload_n C dX5_lasts_6 1 rfl rfl ?_
  refine ww_callM C mf_X5_isPond dX5_lasts_7 ct_X5_isPond q_m_X5_62 rfl rfl rfl (Nat.le_of_ble_eq_true rfl) (by exact ⟨Nat.le_of_ble_eq_true rfl, Nat.le_of_ble_eq_true rfl⟩) (by exact ⟨Nat.le_of_ble_eq_true rfl, Nat.le_of_ble_eq_true rfl⟩) ?_
  refine ww_if_ne C dX5_lasts_10 19 (by decide) (fun c10 => ?_) (fun c10 => ?_)
  · have hx : isN 10 x := isN_up (mN hn hn10 c10) hn10
    refine ww_aload_n C dX5_lasts_19 0 rfl rfl ?_
    refine ww_callK C hX kt_X5 q_m_X5_146 (Nat.le_of_ble_eq_true rfl) ⟨(Nat.le_of_ble_eq_true rfl), (Nat.le_of_ble_eq_true rfl)⟩ ⟨(Nat.le_of_ble_eq_true rfl), (Nat.le_of_ble_eq_true rfl)⟩ dX5_lasts_20 (fun a a0 a1 a2 => ?_)
    have K53 : WW g p l e (rK 5 4 90) s m ([.ref (gB g + 64), .int x] : List Value).toArray below meth c 4 (xK g a a0 a1 a2 (y0 h)) (m_days n f t (y0 h) (m_las n f t (y0 h) x 200 0)) [(0, .ref (gB g + 64)), (1, .int x), (2, .ref a), (3, .int (nI (m_las n f t (y0 h) x 200 0)))] 4 90 (MQ below (QW g s.heap.size (some (.int (y_lasts n f t h x).1)) (y_lasts n f t h x).2) ([.ref (gB g + 64), .int x] : List Value).toArray s 4 90 (AA g s.heap.size)) 53 [] := by
      refine ww_aload_n C dX5_lasts_53 0 rfl rfl ?_
      refine ww_iload_n C dX5_lasts_54 1 rfl rfl ?_
      refine ww_iconst (v := 0) C dX5_lasts_55 (by decide) ?_
      refine ww_callM C mf_X5_po dX5_lasts_56 (ct_X5_po (by first | exact ix_0 (by assumption) | exact ix_1 (by assumption) | exact ix_2 (by assumption) | exact ix_3 (by assumption) | exact ix_4 (by assumption))) q_m_X5_66 rfl rfl rfl (Nat.le_of_ble_eq_true rfl) (by exact ⟨Nat.le_of_ble_eq_true rfl, Nat.le_of_ble_eq_true rfl⟩) (by exact ⟨Nat.le_of_ble_eq_true rfl, Nat.le_of_ble_eq_true rfl⟩) ?_
      refine ww_if_le C dX5_lasts_59 64 (by decide) (fun c59 => ?_) (fun c59 => ?_)
      · refine ww_aload_n C dX5_lasts_64 0 rfl rfl ?_
        refine ww_aload_n C dX5_lasts_65 2 rfl rfl ?_
        refine ww_callB C bt_X5 rfl q_m_X5_150 (Nat.le_of_ble_eq_true rfl) ⟨(Nat.le_of_ble_eq_true rfl), (Nat.le_of_ble_eq_true rfl)⟩ ⟨(Nat.le_of_ble_eq_true rfl), (Nat.le_of_ble_eq_true rfl)⟩ dX5_lasts_66 ?_
        refine ww_agree (back_days H.yy ht0) ?_
        refine ww_iload_n C dX5_lasts_69 3 rfl rfl ?_
        exact ww_wide 4 90 (Nat.le_of_ble_eq_true rfl) (Nat.le_of_ble_eq_true rfl) (ww_iret C hr (by unfold y_lasts; rw [if_neg c10]; first | exact congrArg (fun z => some (Value.int z)) (if_pos c59) | exact congrArg (fun z => some (Value.int z)) (if_neg c59)) (by unfold y_lasts; rw [if_neg c10]) dX5_lasts_70)
      · refine ww_iconst (v := (-1)) C dX5_lasts_62 (by decide) ?_
        refine ww_istore_n C dX5_lasts_63 3 rfl (by decide) ?_
        refine ww_aload_n C dX5_lasts_64 0 rfl rfl ?_
        refine ww_aload_n C dX5_lasts_65 2 rfl rfl ?_
        refine ww_callB C bt_X5 rfl q_m_X5_150 (Nat.le_of_ble_eq_true rfl) ⟨(Nat.le_of_ble_eq_true rfl), (Nat.le_of_ble_eq_true rfl)⟩ ⟨(Nat.le_of_ble_eq_true rfl), (Nat.le_of_ble_eq_true rfl)⟩ dX5_lasts_66 ?_
        refine ww_agree (back_days H.yy ht0) ?_
        refine ww_iload_n C dX5_lasts_69 3 rfl rfl ?_
        exact ww_wide 4 90 (Nat.le_of_ble_eq_true rfl) (Nat.le_of_ble_eq_true rfl) (ww_iret C hr (by unfold y_lasts; rw [if_neg c10]; first | exact congrArg (fun z => some (Value.int z)) (if_pos c59) | exact congrArg (fun z => some (Value.int z)) (if_neg c59)) (by unfold y_lasts; rw [if_neg c10]) dX5_lasts_70)
    have L : ∀ (fu j : Nat), j ≤ 200 → 200 < fu + j → m_las n f t (y0 h) x (200 - j) j = (m_las n f t (y0 h) x 200 0) → WW g p l e (rK 5 4 90) s m ([.ref (gB g + 64), .int x] : List Value).toArray below meth c 4 (xK g a a0 a1 a2 (y0 h)) (m_days n f t (y0 h) j) [(0, .ref (gB g + 64)), (1, .int x), (2, .ref a), (3, .int (nI j))] 4 90 (MQ below (QW g s.heap.size (some (.int (y_lasts n f t h x).1)) (y_lasts n f t h x).2) ([.ref (gB g + 64), .int x] : List Value).toArray s 4 90 (AA g s.heap.size)) 26 [] := by
      intro fu
      induction fu with
      | zero => intro j h1 h2; omega
      | succ fu ih =>
        intro j hj hfu hl
        have Hj := mdays_ok H.yy ht0 j
        refine ww_iload_n C dX5_lasts_26 3 rfl rfl ?_
        refine ww_sipush (v := 200) C dX5_lasts_27 (by decide) ?_
        refine ww_icmp_ge C dX5_lasts_30 53 (by decide) (fun q => ?_) (fun q => ?_)
        · have hjn := lp_exit (show (200 : Int32) = nI 200 from rfl) q hj (by omega)
          subst hjn
          have hjs : 200 = (m_las n f t (y0 h) x 200 0) := by first | exact hl | exact (las_n c39 _).symm.trans hl
          rw [hjs]
          exact K53
        · have hjn := lp_body (show (200 : Int32) = nI 200 from rfl) q hj (by omega)
          refine ww_aload_n C dX5_lasts_33 0 rfl rfl ?_
          refine ww_iload_n C dX5_lasts_34 1 rfl rfl ?_
          refine ww_iconst (v := 0) C dX5_lasts_35 (by decide) ?_
          refine ww_callM C mf_X5_po dX5_lasts_36 (ct_X5_po (by first | exact ix_0 (by assumption) | exact ix_1 (by assumption) | exact ix_2 (by assumption) | exact ix_3 (by assumption) | exact ix_4 (by assumption))) q_m_X5_66 rfl rfl rfl (Nat.le_of_ble_eq_true rfl) (by exact ⟨Nat.le_of_ble_eq_true rfl, Nat.le_of_ble_eq_true rfl⟩) (by exact ⟨Nat.le_of_ble_eq_true rfl, Nat.le_of_ble_eq_true rfl⟩) ?_
          refine ww_if_le C dX5_lasts_39 53 (by decide) (fun c39 => ?_) (fun c39 => ?_)
          · have hjs : j = (m_las n f t (y0 h) x 200 0) := by first | exact hl | exact (las_n c39 _).symm.trans hl
            rw [hjs]
            exact K53
          · refine ww_aload_n C dX5_lasts_42 0 rfl rfl ?_
            refine ww_callM C mf_X5_dayOn dX5_lasts_43 (ct_X5_dayOn Hj.1 Hj.2 (by omega)) q_m_X5_131 rfl rfl rfl (Nat.le_of_ble_eq_true rfl) (by exact ⟨Nat.le_of_ble_eq_true rfl, Nat.le_of_ble_eq_true rfl⟩) (by exact ⟨Nat.le_of_ble_eq_true rfl, Nat.le_of_ble_eq_true rfl⟩) ?_
            refine ww_pop C dX5_lasts_46 rfl ?_
            refine ww_iinc (v := nI (j + 1)) C dX5_lasts_47 rfl (nI_inc _) (by decide) ?_
            refine ww_goto C dX5_lasts_50 26 (by decide) ?_
            refine ww_lv [(0, .ref (gB g + 64)), (1, .int x), (2, .ref a), (3, .int (nI (j + 1)))] ⟨rfl, rfl, rfl, rfl, trivial⟩ ?_
            exact ih (j + 1) hjn (by omega) (las_y c39 hjn hl)
    refine ww_astore_n C dX5_lasts_23 2 rfl (by decide) ?_
    refine ww_iconst (v := 0) C dX5_lasts_24 (by decide) ?_
    refine ww_istore_n C dX5_lasts_25 3 rfl (by decide) ?_
    refine ww_lv [(0, .ref (gB g + 64)), (1, .int x), (2, .ref a), (3, .int (nI 0))] ⟨rfl, rfl, rfl, rfl, trivial⟩ ?_
    exact L (200 + 1) 0 (Nat.zero_le _) (by omega) rfl
  · refine ww_aload_n C dX5_lasts_13 0 rfl rfl ?_
    refine ww_iconst (v := 1) C dX5_lasts_14 (by decide) ?_
    refine ww_callM C mf_X5_fail dX5_lasts_15 ct_X5_fail q_m_X5_49 rfl rfl rfl (Nat.le_of_ble_eq_true rfl) (by exact ⟨Nat.le_of_ble_eq_true rfl, Nat.le_of_ble_eq_true rfl⟩) (by exact ⟨Nat.le_of_ble_eq_true rfl, Nat.le_of_ble_eq_true rfl⟩) ?_
    exact ww_wide 4 90 (Nat.le_of_ble_eq_true rfl) (Nat.le_of_ble_eq_true rfl) (ww_iret C hr (by unfold y_lasts; rw [if_pos c10]; rfl) (by unfold y_lasts; rw [if_pos c10]; rfl) dX5_lasts_18)
