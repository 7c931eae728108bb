set_option maxRecDepth 100000 in
set_option maxHeartbeats 1600000 in
theorem ct_X5_link {g : gW} {l : Launch} {h : Hp} {n f : Nat} (H : OM n f h) {x o : Int32} : CT g l yX5_link cX5_link 4 (some FieldType.int) 2 0 0 [.ref (gB g + 64), .int x, .int o] h (some (.int (y_link h x o).1)) (y_link h x o).2 := by
  refine CT.of (lv0 := [(0, .ref (gB g + 64)), (1, .int x), (2, .int o)]) mf_X5_link.1.2.2.2 (Nat.le_of_ble_eq_true rfl) rfl ?_
  intro p e s m below meth c C hr
  have hn : y0 h 64 1 = nI n := H.yy.1
  have hn10 := H.2.1
  have hf : y0 h 64 3 = nI f := H.yy.2.2.1
  refine ww_aload_n C dX5_link_0 0 rfl rfl ?_
  refine ww_iconst (v := 0) C dX5_link_1 (by decide) ?_
  refine ww_putM C 0 (by decide) q_f_X5_25 dX5_link_2 ?_
  refine ww_heap (h2 := y0 h) rfl ?_
  refine ww_aload_n C dX5_link_5 0 rfl rfl ?_
  refine ww_iload_n C dX5_link_6 1 rfl rfl ?_
  refine ww_callM C mf_X5_isPond dX5_link_7 ct_X5_isPond q_m_X5_62 rfl rfl rfl (Nat.le_of_ble_eq_true rfl) (by exact ⟨Nat.le_of_ble_eq_true rfl, Nat.le_of_ble_eq_true rfl⟩) (by exact ⟨Nat.le_of_ble_eq_true rfl, Nat.le_of_ble_eq_true rfl⟩) ?_
  refine ww_if_eq C dX5_link_10 26 (by decide) (fun c10 => ?_) (fun c10 => ?_)
  · refine ww_aload_n C dX5_link_26 0 rfl rfl ?_
    refine ww_iconst (v := 1) C dX5_link_27 (by decide) ?_
    refine ww_callM C mf_X5_fail dX5_link_28 ct_X5_fail q_m_X5_49 rfl rfl rfl (Nat.le_of_ble_eq_true rfl) (by exact ⟨Nat.le_of_ble_eq_true rfl, Nat.le_of_ble_eq_true rfl⟩) (by exact ⟨Nat.le_of_ble_eq_true rfl, Nat.le_of_ble_eq_true rfl⟩) ?_
    exact ww_iret C hr (by simp only [y_link, yF, c10, if_true, if_false]) (by simp only [y_link, yF, c10, if_true, if_false]) dX5_link_31
  · have hx : isN 10 x := isN_up (mN hn hn10 c10) hn10
    refine ww_iload_n C dX5_link_13 2 rfl rfl ?_
    refine ww_iconst (v := (-1)) C dX5_link_14 (by decide) ?_
    refine ww_icmp_eq C dX5_link_15 32 (by decide) (fun c15 => ?_) (fun c15 => ?_)
    · refine ww_iload_n C dX5_link_32 2 rfl rfl ?_
      refine ww_iconst (v := (-1)) C dX5_link_33 (by decide) ?_
      refine ww_icmp_eq C dX5_link_34 58 (by decide) (fun _ => ?_) (fun q => absurd c15 q)
      refine ww_aload_n C dX5_link_58 0 rfl rfl ?_
      refine ww_iload_n C dX5_link_59 1 rfl rfl ?_
      refine ww_iconst (v := 3) C dX5_link_60 (by decide) ?_
      refine ww_callM C mf_X5_po dX5_link_61 (ct_X5_po (by first | exact ix_0 (by assumption) | exact ix_1 (by assumption) | exact ix_2 (by assumption) | exact ix_3 (by assumption) | exact ix_4 (by assumption))) q_m_X5_66 rfl rfl rfl (Nat.le_of_ble_eq_true rfl) (by exact ⟨Nat.le_of_ble_eq_true rfl, Nat.le_of_ble_eq_true rfl⟩) (by exact ⟨Nat.le_of_ble_eq_true rfl, Nat.le_of_ble_eq_true rfl⟩) ?_
      refine ww_istore_n C dX5_link_64 3 rfl (by decide) ?_
      refine ww_aload_n C dX5_link_65 0 rfl rfl ?_
      refine ww_iload_n C dX5_link_66 1 rfl rfl ?_
      refine ww_iconst (v := 3) C dX5_link_67 (by decide) ?_
      refine ww_iload_n C dX5_link_68 2 rfl rfl ?_
      refine ww_callM C mf_X5_set dX5_link_69 (ct_X5_set (by first | exact ix_0 (by assumption) | exact ix_1 (by assumption) | exact ix_2 (by assumption) | exact ix_3 (by assumption) | exact ix_4 (by assumption))) q_m_X5_58 rfl rfl rfl (Nat.le_of_ble_eq_true rfl) (by exact ⟨Nat.le_of_ble_eq_true rfl, Nat.le_of_ble_eq_true rfl⟩) (by exact ⟨Nat.le_of_ble_eq_true rfl, Nat.le_of_ble_eq_true rfl⟩) ?_
      refine ww_iload_n C dX5_link_72 3 rfl rfl ?_
      exact ww_iret C hr (by simp only [y_link, yF, c10, c15, if_true, if_false]) (by simp only [y_link, yF, c10, c15, if_true, if_false]) dX5_link_73
    · refine ww_aload_n C dX5_link_18 0 rfl rfl ?_
      refine ww_iload_n C dX5_link_19 2 rfl rfl ?_
      refine ww_callM C mf_X5_isPond dX5_link_20 ct_X5_isPond q_m_X5_62 rfl rfl rfl (Nat.le_of_ble_eq_true rfl) (by exact ⟨Nat.le_of_ble_eq_true rfl, Nat.le_of_ble_eq_true rfl⟩) (by exact ⟨Nat.le_of_ble_eq_true rfl, Nat.le_of_ble_eq_true rfl⟩) ?_
      refine ww_if_ne C dX5_link_23 32 (by decide) (fun c23 => ?_) (fun c23 => ?_)
      · have ho : isN 10 o := isN_up (mN hn hn10 c23) hn10
        refine ww_iload_n C dX5_link_32 2 rfl rfl ?_
        refine ww_iconst (v := (-1)) C dX5_link_33 (by decide) ?_
        refine ww_icmp_eq C dX5_link_34 58 (by decide) (fun q => absurd q c15) (fun _ => ?_)
        refine ww_aload_n C dX5_link_37 0 rfl rfl ?_
        refine ww_iload_n C dX5_link_38 2 rfl rfl ?_
        refine ww_iconst (v := 2) C dX5_link_39 (by decide) ?_
        refine ww_callM C mf_X5_fx dX5_link_40 (ct_X5_fx (by first | exact ix_0 (by assumption) | exact ix_1 (by assumption) | exact ix_2 (by assumption) | exact ix_3 (by assumption) | exact ix_4 (by assumption))) q_m_X5_39 rfl rfl rfl (Nat.le_of_ble_eq_true rfl) (by exact ⟨Nat.le_of_ble_eq_true rfl, Nat.le_of_ble_eq_true rfl⟩) (by exact ⟨Nat.le_of_ble_eq_true rfl, Nat.le_of_ble_eq_true rfl⟩) ?_
        refine ww_aload_n C dX5_link_43 0 rfl rfl ?_
        refine ww_iload_n C dX5_link_44 1 rfl rfl ?_
        refine ww_iconst (v := 2) C dX5_link_45 (by decide) ?_
        refine ww_callM C mf_X5_fx dX5_link_46 (ct_X5_fx (by first | exact ix_0 (by assumption) | exact ix_1 (by assumption) | exact ix_2 (by assumption) | exact ix_3 (by assumption) | exact ix_4 (by assumption))) q_m_X5_39 rfl rfl rfl (Nat.le_of_ble_eq_true rfl) (by exact ⟨Nat.le_of_ble_eq_true rfl, Nat.le_of_ble_eq_true rfl⟩) (by exact ⟨Nat.le_of_ble_eq_true rfl, Nat.le_of_ble_eq_true rfl⟩) ?_
        refine ww_icmp_lt C dX5_link_49 58 (by decide) (fun c49 => ?_) (fun c49 => ?_)
        · refine ww_aload_n C dX5_link_58 0 rfl rfl ?_
          refine ww_iload_n C dX5_link_59 1 rfl rfl ?_
          refine ww_iconst (v := 3) C dX5_link_60 (by decide) ?_
          refine ww_callM C mf_X5_po dX5_link_61 (ct_X5_po (by first | exact ix_0 (by assumption) | exact ix_1 (by assumption) | exact ix_2 (by assumption) | exact ix_3 (by assumption) | exact ix_4 (by assumption))) q_m_X5_66 rfl rfl rfl (Nat.le_of_ble_eq_true rfl) (by exact ⟨Nat.le_of_ble_eq_true rfl, Nat.le_of_ble_eq_true rfl⟩) (by exact ⟨Nat.le_of_ble_eq_true rfl, Nat.le_of_ble_eq_true rfl⟩) ?_
          refine ww_istore_n C dX5_link_64 3 rfl (by decide) ?_
          refine ww_aload_n C dX5_link_65 0 rfl rfl ?_
          refine ww_iload_n C dX5_link_66 1 rfl rfl ?_
          refine ww_iconst (v := 3) C dX5_link_67 (by decide) ?_
          refine ww_iload_n C dX5_link_68 2 rfl rfl ?_
          refine ww_callM C mf_X5_set dX5_link_69 (ct_X5_set (by first | exact ix_0 (by assumption) | exact ix_1 (by assumption) | exact ix_2 (by assumption) | exact ix_3 (by assumption) | exact ix_4 (by assumption))) q_m_X5_58 rfl rfl rfl (Nat.le_of_ble_eq_true rfl) (by exact ⟨Nat.le_of_ble_eq_true rfl, Nat.le_of_ble_eq_true rfl⟩) (by exact ⟨Nat.le_of_ble_eq_true rfl, Nat.le_of_ble_eq_true rfl⟩) ?_
          refine ww_iload_n C dX5_link_72 3 rfl rfl ?_
          exact ww_iret C hr (by simp only [y_link, yF, c10, c15, c23, c49, if_true, if_false]) (by simp only [y_link, yF, c10, c15, c23, c49, if_true, if_false]) dX5_link_73
        · refine ww_aload_n C dX5_link_52 0 rfl rfl ?_
          refine ww_iconst (v := 2) C dX5_link_53 (by decide) ?_
          refine ww_callM C mf_X5_fail dX5_link_54 ct_X5_fail q_m_X5_49 rfl rfl rfl (Nat.le_of_ble_eq_true rfl) (by exact ⟨Nat.le_of_ble_eq_true rfl, Nat.le_of_ble_eq_true rfl⟩) (by exact ⟨Nat.le_of_ble_eq_true rfl, Nat.le_of_ble_eq_true rfl⟩) ?_
          exact ww_iret C hr (by simp only [y_link, yF, c10, c15, c23, c49, if_true, if_false]) (by simp only [y_link, yF, c10, c15, c23, c49, if_true, if_false]) dX5_link_57
      · refine ww_aload_n C dX5_link_26 0 rfl rfl ?_
        refine ww_iconst (v := 1) C dX5_link_27 (by decide) ?_
        refine ww_callM C mf_X5_fail dX5_link_28 ct_X5_fail q_m_X5_49 rfl rfl rfl (Nat.le_of_ble_eq_true rfl) (by exact ⟨Nat.le_of_ble_eq_true rfl, Nat.le_of_ble_eq_true rfl⟩) (by exact ⟨Nat.le_of_ble_eq_true rfl, Nat.le_of_ble_eq_true rfl⟩) ?_
        exact ww_iret C hr (by simp only [y_link, yF, c10, c15, c23, if_true, if_false]) (by simp only [y_link, yF, c10, c15, c23, if_true, if_false]) dX5_link_31
set_option maxRecDepth 100000 in
set_option maxHeartbeats 1600000 in
theorem ct_X5_puddle {g : gW} {l : Launch} {h : Hp} {n f : Nat} (H : OM n f h) {x o : Int32} : CT g l yX5_puddle cX5_puddle 3 (some FieldType.int) 3 0 0 [.ref (gB g + 64), .int x, .int o] h (some (.int (y_puddle h x o).1)) (y_puddle h x o).2 := by
  refine CT.of (lv0 := [(0, .ref (gB g + 64)), (1, .int x), (2, .int o)]) mf_X5_puddle.1.2.2.2 (Nat.le_of_ble_eq_true rfl) rfl ?_
  intro p e s m below meth c C hr
  have hn : y0 h 64 1 = nI n := H.yy.1
  have hn10 := H.2.1
  have hf : y0 h 64 3 = nI f := H.yy.2.2.1
  refine ww_aload_n C dX5_puddle_0 0 rfl rfl ?_
  refine ww_iconst (v := 0) C dX5_puddle_1 (by decide) ?_
  refine ww_putM C 0 (by decide) q_f_X5_25 dX5_puddle_2 ?_
  refine ww_heap (h2 := y0 h) rfl ?_
  refine ww_aload_n C dX5_puddle_5 0 rfl rfl ?_
  refine ww_iload_n C dX5_puddle_6 1 rfl rfl ?_
  refine ww_callM C mf_X5_isPond dX5_puddle_7 ct_X5_isPond q_m_X5_62 rfl rfl rfl (Nat.le_of_ble_eq_true rfl) (by exact ⟨Nat.le_of_ble_eq_true rfl, Nat.le_of_ble_eq_true rfl⟩) (by exact ⟨Nat.le_of_ble_eq_true rfl, Nat.le_of_ble_eq_true rfl⟩) ?_
  refine ww_if_ne C dX5_puddle_10 19 (by decide) (fun c10 => ?_) (fun c10 => ?_)
  · have hx : isN 10 x := isN_up (mN hn hn10 c10) hn10
    refine ww_iload_n C dX5_puddle_19 2 rfl rfl ?_
    refine ww_iconst (v := 1) C dX5_puddle_20 (by decide) ?_
    refine ww_bipush (v := 100) C dX5_puddle_21 (by decide) ?_
    refine ww_callS C mf_X5_isIn ct_X5_isIn q_m_X5_32 rfl rfl (Nat.le_of_ble_eq_true rfl) (by exact ⟨Nat.le_of_ble_eq_true rfl, Nat.le_of_ble_eq_true rfl⟩) (by exact ⟨Nat.le_of_ble_eq_true rfl, Nat.le_of_ble_eq_true rfl⟩) dX5_puddle_23 ?_
    refine ww_if_ne C dX5_puddle_26 35 (by decide) (fun c26 => ?_) (fun c26 => ?_)
    · refine ww_aload_n C dX5_puddle_35 0 rfl rfl ?_
      refine ww_iload_n C dX5_puddle_36 1 rfl rfl ?_
      refine ww_callM C mf_X5_isLow dX5_puddle_37 (ct_X5_isLow (by assumption)) q_m_X5_75 rfl rfl rfl (Nat.le_of_ble_eq_true rfl) (by exact ⟨Nat.le_of_ble_eq_true rfl, Nat.le_of_ble_eq_true rfl⟩) (by exact ⟨Nat.le_of_ble_eq_true rfl, Nat.le_of_ble_eq_true rfl⟩) ?_
      refine ww_if_eq C dX5_puddle_40 52 (by decide) (fun c40 => ?_) (fun c40 => ?_)
      · refine ww_aload_n C dX5_puddle_52 0 rfl rfl ?_
        refine ww_iconst (v := 3) C dX5_puddle_53 (by decide) ?_
        refine ww_callM C mf_X5_fail dX5_puddle_54 ct_X5_fail q_m_X5_49 rfl rfl rfl (Nat.le_of_ble_eq_true rfl) (by exact ⟨Nat.le_of_ble_eq_true rfl, Nat.le_of_ble_eq_true rfl⟩) (by exact ⟨Nat.le_of_ble_eq_true rfl, Nat.le_of_ble_eq_true rfl⟩) ?_
        exact ww_iret C hr (by simp only [y_puddle, yF, c10, c26, c40, if_true, if_false]) (by simp only [y_puddle, yF, c10, c26, c40, if_true, if_false]) dX5_puddle_57
      · refine ww_aload_n C dX5_puddle_43 0 rfl rfl ?_
        refine ww_iload_n C dX5_puddle_44 1 rfl rfl ?_
        refine ww_iload_n C dX5_puddle_45 2 rfl rfl ?_
        refine ww_callM C mf_X5_use dX5_puddle_46 (ct_X5_use (by assumption)) q_m_X5_78 rfl rfl rfl (Nat.le_of_ble_eq_true rfl) (by exact ⟨Nat.le_of_ble_eq_true rfl, Nat.le_of_ble_eq_true rfl⟩) (by exact ⟨Nat.le_of_ble_eq_true rfl, Nat.le_of_ble_eq_true rfl⟩) ?_
        refine ww_goto C dX5_puddle_49 57 (by decide) ?_
        exact ww_iret C hr (by simp only [y_puddle, yF, c10, c26, c40, if_true, if_false]) (by simp only [y_puddle, yF, c10, c26, c40, if_true, if_false]) dX5_puddle_57
    · refine ww_aload_n C dX5_puddle_29 0 rfl rfl ?_
      refine ww_iconst (v := 2) C dX5_puddle_30 (by decide) ?_
      refine ww_callM C mf_X5_fail dX5_puddle_31 ct_X5_fail q_m_X5_49 rfl rfl rfl (Nat.le_of_ble_eq_true rfl) (by exact ⟨Nat.le_of_ble_eq_true rfl, Nat.le_of_ble_eq_true rfl⟩) (by exact ⟨Nat.le_of_ble_eq_true rfl, Nat.le_of_ble_eq_true rfl⟩) ?_
      exact ww_iret C hr (by simp only [y_puddle, yF, c10, c26, if_true, if_false]) (by simp only [y_puddle, yF, c10, c26, if_true, if_false]) dX5_puddle_34
  · refine ww_aload_n C dX5_puddle_13 0 rfl rfl ?_
    refine ww_iconst (v := 1) C dX5_puddle_14 (by decide) ?_
    refine ww_callM C mf_X5_fail dX5_puddle_15 ct_X5_fail q_m_X5_49 rfl rfl rfl (Nat.le_of_ble_eq_true rfl) (by exact ⟨Nat.le_of_ble_eq_true rfl, Nat.le_of_ble_eq_true rfl⟩) (by exact ⟨Nat.le_of_ble_eq_true rfl, Nat.le_of_ble_eq_true rfl⟩) ?_
    exact ww_iret C hr (by simp only [y_puddle, yF, c10, if_true, if_false]) (by simp only [y_puddle, yF, c10, if_true, if_false]) dX5_puddle_18
set_option maxRecDepth 100000 in
set_option maxHeartbeats 1600000 in
theorem ct_X5_pour {g : gW} {l : Launch} {h : Hp} {n f : Nat} (H : OM n f h) {x o : Int32} : CT g l yX5_pour cX5_pour 3 (some FieldType.int) 2 0 0 [.ref (gB g + 64), .int x, .int o] h (some (.int (y_pour h x o).1)) (y_pour h x o).2 := by
  refine CT.of (lv0 := [(0, .ref (gB g + 64)), (1, .int x), (2, .int o)]) mf_X5_pour.1.2.2.2 (Nat.le_of_ble_eq_true rfl) rfl ?_
  intro p e s m below meth c C hr
  have hn : y0 h 64 1 = nI n := H.yy.1
  have hn10 := H.2.1
  have hf : y0 h 64 3 = nI f := H.yy.2.2.1
  refine ww_aload_n C dX5_pour_0 0 rfl rfl ?_
  refine ww_iconst (v := 0) C dX5_pour_1 (by decide) ?_
  refine ww_putM C 0 (by decide) q_f_X5_25 dX5_pour_2 ?_
  refine ww_heap (h2 := y0 h) rfl ?_
  refine ww_aload_n C dX5_pour_5 0 rfl rfl ?_
  refine ww_iload_n C dX5_pour_6 1 rfl rfl ?_
  refine ww_callM C mf_X5_isPond dX5_pour_7 ct_X5_isPond q_m_X5_62 rfl rfl rfl (Nat.le_of_ble_eq_true rfl) (by exact ⟨Nat.le_of_ble_eq_true rfl, Nat.le_of_ble_eq_true rfl⟩) (by exact ⟨Nat.le_of_ble_eq_true rfl, Nat.le_of_ble_eq_true rfl⟩) ?_
  refine ww_if_ne C dX5_pour_10 19 (by decide) (fun c10 => ?_) (fun c10 => ?_)
  · have hx : isN 10 x := isN_up (mN hn hn10 c10) hn10
    refine ww_iload_n C dX5_pour_19 2 rfl rfl ?_
    refine ww_sipush (v := (-10000)) C dX5_pour_20 (by decide) ?_
    refine ww_sipush (v := 10000) C dX5_pour_23 (by decide) ?_
    refine ww_callS C mf_X5_isIn ct_X5_isIn q_m_X5_32 rfl rfl (Nat.le_of_ble_eq_true rfl) (by exact ⟨Nat.le_of_ble_eq_true rfl, Nat.le_of_ble_eq_true rfl⟩) (by exact ⟨Nat.le_of_ble_eq_true rfl, Nat.le_of_ble_eq_true rfl⟩) dX5_pour_26 ?_
    refine ww_if_ne C dX5_pour_29 38 (by decide) (fun c29 => ?_) (fun c29 => ?_)
    · refine ww_aload_n C dX5_pour_38 0 rfl rfl ?_
      refine ww_iload_n C dX5_pour_39 1 rfl rfl ?_
      refine ww_iconst (v := 0) C dX5_pour_40 (by decide) ?_
      refine ww_iconst (v := 0) C dX5_pour_41 (by decide) ?_
      refine ww_aload_n C dX5_pour_42 0 rfl rfl ?_
      refine ww_iload_n C dX5_pour_43 1 rfl rfl ?_
      refine ww_callM C mf_X5_holds dX5_pour_44 (ct_X5_holds (by assumption)) q_m_X5_69 rfl rfl rfl (Nat.le_of_ble_eq_true rfl) (by exact ⟨Nat.le_of_ble_eq_true rfl, Nat.le_of_ble_eq_true rfl⟩) (by exact ⟨Nat.le_of_ble_eq_true rfl, Nat.le_of_ble_eq_true rfl⟩) ?_
      refine ww_aload_n C dX5_pour_47 0 rfl rfl ?_
      refine ww_iload_n C dX5_pour_48 1 rfl rfl ?_
      refine ww_iconst (v := 0) C dX5_pour_49 (by decide) ?_
      refine ww_callM C mf_X5_po dX5_pour_50 (ct_X5_po (by first | exact ix_0 (by assumption) | exact ix_1 (by assumption) | exact ix_2 (by assumption) | exact ix_3 (by assumption) | exact ix_4 (by assumption))) q_m_X5_66 rfl rfl rfl (Nat.le_of_ble_eq_true rfl) (by exact ⟨Nat.le_of_ble_eq_true rfl, Nat.le_of_ble_eq_true rfl⟩) (by exact ⟨Nat.le_of_ble_eq_true rfl, Nat.le_of_ble_eq_true rfl⟩) ?_
      refine ww_iload_n C dX5_pour_53 2 rfl rfl ?_
      refine ww_iadd C dX5_pour_54 ?_
      refine ww_mmin C q_m_X5_72 (Nat.le_of_ble_eq_true rfl) (Nat.le_of_ble_eq_true rfl) (by first | exact Nat.le_of_ble_eq_true rfl | omega) (by first | exact Nat.le_of_ble_eq_true rfl | omega) dX5_pour_55 ?_
      refine ww_mmax C q_m_X5_81 (Nat.le_of_ble_eq_true rfl) (Nat.le_of_ble_eq_true rfl) (by first | exact Nat.le_of_ble_eq_true rfl | omega) (by first | exact Nat.le_of_ble_eq_true rfl | omega) dX5_pour_58 ?_
      refine ww_callM C mf_X5_set dX5_pour_61 (ct_X5_set (by first | exact ix_0 (by assumption) | exact ix_1 (by assumption) | exact ix_2 (by assumption) | exact ix_3 (by assumption) | exact ix_4 (by assumption))) q_m_X5_58 rfl rfl rfl (Nat.le_of_ble_eq_true rfl) (by exact ⟨Nat.le_of_ble_eq_true rfl, Nat.le_of_ble_eq_true rfl⟩) (by exact ⟨Nat.le_of_ble_eq_true rfl, Nat.le_of_ble_eq_true rfl⟩) ?_
      refine ww_aload_n C dX5_pour_64 0 rfl rfl ?_
      refine ww_iload_n C dX5_pour_65 1 rfl rfl ?_
      refine ww_iconst (v := 0) C dX5_pour_66 (by decide) ?_
      refine ww_callM C mf_X5_po dX5_pour_67 (ct_X5_po (by first | exact ix_0 (by assumption) | exact ix_1 (by assumption) | exact ix_2 (by assumption) | exact ix_3 (by assumption) | exact ix_4 (by assumption))) q_m_X5_66 rfl rfl rfl (Nat.le_of_ble_eq_true rfl) (by exact ⟨Nat.le_of_ble_eq_true rfl, Nat.le_of_ble_eq_true rfl⟩) (by exact ⟨Nat.le_of_ble_eq_true rfl, Nat.le_of_ble_eq_true rfl⟩) ?_
      exact ww_iret C hr (by simp only [y_pour, y_pourH, yF, c10, c29, if_true, if_false]) (by simp only [y_pour, y_pourH, yF, c10, c29, if_true, if_false]) dX5_pour_70
    · refine ww_aload_n C dX5_pour_32 0 rfl rfl ?_
      refine ww_iconst (v := 2) C dX5_pour_33 (by decide) ?_
      refine ww_callM C mf_X5_fail dX5_pour_34 ct_X5_fail q_m_X5_49 rfl rfl rfl (Nat.le_of_ble_eq_true rfl) (by exact ⟨Nat.le_of_ble_eq_true rfl, Nat.le_of_ble_eq_true rfl⟩) (by exact ⟨Nat.le_of_ble_eq_true rfl, Nat.le_of_ble_eq_true rfl⟩) ?_
      exact ww_iret C hr (by simp only [y_pour, y_pourH, yF, c10, c29, if_true, if_false]) (by simp only [y_pour, y_pourH, yF, c10, c29, if_true, if_false]) dX5_pour_37
  · refine ww_aload_n C dX5_pour_13 0 rfl rfl ?_
    refine ww_iconst (v := 1) C dX5_pour_14 (by decide) ?_
    refine ww_callM C mf_X5_fail dX5_pour_15 ct_X5_fail q_m_X5_49 rfl rfl rfl (Nat.le_of_ble_eq_true rfl) (by exact ⟨Nat.le_of_ble_eq_true rfl, Nat.le_of_ble_eq_true rfl⟩) (by exact ⟨Nat.le_of_ble_eq_true rfl, Nat.le_of_ble_eq_true rfl⟩) ?_
    exact ww_iret C hr (by simp only [y_pour, y_pourH, yF, c10, if_true, if_false]) (by simp only [y_pour, y_pourH, yF, c10, if_true, if_false]) dX5_pour_18
set_option maxRecDepth 100000 in
set_option maxHeartbeats 1600000 in
theorem ct_X5_bring {g : gW} {l : Launch} {h : Hp} {n f : Nat} (H : OM n f h) {x : Int32} : CT g l yX5_bring cX5_bring 2 (some FieldType.int) 2 0 0 [.ref (gB g + 64), .int x] h (some (.int (y_bring h x).1)) (y_bring h x).2 := by
  refine CT.of (lv0 := [(0, .ref (gB g + 64)), (1, .int x)]) mf_X5_bring.1.2.2.2 (Nat.le_of_ble_eq_true rfl) rfl ?_
  intro p e s m below meth c C hr
  refine ww_aload_n C dX5_bring_0 0 rfl rfl ?_
  refine ww_iconst (v := 0) C dX5_bring_1 (by decide) ?_
  refine ww_putM C 0 (by decide) q_f_X5_25 dX5_bring_2 ?_
  refine ww_heap (h2 := y0 h) rfl ?_
  refine ww_iload_n C dX5_bring_5 1 rfl rfl ?_
  refine ww_iconst (v := 1) C dX5_bring_6 (by decide) ?_
  refine ww_bipush (v := 100) C dX5_bring_7 (by decide) ?_
  refine ww_callS C mf_X5_isIn ct_X5_isIn q_m_X5_32 rfl rfl (Nat.le_of_ble_eq_true rfl) (by exact ⟨Nat.le_of_ble_eq_true rfl, Nat.le_of_ble_eq_true rfl⟩) (by exact ⟨Nat.le_of_ble_eq_true rfl, Nat.le_of_ble_eq_true rfl⟩) dX5_bring_9 ?_
  refine ww_if_ne C dX5_bring_12 21 (by decide) (fun c12 => ?_) (fun c12 => ?_)
  · refine ww_aload_n C dX5_bring_21 0 rfl rfl ?_
    refine ww_getMn C q_f_X5_22 dX5_bring_22 ?_
    refine ww_iconst (v := 1) C dX5_bring_25 (by decide) ?_
    refine ww_iald (o := 69) (n := 2) (j := 1) C (by omega) (fun r => rfl) (by omega) (by omega) dX5_bring_26 ?_
    refine ww_iload_n C dX5_bring_27 1 rfl rfl ?_
    refine ww_iadd C dX5_bring_28 ?_
    refine ww_sipush (v := 500) C dX5_bring_29 (by decide) ?_
    refine ww_icmp_le C dX5_bring_32 41 (by decide) (fun c32 => ?_) (fun c32 => ?_)
    · refine ww_aload_n C dX5_bring_41 0 rfl rfl ?_
      refine ww_getMn C q_f_X5_22 dX5_bring_42 ?_
      refine ww_iconst (v := 1) C dX5_bring_45 (by decide) ?_
      refine ww_dup2 C dX5_bring_46 rfl rfl ?_
      refine ww_iald (o := 69) (n := 2) (j := 1) C (by omega) (fun r => rfl) (by omega) (by omega) dX5_bring_47 ?_
      refine ww_iload_n C dX5_bring_48 1 rfl rfl ?_
      refine ww_iadd C dX5_bring_49 ?_
      refine ww_iast (o := 69) (n := 2) (j := 1) C (by omega) (fun r => rfl) (by omega) (by omega) dX5_bring_50 ?_
      refine ww_aload_n C dX5_bring_51 0 rfl rfl ?_
      refine ww_getMn C q_f_X5_22 dX5_bring_52 ?_
      refine ww_iconst (v := 1) C dX5_bring_55 (by decide) ?_
      refine ww_iald (o := 69) (n := 2) (j := 1) C (by omega) (fun r => rfl) (by omega) (by omega) dX5_bring_56 ?_
      exact ww_iret C hr (by simp only [y_bring, yF, c12, c32, if_true, if_false]) (by simp only [y_bring, yF, c12, c32, if_true, if_false]) dX5_bring_57
    · refine ww_aload_n C dX5_bring_35 0 rfl rfl ?_
      refine ww_iconst (v := 2) C dX5_bring_36 (by decide) ?_
      refine ww_callM C mf_X5_fail dX5_bring_37 ct_X5_fail q_m_X5_49 rfl rfl rfl (Nat.le_of_ble_eq_true rfl) (by exact ⟨Nat.le_of_ble_eq_true rfl, Nat.le_of_ble_eq_true rfl⟩) (by exact ⟨Nat.le_of_ble_eq_true rfl, Nat.le_of_ble_eq_true rfl⟩) ?_
      exact ww_iret C hr (by simp only [y_bring, yF, c12, c32, if_true, if_false]) (by simp only [y_bring, yF, c12, c32, if_true, if_false]) dX5_bring_40
  · refine ww_aload_n C dX5_bring_15 0 rfl rfl ?_
    refine ww_iconst (v := 1) C dX5_bring_16 (by decide) ?_
    refine ww_callM C mf_X5_fail dX5_bring_17 ct_X5_fail q_m_X5_49 rfl rfl rfl (Nat.le_of_ble_eq_true rfl) (by exact ⟨Nat.le_of_ble_eq_true rfl, Nat.le_of_ble_eq_true rfl⟩) (by exact ⟨Nat.le_of_ble_eq_true rfl, Nat.le_of_ble_eq_true rfl⟩) ?_
    exact ww_iret C hr (by simp only [y_bring, yF, c12, if_true, if_false]) (by simp only [y_bring, yF, c12, if_true, if_false]) dX5_bring_20
set_option maxRecDepth 100000 in
set_option maxHeartbeats 1600000 in
theorem ct_X5_setWeather {g : gW} {l : Launch} {h : Hp} {n f : Nat} (H : OM n f h) {x a b d : Int32} : CT g l yX5_setWeather cX5_setWeather 6 (some FieldType.int) 2 0 0 [.ref (gB g + 64), .int x, .int a, .int b, .int d] h (some (.int (y_setW h x a b d).1)) (y_setW h x a b d).2 := by
  refine CT.of (lv0 := [(0, .ref (gB g + 64)), (1, .int x), (2, .int a), (3, .int b), (4, .int d)]) mf_X5_setWeather.1.2.2.2 (Nat.le_of_ble_eq_true rfl) rfl ?_
  intro p e s m below meth c C hr
  refine ww_aload_n C dX5_setWeather_0 0 rfl rfl ?_
  refine ww_iconst (v := 0) C dX5_setWeather_1 (by decide) ?_
  refine ww_putM C 0 (by decide) q_f_X5_25 dX5_setWeather_2 ?_
  refine ww_heap (h2 := y0 h) rfl ?_
  refine ww_iload_n C dX5_setWeather_5 1 rfl rfl ?_
  refine ww_iconst (v := 0) C dX5_setWeather_6 (by decide) ?_
  refine ww_bipush (v := 9) C dX5_setWeather_7 (by decide) ?_
  refine ww_callS C mf_X5_isIn ct_X5_isIn q_m_X5_32 rfl rfl (Nat.le_of_ble_eq_true rfl) (by exact ⟨Nat.le_of_ble_eq_true rfl, Nat.le_of_ble_eq_true rfl⟩) (by exact ⟨Nat.le_of_ble_eq_true rfl, Nat.le_of_ble_eq_true rfl⟩) dX5_setWeather_9 ?_
  refine ww_if_ne C dX5_setWeather_12 21 (by decide) (fun c12 => ?_) (fun c12 => ?_)
  · refine ww_iload_n C dX5_setWeather_21 2 rfl rfl ?_
    refine ww_iconst (v := 0) C dX5_setWeather_22 (by decide) ?_
    refine ww_bipush (v := 9) C dX5_setWeather_23 (by decide) ?_
    refine ww_callS C mf_X5_isIn ct_X5_isIn q_m_X5_32 rfl rfl (Nat.le_of_ble_eq_true rfl) (by exact ⟨Nat.le_of_ble_eq_true rfl, Nat.le_of_ble_eq_true rfl⟩) (by exact ⟨Nat.le_of_ble_eq_true rfl, Nat.le_of_ble_eq_true rfl⟩) dX5_setWeather_25 ?_
    refine ww_if_eq C dX5_setWeather_28 52 (by decide) (fun c28 => ?_) (fun c28 => ?_)
    · refine ww_aload_n C dX5_setWeather_52 0 rfl rfl ?_
      refine ww_iconst (v := 2) C dX5_setWeather_53 (by decide) ?_
      refine ww_callM C mf_X5_fail dX5_setWeather_54 ct_X5_fail q_m_X5_49 rfl rfl rfl (Nat.le_of_ble_eq_true rfl) (by exact ⟨Nat.le_of_ble_eq_true rfl, Nat.le_of_ble_eq_true rfl⟩) (by exact ⟨Nat.le_of_ble_eq_true rfl, Nat.le_of_ble_eq_true rfl⟩) ?_
      exact ww_iret C hr (by simp only [y_setW, yF, c12, c28, if_true, if_false]) (by simp only [y_setW, yF, c12, c28, if_true, if_false]) dX5_setWeather_57
    · refine ww_iload_n C dX5_setWeather_31 3 rfl rfl ?_
      refine ww_iconst (v := 0) C dX5_setWeather_32 (by decide) ?_
      refine ww_bipush (v := 9) C dX5_setWeather_33 (by decide) ?_
      refine ww_callS C mf_X5_isIn ct_X5_isIn q_m_X5_32 rfl rfl (Nat.le_of_ble_eq_true rfl) (by exact ⟨Nat.le_of_ble_eq_true rfl, Nat.le_of_ble_eq_true rfl⟩) (by exact ⟨Nat.le_of_ble_eq_true rfl, Nat.le_of_ble_eq_true rfl⟩) dX5_setWeather_35 ?_
      refine ww_if_eq C dX5_setWeather_38 52 (by decide) (fun c38 => ?_) (fun c38 => ?_)
      · refine ww_aload_n C dX5_setWeather_52 0 rfl rfl ?_
        refine ww_iconst (v := 2) C dX5_setWeather_53 (by decide) ?_
        refine ww_callM C mf_X5_fail dX5_setWeather_54 ct_X5_fail q_m_X5_49 rfl rfl rfl (Nat.le_of_ble_eq_true rfl) (by exact ⟨Nat.le_of_ble_eq_true rfl, Nat.le_of_ble_eq_true rfl⟩) (by exact ⟨Nat.le_of_ble_eq_true rfl, Nat.le_of_ble_eq_true rfl⟩) ?_
        exact ww_iret C hr (by simp only [y_setW, yF, c12, c28, c38, if_true, if_false]) (by simp only [y_setW, yF, c12, c28, c38, if_true, if_false]) dX5_setWeather_57
      · refine ww_iload C dX5_setWeather_41 rfl ?_
        refine ww_iconst (v := 0) C dX5_setWeather_43 (by decide) ?_
        refine ww_bipush (v := 9) C dX5_setWeather_44 (by decide) ?_
        refine ww_callS C mf_X5_isIn ct_X5_isIn q_m_X5_32 rfl rfl (Nat.le_of_ble_eq_true rfl) (by exact ⟨Nat.le_of_ble_eq_true rfl, Nat.le_of_ble_eq_true rfl⟩) (by exact ⟨Nat.le_of_ble_eq_true rfl, Nat.le_of_ble_eq_true rfl⟩) dX5_setWeather_46 ?_
        refine ww_if_ne C dX5_setWeather_49 58 (by decide) (fun c49 => ?_) (fun c49 => ?_)
        · obtain ⟨j, hj, ej⟩ := nI_of2 (M := 9) (n := 9) rfl (Int32.not_lt.mpr (bI1 c12).1) (bI1 c12).2
          have e9 : x.toNatClampNeg = j := by rw [ej]; exact nI_clamp (by omega)
          have e3 : (3 : Int32) * x = nI (3 * j) := by rw [ej]; exact three0
          refine ww_aload_n C dX5_setWeather_58 0 rfl rfl ?_
          refine ww_iload_n C dX5_setWeather_59 1 rfl rfl ?_
          refine ww_top ej ?_
          refine ww_callM C mf_X5_weatherTold dX5_setWeather_60 (ct_X5_weatherTold (by omega)) q_m_X5_99 rfl rfl rfl (Nat.le_of_ble_eq_true rfl) (by exact ⟨Nat.le_of_ble_eq_true rfl, Nat.le_of_ble_eq_true rfl⟩) (by exact ⟨Nat.le_of_ble_eq_true rfl, Nat.le_of_ble_eq_true rfl⟩) ?_
          refine ww_istore C dX5_setWeather_63 (by decide) ?_
          refine ww_aload_n C dX5_setWeather_65 0 rfl rfl ?_
          refine ww_getMw C q_f_X5_13 dX5_setWeather_66 ?_
          refine ww_iconst (v := 3) C dX5_setWeather_69 (by decide) ?_
          refine ww_iload_n C dX5_setWeather_70 1 rfl rfl ?_
          refine ww_imul C dX5_setWeather_71 ?_
          refine ww_top e3 ?_
          refine ww_iload_n C dX5_setWeather_72 2 rfl rfl ?_
          refine ww_iast (o := 66) (n := 30) C (by omega) (fun r => rfl) (by omega) (by omega) dX5_setWeather_73 ?_
          refine ww_aload_n C dX5_setWeather_74 0 rfl rfl ?_
          refine ww_getMw C q_f_X5_13 dX5_setWeather_75 ?_
          refine ww_iconst (v := 3) C dX5_setWeather_78 (by decide) ?_
          refine ww_iload_n C dX5_setWeather_79 1 rfl rfl ?_
          refine ww_imul C dX5_setWeather_80 ?_
          refine ww_iconst (v := 1) C dX5_setWeather_81 (by decide) ?_
          refine ww_iadd C dX5_setWeather_82 ?_
          refine ww_top (show (3 : Int32) * x + 1 = nI (3 * j + 1) from by rw [ej]; exact three (k := 1)) ?_
          refine ww_iload_n C dX5_setWeather_83 3 rfl rfl ?_
          refine ww_iast (o := 66) (n := 30) C (by omega) (fun r => rfl) (by omega) (by omega) dX5_setWeather_84 ?_
          refine ww_aload_n C dX5_setWeather_85 0 rfl rfl ?_
          refine ww_getMw C q_f_X5_13 dX5_setWeather_86 ?_
          refine ww_iconst (v := 3) C dX5_setWeather_89 (by decide) ?_
          refine ww_iload_n C dX5_setWeather_90 1 rfl rfl ?_
          refine ww_imul C dX5_setWeather_91 ?_
          refine ww_iconst (v := 2) C dX5_setWeather_92 (by decide) ?_
          refine ww_iadd C dX5_setWeather_93 ?_
          refine ww_top (show (3 : Int32) * x + 2 = nI (3 * j + 2) from by rw [ej]; exact three (k := 2)) ?_
          refine ww_iload C dX5_setWeather_94 rfl ?_
          refine ww_iast (o := 66) (n := 30) C (by omega) (fun r => rfl) (by omega) (by omega) dX5_setWeather_96 ?_
          refine ww_iload C dX5_setWeather_97 rfl ?_
          exact ww_iret C hr (by simp only [y_setW, yF, c12, c28, c38, c49, e9, if_true, if_false]) (by simp only [y_setW, yF, c12, c28, c38, c49, e9, if_true, if_false]; rfl) dX5_setWeather_99
        · refine ww_aload_n C dX5_setWeather_52 0 rfl rfl ?_
          refine ww_iconst (v := 2) C dX5_setWeather_53 (by decide) ?_
          refine ww_callM C mf_X5_fail dX5_setWeather_54 ct_X5_fail q_m_X5_49 rfl rfl rfl (Nat.le_of_ble_eq_true rfl) (by exact ⟨Nat.le_of_ble_eq_true rfl, Nat.le_of_ble_eq_true rfl⟩) (by exact ⟨Nat.le_of_ble_eq_true rfl, Nat.le_of_ble_eq_true rfl⟩) ?_
          exact ww_iret C hr (by simp only [y_setW, yF, c12, c28, c38, c49, if_true, if_false]) (by simp only [y_setW, yF, c12, c28, c38, c49, if_true, if_false]) dX5_setWeather_57
  · refine ww_aload_n C dX5_setWeather_15 0 rfl rfl ?_
    refine ww_iconst (v := 1) C dX5_setWeather_16 (by decide) ?_
    refine ww_callM C mf_X5_fail dX5_setWeather_17 ct_X5_fail q_m_X5_49 rfl rfl rfl (Nat.le_of_ble_eq_true rfl) (by exact ⟨Nat.le_of_ble_eq_true rfl, Nat.le_of_ble_eq_true rfl⟩) (by exact ⟨Nat.le_of_ble_eq_true rfl, Nat.le_of_ble_eq_true rfl⟩) ?_
    exact ww_iret C hr (by simp only [y_setW, yF, c12, if_true, if_false]) (by simp only [y_setW, yF, c12, if_true, if_false]) dX5_setWeather_20
set_option maxRecDepth 100000 in
set_option maxHeartbeats 1600000 in
theorem ct_X5_drive {g : gW} {l : Launch} {h : Hp} {n f : Nat} (H : OM n f h) (hf6 : f ≤ 6) {x o : Int32} : CT g l yX5_drive cX5_drive 4 (some FieldType.int) 2 0 0 [.ref (gB g + 64), .int x, .int o] h (some (.int (y_drive h x o).1)) (y_drive h x o).2 := by
  refine CT.of (lv0 := [(0, .ref (gB g + 64)), (1, .int x), (2, .int o)]) mf_X5_drive.1.2.2.2 (Nat.le_of_ble_eq_true rfl) rfl ?_
  intro p e s m below meth c C hr
  have hn : y0 h 64 1 = nI n := H.yy.1
  have hn10 := H.2.1
  have hf : y0 h 64 3 = nI f := H.yy.2.2.1
  refine ww_aload_n C dX5_drive_0 0 rfl rfl ?_
  refine ww_iconst (v := 0) C dX5_drive_1 (by decide) ?_
  refine ww_putM C 0 (by decide) q_f_X5_25 dX5_drive_2 ?_
  refine ww_heap (h2 := y0 h) rfl ?_
  refine ww_aload_n C dX5_drive_5 0 rfl rfl ?_
  refine ww_iload_n C dX5_drive_6 1 rfl rfl ?_
  refine ww_callM C mf_X5_isFlock dX5_drive_7 ct_X5_isFlock q_m_X5_106 rfl rfl rfl (Nat.le_of_ble_eq_true rfl) (by exact ⟨Nat.le_of_ble_eq_true rfl, Nat.le_of_ble_eq_true rfl⟩) (by exact ⟨Nat.le_of_ble_eq_true rfl, Nat.le_of_ble_eq_true rfl⟩) ?_
  refine ww_if_eq C dX5_drive_10 21 (by decide) (fun c10 => ?_) (fun c10 => ?_)
  · refine ww_aload_n C dX5_drive_21 0 rfl rfl ?_
    refine ww_iconst (v := 1) C dX5_drive_22 (by decide) ?_
    refine ww_callM C mf_X5_fail dX5_drive_23 ct_X5_fail q_m_X5_49 rfl rfl rfl (Nat.le_of_ble_eq_true rfl) (by exact ⟨Nat.le_of_ble_eq_true rfl, Nat.le_of_ble_eq_true rfl⟩) (by exact ⟨Nat.le_of_ble_eq_true rfl, Nat.le_of_ble_eq_true rfl⟩) ?_
    exact ww_iret C hr (by simp only [y_drive, yF, c10, if_true, if_false]) (by simp only [y_drive, yF, c10, if_true, if_false]) dX5_drive_26
  · have hx : isN f x := mN hf (by omega) c10
    have hx7 : isN 7 x := isN_up hx (by omega)
    refine ww_aload_n C dX5_drive_13 0 rfl rfl ?_
    refine ww_iload_n C dX5_drive_14 2 rfl rfl ?_
    refine ww_callM C mf_X5_isPond dX5_drive_15 ct_X5_isPond q_m_X5_62 rfl rfl rfl (Nat.le_of_ble_eq_true rfl) (by exact ⟨Nat.le_of_ble_eq_true rfl, Nat.le_of_ble_eq_true rfl⟩) (by exact ⟨Nat.le_of_ble_eq_true rfl, Nat.le_of_ble_eq_true rfl⟩) ?_
    refine ww_if_ne C dX5_drive_18 27 (by decide) (fun c18 => ?_) (fun c18 => ?_)
    · have ho : isN 10 o := isN_up (mN hn hn10 c18) hn10
      refine ww_aload_n C dX5_drive_27 0 rfl rfl ?_
      refine ww_iload_n C dX5_drive_28 1 rfl rfl ?_
      refine ww_callM C mf_X5_isLost dX5_drive_29 (ct_X5_isLost (by assumption)) q_m_X5_87 rfl rfl rfl (Nat.le_of_ble_eq_true rfl) (by exact ⟨Nat.le_of_ble_eq_true rfl, Nat.le_of_ble_eq_true rfl⟩) (by exact ⟨Nat.le_of_ble_eq_true rfl, Nat.le_of_ble_eq_true rfl⟩) ?_
      refine ww_if_eq C dX5_drive_32 41 (by decide) (fun c32 => ?_) (fun c32 => ?_)
      · have hfl : isN 10 (m_fl (y0 h) x 1) := by
          obtain ⟨q, hq, eq⟩ := hx
          rw [eq]
          exact isN_up (m_fl_in H.yy hq) hn10
        refine ww_aload_n C dX5_drive_41 0 rfl rfl ?_
        refine ww_aload_n C dX5_drive_42 0 rfl rfl ?_
        refine ww_iload_n C dX5_drive_43 1 rfl rfl ?_
        refine ww_iconst (v := 1) C dX5_drive_44 (by decide) ?_
        refine ww_callM C mf_X5_fl dX5_drive_45 (ct_X5_fl (by first | exact jx_0 (by assumption) | exact jx_1 (by assumption) | exact jx_2 (by assumption) | exact jx_3 (by assumption) | exact jx_4 (by assumption))) q_m_X5_84 rfl rfl rfl (Nat.le_of_ble_eq_true rfl) (by exact ⟨Nat.le_of_ble_eq_true rfl, Nat.le_of_ble_eq_true rfl⟩) (by exact ⟨Nat.le_of_ble_eq_true rfl, Nat.le_of_ble_eq_true rfl⟩) ?_
        refine ww_iload_n C dX5_drive_48 2 rfl rfl ?_
        refine ww_callM C mf_X5_far dX5_drive_49 (ct_X5_far (by assumption) (by assumption)) q_m_X5_109 rfl rfl rfl (Nat.le_of_ble_eq_true rfl) (by exact ⟨Nat.le_of_ble_eq_true rfl, Nat.le_of_ble_eq_true rfl⟩) (by exact ⟨Nat.le_of_ble_eq_true rfl, Nat.le_of_ble_eq_true rfl⟩) ?_
        refine ww_istore_n C dX5_drive_52 3 rfl (by decide) ?_
        refine ww_aload_n C dX5_drive_53 0 rfl rfl ?_
        refine ww_iload_n C dX5_drive_54 1 rfl rfl ?_
        refine ww_iconst (v := 1) C dX5_drive_55 (by decide) ?_
        refine ww_iload_n C dX5_drive_56 2 rfl rfl ?_
        refine ww_callM C mf_X5_setFl dX5_drive_57 (ct_X5_setFl (by first | exact jx_0 (by assumption) | exact jx_1 (by assumption) | exact jx_2 (by assumption) | exact jx_3 (by assumption) | exact jx_4 (by assumption))) q_m_X5_112 rfl rfl rfl (Nat.le_of_ble_eq_true rfl) (by exact ⟨Nat.le_of_ble_eq_true rfl, Nat.le_of_ble_eq_true rfl⟩) (by exact ⟨Nat.le_of_ble_eq_true rfl, Nat.le_of_ble_eq_true rfl⟩) ?_
        refine ww_iload_n C dX5_drive_60 3 rfl rfl ?_
        exact ww_iret C hr (by simp only [y_drive, yF, c10, c18, c32, if_true, if_false]) (by simp only [y_drive, yF, c10, c18, c32, if_true, if_false]) dX5_drive_61
      · refine ww_aload_n C dX5_drive_35 0 rfl rfl ?_
        refine ww_iconst (v := 2) C dX5_drive_36 (by decide) ?_
        refine ww_callM C mf_X5_fail dX5_drive_37 ct_X5_fail q_m_X5_49 rfl rfl rfl (Nat.le_of_ble_eq_true rfl) (by exact ⟨Nat.le_of_ble_eq_true rfl, Nat.le_of_ble_eq_true rfl⟩) (by exact ⟨Nat.le_of_ble_eq_true rfl, Nat.le_of_ble_eq_true rfl⟩) ?_
        exact ww_iret C hr (by simp only [y_drive, yF, c10, c18, c32, if_true, if_false]) (by simp only [y_drive, yF, c10, c18, c32, if_true, if_false]) dX5_drive_40
    · refine ww_aload_n C dX5_drive_21 0 rfl rfl ?_
      refine ww_iconst (v := 1) C dX5_drive_22 (by decide) ?_
      refine ww_callM C mf_X5_fail dX5_drive_23 ct_X5_fail q_m_X5_49 rfl rfl rfl (Nat.le_of_ble_eq_true rfl) (by exact ⟨Nat.le_of_ble_eq_true rfl, Nat.le_of_ble_eq_true rfl⟩) (by exact ⟨Nat.le_of_ble_eq_true rfl, Nat.le_of_ble_eq_true rfl⟩) ?_
      exact ww_iret C hr (by simp only [y_drive, yF, c10, c18, if_true, if_false]) (by simp only [y_drive, yF, c10, c18, if_true, if_false]) dX5_drive_26
set_option maxRecDepth 100000 in
set_option maxHeartbeats 1600000 in
theorem ct_X5_strew {g : gW} {l : Launch} {h : Hp} {n f : Nat} (H : OM n f h) {x b : Int32} : CT g l yX5_strew cX5_strew 4 (some FieldType.boolean) 2 0 0 [.ref (gB g + 64), .int x, .int b] h (some (.int (y_strew h x b).1)) (y_strew h x b).2 := by
  refine CT.of (lv0 := [(0, .ref (gB g + 64)), (1, .int x), (2, .int b)]) mf_X5_strew.1.2.2.2 (Nat.le_of_ble_eq_true rfl) rfl ?_
  intro p e s m below meth c C hr
  have hn := H.1
  have hn10 := H.2.1
  refine ww_aload_n C dX5_strew_0 0 rfl rfl ?_
  refine ww_aload_n C dX5_strew_1 0 rfl rfl ?_
  refine ww_iload_n C dX5_strew_2 1 rfl rfl ?_
  refine ww_callM C mf_X5_isPond dX5_strew_3 ct_X5_isPond q_m_X5_62 rfl rfl rfl (Nat.le_of_ble_eq_true rfl) (by exact ⟨Nat.le_of_ble_eq_true rfl, Nat.le_of_ble_eq_true rfl⟩) (by exact ⟨Nat.le_of_ble_eq_true rfl, Nat.le_of_ble_eq_true rfl⟩) ?_
  refine ww_if_eq C dX5_strew_6 13 (by decide) (fun c6 => ?_) (fun c6 => ?_)
  · refine ww_iconst (v := 1) C dX5_strew_13 (by decide) ?_
    refine ww_putM C 0 (by decide) q_f_X5_25 dX5_strew_14 ?_
    refine ww_aload_n C dX5_strew_17 0 rfl rfl ?_
    refine ww_getM C 0 (by decide) q_f_X5_25 dX5_strew_18 ?_
    refine ww_top (y := 1) rfl ?_
    refine ww_if_eq C dX5_strew_21 26 (by decide) (fun q => absurd q (show ¬ (1 : Int32) = 0 from by decide)) (fun _ => ?_)
    refine ww_iconst (v := 0) C dX5_strew_24 (by decide) ?_
    exact ww_zret C hr (by first | exact Or.inl rfl | exact Or.inr rfl) (by simp only [y_strew, c6, if_true, if_false]) (by simp only [y_strew, c6, if_true, if_false]) dX5_strew_25
  · refine ww_iconst (v := 0) C dX5_strew_9 (by decide) ?_
    refine ww_goto C dX5_strew_10 14 (by decide) ?_
    refine ww_putM C 0 (by decide) q_f_X5_25 dX5_strew_14 ?_
    refine ww_aload_n C dX5_strew_17 0 rfl rfl ?_
    refine ww_getM C 0 (by decide) q_f_X5_25 dX5_strew_18 ?_
    refine ww_top (y := 0) rfl ?_
    refine ww_if_eq C dX5_strew_21 26 (by decide) (fun _ => ?_) (fun q => absurd (rfl : (0 : Int32) = 0) q)
    refine ww_heap (h2 := y0 h) rfl ?_
    have hx : isN 10 x := isN_up (mN hn hn10 c6) hn10
    refine ww_aload_n C dX5_strew_26 0 rfl rfl ?_
    refine ww_iload_n C dX5_strew_27 1 rfl rfl ?_
    refine ww_iconst (v := 2) C dX5_strew_28 (by decide) ?_
    refine ww_callM C mf_X5_po dX5_strew_29 (ct_X5_po (by first | exact ix_0 (by assumption) | exact ix_1 (by assumption) | exact ix_2 (by assumption) | exact ix_3 (by assumption) | exact ix_4 (by assumption))) q_m_X5_66 rfl rfl rfl (Nat.le_of_ble_eq_true rfl) (by exact ⟨Nat.le_of_ble_eq_true rfl, Nat.le_of_ble_eq_true rfl⟩) (by exact ⟨Nat.le_of_ble_eq_true rfl, Nat.le_of_ble_eq_true rfl⟩) ?_
    refine ww_iconst (v := 1) C dX5_strew_32 (by decide) ?_
    refine ww_icmp_ne C dX5_strew_33 40 (by decide) (fun c33 => ?_) (fun c33 => ?_)
    · refine ww_iconst (v := 0) C dX5_strew_40 (by decide) ?_
      refine ww_istore_n C dX5_strew_41 3 rfl (by decide) ?_
      refine ww_aload_n C dX5_strew_42 0 rfl rfl ?_
      refine ww_iload_n C dX5_strew_43 1 rfl rfl ?_
      refine ww_iconst (v := 2) C dX5_strew_44 (by decide) ?_
      refine ww_iload_n C dX5_strew_45 2 rfl rfl ?_
      refine ww_if_eq C dX5_strew_46 53 (by decide) (fun c46 => ?_) (fun c46 => ?_)
      · refine ww_iconst (v := 0) C dX5_strew_53 (by decide) ?_
        refine ww_callM C mf_X5_set dX5_strew_54 (ct_X5_set (by first | exact ix_0 (by assumption) | exact ix_1 (by assumption) | exact ix_2 (by assumption) | exact ix_3 (by assumption) | exact ix_4 (by assumption))) q_m_X5_58 rfl rfl rfl (Nat.le_of_ble_eq_true rfl) (by exact ⟨Nat.le_of_ble_eq_true rfl, Nat.le_of_ble_eq_true rfl⟩) (by exact ⟨Nat.le_of_ble_eq_true rfl, Nat.le_of_ble_eq_true rfl⟩) ?_
        refine ww_iload_n C dX5_strew_57 3 rfl rfl ?_
        exact ww_zret C hr (by first | exact Or.inl rfl | exact Or.inr rfl) (by simp only [y_strew, c6, c33, c46, if_true, if_false]) (by simp only [y_strew, c6, c33, c46, if_true, if_false]) dX5_strew_58
      · refine ww_iconst (v := 1) C dX5_strew_49 (by decide) ?_
        refine ww_goto C dX5_strew_50 54 (by decide) ?_
        refine ww_callM C mf_X5_set dX5_strew_54 (ct_X5_set (by first | exact ix_0 (by assumption) | exact ix_1 (by assumption) | exact ix_2 (by assumption) | exact ix_3 (by assumption) | exact ix_4 (by assumption))) q_m_X5_58 rfl rfl rfl (Nat.le_of_ble_eq_true rfl) (by exact ⟨Nat.le_of_ble_eq_true rfl, Nat.le_of_ble_eq_true rfl⟩) (by exact ⟨Nat.le_of_ble_eq_true rfl, Nat.le_of_ble_eq_true rfl⟩) ?_
        refine ww_iload_n C dX5_strew_57 3 rfl rfl ?_
        exact ww_zret C hr (by first | exact Or.inl rfl | exact Or.inr rfl) (by simp only [y_strew, c6, c33, c46, if_true, if_false]) (by simp only [y_strew, c6, c33, c46, if_true, if_false]) dX5_strew_58
    · refine ww_iconst (v := 1) C dX5_strew_36 (by decide) ?_
      refine ww_goto C dX5_strew_37 41 (by decide) ?_
      refine ww_istore_n C dX5_strew_41 3 rfl (by decide) ?_
      refine ww_aload_n C dX5_strew_42 0 rfl rfl ?_
      refine ww_iload_n C dX5_strew_43 1 rfl rfl ?_
      refine ww_iconst (v := 2) C dX5_strew_44 (by decide) ?_
      refine ww_iload_n C dX5_strew_45 2 rfl rfl ?_
      refine ww_if_eq C dX5_strew_46 53 (by decide) (fun c46 => ?_) (fun c46 => ?_)
      · refine ww_iconst (v := 0) C dX5_strew_53 (by decide) ?_
        refine ww_callM C mf_X5_set dX5_strew_54 (ct_X5_set (by first | exact ix_0 (by assumption) | exact ix_1 (by assumption) | exact ix_2 (by assumption) | exact ix_3 (by assumption) | exact ix_4 (by assumption))) q_m_X5_58 rfl rfl rfl (Nat.le_of_ble_eq_true rfl) (by exact ⟨Nat.le_of_ble_eq_true rfl, Nat.le_of_ble_eq_true rfl⟩) (by exact ⟨Nat.le_of_ble_eq_true rfl, Nat.le_of_ble_eq_true rfl⟩) ?_
        refine ww_iload_n C dX5_strew_57 3 rfl rfl ?_
        exact ww_zret C hr (by first | exact Or.inl rfl | exact Or.inr rfl) (by simp only [y_strew, c6, c33, c46, if_true, if_false]) (by simp only [y_strew, c6, c33, c46, if_true, if_false]) dX5_strew_58
      · refine ww_iconst (v := 1) C dX5_strew_49 (by decide) ?_
        refine ww_goto C dX5_strew_50 54 (by decide) ?_
        refine ww_callM C mf_X5_set dX5_strew_54 (ct_X5_set (by first | exact ix_0 (by assumption) | exact ix_1 (by assumption) | exact ix_2 (by assumption) | exact ix_3 (by assumption) | exact ix_4 (by assumption))) q_m_X5_58 rfl rfl rfl (Nat.le_of_ble_eq_true rfl) (by exact ⟨Nat.le_of_ble_eq_true rfl, Nat.le_of_ble_eq_true rfl⟩) (by exact ⟨Nat.le_of_ble_eq_true rfl, Nat.le_of_ble_eq_true rfl⟩) ?_
        refine ww_iload_n C dX5_strew_57 3 rfl rfl ?_
        exact ww_zret C hr (by first | exact Or.inl rfl | exact Or.inr rfl) (by simp only [y_strew, c6, c33, c46, if_true, if_false]) (by simp only [y_strew, c6, c33, c46, if_true, if_false]) dX5_strew_58
set_option maxRecDepth 100000 in
set_option maxHeartbeats 1600000 in
theorem ct_X5_setRoams {g : gW} {l : Launch} {h : Hp} {n f : Nat} (H : OM n f h) (hf6 : f ≤ 6) {x b : Int32} : CT g l yX5_setRoams cX5_setRoams 4 (some FieldType.boolean) 2 0 0 [.ref (gB g + 64), .int x, .int b] h (some (.int (y_setRoams h x b).1)) (y_setRoams h x b).2 := by
  refine CT.of (lv0 := [(0, .ref (gB g + 64)), (1, .int x), (2, .int b)]) mf_X5_setRoams.1.2.2.2 (Nat.le_of_ble_eq_true rfl) rfl ?_
  intro p e s m below meth c C hr
  have hf := H.2.2.1
  refine ww_aload_n C dX5_setRoams_0 0 rfl rfl ?_
  refine ww_aload_n C dX5_setRoams_1 0 rfl rfl ?_
  refine ww_iload_n C dX5_setRoams_2 1 rfl rfl ?_
  refine ww_callM C mf_X5_isFlock dX5_setRoams_3 ct_X5_isFlock q_m_X5_106 rfl rfl rfl (Nat.le_of_ble_eq_true rfl) (by exact ⟨Nat.le_of_ble_eq_true rfl, Nat.le_of_ble_eq_true rfl⟩) (by exact ⟨Nat.le_of_ble_eq_true rfl, Nat.le_of_ble_eq_true rfl⟩) ?_
  refine ww_if_eq C dX5_setRoams_6 13 (by decide) (fun c6 => ?_) (fun c6 => ?_)
  · refine ww_iconst (v := 1) C dX5_setRoams_13 (by decide) ?_
    refine ww_putM C 0 (by decide) q_f_X5_25 dX5_setRoams_14 ?_
    refine ww_aload_n C dX5_setRoams_17 0 rfl rfl ?_
    refine ww_getM C 0 (by decide) q_f_X5_25 dX5_setRoams_18 ?_
    refine ww_top (y := 1) rfl ?_
    refine ww_if_eq C dX5_setRoams_21 26 (by decide) (fun q => absurd q (show ¬ (1 : Int32) = 0 from by decide)) (fun _ => ?_)
    refine ww_iconst (v := 0) C dX5_setRoams_24 (by decide) ?_
    exact ww_zret C hr (by first | exact Or.inl rfl | exact Or.inr rfl) (by simp only [y_setRoams, c6, if_true, if_false]) (by simp only [y_setRoams, c6, if_true, if_false]) dX5_setRoams_25
  · refine ww_iconst (v := 0) C dX5_setRoams_9 (by decide) ?_
    refine ww_goto C dX5_setRoams_10 14 (by decide) ?_
    refine ww_putM C 0 (by decide) q_f_X5_25 dX5_setRoams_14 ?_
    refine ww_aload_n C dX5_setRoams_17 0 rfl rfl ?_
    refine ww_getM C 0 (by decide) q_f_X5_25 dX5_setRoams_18 ?_
    refine ww_top (y := 0) rfl ?_
    refine ww_if_eq C dX5_setRoams_21 26 (by decide) (fun _ => ?_) (fun q => absurd (rfl : (0 : Int32) = 0) q)
    refine ww_heap (h2 := y0 h) rfl ?_
    have hx : isN 7 x := isN_up (mN hf (by omega) c6) (by omega)
    refine ww_aload_n C dX5_setRoams_26 0 rfl rfl ?_
    refine ww_iload_n C dX5_setRoams_27 1 rfl rfl ?_
    refine ww_iconst (v := 3) C dX5_setRoams_28 (by decide) ?_
    refine ww_callM C mf_X5_fl dX5_setRoams_29 (ct_X5_fl (by first | exact jx_0 (by assumption) | exact jx_1 (by assumption) | exact jx_2 (by assumption) | exact jx_3 (by assumption) | exact jx_4 (by assumption))) q_m_X5_84 rfl rfl rfl (Nat.le_of_ble_eq_true rfl) (by exact ⟨Nat.le_of_ble_eq_true rfl, Nat.le_of_ble_eq_true rfl⟩) (by exact ⟨Nat.le_of_ble_eq_true rfl, Nat.le_of_ble_eq_true rfl⟩) ?_
    refine ww_iconst (v := 1) C dX5_setRoams_32 (by decide) ?_
    refine ww_icmp_ne C dX5_setRoams_33 40 (by decide) (fun c33 => ?_) (fun c33 => ?_)
    · refine ww_iconst (v := 0) C dX5_setRoams_40 (by decide) ?_
      refine ww_istore_n C dX5_setRoams_41 3 rfl (by decide) ?_
      refine ww_aload_n C dX5_setRoams_42 0 rfl rfl ?_
      refine ww_iload_n C dX5_setRoams_43 1 rfl rfl ?_
      refine ww_iconst (v := 3) C dX5_setRoams_44 (by decide) ?_
      refine ww_iload_n C dX5_setRoams_45 2 rfl rfl ?_
      refine ww_if_eq C dX5_setRoams_46 53 (by decide) (fun c46 => ?_) (fun c46 => ?_)
      · refine ww_iconst (v := 0) C dX5_setRoams_53 (by decide) ?_
        refine ww_callM C mf_X5_setFl dX5_setRoams_54 (ct_X5_setFl (by first | exact jx_0 (by assumption) | exact jx_1 (by assumption) | exact jx_2 (by assumption) | exact jx_3 (by assumption) | exact jx_4 (by assumption))) q_m_X5_112 rfl rfl rfl (Nat.le_of_ble_eq_true rfl) (by exact ⟨Nat.le_of_ble_eq_true rfl, Nat.le_of_ble_eq_true rfl⟩) (by exact ⟨Nat.le_of_ble_eq_true rfl, Nat.le_of_ble_eq_true rfl⟩) ?_
        refine ww_iload_n C dX5_setRoams_57 3 rfl rfl ?_
        exact ww_zret C hr (by first | exact Or.inl rfl | exact Or.inr rfl) (by simp only [y_setRoams, c6, c33, c46, if_true, if_false]) (by simp only [y_setRoams, c6, c33, c46, if_true, if_false]) dX5_setRoams_58
      · refine ww_iconst (v := 1) C dX5_setRoams_49 (by decide) ?_
        refine ww_goto C dX5_setRoams_50 54 (by decide) ?_
        refine ww_callM C mf_X5_setFl dX5_setRoams_54 (ct_X5_setFl (by first | exact jx_0 (by assumption) | exact jx_1 (by assumption) | exact jx_2 (by assumption) | exact jx_3 (by assumption) | exact jx_4 (by assumption))) q_m_X5_112 rfl rfl rfl (Nat.le_of_ble_eq_true rfl) (by exact ⟨Nat.le_of_ble_eq_true rfl, Nat.le_of_ble_eq_true rfl⟩) (by exact ⟨Nat.le_of_ble_eq_true rfl, Nat.le_of_ble_eq_true rfl⟩) ?_
        refine ww_iload_n C dX5_setRoams_57 3 rfl rfl ?_
        exact ww_zret C hr (by first | exact Or.inl rfl | exact Or.inr rfl) (by simp only [y_setRoams, c6, c33, c46, if_true, if_false]) (by simp only [y_setRoams, c6, c33, c46, if_true, if_false]) dX5_setRoams_58
    · refine ww_iconst (v := 1) C dX5_setRoams_36 (by decide) ?_
      refine ww_goto C dX5_setRoams_37 41 (by decide) ?_
      refine ww_istore_n C dX5_setRoams_41 3 rfl (by decide) ?_
      refine ww_aload_n C dX5_setRoams_42 0 rfl rfl ?_
      refine ww_iload_n C dX5_setRoams_43 1 rfl rfl ?_
      refine ww_iconst (v := 3) C dX5_setRoams_44 (by decide) ?_
      refine ww_iload_n C dX5_setRoams_45 2 rfl rfl ?_
      refine ww_if_eq C dX5_setRoams_46 53 (by decide) (fun c46 => ?_) (fun c46 => ?_)
      · refine ww_iconst (v := 0) C dX5_setRoams_53 (by decide) ?_
        refine ww_callM C mf_X5_setFl dX5_setRoams_54 (ct_X5_setFl (by first | exact jx_0 (by assumption) | exact jx_1 (by assumption) | exact jx_2 (by assumption) | exact jx_3 (by assumption) | exact jx_4 (by assumption))) q_m_X5_112 rfl rfl rfl (Nat.le_of_ble_eq_true rfl) (by exact ⟨Nat.le_of_ble_eq_true rfl, Nat.le_of_ble_eq_true rfl⟩) (by exact ⟨Nat.le_of_ble_eq_true rfl, Nat.le_of_ble_eq_true rfl⟩) ?_
        refine ww_iload_n C dX5_setRoams_57 3 rfl rfl ?_
        exact ww_zret C hr (by first | exact Or.inl rfl | exact Or.inr rfl) (by simp only [y_setRoams, c6, c33, c46, if_true, if_false]) (by simp only [y_setRoams, c6, c33, c46, if_true, if_false]) dX5_setRoams_58
      · refine ww_iconst (v := 1) C dX5_setRoams_49 (by decide) ?_
        refine ww_goto C dX5_setRoams_50 54 (by decide) ?_
        refine ww_callM C mf_X5_setFl dX5_setRoams_54 (ct_X5_setFl (by first | exact jx_0 (by assumption) | exact jx_1 (by assumption) | exact jx_2 (by assumption) | exact jx_3 (by assumption) | exact jx_4 (by assumption))) q_m_X5_112 rfl rfl rfl (Nat.le_of_ble_eq_true rfl) (by exact ⟨Nat.le_of_ble_eq_true rfl, Nat.le_of_ble_eq_true rfl⟩) (by exact ⟨Nat.le_of_ble_eq_true rfl, Nat.le_of_ble_eq_true rfl⟩) ?_
        refine ww_iload_n C dX5_setRoams_57 3 rfl rfl ?_
        exact ww_zret C hr (by first | exact Or.inl rfl | exact Or.inr rfl) (by simp only [y_setRoams, c6, c33, c46, if_true, if_false]) (by simp only [y_setRoams, c6, c33, c46, if_true, if_false]) dX5_setRoams_58
