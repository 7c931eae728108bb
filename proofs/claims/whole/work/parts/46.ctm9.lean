theorem om_use {n f : Nat} {h : Hp} {x cl : Int32} (H : OM n f h) (hx : isN 10 x) : OM n f (m_useH h x cl) := by
  have k : mK n f h (m_useS h x cl) := mK_set (k := 1) hx (by omega) (by omega)
  obtain ⟨a1, a2, a3, a4, a5, a6⟩ := H.mK k
  unfold m_useH
  exact ⟨by rw [hp_ne (by omega)]; exact a1, a2, by rw [hp_ne (by omega)]; exact a3, a4, fun j hj => by rw [hp_ne (by omega)]; exact a5 j hj, fun j hj => by rw [hp_ne (by omega)]; exact a6 j hj⟩
theorem useH_ne {h : Hp} {x cl : Int32} {o : Nat} (e1 : o ≠ 67) (e3 : o ≠ 69) : m_useH h x cl o = h o := by
  unfold m_useH m_useS
  rw [hp_ne e3, m_set_ne e1]
theorem useH_t {h : Hp} {x cl : Int32} : m_useH h x cl 69 0 = h 69 0 := by
  unfold m_useH
  rw [hp_eq]
  show (if 0 = 1 then _ else _) = _
  rw [if_neg (by omega)]
  unfold m_useS
  rw [m_set_ne (by omega)]
theorem back_use {n f t k : Nat} {h : Hp} {x cl : Int32} (H : OM n f h) (ht : h 69 0 = nI t) (hx : isN 10 x) : agree (m_back (m_days n f t (m_useH h x cl) k) h) h := agree_back (fun _ e1 e2 e3 => (days_ne (om_use H hx) (useH_t.trans ht) e1 e2 e3 k).trans (useH_ne e1 e3))
theorem ad_1 {n f t k j : Nat} {h : Hp} (c : ¬ m_po h (nI j) 0 ≤ m_holds h (nI j) / 4) : m_ad n f t k h (j + 1) = m_ad n f t k h j := if_neg c
theorem ad_2 {n f t k j : Nat} {h : Hp} (c : m_po h (nI j) 0 ≤ m_holds h (nI j) / 4) (c2 : ¬ (m_ad n f t k h j).2 < m_all (m_days n f t (m_useH h (nI j) 500) k) n) : m_ad n f t k h (j + 1) = m_ad n f t k h j := (if_pos c).trans (if_neg c2)
theorem ad_3 {n f t k j : Nat} {h : Hp} (c : m_po h (nI j) 0 ≤ m_holds h (nI j) / 4) (c2 : (m_ad n f t k h j).2 < m_all (m_days n f t (m_useH h (nI j) 500) k) n) : m_ad n f t k h (j + 1) = (nI j, m_all (m_days n f t (m_useH h (nI j) 500) k) n) := (if_pos c).trans (if_pos c2)
set_option maxRecDepth 100000 in
set_option maxHeartbeats 1600000 in
theorem ct_X5_advise {g : gW} {l : Launch} {h : Hp} {n f t : Nat} (H : OM n f h) (ht : h 69 0 = nI t) (ht31 : t + 300 < 2 ^ 31) {k : Int32} : CTK g l yX5_advise cX5_advise 7 (some FieldType.int) 6 4 90 [.ref (gB g + 64), .int k] h (some (.int (y_advise n f t h k).1)) (y_advise n f t h k).2 := by
  have hn : y0 h 64 1 = nI n := H.yy.1
  have hn10 := H.2.1
  have hf : y0 h 64 3 = nI f := H.yy.2.2.1
  have ht0 : y0 h 69 0 = nI t := by rw [y0_ne (by omega)]; exact ht
  refine CTK.of (lv0 := [(0, .ref (gB g + 64)), (1, .int k)]) mf_X5_advise.1.2.2.2 (Nat.le_of_ble_eq_true rfl) rfl ?_
  intro p e s m below meth c C hX hr
  refine ww_aload_n C dX5_advise_0 0 rfl rfl ?_
  refine ww_iconst (v := 0) C dX5_advise_1 (by decide) ?_
  refine ww_putM C 0 (by decide) q_f_X5_25 dX5_advise_2 ?_
  refine ww_heap (h2 := y0 h) rfl ?_
  refine ww_iload_n C dX5_advise_5 1 rfl rfl ?_
  refine ww_iconst (v := 1) C dX5_advise_6 (by decide) ?_
  refine ww_bipush (v := 50) C dX5_advise_7 (by decide) ?_
  refine ww_callS C mf_X5_isIn ct_X5_isIn q_m_X5_32 rfl rfl (Nat.le_of_ble_eq_true rfl) (by exact ⟨Nat.le_of_ble_eq_true rfl, Nat.le_of_ble_eq_true rfl⟩) (by exact ⟨Nat.le_of_ble_eq_true rfl, Nat.le_of_ble_eq_true rfl⟩) dX5_advise_9 ?_
  refine ww_if_ne C dX5_advise_12 21 (by decide) (fun c12 => ?_) (fun c12 => ?_)
  · obtain ⟨ek, hk⟩ := in1 (N := 50) rfl (by omega) c12
    refine ww_aload_n C dX5_advise_21 0 rfl rfl ?_
    refine ww_callK C hX kt_X5 q_m_X5_146 (Nat.le_of_ble_eq_true rfl) ⟨(Nat.le_of_ble_eq_true rfl), (Nat.le_of_ble_eq_true rfl)⟩ ⟨(Nat.le_of_ble_eq_true rfl), (Nat.le_of_ble_eq_true rfl)⟩ dX5_advise_22 (fun a a0 a1 a2 => ?_)
    refine ww_astore_n C dX5_advise_25 2 rfl (by decide) ?_
    refine ww_aload_n C dX5_advise_26 0 rfl rfl ?_
    refine ww_iload_n C dX5_advise_27 1 rfl rfl ?_
    refine ww_callM C mf_X5_waterBy dX5_advise_28 (ct_X5_waterBy H.yy ht0 (by omega) ek (by omega)) q_m_X5_154 rfl rfl rfl (Nat.le_of_ble_eq_true rfl) (by exact ⟨Nat.le_of_ble_eq_true rfl, Nat.le_of_ble_eq_true rfl⟩) (by exact ⟨Nat.le_of_ble_eq_true rfl, Nat.le_of_ble_eq_true rfl⟩) ?_
    refine ww_istore_n C dX5_advise_31 3 rfl (by decide) ?_
    refine ww_aload_n C dX5_advise_32 0 rfl rfl ?_
    refine ww_aload_n C dX5_advise_33 2 rfl rfl ?_
    refine ww_callB C bt_X5 rfl q_m_X5_150 (Nat.le_of_ble_eq_true rfl) ⟨(Nat.le_of_ble_eq_true rfl), (Nat.le_of_ble_eq_true rfl)⟩ ⟨(Nat.le_of_ble_eq_true rfl), (Nat.le_of_ble_eq_true rfl)⟩ dX5_advise_34 ?_
    refine ww_agree (back_days H.yy ht0) ?_
    have L : ∀ (fu j : Nat), j ≤ n → n < fu + j → WW g p l e (rK 6 4 90) s m ([.ref (gB g + 64), .int k] : List Value).toArray below meth c 7 (xK g a a0 a1 a2 (y0 h)) (y0 h) [(0, .ref (gB g + 64)), (1, .int k), (2, .ref a), (3, .int (m_ad n f t k.toNatClampNeg (y0 h) j).2), (4, .int (m_ad n f t k.toNatClampNeg (y0 h) j).1), (5, .int (nI j))] 4 90 (MQ below (QW g s.heap.size (some (.int (y_advise n f t h k).1)) (y_advise n f t h k).2) ([.ref (gB g + 64), .int k] : List Value).toArray s 4 90 (AA g s.heap.size)) 43 [] := by
      intro fu
      induction fu with
      | zero => intro j h1 h2; omega
      | succ fu ih =>
        intro j hj hfu
        refine ww_iload C dX5_advise_43 rfl ?_
        refine ww_aload_n C dX5_advise_45 0 rfl rfl ?_
        refine ww_getM C 1 (by decide) q_f_X5_29 dX5_advise_46 ?_
        refine ww_icmp_ge C dX5_advise_49 108 (by decide) (fun q => ?_) (fun q => ?_)
        · have hjn := lp_exit hn q hj (by omega)
          subst hjn
          refine ww_iload C dX5_advise_108 rfl ?_
          exact ww_wide 4 90 (Nat.le_of_ble_eq_true rfl) (Nat.le_of_ble_eq_true rfl) (ww_iret C hr (by unfold y_advise; rw [if_neg c12]) (by unfold y_advise; rw [if_neg c12]) dX5_advise_110)
        · have hjn := lp_body hn q hj (by omega)
          have hx : isN 10 (nI j) := ⟨j, by omega, rfl⟩
          refine ww_aload_n C dX5_advise_52 0 rfl rfl ?_
          refine ww_iload C dX5_advise_53 rfl ?_
          refine ww_callM C mf_X5_isLow dX5_advise_55 (ct_X5_isLow (by assumption)) q_m_X5_75 rfl rfl rfl (Nat.le_of_ble_eq_true rfl) (by exact ⟨Nat.le_of_ble_eq_true rfl, Nat.le_of_ble_eq_true rfl⟩) (by exact ⟨Nat.le_of_ble_eq_true rfl, Nat.le_of_ble_eq_true rfl⟩) ?_
          refine ww_if_ne C dX5_advise_58 64 (by decide) (fun c58 => ?_) (fun c58 => ?_)
          · refine ww_aload_n C dX5_advise_64 0 rfl rfl ?_
            refine ww_iload C dX5_advise_65 rfl ?_
            refine ww_sipush (v := 500) C dX5_advise_67 (by decide) ?_
            refine ww_callM C mf_X5_use dX5_advise_70 (ct_X5_use (by assumption)) q_m_X5_78 rfl rfl rfl (Nat.le_of_ble_eq_true rfl) (by exact ⟨Nat.le_of_ble_eq_true rfl, Nat.le_of_ble_eq_true rfl⟩) (by exact ⟨Nat.le_of_ble_eq_true rfl, Nat.le_of_ble_eq_true rfl⟩) ?_
            refine ww_pop C dX5_advise_73 rfl ?_
            refine ww_aload_n C dX5_advise_74 0 rfl rfl ?_
            refine ww_iload_n C dX5_advise_75 1 rfl rfl ?_
            refine ww_callM C mf_X5_waterBy dX5_advise_76 (ct_X5_waterBy (om_use H.yy hx) (useH_t.trans ht0) (by omega) ek (by omega)) q_m_X5_154 rfl rfl rfl (Nat.le_of_ble_eq_true rfl) (by exact ⟨Nat.le_of_ble_eq_true rfl, Nat.le_of_ble_eq_true rfl⟩) (by exact ⟨Nat.le_of_ble_eq_true rfl, Nat.le_of_ble_eq_true rfl⟩) ?_
            refine ww_istore C dX5_advise_79 (by decide) ?_
            refine ww_aload_n C dX5_advise_81 0 rfl rfl ?_
            refine ww_aload_n C dX5_advise_82 2 rfl rfl ?_
            refine ww_callB C bt_X5 rfl q_m_X5_150 (Nat.le_of_ble_eq_true rfl) ⟨(Nat.le_of_ble_eq_true rfl), (Nat.le_of_ble_eq_true rfl)⟩ ⟨(Nat.le_of_ble_eq_true rfl), (Nat.le_of_ble_eq_true rfl)⟩ dX5_advise_83 ?_
            refine ww_agree (back_use H.yy ht0 hx) ?_
            refine ww_iload C dX5_advise_86 rfl ?_
            refine ww_iload_n C dX5_advise_88 3 rfl rfl ?_
            refine ww_icmp_gt C dX5_advise_89 95 (by decide) (fun c89 => ?_) (fun c89 => ?_)
            · refine ww_iload C dX5_advise_95 rfl ?_
              refine ww_istore C dX5_advise_97 (by decide) ?_
              refine ww_iload C dX5_advise_99 rfl ?_
              refine ww_istore_n C dX5_advise_101 3 rfl (by decide) ?_
              refine ww_iinc (v := nI (j + 1)) C dX5_advise_102 rfl (nI_inc _) (by decide) ?_
              refine ww_goto C dX5_advise_105 43 (by decide) ?_
              refine ww_lv [(0, .ref (gB g + 64)), (1, .int k), (2, .ref a), (3, .int (m_ad n f t k.toNatClampNeg (y0 h) (j + 1)).2), (4, .int (m_ad n f t k.toNatClampNeg (y0 h) (j + 1)).1), (5, .int (nI (j + 1)))] ⟨rfl, rfl, rfl, (by show some (Value.int _) = some (Value.int _); first | rw [ad_1 (bI0 c58)] | rw [ad_2 (bI1 c58) c89] | rw [ad_3 (bI1 c58) c89]), (by show some (Value.int _) = some (Value.int _); first | rw [ad_1 (bI0 c58)] | rw [ad_2 (bI1 c58) c89] | rw [ad_3 (bI1 c58) c89]), rfl, trivial⟩ ?_
              exact ih (j + 1) hjn (by omega)
            · refine ww_goto C dX5_advise_92 102 (by decide) ?_
              refine ww_iinc (v := nI (j + 1)) C dX5_advise_102 rfl (nI_inc _) (by decide) ?_
              refine ww_goto C dX5_advise_105 43 (by decide) ?_
              refine ww_lv [(0, .ref (gB g + 64)), (1, .int k), (2, .ref a), (3, .int (m_ad n f t k.toNatClampNeg (y0 h) (j + 1)).2), (4, .int (m_ad n f t k.toNatClampNeg (y0 h) (j + 1)).1), (5, .int (nI (j + 1)))] ⟨rfl, rfl, rfl, (by show some (Value.int _) = some (Value.int _); first | rw [ad_1 (bI0 c58)] | rw [ad_2 (bI1 c58) c89] | rw [ad_3 (bI1 c58) c89]), (by show some (Value.int _) = some (Value.int _); first | rw [ad_1 (bI0 c58)] | rw [ad_2 (bI1 c58) c89] | rw [ad_3 (bI1 c58) c89]), rfl, trivial⟩ ?_
              exact ih (j + 1) hjn (by omega)
          · refine ww_goto C dX5_advise_61 102 (by decide) ?_
            refine ww_iinc (v := nI (j + 1)) C dX5_advise_102 rfl (nI_inc _) (by decide) ?_
            refine ww_goto C dX5_advise_105 43 (by decide) ?_
            refine ww_lv [(0, .ref (gB g + 64)), (1, .int k), (2, .ref a), (3, .int (m_ad n f t k.toNatClampNeg (y0 h) (j + 1)).2), (4, .int (m_ad n f t k.toNatClampNeg (y0 h) (j + 1)).1), (5, .int (nI (j + 1)))] ⟨rfl, rfl, rfl, (by show some (Value.int _) = some (Value.int _); first | rw [ad_1 (bI0 c58)] | rw [ad_2 (bI1 c58) c89] | rw [ad_3 (bI1 c58) c89]), (by show some (Value.int _) = some (Value.int _); first | rw [ad_1 (bI0 c58)] | rw [ad_2 (bI1 c58) c89] | rw [ad_3 (bI1 c58) c89]), rfl, trivial⟩ ?_
            exact ih (j + 1) hjn (by omega)
    refine ww_iconst (v := (-1)) C dX5_advise_37 (by decide) ?_
    refine ww_istore C dX5_advise_38 (by decide) ?_
    refine ww_iconst (v := 0) C dX5_advise_40 (by decide) ?_
    refine ww_istore C dX5_advise_41 (by decide) ?_
    refine ww_lv [(0, .ref (gB g + 64)), (1, .int k), (2, .ref a), (3, .int (m_ad n f t k.toNatClampNeg (y0 h) 0).2), (4, .int (m_ad n f t k.toNatClampNeg (y0 h) 0).1), (5, .int (nI 0))] ⟨rfl, rfl, rfl, rfl, rfl, rfl, trivial⟩ ?_
    exact L (n + 1) 0 (Nat.zero_le _) (by omega)
  · refine ww_aload_n C dX5_advise_15 0 rfl rfl ?_
    refine ww_iconst (v := 1) C dX5_advise_16 (by decide) ?_
    refine ww_callM C mf_X5_fail dX5_advise_17 ct_X5_fail q_m_X5_49 rfl rfl rfl (Nat.le_of_ble_eq_true rfl) (by exact ⟨Nat.le_of_ble_eq_true rfl, Nat.le_of_ble_eq_true rfl⟩) (by exact ⟨Nat.le_of_ble_eq_true rfl, Nat.le_of_ble_eq_true rfl⟩) ?_
    exact ww_wide 4 90 (Nat.le_of_ble_eq_true rfl) (Nat.le_of_ble_eq_true rfl) (ww_iret C hr (by unfold y_advise; rw [if_pos c12]; rfl) (by unfold y_advise; rw [if_pos c12]; rfl) dX5_advise_20)
