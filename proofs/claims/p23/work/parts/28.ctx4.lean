set_option maxRecDepth 100000 in
set_option maxHeartbeats 4000000 in
theorem xt_X4_lasts {g : gW} {l : Launch} {h : Hp} (hst : l.stackTraces = false) {n f t : Nat} (H : OK 1 n f h) (ht : h 1 6 = nI t) (ht31 : t + 300 < 2 ^ 31) {x : Int32} : XT g l yX4_lasts cX4_lasts 4 (some FieldType.int) 7 [.ref (gB g + 0), .int x] h (x_lasts n f t h x) := by
  refine XT.of (lv0 := [(0, .ref (gB g + 0)), (1, .int x)]) (by decide +kernel) (Nat.le_of_ble_eq_true rfl) rfl ?_
  intro p e s m below meth c C hE hex hr
  have hd : isD 1 := Or.inl rfl
  have hn := H.1
  have hn10 := H.2.1
  have hf := H.2.2.1
  have hf6 : f ≤ 6 := H.2.2.2.1
  have hd32 : isD 32 := Or.inr rfl
  have ht32 : d_like n f h 32 6 = nI t := by rw [like_d (Or.inl rfl)]; exact ht
  have L : ∀ (fu : Nat), (¬ x < 0 ∧ x < nI n) → isP (32 + 14 + x.toNatClampNeg) → ∀ (i : Nat), i ≤ 200 → 200 < fu + i → x_lasts n f t h x = x_lastL n f t (32 + 14 + x.toNatClampNeg) (d_like n f h) (200 - i) i → WW g p l e (rK 7 1 6) s m ([.ref (gB g + 0), .int x] : List Value).toArray below meth c 4 [] (d_days 32 n f t (d_like n f h) i) [(0, .ref (gB g + 0)), (1, .int x), (2, .ref (gB g + (32 + 14 + x.toNatClampNeg))), (3, .int (nI (i + 1)))] 0 0 (vx_MQ below (QX g s.heap.size (x_lasts n f t h x)) (XX g s.heap.size h (x_lasts n f t h x)) ([.ref (gB g + 0), .int x] : List Value).toArray s 1 6 (AA g s.heap.size)) 38 [] := by
    intro fu
    induction fu with
    | zero => intro hv hP3 i h1 h2; omega
    | succ fu ih =>
      intro hv hP3 i hi2 hfu hi
      have Hj := days_ok H.like ht32 i
      refine ww_iload_n C dX4_lasts_38 3 rfl rfl ?_
      refine ww_sipush (v := 200) C dX4_lasts_39 (by decide) ?_
      refine ww_icmp_gt C dX4_lasts_42 68 (by decide) (fun q => ?_) (fun q => ?_)
      · have h9 : 200 < i + 1 := (nI_ltI (a := 200) (b := i + 1) (by omega) (by omega)).mp q
        have h8 : i = 200 := by omega
        subst h8
        refine ww_iconst (v := (-1)) C dX4_lasts_68 (by decide) ?_
        exact ww_xret (mc := 1) (ms := 6) (hi.trans rfl) (ww_wide 1 6 (Nat.le_of_ble_eq_true rfl) (Nat.le_of_ble_eq_true rfl) (ww_iret C hr rfl rfl dX4_lasts_69))
      · have h9 : i + 1 ≤ 200 := by
          rcases Nat.lt_or_ge 200 (i + 1) with z | z
          · exact absurd ((nI_ltI (a := 200) (b := i + 1) (by omega) (by omega)).mpr z) q
          · exact z
        have e10 : 200 - i = (200 - (i + 1)) + 1 := by omega
        rw [e10] at hi
        refine ww_aload_n C dX4_lasts_45 0 rfl rfl ?_
        refine ww_getXa C q_f_X4_18 dX4_lasts_46 ?_
        refine ww_callD C mf_X0_liveDay dX4_lasts_49 (ct_X0_liveDay hd32 Hj.1 Hj.2 (by omega)) q_m_X4_210 (by assumption) rfl rfl rfl (Nat.le_of_ble_eq_true rfl) (by exact ⟨Nat.le_of_ble_eq_true rfl, Nat.le_of_ble_eq_true rfl⟩) (by exact ⟨Nat.le_of_ble_eq_true rfl, Nat.le_of_ble_eq_true rfl⟩) ?_
        refine ww_pop C dX4_lasts_52 rfl ?_
        refine ww_aload_n C dX4_lasts_53 2 rfl rfl ?_
        refine ww_getP C (by assumption) 5 (by decide) q_f_X4_83 dX4_lasts_54 ?_
        refine ww_if_ne C dX4_lasts_57 62 (by decide) (fun c57 => ?_) (fun c57 => ?_)
        · refine ww_iinc (v := nI (i + 1 + 1)) C dX4_lasts_62 rfl (nI_inc _) (by decide) ?_
          refine ww_goto C dX4_lasts_65 38 (by decide) ?_
          refine ww_lv [(0, .ref (gB g + 0)), (1, .int x), (2, .ref (gB g + (32 + 14 + x.toNatClampNeg))), (3, .int (nI ((i + 1) + 1)))] ⟨rfl, rfl, rfl, rfl, trivial⟩ ?_
          exact ih hv hP3 (i + 1) (by omega) (by omega) (hi.trans (lastL_n c57))
        · refine ww_iload_n C dX4_lasts_60 3 rfl rfl ?_
          exact ww_xret (mc := 1) (ms := 6) (hi.trans (lastL_y c57)) (ww_wide 1 6 (Nat.le_of_ble_eq_true rfl) (Nat.le_of_ble_eq_true rfl) (ww_iret C hr rfl rfl dX4_lasts_61))
  refine ww_aload_n C dX4_lasts_0 0 rfl rfl ?_
  refine ww_getXd C q_f_X4_14 dX4_lasts_1 ?_
  refine ww_iload_n C dX4_lasts_4 1 rfl rfl ?_
  by_cases hv : ¬ x < 0 ∧ x < nI n
  · refine ww_callD C mf_X0_pondAt dX4_lasts_5 (ok_X0_pondAt hd hn hn10 (inN_is (by omega) hv)) q_m_X4_38 (by assumption) rfl rfl rfl (Nat.le_of_ble_eq_true rfl) (by exact ⟨Nat.le_of_ble_eq_true rfl, Nat.le_of_ble_eq_true rfl⟩) (by exact ⟨Nat.le_of_ble_eq_true rfl, Nat.le_of_ble_eq_true rfl⟩) ?_
    have hPhv := isP_x hd hn10 (inN_is (by omega) hv)
    refine ww_getP C (by assumption) 5 (by decide) q_f_X4_83 dX4_lasts_8 ?_
    refine ww_if_ne C dX4_lasts_11 16 (by decide) (fun c11 => ?_) (fun c11 => ?_)
    · refine ww_aload_n C dX4_lasts_16 0 rfl rfl ?_
      refine ww_getXa C q_f_X4_18 dX4_lasts_17 ?_
      refine ww_aload_n C dX4_lasts_20 0 rfl rfl ?_
      refine ww_getXd C q_f_X4_14 dX4_lasts_21 ?_
      refine ww_callD C mf_X0_becomeLike dX4_lasts_24 (ct_X0_becomeLike H) q_m_X4_206 (by assumption) rfl rfl rfl (Nat.le_of_ble_eq_true rfl) (by exact ⟨Nat.le_of_ble_eq_true rfl, Nat.le_of_ble_eq_true rfl⟩) (by exact ⟨Nat.le_of_ble_eq_true rfl, Nat.le_of_ble_eq_true rfl⟩) ?_
      refine ww_aload_n C dX4_lasts_27 0 rfl rfl ?_
      refine ww_getXa C q_f_X4_18 dX4_lasts_28 ?_
      refine ww_iload_n C dX4_lasts_31 1 rfl rfl ?_
      refine ww_callD C mf_X0_pondAt dX4_lasts_32 (ok_X0_pondAt hd32 H.like.1 hn10 (inN_is (by omega) hv)) q_m_X4_38 (by assumption) rfl rfl rfl (Nat.le_of_ble_eq_true rfl) (by exact ⟨Nat.le_of_ble_eq_true rfl, Nat.le_of_ble_eq_true rfl⟩) (by exact ⟨Nat.le_of_ble_eq_true rfl, Nat.le_of_ble_eq_true rfl⟩) ?_
      have hP3 := isP_x hd32 hn10 (inN_is (n := n) (by omega) hv)
      refine ww_astore_n C dX4_lasts_35 2 rfl (by decide) ?_
      refine ww_iconst (v := 1) C dX4_lasts_36 (by decide) ?_
      refine ww_istore_n C dX4_lasts_37 3 rfl (by decide) ?_
      refine ww_lv [(0, .ref (gB g + 0)), (1, .int x), (2, .ref (gB g + (32 + 14 + x.toNatClampNeg))), (3, .int (nI (0 + 1)))] ⟨rfl, rfl, rfl, rfl, trivial⟩ ?_
      exact L 201 hv hP3 0 (by omega) (by omega) (by simp only [x_lasts, hv, c11, not_false_eq_true, and_self, if_true, if_false])
    · refine ww_iconst (v := 0) C dX4_lasts_14 (by decide) ?_
      exact ww_xret (mc := 1) (ms := 6) (by simp only [x_lasts, rI, hv, c11, not_false_eq_true, and_self, if_true, if_false]; try rfl; done) (ww_wide 1 6 (Nat.le_of_ble_eq_true rfl) (Nat.le_of_ble_eq_true rfl) (ww_iret C hr rfl rfl dX4_lasts_15))
  · exact ww_callVx C hE hex (by simp only [x_lasts, rI, hv, not_false_eq_true, and_self, if_true, if_false]; try rfl; done) mf_X0_pondAt dX4_lasts_5 (xt_X0_pondAt hst hd hn hn10 (fun z => hv (is_inN (by omega) z))) q_m_X4_38 (isD_lt (by assumption)) (ci := 0) rfl rfl ⟨_, ce_D (by assumption)⟩ rfl rfl (Nat.le_of_ble_eq_true rfl) (by exact ⟨Nat.le_of_ble_eq_true rfl, Nat.le_of_ble_eq_true rfl⟩) (by exact ⟨Nat.le_of_ble_eq_true rfl, Nat.le_of_ble_eq_true rfl⟩) (Nat.le_of_ble_eq_true rfl) (Nat.le_of_ble_eq_true rfl)
