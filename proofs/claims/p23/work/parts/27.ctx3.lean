set_option maxRecDepth 100000 in
set_option maxHeartbeats 4000000 in
theorem ct_X4_canKeep {g : gW} {l : Launch} {h : Hp} {n f t : Nat} (H : OK 1 n f h) (ht : h 1 6 = nI t) (ht31 : t + 300 < 2 ^ 31) {x y : Int32} {k : Nat} (hx : isN n x) (hk50 : k ≤ 50) : CT g l yX4_canKeep cX4_canKeep 6 (some FieldType.boolean) 5 0 0 [.ref (gB g + 0), .int x, .int y, .int (nI k)] h (some (.int (x_can n f t h x y k).1)) (x_can n f t h x y k).2 := by
  refine CT.of (lv0 := [(0, .ref (gB g + 0)), (1, .int x), (2, .int y), (3, .int (nI k))]) mf_X4_canKeep.1.2.2.2 (Nat.le_of_ble_eq_true rfl) rfl ?_
  intro p e s m below meth c C hr
  have hd : isD 1 := Or.inl rfl
  have hn := H.1
  have hn10 := H.2.1
  have hf := H.2.2.1
  have hf6 : f ≤ 6 := H.2.2.2.1
  have hd32 : isD 32 := Or.inr rfl
  have HL := kL_ok (s := y) H hx
  have htL : x_kL n f h x y 32 6 = nI t := kL_t ht
  have hfp : isN (f + 1) (nI f) := ⟨f, by omega, rfl⟩
  have ef : (nI f).toNatClampNeg = f := nI_clamp (by omega)
  have hPf := isF_x hd32 HL.2.2.2.1 hfp
  rw [ef] at hPf
  have L : ∀ (fu j : Nat), j ≤ k → k < fu + j → x_ck n (f + 1) t (32 + 25 + f) (x_kL n f h x y) k 0 = x_ck n (f + 1) t (32 + 25 + f) (x_kL n f h x y) (k - j) j → WW g p l e (rK 5 0 0) s m ([.ref (gB g + 0), .int x, .int y, .int (nI k)] : List Value).toArray below meth c 6 [] (d_days 32 n (f + 1) t (x_kL n f h x y) j) [(0, .ref (gB g + 0)), (1, .int x), (2, .int y), (3, .int (nI k)), (4, .ref (gB g + (32 + 25 + f))), (5, .int (nI j))] 0 0 (MQ below (QW g s.heap.size (some (.int (x_can n f t h x y k).1)) (x_can n f t h x y k).2) ([.ref (gB g + 0), .int x, .int y, .int (nI k)] : List Value).toArray s 0 0 (AA g s.heap.size)) 32 [] := by
    intro fu
    induction fu with
    | zero => intro j h1 h2; omega
    | succ fu ih =>
      intro j hj hfu hi
      have Hj := days_ok HL htL j
      refine ww_iload C dX4_canKeep_32 rfl ?_
      refine ww_iload_n C dX4_canKeep_34 3 rfl rfl ?_
      refine ww_icmp_ge C dX4_canKeep_35 62 (by decide) (fun q => ?_) (fun q => ?_)
      · have hjn := lp_exit (rfl : nI k = nI k) q hj (by omega)
        subst hjn
        refine ww_iconst (v := 1) C dX4_canKeep_62 (by decide) ?_
        exact ww_zret C hr (by first | exact Or.inl rfl | exact Or.inr rfl | assumption) (by unfold x_can; rw [hi, Nat.sub_self]; rfl) (by unfold x_can; rw [hi, Nat.sub_self]; rfl) dX4_canKeep_63
      · have hjn := lp_body (rfl : nI k = nI k) q hj (by omega)
        have e10 : k - j = (k - (j + 1)) + 1 := by omega
        rw [e10] at hi
        refine ww_aload_n C dX4_canKeep_38 0 rfl rfl ?_
        refine ww_getXa C q_f_X4_18 dX4_canKeep_39 ?_
        refine ww_callD C mf_X0_liveDay dX4_canKeep_42 (ct_X0_liveDay hd32 Hj.1 Hj.2 (by omega)) q_m_X4_210 (by assumption) rfl rfl rfl (Nat.le_of_ble_eq_true rfl) (by exact ⟨Nat.le_of_ble_eq_true rfl, Nat.le_of_ble_eq_true rfl⟩) (by exact ⟨Nat.le_of_ble_eq_true rfl, Nat.le_of_ble_eq_true rfl⟩) ?_
        refine ww_pop C dX4_canKeep_45 rfl ?_
        refine ww_aload C dX4_canKeep_46 rfl ?_
        refine ww_getF C (by assumption) 2 (by decide) q_f_X4_170 dX4_canKeep_48 ?_
        refine ww_if_le C dX4_canKeep_51 56 (by decide) (fun c51 => ?_) (fun c51 => ?_)
        · refine ww_iinc (v := nI (j + 1)) C dX4_canKeep_56 rfl (nI_inc _) (by decide) ?_
          refine ww_goto C dX4_canKeep_59 32 (by decide) ?_
          refine ww_lv [(0, .ref (gB g + 0)), (1, .int x), (2, .int y), (3, .int (nI k)), (4, .ref (gB g + (32 + 25 + f))), (5, .int (nI (j + 1)))] ⟨rfl, rfl, rfl, rfl, rfl, rfl, trivial⟩ ?_
          exact ih (j + 1) hjn (by omega) (hi.trans (ck_go c51))
        · refine ww_iconst (v := 0) C dX4_canKeep_54 (by decide) ?_
          exact ww_zret C hr (by first | exact Or.inl rfl | exact Or.inr rfl | assumption) (by unfold x_can; rw [hi, ck_no c51]) (by unfold x_can; rw [hi, ck_no c51]; rfl) dX4_canKeep_55
  refine ww_aload_n C dX4_canKeep_0 0 rfl rfl ?_
  refine ww_getXa C q_f_X4_18 dX4_canKeep_1 ?_
  refine ww_aload_n C dX4_canKeep_4 0 rfl rfl ?_
  refine ww_getXd C q_f_X4_14 dX4_canKeep_5 ?_
  refine ww_callD C mf_X0_becomeLike dX4_canKeep_8 (ct_X0_becomeLike H) q_m_X4_206 (by assumption) rfl rfl rfl (Nat.le_of_ble_eq_true rfl) (by exact ⟨Nat.le_of_ble_eq_true rfl, Nat.le_of_ble_eq_true rfl⟩) (by exact ⟨Nat.le_of_ble_eq_true rfl, Nat.le_of_ble_eq_true rfl⟩) ?_
  refine ww_aload_n C dX4_canKeep_11 0 rfl rfl ?_
  refine ww_getXa C q_f_X4_18 dX4_canKeep_12 ?_
  refine ww_aload_n C dX4_canKeep_15 0 rfl rfl ?_
  refine ww_getXa C q_f_X4_18 dX4_canKeep_16 ?_
  refine ww_iload_n C dX4_canKeep_19 1 rfl rfl ?_
  refine ww_iload_n C dX4_canKeep_20 2 rfl rfl ?_
  refine ww_callD C mf_X0_makeFlock dX4_canKeep_21 (ok_X0_makeFlock hd32 H.like (show f < 7 by omega)) q_m_X4_143 (by assumption) rfl rfl rfl (Nat.le_of_ble_eq_true rfl) (by exact ⟨Nat.le_of_ble_eq_true rfl, Nat.le_of_ble_eq_true rfl⟩) (by exact ⟨Nat.le_of_ble_eq_true rfl, Nat.le_of_ble_eq_true rfl⟩) ?_
  refine ww_callD C mf_X0_flockAt dX4_canKeep_24 (ok_X0_flockAt hd32 HL.2.2.1 HL.2.2.2.1 hfp) q_m_X4_146 (by assumption) rfl rfl rfl (Nat.le_of_ble_eq_true rfl) (by exact ⟨Nat.le_of_ble_eq_true rfl, Nat.le_of_ble_eq_true rfl⟩) (by exact ⟨Nat.le_of_ble_eq_true rfl, Nat.le_of_ble_eq_true rfl⟩) ?_
  rw [ef]
  refine ww_astore C dX4_canKeep_27 (by decide) ?_
  refine ww_iconst (v := 0) C dX4_canKeep_29 (by decide) ?_
  refine ww_istore C dX4_canKeep_30 (by decide) ?_
  refine ww_lv [(0, .ref (gB g + 0)), (1, .int x), (2, .int y), (3, .int (nI k)), (4, .ref (gB g + (32 + 25 + f))), (5, .int (nI 0))] ⟨rfl, rfl, rfl, rfl, rfl, rfl, trivial⟩ ?_
  exact L (k + 1) 0 (Nat.zero_le _) (by omega) rfl
set_option maxRecDepth 100000 in
set_option maxHeartbeats 4000000 in
theorem xt_X4_keep {g : gW} {l : Launch} {h : Hp} (hst : l.stackTraces = false) {n f t : Nat} (H : OK 1 n f h) (ht : h 1 6 = nI t) (ht31 : t + 300 < 2 ^ 31) {x k : Int32} : XT g l yX4_keep cX4_keep 4 (some FieldType.int) 7 [.ref (gB g + 0), .int x, .int k] h (x_keep n f t h x k) := by
  refine XT.of (lv0 := [(0, .ref (gB g + 0)), (1, .int x), (2, .int k)]) (by decide +kernel) (Nat.le_of_ble_eq_true rfl) rfl ?_
  intro p e s m below meth c C hE hex hr
  have hd : isD 1 := Or.inl rfl
  have hn := H.1
  have hn10 := H.2.1
  have hf := H.2.2.1
  have hf6 : f ≤ 6 := H.2.2.2.1
  have L : ∀ (j : Nat), (¬ x < 0 ∧ x < nI n) → j ≤ 50 → ∀ (s0 : Nat) (z : Hp), s0 ≤ 80 → OK 1 n f z → z 1 6 = nI t → x_keepL n f t x j s0 z = x_keep n f t h x k → WW g p l e (rK 7 1 6) s m ([.ref (gB g + 0), .int x, .int k] : List Value).toArray below meth c 4 [] z [(0, .ref (gB g + 0)), (1, .int x), (2, .int (nI j)), (3, .int (nI s0))] 0 0 (vx_MQ below (QX g s.heap.size (x_keep n f t h x k)) (XX g s.heap.size h (x_keep n f t h x k)) ([.ref (gB g + 0), .int x, .int k] : List Value).toArray s 1 6 (AA g s.heap.size)) 32 [] := by
    intro j hv hj s0
    induction s0 with
    | zero =>
      intro z hs0 Hz htz hins
      refine ww_iload_n C dX4_keep_32 3 rfl rfl ?_
      refine ww_iconst (v := 1) C dX4_keep_33 (by decide) ?_
      refine ww_icmp_lt C dX4_keep_34 55 (by decide) (fun _ => ?_) (fun q => absurd (show nI 0 < 1 from by decide) q)
      refine ww_iconst (v := 0) C dX4_keep_55 (by decide) ?_
      exact ww_xret (mc := 1) (ms := 6) (hins.symm.trans rfl) (ww_wide 1 6 (Nat.le_of_ble_eq_true rfl) (Nat.le_of_ble_eq_true rfl) (ww_iret C hr rfl rfl dX4_keep_56))
    | succ s0 ih =>
      intro z hs0 Hz htz hins
      refine ww_iload_n C dX4_keep_32 3 rfl rfl ?_
      refine ww_iconst (v := 1) C dX4_keep_33 (by decide) ?_
      refine ww_icmp_lt C dX4_keep_34 55 (by decide) (fun q => absurd q (show ¬ nI (s0 + 1) < 1 from fun q => absurd ((nI_ltI (a := s0 + 1) (b := 1) (by omega) (by omega)).mp q) (by omega))) (fun _ => ?_)
      refine ww_aload_n C dX4_keep_37 0 rfl rfl ?_
      refine ww_iload_n C dX4_keep_38 1 rfl rfl ?_
      refine ww_iload_n C dX4_keep_39 3 rfl rfl ?_
      refine ww_iload_n C dX4_keep_40 2 rfl rfl ?_
      refine ww_callX C mf_X4_canKeep dX4_keep_41 (ct_X4_canKeep Hz htz ht31 (inN_is (by omega) hv) hj) q_m_X4_215 rfl rfl rfl (Nat.le_of_ble_eq_true rfl) (by exact ⟨Nat.le_of_ble_eq_true rfl, Nat.le_of_ble_eq_true rfl⟩) (by exact ⟨Nat.le_of_ble_eq_true rfl, Nat.le_of_ble_eq_true rfl⟩) ?_
      refine ww_if_eq C dX4_keep_44 49 (by decide) (fun c44 => ?_) (fun c44 => ?_)
      · refine ww_iinc (v := nI s0) C dX4_keep_49 rfl (pk_m1 s0) (by decide) ?_
        refine ww_goto C dX4_keep_52 32 (by decide) ?_
        refine ww_lv [(0, .ref (gB g + 0)), (1, .int x), (2, .int (nI j)), (3, .int (nI s0))] ⟨rfl, rfl, rfl, rfl, trivial⟩ ?_
        exact ih _ (by omega) (Hz.lo (fun a ha => can_lo Hz htz (inN_is (by omega) hv) ha)) (by rw [can_lo Hz htz (inN_is (by omega) hv) (by omega)]; exact htz) ((keepL_no c44).symm.trans hins)
      · refine ww_iload_n C dX4_keep_47 3 rfl rfl ?_
        exact ww_xret (mc := 1) (ms := 6) ((keepL_yes c44).symm.trans hins).symm (ww_wide 1 6 (Nat.le_of_ble_eq_true rfl) (Nat.le_of_ble_eq_true rfl) (ww_iret C hr rfl rfl dX4_keep_48))
  refine ww_aload_n C dX4_keep_0 0 rfl rfl ?_
  refine ww_getXd C q_f_X4_14 dX4_keep_1 ?_
  refine ww_iload_n C dX4_keep_4 1 rfl rfl ?_
  by_cases hv : ¬ x < 0 ∧ x < nI n
  · refine ww_callD C mf_X0_pondAt dX4_keep_5 (ok_X0_pondAt hd hn hn10 (inN_is (by omega) hv)) q_m_X4_38 (by assumption) rfl rfl rfl (Nat.le_of_ble_eq_true rfl) (by exact ⟨Nat.le_of_ble_eq_true rfl, Nat.le_of_ble_eq_true rfl⟩) (by exact ⟨Nat.le_of_ble_eq_true rfl, Nat.le_of_ble_eq_true rfl⟩) ?_
    have hPhv := isP_x hd hn10 (inN_is (by omega) hv)
    refine ww_pop C dX4_keep_8 rfl ?_
    refine ww_iload_n C dX4_keep_9 2 rfl rfl ?_
    refine ww_iconst (v := 1) C dX4_keep_10 (by decide) ?_
    refine ww_bipush (v := 50) C dX4_keep_11 (by decide) ?_
    refine ww_callS C mf_X4_isWithin (ct_X4_isWithin) q_m_X4_21 rfl rfl (Nat.le_of_ble_eq_true rfl) (by exact ⟨Nat.le_of_ble_eq_true rfl, Nat.le_of_ble_eq_true rfl⟩) (by exact ⟨Nat.le_of_ble_eq_true rfl, Nat.le_of_ble_eq_true rfl⟩) dX4_keep_13 ?_
    refine ww_if_ne C dX4_keep_16 29 (by decide) (fun c16 => ?_) (fun c16 => ?_)
    · obtain ⟨j, hj, ej⟩ := nI_of2 (M := 50) (n := 50) rfl (Int32.not_lt.mpr (Int32.le_trans (by decide : (0 : Int32) ≤ 1) (bI1 c16).1)) (bI1 c16).2
      have e9 : k.toNatClampNeg = j := by rw [ej]; exact nI_clamp (by omega)
      refine ww_bipush (v := 80) C dX4_keep_29 (by decide) ?_
      refine ww_istore_n C dX4_keep_31 3 rfl (by decide) ?_
      refine ww_lv [(0, .ref (gB g + 0)), (1, .int x), (2, .int k), (3, .int (nI 80))] ⟨rfl, rfl, rfl, rfl, trivial⟩ ?_
      have hr5 : x_keepL n f t x j 80 h = x_keep n f t h x k := by simp only [x_keep, hv, c16, e9, not_false_eq_true, and_self, if_true, if_false]
      obtain rfl := ej
      exact L j hv hj 80 h (by omega) H ht hr5
    · exact ww_throw (cls := E_A) (text := "days is not 1 to 50") C hE hex hst (by simp only [x_keep, rI, hv, c16, not_false_eq_true, and_self, if_true, if_false]; try rfl; done) (by decide +kernel) q_k_X4_25 q_n_E_A (by decide +kernel) gx_X4_29 gy_X4_29 dX4_keep_19 dX4_keep_22 dX4_keep_23 dX4_keep_25 dX4_keep_28 (Nat.le_of_ble_eq_true rfl) (Nat.le_of_ble_eq_true rfl) (Nat.le_of_ble_eq_true rfl) (Nat.le_of_ble_eq_true rfl) (Nat.le_of_ble_eq_true rfl) (Nat.le_of_ble_eq_true rfl)
  · exact ww_callVx C hE hex (by simp only [x_keep, rI, hv, not_false_eq_true, and_self, if_true, if_false]; try rfl; done) mf_X0_pondAt dX4_keep_5 (xt_X0_pondAt hst hd hn hn10 (fun z => hv (is_inN (by omega) z))) q_m_X4_38 (isD_lt (by assumption)) (ci := 0) rfl rfl ⟨_, ce_D (by assumption)⟩ rfl rfl (Nat.le_of_ble_eq_true rfl) (by exact ⟨Nat.le_of_ble_eq_true rfl, Nat.le_of_ble_eq_true rfl⟩) (by exact ⟨Nat.le_of_ble_eq_true rfl, Nat.le_of_ble_eq_true rfl⟩) (Nat.le_of_ble_eq_true rfl) (Nat.le_of_ble_eq_true rfl)
