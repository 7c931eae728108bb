theorem putF_row {f : Nat} {h : Hp} {x sh : Int32} {j : Nat} (hj : j < 5 * f) : m_putF f h x sh 68 j = h 68 j := by
  unfold m_putF m_pf1
  rw [hp_ne (by omega), hp_row_eq]
  show (if 5 * f ≤ j ∧ j < 5 * f + 5 then pfR sh x (0 + (j - 5 * f)) else h 68 j) = _
  rw [if_neg (by omega)]
theorem putF_new {f k : Nat} {h : Hp} {x sh : Int32} (hk : k < 5) : m_putF f h x sh 68 (5 * f + k) = pfR sh x k := by
  unfold m_putF m_pf1
  rw [hp_ne (by omega), hp_row_eq]
  show (if 5 * f ≤ 5 * f + k ∧ 5 * f + k < 5 * f + 5 then pfR sh x (0 + (5 * f + k - 5 * f)) else h 68 (5 * f + k)) = _
  rw [if_pos ⟨by omega, by omega⟩, Nat.zero_add, Nat.add_sub_cancel_left]
theorem putF_ne {f : Nat} {h : Hp} {x sh : Int32} {o : Nat} (e1 : o ≠ 68) (e2 : o ≠ 64) : m_putF f h x sh o = h o := by
  unfold m_putF m_pf1
  rw [hp_ne e2, hp_row_ne e1]
theorem putF_64 {f k : Nat} {h : Hp} {x sh : Int32} : m_putF f h x sh 64 k = if k = 3 then h 64 3 + 1 else h 64 k := by
  unfold m_putF m_pf1
  rw [hp_eq]
  unfold upd
  rw [hp_row_ne (by omega)]
theorem om_putF {n f : Nat} {h : Hp} {x sh : Int32} (H : OM n f h) (hf6 : f ≤ 6) (hx : isN n x) : OM n (f + 1) (m_putF f h x sh) := by
  obtain ⟨a1, a2, a3, a4, a5, a6⟩ := H
  refine ⟨?_, a2, ?_, by omega, fun j hj => ?_, fun j hj => ?_⟩
  · rw [putF_64, if_neg (by omega)]; exact a1
  · rw [putF_64, if_pos rfl, a3]; exact nI_1 f
  · rw [putF_ne (by omega) (by omega)]; exact a5 j hj
  · by_cases hjf : j < f
    · rw [putF_row (by omega)]; exact a6 j hjf
    · have : j = f := by omega
      subst this
      rw [putF_new (by omega)]
      exact hx
theorem keep_agree {n f t k : Nat} {h : Hp} {x sh : Int32} (H : OM n f h) (hf6 : f ≤ 6) (hx : isN n x) (ht : h 69 0 = nI t) : agree (m_back (hp_up (m_days n (f + 1) t (m_putF f h x sh) k) 64 3 (m_days n (f + 1) t (m_putF f h x sh) k 64 3 - 1)) h) h := by
  have H1 := om_putF (sh := sh) H hf6 hx
  have t1 : m_putF f h x sh 69 0 = nI t := by rw [putF_ne (by omega) (by omega)]; exact ht
  refine agree_back (fun o e1 e2 e3 => ?_)
  by_cases e : o = 64
  · subst e
    rw [hp_eq]
    have e9 := days_ne (o := 64) H1 t1 (by omega) (by omega) (by omega) k
    rw [e9]
    funext q
    unfold upd
    by_cases hq : q = 3
    · subst hq
      rw [if_pos rfl, putF_64, if_pos rfl, H.2.2.1]
      show nI f + 1 - 1 = _
      rw [show nI f + 1 = nI (f + 1) from nI_1 f]
      exact nI_pred f
    · rw [if_neg hq, putF_64, if_neg hq]
  · rw [hp_ne e, days_ne H1 t1 e1 e2 e3 k, putF_ne e2 e]
def m_kb (n f t : Nat) (h : Hp) (x : Int32) (j : Nat) : Int32 := if m_fl (m_days n f t h (j + 1)) x 2 = 0 then 1 else 0
def kgI (n f t D : Nat) (h : Hp) (x T : Int32) (b : Int32) (j : Nat) : Prop := (b = 0 ∧ T = 0) ∨ (b = 1 ∧ m_kg n f t h x (D - j) j = T)
theorem kg_st {n f t D j : Nat} {h : Hp} {x T b : Int32} (hb : kgI n f t D h x T b j) (c : ¬ b = 0) (hj : j < D) : kgI n f t D h x T (m_kb n f t h x j) (j + 1) := by
  rcases hb with ⟨z, -⟩ | ⟨-, e⟩
  · exact absurd z c
  · rw [show D - j = (D - (j + 1)) + 1 by omega] at e
    change (if m_fl (m_days n f t h (j + 1)) x 2 = 0 then m_kg n f t h x (D - (j + 1)) (j + 1) else 0) = T at e
    unfold kgI m_kb
    by_cases c2 : m_fl (m_days n f t h (j + 1)) x 2 = 0
    · rw [if_pos c2] at e ⊢
      exact Or.inr ⟨rfl, e⟩
    · rw [if_neg c2] at e ⊢
      exact Or.inl ⟨rfl, e.symm⟩
theorem kg_e1 {n f t D : Nat} {h : Hp} {x T b : Int32} (hb : kgI n f t D h x T b D) : b = T := by
  rcases hb with ⟨z, y⟩ | ⟨z, e⟩
  · rw [z, y]
  · rw [Nat.sub_self] at e
    exact z.trans e
theorem kg_e2 {n f t D j : Nat} {h : Hp} {x T b : Int32} (hb : kgI n f t D h x T b j) (c : b = 0) : b = T := by
  rcases hb with ⟨z, y⟩ | ⟨z, e⟩
  · rw [z, y]
  · rw [c] at z
    exact absurd z (by decide)
theorem kp_n {n f t d q : Nat} {h : Hp} {x : Int32} (c : m_try n f t d h x (nI (q + 1)) = 0) : m_kp n f t d h x (q + 1) = m_kp n f t d h x q := if_pos c
theorem kp_y {n f t d q : Nat} {h : Hp} {x : Int32} (c : ¬ m_try n f t d h x (nI (q + 1)) = 0) : m_kp n f t d h x (q + 1) = nI (q + 1) := if_neg c
theorem nI_s0 {sq : Nat} (h : sq + 1 < 2 ^ 31) : ¬ nI (sq + 1) = 0 := by
  intro z
  have e := congrArg Int32.toNatClampNeg z
  rw [nI_clamp h, z0c] at e
  omega
theorem nI_gt0 {sq : Nat} (h : sq + 1 < 2 ^ 31) : ¬ nI (sq + 1) ≤ 0 := by
  intro z
  have e := Int32.le_iff_toInt_le.mp z
  rw [nI_toInt h] at e
  have : (0 : Int32).toInt = 0 := by decide
  omega
set_option maxRecDepth 100000 in
set_option maxHeartbeats 1600000 in
theorem ct_X5_keep {g : gW} {l : Launch} {h : Hp} {n f t : Nat} (H : OM n f h) (hf6 : f ≤ 6) (ht : h 69 0 = nI t) (ht31 : t + 300 < 2 ^ 31) {x k : Int32} : CTK g l yX5_keep cX5_keep 8 (some FieldType.int) 5 84 490 [.ref (gB g + 64), .int x, .int k] h (some (.int (y_keep n f t h x k).1)) (y_keep n f t h x k).2 := by
  have hn : y0 h 64 1 = nI n := H.yy.1
  have hn10 := H.2.1
  have hf : y0 h 64 3 = nI f := H.yy.2.2.1
  have ht0 : y0 h 69 0 = nI t := by rw [y0_ne (by omega)]; exact ht
  refine CTK.of (lv0 := [(0, .ref (gB g + 64)), (1, .int x), (2, .int k)]) mf_X5_keep.1.2.2.2 (Nat.le_of_ble_eq_true rfl) rfl ?_
  intro p e s m below meth c C hX hr
  refine ww_aload_n C dX5_keep_0 0 rfl rfl ?_
  refine ww_iconst (v := 0) C dX5_keep_1 (by decide) ?_
  refine ww_putM C 0 (by decide) q_f_X5_25 dX5_keep_2 ?_
  refine ww_heap (h2 := y0 h) rfl ?_
  refine ww_aload_n C dX5_keep_5 0 rfl rfl ?_
  refine ww_iload_n C dX5_keep_6 1 rfl rfl ?_
  refine ww_callM C mf_X5_isPond dX5_keep_7 ct_X5_isPond q_m_X5_62 rfl rfl rfl (Nat.le_of_ble_eq_true rfl) (by exact ⟨Nat.le_of_ble_eq_true rfl, Nat.le_of_ble_eq_true rfl⟩) (by exact ⟨Nat.le_of_ble_eq_true rfl, Nat.le_of_ble_eq_true rfl⟩) ?_
  refine ww_if_ne C dX5_keep_10 19 (by decide) (fun c10 => ?_) (fun c10 => ?_)
  · have hxn : isN n x := mN hn hn10 c10
    refine ww_iload_n C dX5_keep_19 2 rfl rfl ?_
    refine ww_iconst (v := 1) C dX5_keep_20 (by decide) ?_
    refine ww_bipush (v := 50) C dX5_keep_21 (by decide) ?_
    refine ww_callS C mf_X5_isIn ct_X5_isIn q_m_X5_32 rfl rfl (Nat.le_of_ble_eq_true rfl) (by exact ⟨Nat.le_of_ble_eq_true rfl, Nat.le_of_ble_eq_true rfl⟩) (by exact ⟨Nat.le_of_ble_eq_true rfl, Nat.le_of_ble_eq_true rfl⟩) dX5_keep_23 ?_
    refine ww_if_ne C dX5_keep_26 35 (by decide) (fun c26 => ?_) (fun c26 => ?_)
    · obtain ⟨ek, hk⟩ := in1 (N := 50) rfl (by omega) c26
      refine ww_aload_n C dX5_keep_35 0 rfl rfl ?_
      refine ww_callK C hX kt_X5 q_m_X5_146 (Nat.le_of_ble_eq_true rfl) ⟨(Nat.le_of_ble_eq_true rfl), (Nat.le_of_ble_eq_true rfl)⟩ ⟨(Nat.le_of_ble_eq_true rfl), (Nat.le_of_ble_eq_true rfl)⟩ dX5_keep_36 (fun a a0 a1 a2 => ?_)
      refine ww_astore_n C dX5_keep_39 3 rfl (by decide) ?_
      have L47 : ∀ sq, sq ≤ 80 → m_kp n f t k.toNatClampNeg (y0 h) x sq = (m_kp n f t k.toNatClampNeg (y0 h) x 80) → WW g p l e (rK 5 84 490) s m ([.ref (gB g + 64), .int x, .int k] : List Value).toArray below meth c 8 (xK g a a0 a1 a2 (y0 h)) (y0 h) [(0, .ref (gB g + 64)), (1, .int x), (2, .int k), (3, .ref a), (4, .int 0), (5, .int (nI sq))] (4 + (80 - sq)) (90 + 5 * (80 - sq)) (MQ below (QW g s.heap.size (some (.int (y_keep n f t h x k).1)) (y_keep n f t h x k).2) ([.ref (gB g + 64), .int x, .int k] : List Value).toArray s 84 490 (AA g s.heap.size)) 47 [] := by
        intro sq
        induction sq with
        | zero =>
          intro hq hres
          have hfin : (m_kp n f t k.toNatClampNeg (y0 h) x 80) = 0 := hres.symm
          refine ww_iload C dX5_keep_47 rfl ?_
          refine ww_if_le C dX5_keep_49 143 (by decide) (fun _ => ?_) (fun q => absurd (show nI 0 ≤ 0 from by decide) q)
          refine ww_iload C dX5_keep_143 rfl ?_
          exact ww_wide 84 490 (by omega) (by omega) (ww_iret C hr (by unfold y_keep; rw [if_neg c10, if_neg c26]; exact congrArg (fun z => some (Value.int z)) hfin) (by unfold y_keep; rw [if_neg c10, if_neg c26]) dX5_keep_145)
        | succ sq ih =>
          intro hq hres
          have H1 := om_putF (sh := nI (sq + 1)) H.yy hf6 hxn
          have t1 : (m_putF f (y0 h) x (nI (sq + 1))) 69 0 = nI t := by rw [putF_ne (by omega) (by omega)]; exact ht0
          have K113 : ∀ (j : Nat) (b : Int32), b = (m_try n f t k.toNatClampNeg (y0 h) x (nI (sq + 1))) → WW g p l e (rK 5 84 490) s m ([.ref (gB g + 64), .int x, .int k] : List Value).toArray below meth c 8 (xK g a a0 a1 a2 (y0 h)) (m_days n (f + 1) t (m_putF f (y0 h) x (nI (sq + 1))) j) [(0, .ref (gB g + 64)), (1, .int x), (2, .int k), (3, .ref a), (4, .int 0), (5, .int (nI (sq + 1))), (6, .int b)] (4 + (80 - (sq + 1)) + 1) (90 + 5 * (80 - (sq + 1)) + 5) (MQ below (QW g s.heap.size (some (.int (y_keep n f t h x k).1)) (y_keep n f t h x k).2) ([.ref (gB g + 64), .int x, .int k] : List Value).toArray s 84 490 (AA g s.heap.size)) 113 [] := by
            intro j b hb
            refine ww_aload_n C dX5_keep_113 0 rfl rfl ?_
            refine ww_dup C dX5_keep_114 rfl ?_
            refine ww_getM C 3 (by decide) q_f_X5_36 dX5_keep_115 ?_
            refine ww_iconst (v := 1) C dX5_keep_118 (by decide) ?_
            refine ww_isub C dX5_keep_119 ?_
            refine ww_putM C 3 (by decide) q_f_X5_36 dX5_keep_120 ?_
            refine ww_aload_n C dX5_keep_123 0 rfl rfl ?_
            refine ww_aload_n C dX5_keep_124 3 rfl rfl ?_
            refine ww_callB C bt_X5 rfl q_m_X5_150 (Nat.le_of_ble_eq_true rfl) ⟨(Nat.le_of_ble_eq_true rfl), (Nat.le_of_ble_eq_true rfl)⟩ (by show _ ≤ 84 ∧ _ ≤ 490; omega) dX5_keep_125 ?_
            refine ww_agree (keep_agree H.yy hf6 hxn ht0) ?_
            refine ww_iload C dX5_keep_128 rfl ?_
            refine ww_if_eq C dX5_keep_130 137 (by decide) (fun c130 => ?_) (fun c130 => ?_)
            · refine ww_iinc (v := nI sq) C dX5_keep_137 rfl ((sub1 _).trans (nI_pred sq)) (by decide) ?_
              refine ww_goto C dX5_keep_140 47 (by decide) ?_
              refine ww_wide (4 + (80 - sq)) (90 + 5 * (80 - sq)) (by omega) (by omega) ?_
              refine ww_lv [(0, .ref (gB g + 64)), (1, .int x), (2, .int k), (3, .ref a), (4, .int 0), (5, .int (nI sq))] ⟨rfl, rfl, rfl, rfl, rfl, rfl, trivial⟩ ?_
              exact ih (by omega) ((kp_n (by rw [← hb]; exact c130)).symm.trans hres)
            · refine ww_iload C dX5_keep_133 rfl ?_
              refine ww_istore C dX5_keep_135 (by decide) ?_
              refine ww_iinc (v := nI sq) C dX5_keep_137 rfl ((sub1 _).trans (nI_pred sq)) (by decide) ?_
              refine ww_goto C dX5_keep_140 47 (by decide) ?_
              have hfin : (m_kp n f t k.toNatClampNeg (y0 h) x 80) = nI (sq + 1) := hres.symm.trans (kp_y (by rw [← hb]; exact c130))
              refine ww_iload C dX5_keep_47 rfl ?_
              refine ww_if_le C dX5_keep_49 143 (by decide) (fun c49 => ?_) (fun c49 => ?_)
              · refine ww_iload C dX5_keep_143 rfl ?_
                exact ww_wide 84 490 (by omega) (by omega) (ww_iret C hr (by unfold y_keep; rw [if_neg c10, if_neg c26]; exact congrArg (fun z => some (Value.int z)) hfin) (by unfold y_keep; rw [if_neg c10, if_neg c26]) dX5_keep_145)
              · refine ww_iload C dX5_keep_52 rfl ?_
                refine ww_if_ne C dX5_keep_54 143 (by decide) (fun _ => ?_) (fun q => absurd q (show ¬ nI (sq + 1) = 0 from nI_s0 (by omega)))
                refine ww_iload C dX5_keep_143 rfl ?_
                exact ww_wide 84 490 (by omega) (by omega) (ww_iret C hr (by unfold y_keep; rw [if_neg c10, if_neg c26]; exact congrArg (fun z => some (Value.int z)) hfin) (by unfold y_keep; rw [if_neg c10, if_neg c26]) dX5_keep_145)
          have Ld : ∀ (fu j : Nat), j ≤ k.toNatClampNeg → k.toNatClampNeg < fu + j → ∀ b : Int32, kgI n (f + 1) t k.toNatClampNeg (m_putF f (y0 h) x (nI (sq + 1))) (nI f) (m_try n f t k.toNatClampNeg (y0 h) x (nI (sq + 1))) b j → WW g p l e (rK 5 84 490) s m ([.ref (gB g + 64), .int x, .int k] : List Value).toArray below meth c 8 (xK g a a0 a1 a2 (y0 h)) (m_days n (f + 1) t (m_putF f (y0 h) x (nI (sq + 1))) j) [(0, .ref (gB g + 64)), (1, .int x), (2, .int k), (3, .ref a), (4, .int 0), (5, .int (nI (sq + 1))), (6, .int b), (7, .int (nI j))] (4 + (80 - (sq + 1)) + 1) (90 + 5 * (80 - (sq + 1)) + 5) (MQ below (QW g s.heap.size (some (.int (y_keep n f t h x k).1)) (y_keep n f t h x k).2) ([.ref (gB g + 64), .int x, .int k] : List Value).toArray s 84 490 (AA g s.heap.size)) 70 [] := by
            intro fu
            induction fu with
            | zero => intro j h1 h2; omega
            | succ fu ih =>
              intro j hj hfu b hb
              have Hj := mdays_ok H1 t1 j
              refine ww_iload C dX5_keep_70 rfl ?_
              refine ww_iload_n C dX5_keep_72 2 rfl rfl ?_
              refine ww_icmp_ge C dX5_keep_73 113 (by decide) (fun q => ?_) (fun q => ?_)
              · have hjn := lp_exit ek q hj (by omega)
                subst hjn
                refine ww_lv [(0, .ref (gB g + 64)), (1, .int x), (2, .int k), (3, .ref a), (4, .int 0), (5, .int (nI (sq + 1))), (6, .int b)] ⟨rfl, rfl, rfl, rfl, rfl, rfl, rfl, trivial⟩ ?_
                exact K113 _ _ (by first | exact kg_e1 hb | exact kg_e2 hb c78)
              · have hjn := lp_body ek q hj (by omega)
                refine ww_iload C dX5_keep_76 rfl ?_
                refine ww_if_eq C dX5_keep_78 113 (by decide) (fun c78 => ?_) (fun c78 => ?_)
                · refine ww_lv [(0, .ref (gB g + 64)), (1, .int x), (2, .int k), (3, .ref a), (4, .int 0), (5, .int (nI (sq + 1))), (6, .int b)] ⟨rfl, rfl, rfl, rfl, rfl, rfl, rfl, trivial⟩ ?_
                  exact K113 _ _ (by first | exact kg_e1 hb | exact kg_e2 hb c78)
                · refine ww_aload_n C dX5_keep_81 0 rfl rfl ?_
                  refine ww_callM C mf_X5_dayOn dX5_keep_82 (ct_X5_dayOn Hj.1 Hj.2 (by omega)) q_m_X5_131 rfl rfl rfl (Nat.le_of_ble_eq_true rfl) (by exact ⟨Nat.le_of_ble_eq_true rfl, Nat.le_of_ble_eq_true rfl⟩) (by show _ ≤ 84 ∧ _ ≤ 490; omega) ?_
                  refine ww_pop C dX5_keep_85 rfl ?_
                  refine ww_heap (h2 := m_days n (f + 1) t (m_putF f (y0 h) x (nI (sq + 1))) (j + 1)) rfl ?_
                  refine ww_aload_n C dX5_keep_86 0 rfl rfl ?_
                  refine ww_aload_n C dX5_keep_87 0 rfl rfl ?_
                  refine ww_getM C 3 (by decide) q_f_X5_36 dX5_keep_88 ?_
                  refine ww_iconst (v := 1) C dX5_keep_91 (by decide) ?_
                  refine ww_isub C dX5_keep_92 ?_
                  refine ww_top (y := nI f) (by rw [days_ne (o := 64) H1 t1 (by omega) (by omega) (by omega) (j + 1), H1.2.2.1]; exact nI_pred f) ?_
                  refine ww_iconst (v := 2) C dX5_keep_93 (by decide) ?_
                  refine ww_callM C mf_X5_fl dX5_keep_94 (ct_X5_fl (jx_2 ⟨f, by omega, rfl⟩)) q_m_X5_84 rfl rfl rfl (Nat.le_of_ble_eq_true rfl) (by exact ⟨Nat.le_of_ble_eq_true rfl, Nat.le_of_ble_eq_true rfl⟩) (by show _ ≤ 84 ∧ _ ≤ 490; omega) ?_
                  refine ww_if_ne C dX5_keep_97 104 (by decide) (fun c97 => ?_) (fun c97 => ?_)
                  · refine ww_iconst (v := 0) C dX5_keep_104 (by decide) ?_
                    refine ww_top (y := m_kb n (f + 1) t (m_putF f (y0 h) x (nI (sq + 1))) (nI f) j) (by first | exact (if_pos c97).symm | exact (if_neg c97).symm) ?_
                    refine ww_istore C dX5_keep_105 (by decide) ?_
                    refine ww_iinc (v := nI (j + 1)) C dX5_keep_107 rfl (nI_inc _) (by decide) ?_
                    refine ww_goto C dX5_keep_110 70 (by decide) ?_
                    refine ww_lv [(0, .ref (gB g + 64)), (1, .int x), (2, .int k), (3, .ref a), (4, .int 0), (5, .int (nI (sq + 1))), (6, .int (m_kb n (f + 1) t (m_putF f (y0 h) x (nI (sq + 1))) (nI f) j)), (7, .int (nI (j + 1)))] ⟨rfl, rfl, rfl, rfl, rfl, rfl, rfl, rfl, trivial⟩ ?_
                    exact ih (j + 1) hjn (by omega) _ (kg_st hb c78 hjn)
                  · refine ww_iconst (v := 1) C dX5_keep_100 (by decide) ?_
                    refine ww_goto C dX5_keep_101 105 (by decide) ?_
                    refine ww_top (y := m_kb n (f + 1) t (m_putF f (y0 h) x (nI (sq + 1))) (nI f) j) (by first | exact (if_pos c97).symm | exact (if_neg c97).symm) ?_
                    refine ww_istore C dX5_keep_105 (by decide) ?_
                    refine ww_iinc (v := nI (j + 1)) C dX5_keep_107 rfl (nI_inc _) (by decide) ?_
                    refine ww_goto C dX5_keep_110 70 (by decide) ?_
                    refine ww_lv [(0, .ref (gB g + 64)), (1, .int x), (2, .int k), (3, .ref a), (4, .int 0), (5, .int (nI (sq + 1))), (6, .int (m_kb n (f + 1) t (m_putF f (y0 h) x (nI (sq + 1))) (nI f) j)), (7, .int (nI (j + 1)))] ⟨rfl, rfl, rfl, rfl, rfl, rfl, rfl, rfl, trivial⟩ ?_
                    exact ih (j + 1) hjn (by omega) _ (kg_st hb c78 hjn)
          refine ww_iload C dX5_keep_47 rfl ?_
          refine ww_if_le C dX5_keep_49 143 (by decide) (fun q => absurd q (show ¬ nI (sq + 1) ≤ 0 from nI_gt0 (by omega))) (fun _ => ?_)
          refine ww_iload C dX5_keep_52 rfl ?_
          refine ww_if_ne C dX5_keep_54 143 (by decide) (fun q => absurd (rfl : (0 : Int32) = 0) q) (fun _ => ?_)
          refine ww_aload_n C dX5_keep_57 0 rfl rfl ?_
          refine ww_iload_n C dX5_keep_58 1 rfl rfl ?_
          refine ww_iload C dX5_keep_59 rfl ?_
          refine ww_callM C mf_X5_putFlock dX5_keep_61 (ct_X5_putFlock (f := f) H.yy.2.2.1 hf6) q_m_X5_102 rfl rfl rfl (Nat.le_of_ble_eq_true rfl) (by exact ⟨Nat.le_of_ble_eq_true rfl, Nat.le_of_ble_eq_true rfl⟩) (by show _ ≤ 84 ∧ _ ≤ 490; omega) ?_
          refine ww_iconst (v := 1) C dX5_keep_64 (by decide) ?_
          refine ww_istore C dX5_keep_65 (by decide) ?_
          refine ww_iconst (v := 0) C dX5_keep_67 (by decide) ?_
          refine ww_istore C dX5_keep_68 (by decide) ?_
          refine ww_lv [(0, .ref (gB g + 64)), (1, .int x), (2, .int k), (3, .ref a), (4, .int 0), (5, .int (nI (sq + 1))), (6, .int 1), (7, .int (nI 0))] ⟨rfl, rfl, rfl, rfl, rfl, rfl, rfl, rfl, trivial⟩ ?_
          exact Ld (k.toNatClampNeg + 1) 0 (Nat.zero_le _) (by omega) _ (Or.inr ⟨rfl, rfl⟩)
      refine ww_iconst (v := 0) C dX5_keep_40 (by decide) ?_
      refine ww_istore C dX5_keep_41 (by decide) ?_
      refine ww_bipush (v := 80) C dX5_keep_43 (by decide) ?_
      refine ww_istore C dX5_keep_45 (by decide) ?_
      refine ww_lv [(0, .ref (gB g + 64)), (1, .int x), (2, .int k), (3, .ref a), (4, .int 0), (5, .int (nI 80))] ⟨rfl, rfl, rfl, rfl, rfl, rfl, trivial⟩ ?_
      exact L47 80 (Nat.le_refl _) rfl
    · refine ww_aload_n C dX5_keep_29 0 rfl rfl ?_
      refine ww_iconst (v := 2) C dX5_keep_30 (by decide) ?_
      refine ww_callM C mf_X5_fail dX5_keep_31 ct_X5_fail q_m_X5_49 rfl rfl rfl (Nat.le_of_ble_eq_true rfl) (by exact ⟨Nat.le_of_ble_eq_true rfl, Nat.le_of_ble_eq_true rfl⟩) (by show _ ≤ 84 ∧ _ ≤ 490; omega) ?_
      exact ww_wide 84 490 (by omega) (by omega) (ww_iret C hr (by unfold y_keep; rw [if_neg c10, if_pos c26]; rfl) (by unfold y_keep; rw [if_neg c10, if_pos c26]; rfl) dX5_keep_34)
  · refine ww_aload_n C dX5_keep_13 0 rfl rfl ?_
    refine ww_iconst (v := 1) C dX5_keep_14 (by decide) ?_
    refine ww_callM C mf_X5_fail dX5_keep_15 ct_X5_fail q_m_X5_49 rfl rfl rfl (Nat.le_of_ble_eq_true rfl) (by exact ⟨Nat.le_of_ble_eq_true rfl, Nat.le_of_ble_eq_true rfl⟩) (by show _ ≤ 84 ∧ _ ≤ 490; omega) ?_
    exact ww_wide 84 490 (by omega) (by omega) (ww_iret C hr (by unfold y_keep; rw [if_pos c10]; rfl) (by unfold y_keep; rw [if_pos c10]; rfl) dX5_keep_18)
