/-- the same write at a pond on both sides, the reference after the class -/
theorem top_pond {n f t q j k : Nat} {h : Hp} {v : Int32} (T : TOP n f t q h) (hj : j < n) (hk : k < 5) (hk3 : k ≠ 3) (hI : INV 1 n f (cB 5400) (hp_up h (1 + 14 + j) (5 + k) v)) (hK : OK 1 n f (hp_up h (1 + 14 + j) (5 + k) v)) :
    TOP n f t q (m_set (y0 (hp_up h (1 + 14 + j) (5 + k) v)) (nI j) (nI k) v) := by
  obtain ⟨⟨R, I, L, O⟩, K, M, hf, ht, hq, hc, hm, F⟩ := T
  have hn := K.2.1
  have KP : KEEP 1 n h (hp_up h (1 + 14 + j) (5 + k) v) := KEEP.up (by omega) (fun i _ => Or.inr (by omega))
  have S0 : SIM 1 n f (hp_up h (1 + 14 + j) (5 + k) v) (m_set h (nI j) (nI k) v) := ⟨R.set hn hj hk, hI, L.keep KP, O.keep KP⟩
  have M0 : OM n f (m_set h (nI j) (nI k) v) := M.mK (mK_set ⟨j, by omega, rfl⟩ hk hk3)
  have zlo : ∀ o, o < 32 → m_set (y0 (hp_up h (1 + 14 + j) (5 + k) v)) (nI j) (nI k) v o = hp_up h (1 + 14 + j) (5 + k) v o := fun o ho => by rw [m_set_ne (by omega), y0_ne (by omega)]
  have zhi : ∀ o, 65 ≤ o → m_set (y0 (hp_up h (1 + 14 + j) (5 + k) v)) (nI j) (nI k) v o = m_set h (nI j) (nI k) v o := fun o ho => by
    by_cases e : o = 67
    · subst e
      rw [m_set_nI (by omega), m_set_nI (by omega), hp_eq, hp_eq, y0_ne (by omega), hp_ne (by omega)]
    · rw [m_set_ne e, m_set_ne e, y0_ne (by omega), hp_ne (by omega)]
  have z64 : m_set (y0 (hp_up h (1 + 14 + j) (5 + k) v)) (nI j) (nI k) v 64 = y0 (hp_up h (1 + 14 + j) (5 + k) v) 64 := m_set_ne (by omega)
  refine ⟨(S0.ccongr hn hf zlo).mcongr zhi, hK.lo zlo, M0.mcg zhi ?_ ?_, hf, ?_, hq, ?_, ?_, fun i h1 h2 => ?_⟩
  · rw [z64, y0_1, hp_ne (by omega), m_set_ne (by omega)]
  · rw [z64, y0_3, hp_ne (by omega), m_set_ne (by omega)]
  · rw [zlo 1 (by omega), hp_ne (by omega)]; exact ht
  · rw [zlo 1 (by omega), hp_ne (by omega)]; exact hc
  · rw [zhi 69 (by omega), m_set_ne (by omega)]; exact hm
  · obtain ⟨g1, g2, g3, g4, g5⟩ := F i h1 h2
    rw [zlo _ (by omega), hp_ne (by omega), zhi 67 (by omega), m_set_nI (by omega)]
    exact ⟨g1, by rw [hp_off (Or.inr (by omega))]; exact g2, by rw [hp_off (Or.inr (by omega))]; exact g3, by rw [hp_off (Or.inr (by omega))]; exact g4, by rw [hp_off (Or.inr (by omega))]; exact g5⟩
theorem mn_comm (a b : Int32) : mnI a b = mnI b a := by
  unfold mnI
  by_cases h1 : b < a
  · rw [if_pos h1, if_neg (fun z => absurd (Int32.lt_trans h1 z) Int32.lt_irrefl)]
  · rw [if_neg h1]
    by_cases h2 : a < b
    · rw [if_pos h2]
    · rw [if_neg h2]
      exact Int32.le_antisymm (Int32.not_lt.mp h1) (Int32.not_lt.mp h2)
theorem mx_hold {x : Int32} {hd : Nat} (hh : hd < 2 ^ 30) : ∃ a : Nat, a ≤ hd ∧ mxI 0 (mnI x (nI hd)) = nI a := by
  unfold mnI
  by_cases h1 : nI hd < x
  · rw [if_pos h1]
    exact ⟨hd, Nat.le_refl _, mx0 (by omega)⟩
  · rw [if_neg h1]
    unfold mxI
    by_cases h2 : 0 < x
    · rw [if_pos h2]
      obtain ⟨a, ha, e⟩ := nI_of2 (M := nI hd) (n := hd) (nI_toInt (by omega)) (fun z => absurd (Int32.lt_trans h2 z) Int32.lt_irrefl) (Int32.not_lt.mp h1)
      exact ⟨a, ha, e⟩
    · rw [if_neg h2]
      exact ⟨0, by omega, rfl⟩
theorem op_pour {n f t q : Nat} {h : Hp} {p b : Int32} (T : TOP n f t q h) :
    (∃ v h2, x_pour n h p b = rI v h2 ∧ (y_pour h2 p b).1 = v ∧ (y_pour h2 p b).2 64 0 = 0 ∧ TOP n f t q (y_pour h2 p b).2) ∨ (x_pour n h p b = .inr E_I ∧ y_pour h p b = yF h 1) ∨ (x_pour n h p b = .inr E_A ∧ y_pour h p b = yF h 2) := by
  have hn := T.2.1.2.1
  have i1 : ∀ z : Hp, z 64 1 = h 64 1 → ((¬ p < 0 ∧ p < nI n) ↔ ¬ bI (0 ≤ p ∧ p ≤ y0 z 64 1 - 1) = 0) := fun z hz => in_iff (y0_1.trans (hz.trans T.2.2.1.1)) hn
  unfold x_pour
  by_cases c1 : ¬ p < 0 ∧ p < nI n
  · rw [if_pos c1]
    by_cases c2 : bI (-10000 ≤ b ∧ b ≤ 10000) = 0
    · rw [if_pos c2]
      refine Or.inr (Or.inr ⟨rfl, ?_⟩)
      unfold y_pour
      rw [if_neg ((i1 h rfl).mp c1), if_pos c2]
    · rw [if_neg c2]
      left
      obtain ⟨j, hj, e⟩ := inN_is (by omega) c1
      subst e
      have ep : pd (nI j) = 1 + 14 + j := by show 1 + 14 + (nI j).toNatClampNeg = _; rw [nI_clamp (by omega)]
      rw [ep]
      obtain ⟨R, I, L, O⟩ := T.1
      obtain ⟨ht, sz, dp, w, li, g1, g2, g3, g4, g5, k1, k2, k3, k4, k5⟩ := I.1 j hj
      have hsd : sz * dp ≤ 540 := Nat.mul_le_mul g2.2 g3.2
      have eh : p_holds h (1 + 14 + j) = nI (sz * dp * 10) := by unfold p_holds; rw [k2, k3, pk_mul]; exact pk_mul _ 10
      obtain ⟨a, ha, ea⟩ := mx_hold (x := h (1 + 14 + j) 5 + b) (hd := sz * dp * 10) (by omega)
      have e1 : x_pourH h (1 + 14 + j) b = hp_up h (1 + 14 + j) (5 + 0) (nI a) := by unfold x_pourH; rw [eh, ea]
      have r1 : SIM 1 n f h (y0 (hp_up h (1 + 14 + j) (5 + 0) (nI a))) := T.1.mcongr (fun o ho => by rw [y0_ne (by omega), hp_ne (by omega)])
      have e2 : y_pourH (y0 (hp_up h (1 + 14 + j) (5 + 0) (nI a))) (nI j) b = m_set (y0 (hp_up h (1 + 14 + j) (5 + 0) (nI a))) (nI j) (nI 0) (nI a) := by
        unfold y_pourH
        rw [say_holds hn r1.1 hj, show m_po (y0 (hp_up h (1 + 14 + j) (5 + 0) (nI a))) (nI j) 0 = h (1 + 14 + j) 5 from r1.1.po (k := 0) hn hj (by omega), eh, mn_comm, ea]
        rfl
      rw [e1]
      refine ⟨_, _, rfl, ?_⟩
      have hy : y_pour (hp_up h (1 + 14 + j) (5 + 0) (nI a)) (nI j) b = (m_po (y_pourH (y0 (hp_up h (1 + 14 + j) (5 + 0) (nI a))) (nI j) b) (nI j) 0, y_pourH (y0 (hp_up h (1 + 14 + j) (5 + 0) (nI a))) (nI j) b) := by
        unfold y_pour
        rw [if_neg ((i1 _ (by rw [hp_ne (by omega)])).mp c1), if_neg c2]
      rw [hy, e2]
      refine ⟨?_, ?_, top_pond T hj (by omega) (by omega) (I.water hn hj (show a ≤ 5400 by omega)) (T.2.1.water (by omega))⟩
      · have hm := m_po_nI (h := m_set (y0 (hp_up h (1 + 14 + j) (5 + 0) (nI a))) (nI j) (nI 0) (nI a)) (a := j) (k := 0) (by omega)
        have hv : m_set (y0 (hp_up h (1 + 14 + j) (5 + 0) (nI a))) (nI j) (nI 0) (nI a) 67 (5 * j + 0) = hp_up h (1 + 14 + j) (5 + 0) (nI a) (1 + 14 + j) 5 := by
          rw [m_set_nI (by omega), hp_eq, hp_eq]
          unfold upd
          rw [if_pos rfl, if_pos rfl]
        exact hm.trans hv
      · have hs : m_set (y0 (hp_up h (1 + 14 + j) (5 + 0) (nI a))) (nI j) (nI 0) (nI a) 64 = y0 (hp_up h (1 + 14 + j) (5 + 0) (nI a)) 64 := m_set_ne (by omega)
        exact (congrFun hs 0).trans y0_0
  · rw [if_neg c1]
    refine Or.inr (Or.inl ⟨rfl, ?_⟩)
    unfold y_pour
    rw [if_pos (Decidable.not_not.mp (fun z => c1 ((i1 h rfl).mpr z)))]
