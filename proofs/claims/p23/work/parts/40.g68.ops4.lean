theorem INV.straw {d n f j : Nat} {B : Nat → Nat} {c : Hp} {v : Int32} (hn : n ≤ 10) (I : INV d n f B c) (hj : j < n) (hv : v = 0 ∨ v = 1) : INV d n f B (hp_up c (d + 14 + j) 7 v) := by
  obtain ⟨i1, i2, i3, i4, i5⟩ := I
  refine ⟨i1.other (fun i hi => Or.inr (by omega)), i2.other (fun i hi => by omega), fun i hi => ?_, fun i hi => ?_, fun i hi => ?_⟩
  · rw [hp_off (Or.inr (by omega)), hp_off (Or.inr (by omega))]; exact i3 i hi
  · rw [hp_ne (by omega)]; exact i4 i hi
  · by_cases e : i = j
    · subst e
      rw [hp_eq]
      unfold upd
      rw [if_pos rfl]
      exact hv
    · rw [hp_off (Or.inl (by omega))]; exact i5 i hi
theorem op_strew {n f t q : Nat} {h : Hp} {p b : Int32} (T : TOP n f t q h) (hb : b = 0 ∨ b = 1) :
    (∃ v h2, x_strew n h p b = rI v h2 ∧ (y_strew h2 p b).1 = v ∧ (y_strew h2 p b).2 64 0 = 0 ∧ TOP n f t q (y_strew h2 p b).2) ∨ (x_strew n h p b = .inr E_I ∧ (y_strew h p b).2 64 0 = 1 ∧ TOP n f t q (y_strew h p b).2) := by
  have hn := T.2.1.2.1
  have i1 : ∀ z : Hp, z 64 1 = h 64 1 → ((¬ p < 0 ∧ p < nI n) ↔ ¬ bI (0 ≤ p ∧ p ≤ z 64 1 - 1) = 0) := fun z hz => in_iff (hz.trans T.2.2.1.1) hn
  unfold x_strew
  by_cases c1 : ¬ p < 0 ∧ p < nI n
  · rw [if_pos c1]
    left
    obtain ⟨j, hj, e⟩ := inN_is (by omega) c1
    subst e
    have ep : pd (nI j) = 1 + 14 + j := by show 1 + 14 + (nI j).toNatClampNeg = _; rw [nI_clamp (by omega)]
    rw [ep]
    refine ⟨_, hp_up h (1 + 14 + j) (5 + 2) b, rfl, ?_⟩
    have r1 : SIM 1 n f h (y0 (hp_up h (1 + 14 + j) (5 + 2) b)) := T.1.mcongr (fun o ho => by rw [y0_ne (by omega), hp_ne (by omega)])
    have eb : (if b = 0 then (0 : Int32) else 1) = b := by
      rcases hb with z | z
      · rw [z, if_pos rfl]
      · rw [z, if_neg (by decide)]
    have hy : y_strew (hp_up h (1 + 14 + j) (5 + 2) b) (nI j) b = (if m_po (y0 (hp_up h (1 + 14 + j) (5 + 2) b)) (nI j) 2 = 1 then 1 else 0, m_set (y0 (hp_up h (1 + 14 + j) (5 + 2) b)) (nI j) 2 b) := by
      unfold y_strew
      rw [if_neg ((i1 _ (by rw [hp_ne (by omega)])).mp c1), eb]
    rw [hy]
    refine ⟨?_, ?_, top_pond (k := 2) T hj (by omega) (by omega) (T.1.2.1.straw hn hj hb) (T.2.1.straw (by omega) hb)⟩
    · show (if m_po (y0 (hp_up h (1 + 14 + j) (5 + 2) b)) (nI j) 2 = 1 then (1 : Int32) else 0) = h (1 + 14 + j) 7
      rw [show m_po (y0 (hp_up h (1 + 14 + j) (5 + 2) b)) (nI j) 2 = h (1 + 14 + j) 7 from r1.1.po (k := 2) hn hj (by omega)]
      rcases T.1.2.1.2.2.2.2 j hj with z | z
      · rw [z, if_neg (by decide)]
      · rw [z, if_pos rfl]
    · have hs : m_set (y0 (hp_up h (1 + 14 + j) (5 + 2) b)) (nI j) 2 b 64 = y0 (hp_up h (1 + 14 + j) (5 + 2) b) 64 := m_set_ne (by omega)
      exact (congrFun hs 0).trans y0_0
  · rw [if_neg c1]
    have hy : y_strew h p b = (0, hp_up h 64 0 1) := by
      unfold y_strew
      rw [if_pos (Decidable.not_not.mp (fun z => c1 ((i1 h rfl).mpr z)))]
    rw [hy]
    refine Or.inr ⟨rfl, ?_, ?_⟩
    · show hp_up h 64 0 1 64 0 = 1
      rw [hp_eq]
      unfold upd
      rw [if_pos rfl]
    · show TOP n f t q (hp_up h 64 0 1)
      exact T.put (fun o ho => hp_ne (by omega)) (fun o ho => hp_ne (by omega)) (hp_off (Or.inr (by omega))) (hp_off (Or.inr (by omega)))
