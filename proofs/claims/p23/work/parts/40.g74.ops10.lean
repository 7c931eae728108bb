theorem op_addFlock {n f t q : Nat} {h : Hp} {p s : Int32} (T : TOP n f t q h) :
    (∃ v h2, x_addFlock n f h p s = rI v h2 ∧ (y_addF f h2 p s).1 = v ∧ (y_addF f h2 p s).2 64 0 = 0 ∧ TOP n (f + 1) t q (y_addF f h2 p s).2) ∨ (x_addFlock n f h p s = .inr E_I ∧ y_addF f h p s = yF h 1) ∨ (x_addFlock n f h p s = .inr E_A ∧ y_addF f h p s = yF h 2) ∨ (x_addFlock n f h p s = .inr E_S ∧ y_addF f h p s = yF h 3) := by
  have hn := T.2.1.2.1
  have hf := T.2.2.2.1
  have i1 : ∀ z : Hp, z 64 1 = h 64 1 → ((¬ p < 0 ∧ p < nI n) ↔ ¬ bI (0 ≤ p ∧ p ≤ y0 z 64 1 - 1) = 0) := fun z hz => in_iff (y0_1.trans (hz.trans T.2.2.1.1)) hn
  have h64 : y0 h 64 3 = nI f := y0_3.trans T.2.2.1.2.2.1
  unfold x_addFlock
  by_cases c1 : ¬ p < 0 ∧ p < nI n
  · rw [if_pos c1]
    by_cases c2 : bI (1 ≤ s ∧ s ≤ 80) = 0
    · rw [if_pos c2]
      refine Or.inr (Or.inr (Or.inl ⟨rfl, ?_⟩))
      unfold y_addF
      rw [if_neg ((i1 h rfl).mp c1), if_pos c2]
    · rw [if_neg c2]
      have hs1 : ¬ s < 1 := Int32.not_lt.mpr (bI1 c2).1
      obtain ⟨es, hs⟩ := in1 (N := 80) rfl (by omega) c2
      have hpos : 1 ≤ s.toNatClampNeg := by
        apply Classical.byContradiction
        intro z
        rw [show s.toNatClampNeg = 0 by omega] at es
        exact hs1 (by rw [es]; decide)
      generalize s.toNatClampNeg = ss at es hs hpos
      subst es
      obtain ⟨j, hj, e⟩ := inN_is (by omega) c1
      subst e
      unfold d_mkFR
      by_cases c3 : f < 6
      · rw [if_pos (show nI f < nI (rmD 1) from (nI_ltI (by omega) (by decide)).mpr c3)]
        left
        refine ⟨nI f, d_mkF 1 f h (nI j) (nI ss), rfl, ?_⟩
        have e3 : y0 (d_mkF 1 f h (nI j) (nI ss)) 64 3 = nI f := by rw [y0_3, mkF_ne (by omega) (by omega)]; exact T.2.2.1.2.2.1
        have hy : y_addF f (d_mkF 1 f h (nI j) (nI ss)) (nI j) (nI ss) = (m_putF f (y0 (d_mkF 1 f h (nI j) (nI ss))) (nI j) (nI ss) 64 3 - 1, m_putF f (y0 (d_mkF 1 f h (nI j) (nI ss))) (nI j) (nI ss)) := by
          unfold y_addF
          rw [if_neg ((i1 _ (by rw [mkF_ne (by omega) (by omega)])).mp c1), if_neg c2, if_neg (by rw [e3]; exact fun z => absurd ((nI_eq (a := f) (b := 6) (by omega) (by omega)).mp z) (by omega))]
        rw [hy]
        refine ⟨?_, ?_, top_mkF T c3 hj ⟨hpos, hs⟩⟩
        · show m_putF f (y0 (d_mkF 1 f h (nI j) (nI ss))) (nI j) (nI ss) 64 3 - 1 = nI f
          rw [putF_64, if_pos rfl, e3, nI_1]
          exact nI_pred f
        · show m_putF f (y0 (d_mkF 1 f h (nI j) (nI ss))) (nI j) (nI ss) 64 0 = 0
          rw [putF_64, if_neg (by omega)]
          exact y0_0
      · rw [if_neg (show ¬ nI f < nI (rmD 1) from fun z => c3 ((nI_ltI (by omega) (by decide)).mp z))]
        refine Or.inr (Or.inr (Or.inr ⟨rfl, ?_⟩))
        unfold y_addF
        rw [if_neg ((i1 h rfl).mp c1), if_neg c2, if_pos (by rw [h64, show f = 6 by omega]; rfl)]
  · rw [if_neg c1]
    refine Or.inr (Or.inl ⟨rfl, ?_⟩)
    unfold y_addF
    rw [if_pos (Decidable.not_not.mp (fun z => c1 ((i1 h rfl).mpr z)))]
