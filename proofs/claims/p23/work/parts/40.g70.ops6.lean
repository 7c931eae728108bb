theorem op_drive {n f t q : Nat} {h : Hp} {a p : Int32} (T : TOP n f t q h) :
    (∃ v h2, x_drive n f h a p = rI v h2 ∧ (y_drive h2 a p).1 = v ∧ (y_drive h2 a p).2 64 0 = 0 ∧ TOP n f t q (y_drive h2 a p).2) ∨ (x_drive n f h a p = .inr E_I ∧ y_drive h a p = yF h 1) ∨ (x_drive n f h a p = .inr E_S ∧ y_drive h a p = yF h 2) := by
  have hn := T.2.1.2.1
  have hf := T.2.2.2.1
  have i1 : ∀ z : Hp, z 64 1 = h 64 1 → ((¬ p < 0 ∧ p < nI n) ↔ ¬ bI (0 ≤ p ∧ p ≤ y0 z 64 1 - 1) = 0) := fun z hz => in_iff (y0_1.trans (hz.trans T.2.2.1.1)) hn
  have i2 : ∀ z : Hp, z 64 3 = h 64 3 → ((¬ a < 0 ∧ a < nI f) ↔ ¬ bI (0 ≤ a ∧ a ≤ y0 z 64 3 - 1) = 0) := fun z hz => in_iff (y0_3.trans (hz.trans T.2.2.1.2.2.1)) (by omega)
  unfold x_drive
  by_cases c1 : ¬ a < 0 ∧ a < nI f
  · rw [if_pos c1]
    by_cases c2 : ¬ p < 0 ∧ p < nI n
    · rw [if_pos c2]
      obtain ⟨j, hj, e⟩ := inN_is (by omega) c1
      obtain ⟨g, hg, e2⟩ := inN_is (by omega) c2
      subst e; subst e2
      have ep : fl (nI j) = 1 + 25 + j := by show 1 + 25 + (nI j).toNatClampNeg = _; rw [nI_clamp (by omega)]
      have eg : pd (nI g) = 1 + 14 + g := by show 1 + 14 + (nI g).toNatClampNeg = _; rw [nI_clamp (by omega)]
      obtain ⟨s, fr, th, a1, a2, a3, b1, b2, b3⟩ := T.1.2.1.2.2.2.1 j hj
      have ef : pd (h (1 + 25 + j) 1) = 1 + 14 + fr := by rw [b2]; show 1 + 14 + (nI fr).toNatClampNeg = _; rw [nI_clamp (by omega)]
      rw [ep, eg, ef]
      have Sm : ∀ z : Hp, (∀ o, 65 ≤ o → z o = h o) → SIM 1 n f h (y0 z) := fun z hz => T.1.mcongr (fun o ho => by rw [y0_ne (by omega)]; exact hz o ho)
      by_cases c3 : bI (10 ≤ h (1 + 25 + j) 2) = 0
      · rw [if_pos c3]
        left
        refine ⟨_, hp_up h (1 + 25 + j) 1 (nI g), rfl, ?_⟩
        have r1 := Sm (hp_up h (1 + 25 + j) 1 (nI g)) (fun o ho => hp_ne (by omega))
        have hl := lost_iff (by omega) r1.1 r1.2.1.2.2.2.1 hj
        have e1 : m_fl (y0 (hp_up h (1 + 25 + j) 1 (nI g))) (nI j) 1 = nI fr := (r1.1.fl (k := 1) (by omega) hj (by omega)).trans b2
        have hy : y_drive (hp_up h (1 + 25 + j) 1 (nI g)) (nI j) (nI g) = (m_far (y0 (hp_up h (1 + 25 + j) 1 (nI g))) (nI fr) (nI g), m_setFl (y0 (hp_up h (1 + 25 + j) 1 (nI g))) (nI j) 1 (nI g)) := by
          unfold y_drive
          rw [if_neg ((i2 _ (by rw [hp_ne (by omega)])).mp c1), if_neg ((i1 _ (by rw [hp_ne (by omega)])).mp c2), if_pos (bIf (fun z => bI0 c3 (hl.mp z))), e1]
        rw [hy]
        have hKr : OK 1 n f (hp_up h (1 + 25 + j) 1 (nI g)) := T.2.1.move (Nat.lt_of_lt_of_le hj T.2.1.2.2.2.1) ⟨g, hg, rfl⟩
        refine ⟨far_eq hn r1.1 a2 hg, ?_, top_flk (k := 1) T hj (by omega) (Or.inr ⟨g, hg, rfl⟩) (T.1.2.1.2.2.2.1.pond hg) hKr⟩
        have hs : m_setFl (y0 (hp_up h (1 + 25 + j) 1 (nI g))) (nI j) 1 (nI g) 64 = y0 (hp_up h (1 + 25 + j) 1 (nI g)) 64 := m_setFl_ne (by omega)
        exact (congrFun hs 0).trans y0_0
      · rw [if_neg c3]
        refine Or.inr (Or.inr ⟨rfl, ?_⟩)
        have r1 := Sm h (fun _ _ => rfl)
        have hl := lost_iff (by omega) r1.1 r1.2.1.2.2.2.1 hj
        unfold y_drive
        rw [if_neg ((i2 h rfl).mp c1), if_neg ((i1 h rfl).mp c2), if_neg (by rw [bIt (hl.mpr (bI1 c3))]; decide)]
    · rw [if_neg c2]
      refine Or.inr (Or.inl ⟨rfl, ?_⟩)
      unfold y_drive
      rw [if_neg ((i2 h rfl).mp c1), if_pos (Decidable.not_not.mp (fun z => c2 ((i1 h rfl).mpr z)))]
  · rw [if_neg c1]
    refine Or.inr (Or.inl ⟨rfl, ?_⟩)
    unfold y_drive
    rw [if_pos (Decidable.not_not.mp (fun z => c1 ((i2 h rfl).mpr z)))]
