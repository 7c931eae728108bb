theorem fr_days {n f t q i : Nat} {h : Hp} (T : TOP n f t q h) : (∀ o, o < 32 ∨ 64 ≤ o → d_days 32 n f t (d_like n f h) i o = h o) := by
  have H := T.2.1
  have ht32 : d_like n f h 32 6 = nI t := by rw [like_d (Or.inl rfl)]; exact T.2.2.2.2.1
  intro o ho
  rcases ho with a | a
  · exact (days_lo H.like ht32 a i).trans (like_lo a)
  · exact (top_days H.like ht32 (by omega) i).trans (like_hi H.2.1 T.2.2.2.1 a)
theorem top_fr {n f t q : Nat} {h z : Hp} (T : TOP n f t q h) (hz : ∀ o, o < 32 ∨ 64 ≤ o → z o = h o) : TOP n f t q z := T.put (fun o ho => hz o (Or.inl ho)) (fun o ho => hz o (Or.inr (by omega))) (by rw [hz 64 (Or.inr (by omega))]) (by rw [hz 64 (Or.inr (by omega))])
theorem sim_fr {n f t q : Nat} {h z : Hp} (T : TOP n f t q h) (hz : ∀ o, o < 32 ∨ 64 ≤ o → z o = h o) : SIM 1 n f h (y0 z) := T.1.mcongr (fun o ho => by rw [y0_ne (by omega)]; exact hz o (Or.inr (by omega)))
theorem op_foresee {n f t q : Nat} {h : Hp} {p k : Int32} (T : TOP n f t q h) :
    (∃ v h2, x_foresee n f t h p k = rI v h2 ∧ TOP n f t q h2 ∧ y_foresee n f t h2 p k = (v, y0 h2)) ∨ (x_foresee n f t h p k = .inr E_I ∧ y_foresee n f t h p k = yF h 1) ∨ (x_foresee n f t h p k = .inr E_A ∧ y_foresee n f t h p k = yF h 2) := by
  have hn := T.2.1.2.1
  have hf := T.2.2.2.1
  have i1 : ∀ z : Hp, z 64 1 = h 64 1 → ((¬ p < 0 ∧ p < nI n) ↔ ¬ bI (0 ≤ p ∧ p ≤ y0 z 64 1 - 1) = 0) := fun z hz => in_iff (y0_1.trans (hz.trans T.2.2.1.1)) hn
  unfold x_foresee
  by_cases c1 : ¬ p < 0 ∧ p < nI n
  · rw [if_pos c1]
    by_cases c2 : bI (1 ≤ k ∧ k ≤ 100) = 0
    · rw [if_pos c2]
      refine Or.inr (Or.inr ⟨rfl, ?_⟩)
      unfold y_foresee
      rw [if_neg ((i1 h rfl).mp c1), if_pos c2]
    · rw [if_neg c2]
      left
      obtain ⟨j, hj, e⟩ := inN_is (by omega) c1
      subst e
      have hz := fr_days (i := k.toNatClampNeg) T
      refine ⟨_, _, rfl, top_fr T hz, ?_⟩
      unfold y_foresee
      rw [if_neg ((i1 _ (by unfold x_days; rw [hz 64 (Or.inr (by omega))])).mp c1), if_neg c2]
      unfold x_days
      rw [nI_clamp (by omega), say_foresee hn hf (sim_fr T hz) hj]
  · rw [if_neg c1]
    refine Or.inr (Or.inl ⟨rfl, ?_⟩)
    unfold y_foresee
    rw [if_pos (Decidable.not_not.mp (fun z => c1 ((i1 h rfl).mpr z)))]
theorem op_lasts {n f t q : Nat} {h : Hp} {p : Int32} (T : TOP n f t q h) :
    (∃ v h2, x_lasts n f t h p = rI v h2 ∧ TOP n f t q h2 ∧ y_lasts n f t h2 p = (v, y0 h2)) ∨ (x_lasts n f t h p = .inr E_I ∧ y_lasts n f t h p = yF h 1) := by
  have hn := T.2.1.2.1
  have hf := T.2.2.2.1
  have i1 : ∀ z : Hp, z 64 1 = h 64 1 → ((¬ p < 0 ∧ p < nI n) ↔ ¬ bI (0 ≤ p ∧ p ≤ y0 z 64 1 - 1) = 0) := fun z hz => in_iff (y0_1.trans (hz.trans T.2.2.1.1)) hn
  unfold x_lasts
  by_cases c1 : ¬ p < 0 ∧ p < nI n
  · rw [if_pos c1]
    left
    obtain ⟨j, hj, e⟩ := inN_is (by omega) c1
    subst e
    have ep : pd (nI j) = 1 + 14 + j := by show 1 + 14 + (nI j).toNatClampNeg = _; rw [nI_clamp (by omega)]
    rw [ep, nI_clamp (by omega)]
    by_cases c0 : h (1 + 14 + j) 5 = 0
    · rw [if_pos c0]
      refine ⟨0, h, rfl, T, ?_⟩
      unfold y_lasts
      rw [if_neg ((i1 h rfl).mp c1), (say_lasts (t := t) hn hf (sim_fr T (fun _ _ => rfl)) hj).1 c0]
    · rw [if_neg c0]
      obtain ⟨i, ei⟩ := (say_lasts (t := t) hn hf (sim_fr T (fun _ _ => rfl)) hj).2 c0
      have hz := fr_days (i := i) T
      obtain ⟨i2, ei2⟩ := (say_lasts (t := t) hn hf (sim_fr T hz) hj).2 c0
      have ev : m_lasV n f t (y0 h) (nI j) = m_lasV n f t (y0 (d_days 32 n f t (d_like n f h) i)) (nI j) := by
        rw [ei] at ei2
        unfold rI at ei2
        have e1 := Sum.inl.inj ei2
        have e2 := congrArg Prod.fst e1
        simpa using e2
      refine ⟨_, _, ei, top_fr T hz, ?_⟩
      unfold y_lasts
      rw [if_neg ((i1 _ (by rw [hz 64 (Or.inr (by omega))])).mp c1), ev]
  · rw [if_neg c1]
    refine Or.inr ⟨rfl, ?_⟩
    unfold y_lasts
    rw [if_pos (Decidable.not_not.mp (fun z => c1 ((i1 h rfl).mpr z)))]
theorem op_keep {n f t q : Nat} {h : Hp} {p k : Int32} (T : TOP n f t q h) :
    (∃ v h2, x_keep n f t h p k = rI v h2 ∧ TOP n f t q h2 ∧ y_keep n f t h2 p k = (v, y0 h2)) ∨ (x_keep n f t h p k = .inr E_I ∧ y_keep n f t h p k = yF h 1) ∨ (x_keep n f t h p k = .inr E_A ∧ y_keep n f t h p k = yF h 2) := by
  have hn := T.2.1.2.1
  have hf := T.2.2.2.1
  have i1 : ∀ z : Hp, z 64 1 = h 64 1 → ((¬ p < 0 ∧ p < nI n) ↔ ¬ bI (0 ≤ p ∧ p ≤ y0 z 64 1 - 1) = 0) := fun z hz => in_iff (y0_1.trans (hz.trans T.2.2.1.1)) hn
  unfold x_keep
  by_cases c1 : ¬ p < 0 ∧ p < nI n
  · rw [if_pos c1]
    by_cases c2 : bI (1 ≤ k ∧ k ≤ 50) = 0
    · rw [if_pos c2]
      refine Or.inr (Or.inr ⟨rfl, ?_⟩)
      unfold y_keep
      rw [if_neg ((i1 h rfl).mp c1), if_pos c2]
    · rw [if_neg c2]
      left
      obtain ⟨j, hj, e⟩ := inN_is (by omega) c1
      subst e
      obtain ⟨z2, e2, hz⟩ := say_keep (k := k.toNatClampNeg) hn hf (sim_fr T (fun _ _ => rfl)) T.2.1 T.2.2.2.2.1 hj 80 (Nat.le_refl _) h (fun _ _ => rfl)
      obtain ⟨z3, e3, -⟩ := say_keep (k := k.toNatClampNeg) hn hf (sim_fr T hz) T.2.1 T.2.2.2.2.1 hj 80 (Nat.le_refl _) h (fun _ _ => rfl)
      have ev : m_kp n f t k.toNatClampNeg (y0 h) (nI j) 80 = m_kp n f t k.toNatClampNeg (y0 z2) (nI j) 80 := by
        rw [e2] at e3
        unfold rI at e3
        have e1 := Sum.inl.inj e3
        have e2 := congrArg Prod.fst e1
        simpa using e2
      refine ⟨_, _, e2, top_fr T hz, ?_⟩
      unfold y_keep
      rw [if_neg ((i1 _ (by rw [hz 64 (Or.inr (by omega))])).mp c1), if_neg c2, ev]
  · rw [if_neg c1]
    refine Or.inr (Or.inl ⟨rfl, ?_⟩)
    unfold y_keep
    rw [if_pos (Decidable.not_not.mp (fun z => c1 ((i1 h rfl).mpr z)))]
