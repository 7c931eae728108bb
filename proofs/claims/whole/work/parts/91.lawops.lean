/-! each call, as the law sees it -/
theorem res_dig {n f t q : Nat} {h : Hp} {x y ht sz dp : Int32} (T : TOP n f t q h) : RESV [(E_A, 1), (E_S, 2)] (x_dig n h x y ht sz dp) h (fun z => y_dig n z x y ht sz dp) n f t t := by
  refine resv T (Nat.le_refl t) (fun z w => s_y_dig) ?_
  rcases op_dig (x := x) (y := y) (ht := ht) (sz := sz) (dp := dp) T with ⟨v, z, e1, e2, e3, e4⟩ | ⟨e1, e2⟩ | ⟨e1, e2⟩
  · refine Or.inl ⟨v, z, e1, mok_same T ?_, e2, e3, _, _, _, _, e4, Nat.le_refl t⟩
    unfold x_dig d_makeR at e1
    split at e1 <;> first | (cases e1; done) | skip
    split at e1 <;> first | (cases e1; done) | skip
    split at e1 <;> first | (cases e1; done) | skip
    split at e1 <;> first | (cases e1; done) | skip
    split at e1 <;> first | (cases e1; done) | skip
    split at e1 <;> first | (cases e1; done) | skip
    split at e1 <;> first | (cases e1; done) | skip
    rename_i c1 c2 c3 c4 c5 c6 c7
    obtain ⟨eh, hh⟩ := in0 (N := 300) rfl (by omega) c3
    have c10 : n < 10 := (nI_ltI (a := n) (b := 10) (by have := T.2.1.2.1; omega) (by omega)).mp c6
    obtain ⟨z1, -⟩ := make_spec (x := x) (y := y) (ht := ht.toNatClampNeg) (sz := sz) (dp := dp) hh c10 T.2.1.1 T.1.2.2.2 (fun j hj => by obtain ⟨v, _, _, _, _, g1, _, _, _, _, k1, _⟩ := T.1.2.1.1 j hj; exact ⟨v, g1, k1⟩) T.2.1.2.2.2.2.2.2.1
    rw [← eh] at z1
    cases e1
    exact fun o ho => z1 o (by omega) (by omega) (by omega)
  · exact Or.inr ⟨E_A, 1, e1, by simp, by decide, yF_pt T (Nat.le_refl t) e2⟩
  · exact Or.inr ⟨E_S, 2, e1, by simp, by decide, yF_pt T (Nat.le_refl t) e2⟩
theorem res_link {n f t q : Nat} {h : Hp} {p o : Int32} (T : TOP n f t q h) : RESV [(E_I, 1), (E_A, 2)] (x_link n h p o) h (fun z => y_link z p o) n f t t := by
  have hn := T.2.1.2.1
  refine resv T (Nat.le_refl t) (fun z w => s_y_link) ?_
  rcases op_link (p := p) (o := o) T with ⟨v, z, e1, e2, e3, e4⟩ | ⟨e1, e2⟩ | ⟨e1, e2⟩
  · refine Or.inl ⟨v, z, e1, mok_same T ?_, e2, e3, _, _, _, _, e4, Nat.le_refl t⟩
    intro a ha
    unfold x_link at e1
    repeat' split at e1
    all_goals first | (cases e1; done) | (cases e1; exact hp_ne (by have := pd_lt hn ‹¬ p < 0 ∧ p < nI n›; omega))
  · exact Or.inr ⟨E_I, 1, e1, by simp, by decide, yF_pt T (Nat.le_refl t) e2⟩
  · exact Or.inr ⟨E_A, 2, e1, by simp, by decide, yF_pt T (Nat.le_refl t) e2⟩
theorem res_puddle {n f t q : Nat} {h : Hp} {p c : Int32} (T : TOP n f t q h) : RESV [(E_I, 1), (E_A, 2), (E_S, 3)] (x_puddle n h p c) h (fun z => y_puddle z p c) n f t t := by
  have hn := T.2.1.2.1
  refine resv T (Nat.le_refl t) (fun z w => s_y_puddle) ?_
  rcases op_puddle (p := p) (c := c) T with ⟨v, z, q2, e1, e2, e3, e4⟩ | ⟨e1, e2⟩ | ⟨e1, e2⟩ | ⟨e1, e2⟩
  · refine Or.inl ⟨v, z, e1, mok_same T ?_, e2, e3, _, _, _, _, e4, Nat.le_refl t⟩
    intro a ha
    unfold x_puddle at e1
    repeat' split at e1
    all_goals first | (cases e1; done) | (cases e1; rw [hp_ne (by omega), p_line_ne (by have := pd_lt hn ‹¬ p < 0 ∧ p < nI n›; omega)])
  · exact Or.inr ⟨E_I, 1, e1, by simp, by decide, yF_pt T (Nat.le_refl t) e2⟩
  · exact Or.inr ⟨E_A, 2, e1, by simp, by decide, yF_pt T (Nat.le_refl t) e2⟩
  · exact Or.inr ⟨E_S, 3, e1, by simp, by decide, yF_pt T (Nat.le_refl t) e2⟩
theorem res_strew {n f t q : Nat} {h : Hp} {p b : Int32} (T : TOP n f t q h) (hb : b = 0 ∨ b = 1) : RESB [(E_I, 1)] (x_strew n h p b) h (fun z => y_strew z p b) n f t t := by
  have hn := T.2.1.2.1
  refine resb T (Nat.le_refl t) (fun z w => s_y_strew) ?_
  rcases op_strew (p := p) (b := b) T hb with ⟨v, z, e1, e2, e3, e4⟩ | ⟨e1, e2, e3⟩
  · refine Or.inl ⟨v, z, e1, mok_same T ?_, e2, e3, _, _, _, _, e4, Nat.le_refl t⟩
    intro a ha
    unfold x_strew at e1
    repeat' split at e1
    all_goals first | (cases e1; done) | (cases e1; exact hp_ne (by have := pd_lt hn ‹¬ p < 0 ∧ p < nI n›; omega))
  · exact Or.inr ⟨E_I, 1, e1, by simp, by decide, e2, _, _, _, _, e3, Nat.le_refl t⟩
theorem res_pour {n f t q : Nat} {h : Hp} {p b : Int32} (T : TOP n f t q h) : RESV [(E_I, 1), (E_A, 2)] (x_pour n h p b) h (fun z => y_pour z p b) n f t t := by
  have hn := T.2.1.2.1
  refine resv T (Nat.le_refl t) (fun z w => s_y_pour) ?_
  rcases op_pour (p := p) (b := b) T with ⟨v, z, e1, e2, e3, e4⟩ | ⟨e1, e2⟩ | ⟨e1, e2⟩
  · refine Or.inl ⟨v, z, e1, mok_same T ?_, e2, e3, _, _, _, _, e4, Nat.le_refl t⟩
    intro a ha
    unfold x_pour at e1
    repeat' split at e1
    all_goals first | (cases e1; done) | (cases e1; exact hp_ne (by have := pd_lt hn ‹¬ p < 0 ∧ p < nI n›; omega))
  · exact Or.inr ⟨E_I, 1, e1, by simp, by decide, yF_pt T (Nat.le_refl t) e2⟩
  · exact Or.inr ⟨E_A, 2, e1, by simp, by decide, yF_pt T (Nat.le_refl t) e2⟩
theorem res_pond {n f t q : Nat} {h : Hp} {p b : Int32} (T : TOP n f t q h) : RESV [(E_I, 1)] (x_pond n f h p b) h (fun z => y_pond n f z p b) n f t t := by
  refine resv T (Nat.le_refl t) (fun z w => s_y_pond) ?_
  rcases op_pond (p := p) (w := b) T with ⟨v, e1, e2⟩ | ⟨e1, e2⟩
  · exact Or.inl ⟨v, h, e1, mok_top T, y0_pt T (Nat.le_refl t) e2⟩
  · exact Or.inr ⟨E_I, 1, e1, by simp, by decide, yF_pt T (Nat.le_refl t) e2⟩
theorem res_setWeather {n f t q : Nat} {h : Hp} {x a b d : Int32} (T : TOP n f t q h) : RESV [(E_I, 1), (E_A, 2)] (x_setW h x a b d) h (fun z => y_setW z x a b d) n f t t := by
  refine resv T (Nat.le_refl t) (fun z w => s_y_setW) ?_
  rcases op_setW (x := x) (a := a) (b := b) (d := d) T with ⟨v, z, e1, e2, e3, e4⟩ | ⟨e1, e2⟩ | ⟨e1, e2⟩
  · refine Or.inl ⟨v, z, e1, mok_same T ?_, e2, e3, _, _, _, _, e4, Nat.le_refl t⟩
    intro o ho
    unfold x_setW at e1
    split at e1
    · rename_i c1
      obtain ⟨j, hj, ej⟩ := inN_is (by omega) c1
      have ew : wd x = 1 + 2 + j := by subst ej; show 1 + 2 + (nI j).toNatClampNeg = _; rw [nI_clamp (by omega)]
      rw [ew] at e1
      repeat' split at e1
      all_goals first | (cases e1; done) | (cases e1; rw [hp_ne (by omega), hp_ne (by omega), hp_ne (by omega)])
    · cases e1
  · exact Or.inr ⟨E_I, 1, e1, by simp, by decide, yF_pt T (Nat.le_refl t) e2⟩
  · exact Or.inr ⟨E_A, 2, e1, by simp, by decide, yF_pt T (Nat.le_refl t) e2⟩
theorem res_bring {n f t q : Nat} {h : Hp} {b : Int32} (T : TOP n f t q h) : RESV [(E_A, 1), (E_S, 2)] (x_bring h b) h (fun z => y_bring z b) n f t t := by
  refine resv T (Nat.le_refl t) (fun z w => s_y_bring) ?_
  rcases op_bring (b := b) T with ⟨v, z, q2, e1, e2, e3, e4⟩ | ⟨e1, e2⟩ | ⟨e1, e2⟩
  · refine Or.inl ⟨v, z, e1, mok_same T ?_, e2, e3, _, _, _, _, e4, Nat.le_refl t⟩
    intro a ha
    unfold x_bring at e1
    repeat' split at e1
    all_goals first | (cases e1; done) | (cases e1; exact hp_ne (by omega))
  · exact Or.inr ⟨E_A, 1, e1, by simp, by decide, yF_pt T (Nat.le_refl t) e2⟩
  · exact Or.inr ⟨E_S, 2, e1, by simp, by decide, yF_pt T (Nat.le_refl t) e2⟩
theorem res_addFlock {n f t q : Nat} {h : Hp} {p s : Int32} (T : TOP n f t q h) : RESV [(E_I, 1), (E_A, 2), (E_S, 3)] (x_addFlock n f h p s) h (fun z => y_addF f z p s) n f t t := by
  have hf := T.2.2.2.1
  refine resv T (Nat.le_refl t) (fun z w => s_y_addF) ?_
  rcases op_addFlock (p := p) (s := s) T with ⟨v, z, e1, e2, e3, e4⟩ | ⟨e1, e2⟩ | ⟨e1, e2⟩ | ⟨e1, e2⟩
  · refine Or.inl ⟨v, z, e1, mok_same T ?_, e2, e3, _, _, _, _, e4, Nat.le_refl t⟩
    intro a ha
    unfold x_addFlock d_mkFR at e1
    repeat' split at e1
    all_goals first | (cases e1; done) | (cases e1; exact mkF_ne (by omega) (by omega))
  · exact Or.inr ⟨E_I, 1, e1, by simp, by decide, yF_pt T (Nat.le_refl t) e2⟩
  · exact Or.inr ⟨E_A, 2, e1, by simp, by decide, yF_pt T (Nat.le_refl t) e2⟩
  · exact Or.inr ⟨E_S, 3, e1, by simp, by decide, yF_pt T (Nat.le_refl t) e2⟩
theorem fl_lt {f : Nat} {p : Int32} (hf : f ≤ 6) (c : ¬ p < 0 ∧ p < nI f) : fl p < 64 := by
  obtain ⟨j, hj, e⟩ := inN_is (by omega) c
  subst e
  show 1 + 25 + (nI j).toNatClampNeg < 64
  rw [nI_clamp (by omega)]
  omega
theorem res_drive {n f t q : Nat} {h : Hp} {p b : Int32} (T : TOP n f t q h) : RESV [(E_I, 1), (E_S, 2)] (x_drive n f h p b) h (fun z => y_drive z p b) n f t t := by
  have hf := T.2.2.2.1
  refine resv T (Nat.le_refl t) (fun z w => s_y_drive) ?_
  rcases op_drive (a := p) (p := b) T with ⟨v, z, e1, e2, e3, e4⟩ | ⟨e1, e2⟩ | ⟨e1, e2⟩
  · refine Or.inl ⟨v, z, e1, mok_same T ?_, e2, e3, _, _, _, _, e4, Nat.le_refl t⟩
    intro a ha
    unfold x_drive at e1
    repeat' split at e1
    all_goals first | (cases e1; done) | (cases e1; exact hp_ne (by have := fl_lt hf ‹¬ p < 0 ∧ p < nI f›; omega))
  · exact Or.inr ⟨E_I, 1, e1, by simp, by decide, yF_pt T (Nat.le_refl t) e2⟩
  · exact Or.inr ⟨E_S, 2, e1, by simp, by decide, yF_pt T (Nat.le_refl t) e2⟩
theorem res_setRoams {n f t q : Nat} {h : Hp} {p b : Int32} (T : TOP n f t q h) (hb : b = 0 ∨ b = 1) : RESB [(E_I, 1)] (x_setRoams f h p b) h (fun z => y_setRoams z p b) n f t t := by
  have hf := T.2.2.2.1
  refine resb T (Nat.le_refl t) (fun z w => s_y_setRoams) ?_
  rcases op_setRoams (p := p) (b := b) T hb with ⟨v, z, e1, e2, e3, e4⟩ | ⟨e1, e2, e3⟩
  · refine Or.inl ⟨v, z, e1, mok_same T ?_, e2, e3, _, _, _, _, e4, Nat.le_refl t⟩
    intro a ha
    unfold x_setRoams at e1
    repeat' split at e1
    all_goals first | (cases e1; done) | (cases e1; exact hp_ne (by have := fl_lt hf ‹¬ p < 0 ∧ p < nI f›; omega))
  · exact Or.inr ⟨E_I, 1, e1, by simp, by decide, e2, _, _, _, _, e3, Nat.le_refl t⟩
theorem res_flock {n f t q : Nat} {h : Hp} {p b : Int32} (T : TOP n f t q h) : RESV [(E_I, 1)] (x_flock f h p b) h (fun z => y_flock z p b) n f t t := by
  refine resv T (Nat.le_refl t) (fun z w => s_y_flock) ?_
  rcases op_flock (p := p) (w := b) T with ⟨v, e1, e2⟩ | ⟨e1, e2⟩
  · exact Or.inl ⟨v, h, e1, mok_top T, y0_pt T (Nat.le_refl t) e2⟩
  · exact Or.inr ⟨E_I, 1, e1, by simp, by decide, yF_pt T (Nat.le_refl t) e2⟩
theorem res_pass {n f t q : Nat} {h : Hp} {k : Int32} (T : TOP n f t q h) : RESV [(E_A, 1)] (x_pass n f t h k) h (fun z => y_pass n f t z k) n f t (t + 100) := by
  refine resv T (Nat.le_add_right t 100) (fun z w => s_y_pass) ?_
  rcases op_pass (k := k) T with ⟨v, z, e1, e2, e3, e4, e5⟩ | ⟨e1, e2⟩
  · refine Or.inl ⟨v, z, e1, mok_same T ?_, e2, e3, _, _, _, _, e4, by omega⟩
    intro a ha
    unfold x_pass at e1
    repeat' split at e1
    all_goals first | (cases e1; done) | (cases e1; exact top_days T.2.1 T.2.2.2.2.1 (by omega) _)
  · exact Or.inr ⟨E_A, 1, e1, by simp, by decide, yF_pt T (Nat.le_add_right t 100) e2⟩
theorem res_count {n f t q : Nat} {h : Hp} {b : Int32} (T : TOP n f t q h) : RESV [(E_I, 1)] (x_count n f h b) h (fun z => y_count n f z b) n f t t := by
  refine resv T (Nat.le_refl t) (fun z w => s_y_count) ?_
  rcases op_count (w := b) T with ⟨v, e1, e2⟩ | ⟨e1, e2⟩
  · exact Or.inl ⟨v, h, e1, mok_top T, y0_pt T (Nat.le_refl t) e2⟩
  · exact Or.inr ⟨E_I, 1, e1, by simp, by decide, yF_pt T (Nat.le_refl t) e2⟩
theorem res_foresee {n f t q : Nat} {h : Hp} {p k : Int32} (T : TOP n f t q h) : RESV [(E_I, 1), (E_A, 2)] (x_foresee n f t h p k) h (fun z => y_foresee n f t z p k) n f t t := by
  refine resv T (Nat.le_refl t) (fun z w => s_y_foresee) ?_
  rcases op_foresee (p := p) (k := k) T with ⟨v, z, e1, e2, e3⟩ | ⟨e1, e2⟩ | ⟨e1, e2⟩
  · exact Or.inl ⟨v, z, e1, mok_top e2, y0_pt e2 (Nat.le_refl t) e3⟩
  · exact Or.inr ⟨E_I, 1, e1, by simp, by decide, yF_pt T (Nat.le_refl t) e2⟩
  · exact Or.inr ⟨E_A, 2, e1, by simp, by decide, yF_pt T (Nat.le_refl t) e2⟩
theorem res_lasts {n f t q : Nat} {h : Hp} {p : Int32} (T : TOP n f t q h) : RESV [(E_I, 1)] (x_lasts n f t h p) h (fun z => y_lasts n f t z p) n f t t := by
  refine resv T (Nat.le_refl t) (fun z w => s_y_lasts) ?_
  rcases op_lasts (p := p) T with ⟨v, z, e1, e2, e3⟩ | ⟨e1, e2⟩
  · exact Or.inl ⟨v, z, e1, mok_top e2, y0_pt e2 (Nat.le_refl t) e3⟩
  · exact Or.inr ⟨E_I, 1, e1, by simp, by decide, yF_pt T (Nat.le_refl t) e2⟩
theorem res_keep {n f t q : Nat} {h : Hp} {p k : Int32} (T : TOP n f t q h) : RESV [(E_I, 1), (E_A, 2)] (x_keep n f t h p k) h (fun z => y_keep n f t z p k) n f t t := by
  refine resv T (Nat.le_refl t) (fun z w => s_y_keep) ?_
  rcases op_keep (p := p) (k := k) T with ⟨v, z, e1, e2, e3⟩ | ⟨e1, e2⟩ | ⟨e1, e2⟩
  · exact Or.inl ⟨v, z, e1, mok_top e2, y0_pt e2 (Nat.le_refl t) e3⟩
  · exact Or.inr ⟨E_I, 1, e1, by simp, by decide, yF_pt T (Nat.le_refl t) e2⟩
  · exact Or.inr ⟨E_A, 2, e1, by simp, by decide, yF_pt T (Nat.le_refl t) e2⟩
theorem res_advise {n f t q : Nat} {h : Hp} {k : Int32} (T : TOP n f t q h) : RESV [(E_A, 1)] (x_advise n f t h k) h (fun z => y_advise n f t z k) n f t t := by
  refine resv T (Nat.le_refl t) (fun z w => s_y_advise) ?_
  rcases op_advise (k := k) T with ⟨v, z, e1, e2, e3⟩ | ⟨e1, e2⟩
  · exact Or.inl ⟨v, z, e1, mok_top e2, y0_pt e2 (Nat.le_refl t) e3⟩
  · exact Or.inr ⟨E_A, 1, e1, by simp, by decide, yF_pt T (Nat.le_refl t) e2⟩
