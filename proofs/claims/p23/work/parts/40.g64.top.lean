/-! ONE PICTURE, both sides in it -/
def FRESH (n : Nat) (h : Hp) : Prop := ∀ j, n ≤ j → j < 10 → (h (1 + 14 + j) 5 = 0 ∧ h (1 + 14 + j) 6 = 0 ∧ h (1 + 14 + j) 7 = 0 ∧ h (1 + 14 + j) 8 = -1 ∧ h (1 + 14 + j) 9 = 0) ∧ h 67 (5 * j + 0) = 0 ∧ h 67 (5 * j + 1) = 0 ∧ h 67 (5 * j + 2) = 0 ∧ h 67 (5 * j + 4) = 0
def TOP (n f t q : Nat) (h : Hp) : Prop := SIM 1 n f h h ∧ OK 1 n f h ∧ OM n f h ∧ f ≤ 6 ∧ h 1 6 = nI t ∧ q ≤ 500 ∧ h 1 7 = nI q ∧ h 69 1 = nI q ∧ FRESH n h
theorem OM.mcg {n f : Nat} {h h' : Hp} (H : OM n f h) (hhi : ∀ o, 65 ≤ o → h' o = h o) (h1 : h' 64 1 = h 64 1) (h3 : h' 64 3 = h 64 3) : OM n f h' := by
  obtain ⟨a1, a2, a3, a4, a5, a6⟩ := H
  exact ⟨h1.trans a1, a2, h3.trans a3, a4, fun j hj => by rw [hhi 67 (by omega)]; exact a5 j hj, fun j hj => by rw [hhi 68 (by omega)]; exact a6 j hj⟩
theorem TOP.put {n f t q : Nat} {h h' : Hp} (T : TOP n f t q h) (hlo : ∀ o, o < 32 → h' o = h o) (hhi : ∀ o, 65 ≤ o → h' o = h o) (h1 : h' 64 1 = h 64 1) (h3 : h' 64 3 = h 64 3) : TOP n f t q h' := by
  obtain ⟨S, K, M, hf, ht, hq, hc, hm, F⟩ := T
  refine ⟨(S.ccongr K.2.1 hf hlo).mcongr hhi, K.lo hlo, M.mcg hhi h1 h3, hf, by rw [hlo 1 (by omega)]; exact ht, hq, by rw [hlo 1 (by omega)]; exact hc, by rw [hhi 69 (by omega)]; exact hm, fun j h1 h2 => ?_⟩
  rw [hlo _ (by omega), hhi 67 (by omega)]
  exact F j h1 h2
theorem top_y0 {n f t q : Nat} {h : Hp} (T : TOP n f t q h) : TOP n f t q (y0 h) := T.put (fun o ho => y0_ne (by omega)) (fun o ho => y0_ne (by omega)) (by unfold y0; rw [hp_off (Or.inr (by omega))]) (by unfold y0; rw [hp_off (Or.inr (by omega))])
/-- a refused call: the number is told, nothing else is changed -/
theorem top_fail {n f t q : Nat} {h : Hp} {k : Int32} (T : TOP n f t q h) : TOP n f t q (yF h k).2 := by
  show TOP n f t q (hp_up (y0 h) 64 0 k)
  exact (top_y0 T).put (fun o ho => hp_ne (by omega)) (fun o ho => hp_ne (by omega)) (hp_off (Or.inr (by omega))) (hp_off (Or.inr (by omega)))
theorem yF_0 {h : Hp} {k : Int32} : (yF h k).2 64 0 = k := by
  show hp_up (y0 h) 64 0 k 64 0 = k
  rw [hp_eq]
  unfold upd
  rw [if_pos rfl]
theorem y0_0 {h : Hp} : y0 h 64 0 = 0 := by
  unfold y0
  rw [hp_eq]
  unfold upd
  rw [if_pos rfl]
/-- the two ways of asking for a number in its range -/
theorem in_iff {n : Nat} {p b : Int32} (hb : b = nI n) (hn : n ≤ 10) : (¬ p < 0 ∧ p < nI n) ↔ ¬ bI (0 ≤ p ∧ p ≤ b - 1) = 0 := by
  constructor
  · intro h
    obtain ⟨j, hj, e⟩ := inN_is (by omega) h
    subst e; subst hb
    rw [bIt]
    · decide
    · refine ⟨Int32.not_lt.mp (nI_nn (by omega)), ?_⟩
      obtain ⟨n, rfl⟩ : ∃ n2, n = n2 + 1 := ⟨n - 1, by omega⟩
      rw [nI_pred]
      exact (nI_leI (by omega) (by omega)).mpr (by omega)
  · intro h
    obtain ⟨j, hj, e⟩ := mN hb hn h
    subst e
    exact ⟨nI_nn (by omega), (nI_ltI (by omega) (by omega)).mpr hj⟩
theorem in_iffK {N : Nat} {p M : Int32} (hM : M = nI N) (hN : N + 1 < 2 ^ 31) : (¬ p < 0 ∧ p < nI (N + 1)) ↔ ¬ bI (0 ≤ p ∧ p ≤ M) = 0 := by
  constructor
  · intro h
    obtain ⟨j, hj, e⟩ := inN_is (by omega) h
    subst e; subst hM
    rw [bIt]
    · decide
    · exact ⟨Int32.not_lt.mp (nI_nn (by omega)), (nI_leI (by omega) (by omega)).mpr (by omega)⟩
  · intro h
    obtain ⟨e1, e2⟩ := in0 hM (by omega) h
    rw [e1]
    exact ⟨nI_nn (by omega), (nI_ltI (by omega) (by omega)).mpr (by omega)⟩
theorem y0_1 {h : Hp} : y0 h 64 1 = h 64 1 := by unfold y0; exact hp_off (Or.inr (by omega))
theorem y0_3 {h : Hp} : y0 h 64 3 = h 64 3 := by unfold y0; exact hp_off (Or.inr (by omega))
/-- pond: asked of both -/
theorem op_pond {n f t q : Nat} {h : Hp} {p w : Int32} (T : TOP n f t q h) : (∃ v, x_pond n f h p w = rI v h ∧ y_pond n f h p w = (v, y0 h)) ∨ (x_pond n f h p w = .inr E_I ∧ y_pond n f h p w = yF h 1) := by
  have hn := T.2.1.2.1
  have hf := T.2.2.2.1
  have i1 := in_iff (p := p) (b := y0 h 64 1) (n := n) (y0_1.trans T.2.2.1.1) hn
  have i2 := in_iffK (p := w) (M := 11) (N := 11) rfl (by omega)
  unfold x_pond y_pond
  by_cases c1 : ¬ p < 0 ∧ p < nI n
  · rw [if_pos c1, if_neg (i1.mp c1)]
    by_cases c2 : ¬ w < 0 ∧ w < nI 12
    · rw [if_pos c2, if_neg (i2.mp c2)]
      left
      obtain ⟨j, hj, e⟩ := inN_is (by omega) c1
      obtain ⟨k, hk, e2⟩ := inN_is (by omega) c2
      subst e; subst e2
      rw [nI_clamp (by omega)]
      refine ⟨_, rfl, ?_⟩
      rw [say_pond hn (by omega) (T.1.mcongr (fun o ho => y0_ne (by omega))) hj hk]
    · rw [if_neg c2, if_pos (Decidable.not_not.mp (fun z => c2 (i2.mpr z)))]
      exact Or.inr ⟨rfl, rfl⟩
  · rw [if_neg c1, if_pos (Decidable.not_not.mp (fun z => c1 (i1.mpr z)))]
    exact Or.inr ⟨rfl, rfl⟩
theorem op_flock {n f t q : Nat} {h : Hp} {p w : Int32} (T : TOP n f t q h) : (∃ v, x_flock f h p w = rI v h ∧ y_flock h p w = (v, y0 h)) ∨ (x_flock f h p w = .inr E_I ∧ y_flock h p w = yF h 1) := by
  have hn := T.2.1.2.1
  have hf := T.2.2.2.1
  have i1 := in_iff (p := p) (b := y0 h 64 3) (n := f) (y0_3.trans T.2.2.1.2.2.1) (by omega)
  have i2 := in_iffK (p := w) (M := 5) (N := 5) rfl (by omega)
  unfold x_flock y_flock
  by_cases c1 : ¬ p < 0 ∧ p < nI f
  · rw [if_pos c1, if_neg (i1.mp c1)]
    by_cases c2 : ¬ w < 0 ∧ w < nI 6
    · rw [if_pos c2, if_neg (i2.mp c2)]
      left
      obtain ⟨j, hj, e⟩ := inN_is (by omega) c1
      obtain ⟨k, hk, e2⟩ := inN_is (by omega) c2
      subst e; subst e2
      rw [nI_clamp (by omega)]
      refine ⟨_, rfl, ?_⟩
      rw [say_flock hf (T.1.mcongr (fun o ho => y0_ne (by omega))) T.2.1 hj hk]
    · rw [if_neg c2, if_pos (Decidable.not_not.mp (fun z => c2 (i2.mpr z)))]
      exact Or.inr ⟨rfl, rfl⟩
  · rw [if_neg c1, if_pos (Decidable.not_not.mp (fun z => c1 (i1.mpr z)))]
    exact Or.inr ⟨rfl, rfl⟩
theorem op_count {n f t q : Nat} {h : Hp} {w : Int32} (T : TOP n f t q h) : (∃ v, x_count n f h w = rI v h ∧ y_count n f h w = (v, y0 h)) ∨ (x_count n f h w = .inr E_I ∧ y_count n f h w = yF h 1) := by
  have hn := T.2.1.2.1
  have hf := T.2.2.2.1
  have i2 := in_iffK (p := w) (M := 7) (N := 7) rfl (by omega)
  have T0 := (top_y0 T)
  unfold x_count y_count
  by_cases c2 : ¬ w < 0 ∧ w < nI 8
  · rw [if_pos c2, if_neg (i2.mp c2)]
    left
    obtain ⟨k, hk, e2⟩ := inN_is (by omega) c2
    subst e2
    rw [nI_clamp (by omega)]
    refine ⟨_, rfl, ?_⟩
    rw [say_count hn (by omega) (T.1.mcongr (fun o ho => y0_ne (by omega))) T.2.1 T0.2.2.1 (by rw [T.2.2.2.2.2.2.1]; exact T0.2.2.2.2.2.2.2.1.symm) hk]
  · rw [if_neg c2, if_pos (Decidable.not_not.mp (fun z => c2 (i2.mpr z)))]
    exact Or.inr ⟨rfl, rfl⟩