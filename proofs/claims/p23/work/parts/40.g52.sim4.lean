def XBd (d n : Nat) (c : Hp) : Prop := ∀ j, j < n → ∃ x y : Nat, x ≤ 40 ∧ y ≤ 40 ∧ c (d + 14 + j) 0 = nI x ∧ c (d + 14 + j) 1 = nI y
def FBd (d n f : Nat) (c : Hp) : Prop := ∀ j, j < f → ∃ s p th : Nat, (1 ≤ s ∧ s ≤ 80) ∧ p < n ∧ th ≤ 10 ∧ c (d + 25 + j) 0 = nI s ∧ c (d + 25 + j) 1 = nI p ∧ c (d + 25 + j) 2 = nI th
def SBd (d n : Nat) (c : Hp) : Prop := ∀ j, j < n → c (d + 14 + j) 7 = 0 ∨ c (d + 14 + j) 7 = 1
theorem hp_same {c : Hp} {o k : Nat} {v : Int32} (e : c o k = v) : hp_up c o k v = c := by
  funext a q
  by_cases ha : a = o
  · subst ha
    rw [hp_eq]
    unfold upd
    by_cases hq : q = k
    · subst hq; rw [if_pos rfl]; exact e.symm
    · rw [if_neg hq]
  · rw [hp_ne ha]
theorem abs_nI {a b : Nat} (ha : a ≤ 40) (hb : b ≤ 40) : abI (nI a - nI b) = nI ((a - b) + (b - a)) := by
  unfold abI
  by_cases h : b ≤ a
  · rw [pk_sub h, if_pos (Int32.not_lt.mp (nI_nn (by omega))), show b - a = 0 by omega, Nat.add_zero]
  · rw [if_neg (fun z => absurd (pk_sneg (a := a) (b := b) (by omega) (by omega)) (Int32.not_lt.mpr z)), show a - b = 0 by omega, Nat.zero_add]
    apply Int32.toInt_inj.mp
    rw [Int32.toInt_sub, pk_sub_toInt (by omega) (by omega), nI_toInt (by omega), show (0 : Int32).toInt = 0 from by decide]
    rw [Int.bmod_eq_of_le (by omega) (by omega)]
    omega
theorem dist_nI {d n i j : Nat} {c : Hp} (X : XBd d n c) (hi : i < n) (hj : j < n) : ∃ e : Nat, e ≤ 80 ∧ p_dist c (d + 14 + i) (d + 14 + j) = nI e := by
  obtain ⟨x1, y1, a1, a2, a3, a4⟩ := X i hi
  obtain ⟨x2, y2, b1, b2, b3, b4⟩ := X j hj
  unfold p_dist
  rw [a3, a4, b3, b4, abs_nI a1 b1, abs_nI a2 b2, nI_add]
  exact ⟨_, by omega, rfl⟩
theorem far_eq {d n f i j : Nat} {c m : Hp} (hn : n ≤ 10) (R : REL d n f c m) (hi : i < n) (hj : j < n) : m_far m (nI i) (nI j) = p_dist c (d + 14 + i) (d + 14 + j) := by
  unfold m_far p_dist
  rw [show m_fx m (nI i) 0 = c (d + 14 + i) 0 from R.fx (k := 0) hn hi (by omega), show m_fx m (nI j) 0 = c (d + 14 + j) 0 from R.fx (k := 0) hn hj (by omega), show m_fx m (nI i) 1 = c (d + 14 + i) 1 from R.fx (k := 1) hn hi (by omega), show m_fx m (nI j) 1 = c (d + 14 + j) 1 from R.fx (k := 1) hn hj (by omega)]
theorem nI_m1 {q : Nat} (h : q < 2 ^ 31) : ¬ nI q = -1 := by
  intro z
  have e := congrArg Int32.toInt z
  rw [nI_toInt h, show (-1 : Int32).toInt = -1 from by decide] at e
  omega
/-- the search of both for the nearest water -/
theorem near_sim {d n f p fo : Nat} {c m : Hp} (hn : n ≤ 10) (R : REL d n f c m) (X : XBd d n c) (hp : p < n) (hw : c (d + 14 + p) 5 < f_need c fo) : ∀ k, k ≤ n →
    (m_best m (f_need c fo) (nI p) k = -1 ∧ fd (d_nearS c d fo (d + 14 + p)) (2147483647, nI p) k = (2147483647, nI p)) ∨
    (∃ q, q < n ∧ m_best m (f_need c fo) (nI p) k = nI q ∧ fd (d_nearS c d fo (d + 14 + p)) (2147483647, nI p) k = (p_dist c (d + 14 + p) (d + 14 + q), nI q))
  | 0, _ => Or.inl ⟨rfl, rfl⟩
  | k + 1, hk => by
    have ih := near_sim hn R X hp hw k (by omega)
    have hkn : k < n := by omega
    have em : m_best m (f_need c fo) (nI p) (k + 1) = m_roamS m (f_need c fo) (nI p) (m_best m (f_need c fo) (nI p) k) k := rfl
    have ec : fd (d_nearS c d fo (d + 14 + p)) (2147483647, nI p) (k + 1) = d_nearS c d fo (d + 14 + p) (fd (d_nearS c d fo (d + 14 + p)) (2147483647, nI p) k) k := rfl
    have ew : m_po m (nI k) 0 = c (d + 14 + k) 5 := R.po (k := 0) hn hkn (by omega)
    rw [em, ec]
    generalize m_best m (f_need c fo) (nI p) k = b at ih ⊢
    generalize fd (d_nearS c d fo (d + 14 + p)) (2147483647, nI p) k = z at ih ⊢
    unfold m_roamS d_nearS
    rw [ew]
    by_cases e1 : k = p
    · subst e1
      rw [if_pos rfl, if_pos hw]
      exact ih
    · rw [if_neg (fun y => e1 ((nI_eq (by omega) (by omega)).mp y))]
      by_cases e2 : c (d + 14 + k) 5 < f_need c fo
      · rw [if_pos e2, if_pos e2]
        exact ih
      · rw [if_neg e2, if_neg e2]
        rcases ih with ⟨i1, i2⟩ | ⟨q, hq, i1, i2⟩
        · obtain ⟨e, he, ee⟩ := dist_nI X hp hkn
          rw [i1, i2, if_pos rfl, if_neg (by
            show ¬ (2147483647 : Int32) ≤ p_dist c (d + 14 + p) (d + 14 + k)
            rw [ee]
            exact fun y => absurd ((nI_leI (a := 2147483647) (b := e) (by omega) (by omega)).mp y) (by omega))]
          exact Or.inr ⟨k, hkn, rfl, rfl⟩
        · rw [i1, i2, if_neg (nI_m1 (by omega)), far_eq hn R hp hq, far_eq hn R hp hkn]
          by_cases e3 : p_dist c (d + 14 + p) (d + 14 + q) ≤ p_dist c (d + 14 + p) (d + 14 + k)
          · rw [if_pos e3, if_pos e3]
            exact Or.inr ⟨q, hq, rfl, rfl⟩
          · rw [if_neg e3, if_neg e3]
            exact Or.inr ⟨k, hkn, rfl, rfl⟩
theorem FBd.pond {d n f j p : Nat} {c : Hp} (F : FBd d n f c) (hp : p < n) : FBd d n f (hp_up c (d + 25 + j) 1 (nI p)) := by
  intro i hi
  obtain ⟨s, q, th, a1, a2, a3, b1, b2, b3⟩ := F i hi
  by_cases e : i = j
  · subst e
    exact ⟨s, p, th, a1, hp, a3, by rw [hp_off (Or.inr (by omega))]; exact b1, by rw [hp_eq]; unfold upd; rw [if_pos rfl], by rw [hp_off (Or.inr (by omega))]; exact b3⟩
  · exact ⟨s, q, th, a1, a2, a3, by rw [hp_off (Or.inl (by omega))]; exact b1, by rw [hp_off (Or.inl (by omega))]; exact b2, by rw [hp_off (Or.inl (by omega))]; exact b3⟩
/-- where a flock goes: the same on both sides, and the class's part changes at this flock's pond alone -/
theorem sim_go {d n f j : Nat} {c m : Hp} (hn : n ≤ 10) (hf : f ≤ 7) (hj : j < f) (R : REL d n f c m) (X : XBd d n c) (F : FBd d n f c) :
    ∃ p, p < n ∧ d_go d n (d + 25 + j) c = hp_up c (d + 25 + j) 1 (nI p) ∧ REL d n f (d_go d n (d + 25 + j) c) (m_roam m n (nI j)) := by
  obtain ⟨s, p, th, a1, a2, a3, b1, b2, b3⟩ := F j hj
  have f0 : m_fl m (nI j) 0 = c (d + 25 + j) 0 := R.fl (k := 0) hf hj (by omega)
  have f1 : m_fl m (nI j) 1 = nI p := (R.fl (k := 1) hf hj (by omega)).trans b2
  have f2 : m_fl m (nI j) 2 = nI th := (R.fl (k := 2) hf hj (by omega)).trans b3
  have f3 : m_fl m (nI j) 3 = c (d + 25 + j) 3 := R.fl (k := 3) hf hj (by omega)
  have same : hp_up c (d + 25 + j) 1 (nI p) = c := hp_same b2
  unfold d_go m_roam m_roamB
  rw [f0, f1, f2, f3, b3]
  by_cases e1 : c (d + 25 + j) 3 = 0
  · rw [if_pos e1, if_pos e1]
    exact ⟨p, a2, same.symm, R⟩
  · rw [if_neg e1, if_neg e1]
    by_cases e2 : th = 0
    · subst e2
      rw [if_pos (show nI 0 ≤ 0 by decide), if_pos (show nI 0 = 0 by decide)]
      exact ⟨p, a2, same.symm, R⟩
    · rw [if_neg (show ¬ nI th ≤ 0 from fun y => absurd ((nI_leI (a := th) (b := 0) (by omega) (by omega)).mp y) (by omega)), if_neg (show ¬ nI th = 0 from fun y => absurd ((nI_eq (a := th) (b := 0) (by omega) (by omega)).mp y) e2)]
      have ew : m_po m (nI p) 0 = c (d + 14 + p) 5 := R.po (k := 0) hn a2 (by omega)
      have en : (2 : Int32) * c (d + 25 + j) 0 = f_need c (d + 25 + j) := rfl
      unfold d_near
      rw [b2, nI_clamp (by omega), ew, en]
      by_cases e3 : c (d + 14 + p) 5 < f_need c (d + 25 + j)
      · rw [if_pos e3, if_pos e3]
        rcases near_sim hn R X a2 e3 n (Nat.le_refl n) with ⟨i1, i2⟩ | ⟨q, hq, i1, i2⟩
        · rw [i1, i2, if_pos rfl]
          exact ⟨p, a2, rfl, by rw [same]; exact R⟩
        · rw [i1, i2, if_neg (nI_m1 (by omega))]
          exact ⟨q, hq, rfl, R.setFl (k := 1) hn hf hj (by omega)⟩
      · rw [if_neg e3, if_neg e3]
        exact ⟨p, a2, rfl, by rw [same]; exact R⟩
