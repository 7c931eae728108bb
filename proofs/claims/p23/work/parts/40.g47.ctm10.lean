theorem putF_row {f : Nat} {h : Hp} {x sh : Int32} {j : Nat} (hj : j < 5 * f) : m_putF f h x sh 68 j = h 68 j := by
  unfold m_putF m_pf1
  rw [hp_ne (by omega), hp_row_eq]
  show (if 5 * f ≤ j ∧ j < 5 * f + 5 then pfR sh x (0 + (j - 5 * f)) else h 68 j) = _
  rw [if_neg (by omega)]
theorem putF_new {f k : Nat} {h : Hp} {x sh : Int32} (hk : k < 5) : m_putF f h x sh 68 (5 * f + k) = pfR sh x k := by
  unfold m_putF m_pf1
  rw [hp_ne (by omega), hp_row_eq]
  show (if 5 * f ≤ 5 * f + k ∧ 5 * f + k < 5 * f + 5 then pfR sh x (0 + (5 * f + k - 5 * f)) else h 68 (5 * f + k)) = _
  rw [if_pos ⟨by omega, by omega⟩, Nat.zero_add, Nat.add_sub_cancel_left]
theorem putF_ne {f : Nat} {h : Hp} {x sh : Int32} {o : Nat} (e1 : o ≠ 68) (e2 : o ≠ 64) : m_putF f h x sh o = h o := by
  unfold m_putF m_pf1
  rw [hp_ne e2, hp_row_ne e1]
theorem putF_64 {f k : Nat} {h : Hp} {x sh : Int32} : m_putF f h x sh 64 k = if k = 3 then h 64 3 + 1 else h 64 k := by
  unfold m_putF m_pf1
  rw [hp_eq]
  unfold upd
  rw [hp_row_ne (by omega)]
theorem om_putF {n f : Nat} {h : Hp} {x sh : Int32} (H : OM n f h) (hf6 : f ≤ 6) (hx : isN n x) : OM n (f + 1) (m_putF f h x sh) := by
  obtain ⟨a1, a2, a3, a4, a5, a6⟩ := H
  refine ⟨?_, a2, ?_, by omega, fun j hj => ?_, fun j hj => ?_⟩
  · rw [putF_64, if_neg (by omega)]; exact a1
  · rw [putF_64, if_pos rfl, a3]; exact nI_1 f
  · rw [putF_ne (by omega) (by omega)]; exact a5 j hj
  · by_cases hjf : j < f
    · rw [putF_row (by omega)]; exact a6 j hjf
    · have : j = f := by omega
      subst this
      rw [putF_new (by omega)]
      exact hx
theorem keep_agree {n f t k : Nat} {h : Hp} {x sh : Int32} (H : OM n f h) (hf6 : f ≤ 6) (hx : isN n x) (ht : h 69 0 = nI t) : agree (m_back (hp_up (m_days n (f + 1) t (m_putF f h x sh) k) 64 3 (m_days n (f + 1) t (m_putF f h x sh) k 64 3 - 1)) h) h := by
  have H1 := om_putF (sh := sh) H hf6 hx
  have t1 : m_putF f h x sh 69 0 = nI t := by rw [putF_ne (by omega) (by omega)]; exact ht
  refine agree_back (fun o e1 e2 e3 => ?_)
  by_cases e : o = 64
  · subst e
    rw [hp_eq]
    have e9 := days_ne (o := 64) H1 t1 (by omega) (by omega) (by omega) k
    rw [e9]
    funext q
    unfold upd
    by_cases hq : q = 3
    · subst hq
      rw [if_pos rfl, putF_64, if_pos rfl, H.2.2.1]
      show nI f + 1 - 1 = _
      rw [show nI f + 1 = nI (f + 1) from nI_1 f]
      exact nI_pred f
    · rw [if_neg hq, putF_64, if_neg hq]
  · rw [hp_ne e, days_ne H1 t1 e1 e2 e3 k, putF_ne e2 e]
def m_kb (n f t : Nat) (h : Hp) (x : Int32) (j : Nat) : Int32 := if m_fl (m_days n f t h (j + 1)) x 2 = 0 then 1 else 0
def kgI (n f t D : Nat) (h : Hp) (x T : Int32) (b : Int32) (j : Nat) : Prop := (b = 0 ∧ T = 0) ∨ (b = 1 ∧ m_kg n f t h x (D - j) j = T)
theorem kg_st {n f t D j : Nat} {h : Hp} {x T b : Int32} (hb : kgI n f t D h x T b j) (c : ¬ b = 0) (hj : j < D) : kgI n f t D h x T (m_kb n f t h x j) (j + 1) := by
  rcases hb with ⟨z, -⟩ | ⟨-, e⟩
  · exact absurd z c
  · rw [show D - j = (D - (j + 1)) + 1 by omega] at e
    change (if m_fl (m_days n f t h (j + 1)) x 2 = 0 then m_kg n f t h x (D - (j + 1)) (j + 1) else 0) = T at e
    unfold kgI m_kb
    by_cases c2 : m_fl (m_days n f t h (j + 1)) x 2 = 0
    · rw [if_pos c2] at e ⊢
      exact Or.inr ⟨rfl, e⟩
    · rw [if_neg c2] at e ⊢
      exact Or.inl ⟨rfl, e.symm⟩
theorem kg_e1 {n f t D : Nat} {h : Hp} {x T b : Int32} (hb : kgI n f t D h x T b D) : b = T := by
  rcases hb with ⟨z, y⟩ | ⟨z, e⟩
  · rw [z, y]
  · rw [Nat.sub_self] at e
    exact z.trans e
theorem kg_e2 {n f t D j : Nat} {h : Hp} {x T b : Int32} (hb : kgI n f t D h x T b j) (c : b = 0) : b = T := by
  rcases hb with ⟨z, y⟩ | ⟨z, e⟩
  · rw [z, y]
  · rw [c] at z
    exact absurd z (by decide)
theorem kp_n {n f t d q : Nat} {h : Hp} {x : Int32} (c : m_try n f t d h x (nI (q + 1)) = 0) : m_kp n f t d h x (q + 1) = m_kp n f t d h x q := if_pos c
theorem kp_y {n f t d q : Nat} {h : Hp} {x : Int32} (c : ¬ m_try n f t d h x (nI (q + 1)) = 0) : m_kp n f t d h x (q + 1) = nI (q + 1) := if_neg c
theorem nI_s0 {sq : Nat} (h : sq + 1 < 2 ^ 31) : ¬ nI (sq + 1) = 0 := by
  intro z
  have e := congrArg Int32.toNatClampNeg z
  rw [nI_clamp h, z0c] at e
  omega
theorem nI_gt0 {sq : Nat} (h : sq + 1 < 2 ^ 31) : ¬ nI (sq + 1) ≤ 0 := by
  intro z
  have e := Int32.le_iff_toInt_le.mp z
  rw [nI_toInt h] at e
  have : (0 : Int32).toInt = 0 := by decide
  omega
