def y0 (h : Hp) : Hp := hp_up h 64 0 0
def yF (h : Hp) (k : Int32) : Int32 × Hp := (0, hp_up (y0 h) 64 0 k)
theorem OM.yy {n f : Nat} {h : Hp} (H : OM n f h) : OM n f (y0 h) := by
  obtain ⟨a1, a2, a3, a4, a5, a6⟩ := H
  exact ⟨by unfold y0; rw [hp_off (Or.inr (by omega))]; exact a1, a2, by unfold y0; rw [hp_off (Or.inr (by omega))]; exact a3, a4, fun j hj => by unfold y0; rw [hp_ne (by omega)]; exact a5 j hj, fun j hj => by unfold y0; rw [hp_ne (by omega)]; exact a6 j hj⟩
theorem y0_ne {h : Hp} {a : Nat} (e : a ≠ 64) : y0 h a = h a := hp_ne e
theorem mN {n : Nat} {x b : Int32} (hb : b = nI n) (hn : n ≤ 10) (c : ¬ bI (0 ≤ x ∧ x ≤ b - 1) = 0) : isN n x := by
  have h := bI1 c
  subst hb
  cases n with
  | zero =>
    exfalso
    have h1 : x ≤ nI 0 - 1 := h.2
    have h2 := Int32.le_trans h.1 h1
    exact absurd h2 (by decide)
  | succ k =>
    rw [nI_pred] at h
    obtain ⟨j, hj, e⟩ := nI_of2 (M := nI k) (n := k) (nI_toInt (by omega)) (Int32.not_lt.mpr h.1) h.2
    exact ⟨j, by omega, e⟩
def y_link (h : Hp) (p o : Int32) : Int32 × Hp := if bI (0 ≤ p ∧ p ≤ y0 h 64 1 - 1) = 0 then yF h 1 else if o = -1 then (m_po (y0 h) p 3, m_set (y0 h) p 3 o) else if bI (0 ≤ o ∧ o ≤ y0 h 64 1 - 1) = 0 then yF h 1 else if m_fx (y0 h) o 2 < m_fx (y0 h) p 2 then (m_po (y0 h) p 3, m_set (y0 h) p 3 o) else yF h 2
def y_puddle (h : Hp) (p c : Int32) : Int32 × Hp := if bI (0 ≤ p ∧ p ≤ y0 h 64 1 - 1) = 0 then yF h 1 else if bI (1 ≤ c ∧ c ≤ 100) = 0 then yF h 2 else if bI (m_po (y0 h) p 0 ≤ m_holds (y0 h) p / 4) = 0 then yF h 3 else (m_use (y0 h) p c, m_useH (y0 h) p c)
def y_strew (h : Hp) (p b : Int32) : Int32 × Hp := if bI (0 ≤ p ∧ p ≤ h 64 1 - 1) = 0 then (0, hp_up h 64 0 1) else (if m_po (y0 h) p 2 = 1 then 1 else 0, m_set (y0 h) p 2 (if b = 0 then 0 else 1))
def y_pourH (h : Hp) (p b : Int32) : Hp := m_set h p 0 (mxI 0 (mnI (m_holds h p) (m_po h p 0 + b)))
def y_pour (h : Hp) (p b : Int32) : Int32 × Hp := if bI (0 ≤ p ∧ p ≤ y0 h 64 1 - 1) = 0 then yF h 1 else if bI (-10000 ≤ b ∧ b ≤ 10000) = 0 then yF h 2 else (m_po (y_pourH (y0 h) p b) p 0, y_pourH (y0 h) p b)
def y_setWH (h : Hp) (j : Nat) (a b d : Int32) : Hp := hp_up (hp_up (hp_up h 66 (3 * j) a) 66 (3 * j + 1) b) 66 (3 * j + 2) d
def y_setW (h : Hp) (x a b d : Int32) : Int32 × Hp := if bI (0 ≤ x ∧ x ≤ 9) = 0 then yF h 1 else if bI (0 ≤ a ∧ a ≤ 9) = 0 then yF h 2 else if bI (0 ≤ b ∧ b ≤ 9) = 0 then yF h 2 else if bI (0 ≤ d ∧ d ≤ 9) = 0 then yF h 2 else (m_wt (y0 h) x.toNatClampNeg, y_setWH (y0 h) x.toNatClampNeg a b d)
def y_bring (h : Hp) (c : Int32) : Int32 × Hp := if bI (1 ≤ c ∧ c ≤ 100) = 0 then yF h 1 else if y0 h 69 1 + c ≤ 500 then (hp_up (y0 h) 69 1 (y0 h 69 1 + c) 69 1, hp_up (y0 h) 69 1 (y0 h 69 1 + c)) else yF h 2
def y_drive (h : Hp) (a p : Int32) : Int32 × Hp := if bI (0 ≤ a ∧ a ≤ y0 h 64 3 - 1) = 0 then yF h 1 else if bI (0 ≤ p ∧ p ≤ y0 h 64 1 - 1) = 0 then yF h 1 else if bI (m_fl (y0 h) a 2 = 10) = 0 then (m_far (y0 h) (m_fl (y0 h) a 1) p, m_setFl (y0 h) a 1 p) else yF h 2
def y_setRoams (h : Hp) (a b : Int32) : Int32 × Hp := if bI (0 ≤ a ∧ a ≤ h 64 3 - 1) = 0 then (0, hp_up h 64 0 1) else (if m_fl (y0 h) a 3 = 1 then 1 else 0, m_setFl (y0 h) a 3 (if b = 0 then 0 else 1))
def y_pass (n f t : Nat) (h : Hp) (k : Int32) : Int32 × Hp := if bI (1 ≤ k ∧ k ≤ 100) = 0 then yF h 1 else (m_daysU n f t (y0 h) k.toNatClampNeg, m_days n f t (y0 h) k.toNatClampNeg)

