/-! digging and new flocks in the reference -/
def pfR (sheep pond : Int32) : Nat → Int32 := upd (upd (upd (upd (upd (fun _ => 0) 0 sheep) 1 pond) 2 0) 3 0) 4 0
def m_pf1 (f : Nat) (h : Hp) (pond sheep : Int32) : Hp := hp_row h 68 (va_cpy (pfR sheep pond) (h 68) 0 (5 * f) 5)
def m_putF (f : Nat) (h : Hp) (pond sheep : Int32) : Hp := hp_up (m_pf1 f h pond sheep) 64 3 (m_pf1 f h pond sheep 64 3 + 1)
def y_addF (f : Nat) (h : Hp) (p sh : Int32) : Int32 × Hp := if bI (0 ≤ p ∧ p ≤ y0 h 64 1 - 1) = 0 then yF h 1 else if bI (1 ≤ sh ∧ sh ≤ 80) = 0 then yF h 2 else if y0 h 64 3 = 6 then yF h 3 else (m_putF f (y0 h) p sh 64 3 - 1, m_putF f (y0 h) p sh)
def m_frS (h : Hp) (x y : Int32) (b : Int32) (j : Nat) : Int32 := if b = 0 then 0 else if m_fx h (nI j) 0 = x then (if m_fx h (nI j) 1 = y then 0 else 1) else 1
def m_fr0 (h : Hp) : Int32 := if 10 ≤ h 64 1 then 0 else 1
def m_fr (h : Hp) (x y : Int32) : Nat → Int32 := fd (m_frS h x y) (m_fr0 h)
theorem frS_eq {h : Hp} {x y v : Int32} {j : Nat} (e : m_frS h x y (m_fr h x y j) j = v) : some (Value.int v) = some (Value.int (m_fr h x y (j + 1))) := e ▸ rfl
theorem fr_0 {h : Hp} {x y : Int32} (c : 10 ≤ h 64 1) : ∀ k, m_fr h x y k = 0
  | 0 => if_pos c
  | k + 1 => if_pos (fr_0 c k)
theorem fr_lt {h : Hp} {x y : Int32} {n k : Nat} (hn : h 64 1 = nI n) (hn10 : n ≤ 10) (c : ¬ m_fr h x y k = 0) : n < 10 := by
  apply Nat.lt_of_not_le
  intro hz
  have e : n = 10 := by omega
  subst e
  exact c (fr_0 (by rw [hn]; decide) k)
abbrev m_bad (x y ht sz dp : Int32) : Prop := bI (0 ≤ x ∧ x ≤ 40) = 0 ∨ bI (0 ≤ y ∧ y ≤ 40) = 0 ∨ bI (0 ≤ ht ∧ ht ≤ 300) = 0 ∨ bI (1 ≤ sz ∧ sz ≤ 60) = 0 ∨ bI (1 ≤ dp ∧ dp ≤ 9) = 0
def dgR (x y ht sz dp : Int32) : Nat → Int32 := upd (upd (upd (upd (upd (fun _ => 0) 0 x) 1 y) 2 ht) 3 sz) 4 dp
def m_dig1 (n : Nat) (h : Hp) (x y ht sz dp : Int32) : Hp := hp_row h 65 (va_cpy (dgR x y ht sz dp) (h 65) 0 (5 * n) 5)
def m_dig2 (n : Nat) (h : Hp) (x y ht sz dp : Int32) : Hp := m_set (m_dig1 n h x y ht sz dp) (m_dig1 n h x y ht sz dp 64 1) 3 (-1)
def m_dig (n : Nat) (h : Hp) (x y ht sz dp : Int32) : Hp := hp_up (m_dig2 n h x y ht sz dp) 64 1 (m_dig2 n h x y ht sz dp 64 1 + 1)
def y_dig (n : Nat) (h : Hp) (x y ht sz dp : Int32) : Int32 × Hp := if m_bad x y ht sz dp then yF h 1 else if m_fr (y0 h) x y n = 0 then yF h 2 else (m_dig n (y0 h) x y ht sz dp 64 1 - 1, m_dig n (y0 h) x y ht sz dp)
