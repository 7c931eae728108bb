def m_drT (z : Hp) (x : Int32) : Int32 := if m_its z x = 2 * m_fl z x 0 then mxI 0 (m_fl (m_dr2 z x) x 2 - 2) else mnI 10 (m_fl (m_dr2 z x) x 2 + 3)
theorem drT_y {z : Hp} {x : Int32} (c : m_its z x = 2 * m_fl z x 0) : m_drT z x = mxI 0 (m_fl (m_dr2 z x) x 2 - 2) := if_pos c
theorem drT_n {z : Hp} {x : Int32} (c : ¬ m_its z x = 2 * m_fl z x 0) : m_drT z x = mnI 10 (m_fl (m_dr2 z x) x 2 + 3) := if_neg c
theorem dr4_y {h : Hp} {n : Nat} {x : Int32} (c : m_po (m_dr3 (m_roam h n x) x) (m_fl (m_roam h n x) x 1) 2 = 0) : m_drink h n x = m_set (m_dr3 (m_roam h n x) x) (m_fl (m_roam h n x) x 1) 1 (mxI 0 (m_po (m_dr3 (m_roam h n x) x) (m_fl (m_roam h n x) x 1) 1 - m_fl (m_dr3 (m_roam h n x) x) x 0 / 10)) := if_pos c
theorem dr4_n {h : Hp} {n : Nat} {x : Int32} (c : ¬ m_po (m_dr3 (m_roam h n x) x) (m_fl (m_roam h n x) x 1) 2 = 0) : m_drink h n x = m_dr3 (m_roam h n x) x := if_neg c
theorem by1_y {h : Hp} {w j : Nat} (c : m_fx h (nI j) 2 < 150) : m_by1 h w j = h 66 (3 * w) * m_fx h (nI j) 3 / 4 * 1 := by unfold m_by1; rw [if_pos c]
theorem by1_n {h : Hp} {w j : Nat} (c : ¬ m_fx h (nI j) 2 < 150) : m_by1 h w j = h 66 (3 * w) * m_fx h (nI j) 3 / 4 * 2 := by unfold m_by1; rw [if_neg c]
theorem by3_y {h : Hp} {w j : Nat} (c : m_po h (nI j) 2 = 1) : m_by3 h w j = -(h 66 (3 * w + 2) * m_fx h (nI j) 3 / 5 / 2) := by unfold m_by3; rw [if_pos c]
theorem by3_n {h : Hp} {w j : Nat} (c : ¬ m_po h (nI j) 2 = 1) : m_by3 h w j = -(h 66 (3 * w + 2) * m_fx h (nI j) 3 / 5 / 1) := by unfold m_by3; rw [if_neg c]
theorem mflock_lost {h : Hp} {n j : Nat} (c : m_fl h (nI j) 2 = 10) : m_flock n h j = h := if_pos c
theorem mflock_on {h : Hp} {n j : Nat} (c : ¬ m_fl h (nI j) 2 = 10) : m_flock n h j = m_drink h n (nI j) := if_neg c
theorem mflockU_lost {h : Hp} {n j : Nat} {u : Int32} (c : m_fl h (nI j) 2 = 10) : m_flockU n h j u = u := if_pos c
theorem mflockU_on {h : Hp} {n j : Nat} {u : Int32} (c : ¬ m_fl h (nI j) 2 = 10) : m_flockU n h j u = u + m_drinkU h n (nI j) := if_neg c
