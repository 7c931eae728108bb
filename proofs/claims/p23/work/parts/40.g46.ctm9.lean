theorem om_use {n f : Nat} {h : Hp} {x cl : Int32} (H : OM n f h) (hx : isN 10 x) : OM n f (m_useH h x cl) := by
  have k : mK n f h (m_useS h x cl) := mK_set (k := 1) hx (by omega) (by omega)
  obtain ⟨a1, a2, a3, a4, a5, a6⟩ := H.mK k
  unfold m_useH
  exact ⟨by rw [hp_ne (by omega)]; exact a1, a2, by rw [hp_ne (by omega)]; exact a3, a4, fun j hj => by rw [hp_ne (by omega)]; exact a5 j hj, fun j hj => by rw [hp_ne (by omega)]; exact a6 j hj⟩
theorem useH_ne {h : Hp} {x cl : Int32} {o : Nat} (e1 : o ≠ 67) (e3 : o ≠ 69) : m_useH h x cl o = h o := by
  unfold m_useH m_useS
  rw [hp_ne e3, m_set_ne e1]
theorem useH_t {h : Hp} {x cl : Int32} : m_useH h x cl 69 0 = h 69 0 := by
  unfold m_useH
  rw [hp_eq]
  show (if 0 = 1 then _ else _) = _
  rw [if_neg (by omega)]
  unfold m_useS
  rw [m_set_ne (by omega)]
theorem back_use {n f t k : Nat} {h : Hp} {x cl : Int32} (H : OM n f h) (ht : h 69 0 = nI t) (hx : isN 10 x) : agree (m_back (m_days n f t (m_useH h x cl) k) h) h := agree_back (fun _ e1 e2 e3 => (days_ne (om_use H hx) (useH_t.trans ht) e1 e2 e3 k).trans (useH_ne e1 e3))
theorem ad_1 {n f t k j : Nat} {h : Hp} (c : ¬ m_po h (nI j) 0 ≤ m_holds h (nI j) / 4) : m_ad n f t k h (j + 1) = m_ad n f t k h j := if_neg c
theorem ad_2 {n f t k j : Nat} {h : Hp} (c : m_po h (nI j) 0 ≤ m_holds h (nI j) / 4) (c2 : ¬ (m_ad n f t k h j).2 < m_all (m_days n f t (m_useH h (nI j) 500) k) n) : m_ad n f t k h (j + 1) = m_ad n f t k h j := (if_pos c).trans (if_neg c2)
theorem ad_3 {n f t k j : Nat} {h : Hp} (c : m_po h (nI j) 0 ≤ m_holds h (nI j) / 4) (c2 : (m_ad n f t k h j).2 < m_all (m_days n f t (m_useH h (nI j) 500) k) n) : m_ad n f t k h (j + 1) = (nI j, m_all (m_days n f t (m_useH h (nI j) 500) k) n) := (if_pos c).trans (if_pos c2)
