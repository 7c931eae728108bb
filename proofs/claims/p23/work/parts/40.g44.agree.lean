/-! two pictures that agree on what the rows hold are one -/
def agree (h h2 : Hp) : Prop := (∀ o, o ≠ 67 → o ≠ 68 → o ≠ 69 → h o = h2 o) ∧ (∀ k, k < 50 → h 67 k = h2 67 k) ∧ (∀ k, k < 35 → h 68 k = h2 68 k) ∧ ∀ k, k < 2 → h 69 k = h2 69 k
theorem arrV_agree {cA : ClassId} {n : Nat} {f r : Nat → Int32} (h : ∀ k, k < n → f k = r k) : arrV cA n (fun j => .int (f j)) = arrV cA n (fun j => .int (r j)) := by
  unfold arrV
  congr 1
  refine congrArg Array.ofFn ?_
  funext j
  exact congrArg Value.int (h j.val j.isLt)
theorem agree_back {h z : Hp} (hz : ∀ o, o ≠ 67 → o ≠ 68 → o ≠ 69 → z o = h o) : agree (m_back z h) h := by
  refine ⟨fun o e1 e2 e3 => ?_, fun k hk => ?_, fun k hk => ?_, fun k hk => ?_⟩
  · unfold m_back
    rw [hp_row_ne e3, hp_row_ne e2, hp_row_ne e1]
    exact hz o e1 e2 e3
  · unfold m_back
    rw [hp_row_ne (by omega), hp_row_ne (by omega), hp_row_eq]
    show (if 0 ≤ k ∧ k < 0 + 50 then h 67 (0 + (k - 0)) else z 67 k) = _
    rw [if_pos ⟨by omega, by omega⟩, Nat.zero_add]
    rfl
  · unfold m_back
    rw [hp_row_ne (by omega), hp_row_eq]
    show (if 0 ≤ k ∧ k < 0 + 35 then h 68 (0 + (k - 0)) else z 68 k) = _
    rw [if_pos ⟨by omega, by omega⟩, Nat.zero_add]
    rfl
  · unfold m_back
    rw [hp_row_eq]
    show (if 0 ≤ k ∧ k < 0 + 2 then h 69 (0 + (k - 0)) else z 69 k) = _
    rw [if_pos ⟨by omega, by omega⟩, Nat.zero_add]
    rfl
theorem day_ne {n f t : Nat} {h : Hp} (H : OM n f h) {o : Nat} (e1 : o ≠ 67) (e2 : o ≠ 68) (e3 : o ≠ 69) : m_day n f t h o = h o := by
  unfold m_day
  rw [hp_ne e3]
  exact (mK_h5 H).1 o e1 e2
theorem days_ne {n f t : Nat} {h : Hp} (H : OM n f h) (ht : h 69 0 = nI t) {o : Nat} (e1 : o ≠ 67) (e2 : o ≠ 68) (e3 : o ≠ 69) : ∀ k, m_days n f t h k o = h o
  | 0 => rfl
  | k + 1 => (day_ne (mdays_ok H ht k).1 e1 e2 e3).trans (days_ne H ht e1 e2 e3 k)
theorem back_days {n f t k : Nat} {h : Hp} (H : OM n f h) (ht : h 69 0 = nI t) : agree (m_back (m_days n f t h k) h) h := agree_back (fun _ e1 e2 e3 => days_ne H ht e1 e2 e3 k)
def y_foresee (n f t : Nat) (h : Hp) (x k : Int32) : Int32 × Hp := if bI (0 ≤ x ∧ x ≤ y0 h 64 1 - 1) = 0 then yF h 1 else if bI (1 ≤ k ∧ k ≤ 100) = 0 then yF h 2 else (m_po (m_days n f t (y0 h) k.toNatClampNeg) x 0, y0 h)
def m_las (n f t : Nat) (h : Hp) (x : Int32) : Nat → Nat → Nat
  | 0, j => j
  | q + 1, j => if m_po (m_days n f t h j) x 0 ≤ 0 then j else m_las n f t h x q (j + 1)
theorem las_n {n f t : Nat} {h : Hp} {x : Int32} {j : Nat} (c : m_po (m_days n f t h j) x 0 ≤ 0) : ∀ q, m_las n f t h x q j = j
  | 0 => rfl
  | _ + 1 => if_pos c
theorem las_y {n f t : Nat} {h : Hp} {x : Int32} {j q : Nat} (c : ¬ m_po (m_days n f t h j) x 0 ≤ 0) (hj : j < 200) (hq : m_las n f t h x (200 - j) j = q) : m_las n f t h x (200 - (j + 1)) (j + 1) = q := by
  rw [← hq, show 200 - j = (200 - (j + 1)) + 1 by omega]
  exact (if_neg c).symm
def m_lasV (n f t : Nat) (h : Hp) (x : Int32) : Int32 := if m_po (m_days n f t h (m_las n f t h x 200 0)) x 0 ≤ 0 then nI (m_las n f t h x 200 0) else -1
def y_lasts (n f t : Nat) (h : Hp) (x : Int32) : Int32 × Hp := if bI (0 ≤ x ∧ x ≤ y0 h 64 1 - 1) = 0 then yF h 1 else (m_lasV n f t (y0 h) x, y0 h)
def m_adS (n f t k : Nat) (h : Hp) (s : Int32 × Int32) (j : Nat) : Int32 × Int32 := if m_po h (nI j) 0 ≤ m_holds h (nI j) / 4 then (if s.2 < m_all (m_days n f t (m_useH h (nI j) 500) k) n then (nI j, m_all (m_days n f t (m_useH h (nI j) 500) k) n) else s) else s
def m_ad (n f t k : Nat) (h : Hp) : Nat → Int32 × Int32 := fd (m_adS n f t k h) (-1, m_all (m_days n f t h k) n)
def y_advise (n f t : Nat) (h : Hp) (k : Int32) : Int32 × Hp := if bI (1 ≤ k ∧ k ≤ 50) = 0 then yF h 1 else ((m_ad n f t k.toNatClampNeg (y0 h) n).1, y0 h)
def m_kg (n f t : Nat) (h : Hp) (x : Int32) : Nat → Nat → Int32
  | 0, _ => 1
  | q + 1, j => if m_fl (m_days n f t h (j + 1)) x 2 = 0 then m_kg n f t h x q (j + 1) else 0
/-- whether the trial with so many sheep is good -/
def m_try (n f t d : Nat) (h : Hp) (x sh : Int32) : Int32 := m_kg n (f + 1) t (m_putF f h x sh) (nI f) d 0
def m_kp (n f t d : Nat) (h : Hp) (x : Int32) : Nat → Int32
  | 0 => 0
  | q + 1 => if m_try n f t d h x (nI (q + 1)) = 0 then m_kp n f t d h x q else nI (q + 1)
def y_keep (n f t : Nat) (h : Hp) (x k : Int32) : Int32 × Hp := if bI (0 ≤ x ∧ x ≤ y0 h 64 1 - 1) = 0 then yF h 1 else if bI (1 ≤ k ∧ k ≤ 50) = 0 then yF h 2 else (m_kp n f t k.toNatClampNeg (y0 h) x 80, y0 h)

