theorem in1 {k M : Int32} {N : Nat} (hM : M = nI N) (hN : N < 2 ^ 31) (c : ¬ bI (1 ≤ k ∧ k ≤ M) = 0) : k = nI k.toNatClampNeg ∧ k.toNatClampNeg ≤ N := by
  have h := bI1 c
  obtain ⟨j, hj, ej⟩ := nI_of2 (M := M) (n := N) (by rw [hM]; exact nI_toInt hN) (Int32.not_lt.mpr (Int32.le_trans (by decide : (0 : Int32) ≤ 1) h.1)) h.2
  subst ej
  rw [nI_clamp (by omega)]
  exact ⟨rfl, hj⟩
theorem in0 {k M : Int32} {N : Nat} (hM : M = nI N) (hN : N < 2 ^ 31) (c : ¬ bI (0 ≤ k ∧ k ≤ M) = 0) : k = nI k.toNatClampNeg ∧ k.toNatClampNeg ≤ N := by
  have h := bI1 c
  obtain ⟨j, hj, ej⟩ := nI_of2 (M := M) (n := N) (by rw [hM]; exact nI_toInt hN) (Int32.not_lt.mpr h.1) h.2
  subst ej
  rw [nI_clamp (by omega)]
  exact ⟨rfl, hj⟩
theorem chS_n {h : Hp} {p b s : Int32} : ∀ (F : Nat) {x : Int32}, x = -1 → m_chS h p b F x s = s
  | 0, _, _ => rfl
  | _ + 1, _, hx => if_pos hx
theorem chS_y {h : Hp} {p b s : Int32} {F : Nat} {x : Int32} (hx : ¬ x = -1) : m_chS h p b (F + 1) x s = m_chS h p b F (m_po h x 3) (if x = p then s ||| b else s) := if_neg hx
/-- the chains of links end -/
def HCh (n : Nat) (h : Hp) : Prop := ∀ j, j < n → m_ch h 10 (m_po h (nI j) 3)
def m_pondV (n f : Nat) (h : Hp) (x : Int32) : Nat → Int32
  | 0 => m_fx h x 0
  | 1 => m_fx h x 1
  | 2 => m_fx h x 2
  | 3 => m_fx h x 3
  | 4 => m_holds h x
  | 5 => m_po h x 0
  | 6 => m_po h x 1
  | 7 => m_po h x 2
  | 8 => m_po h x 3
  | 9 => m_at h f x
  | 10 => m_po h x 4
  | _ => m_abv h x n
def m_flV (h : Hp) (x : Int32) : Nat → Int32
  | 0 => m_fl h x 0
  | 1 => m_fl h x 1
  | 2 => m_fl h x 2
  | 3 => m_fl h x 3
  | 5 => m_fl h x 4
  | _ => if m_fl h x 2 = 10 then 1 else 0
def m_cnV (n f : Nat) (h : Hp) : Nat → Int32
  | 0 => h 69 0
  | 1 => h 64 1
  | 2 => h 64 3
  | 3 => m_lost h f
  | 4 => h 69 1
  | 5 => m_all h n
  | 6 => m_dry h n
  | _ => m_sheep h f
def y_pond (n f : Nat) (h : Hp) (x w : Int32) : Int32 × Hp := if bI (0 ≤ x ∧ x ≤ y0 h 64 1 - 1) = 0 then yF h 1 else if bI (0 ≤ w ∧ w ≤ 11) = 0 then yF h 1 else (m_pondV n f (y0 h) x w.toNatClampNeg, y0 h)
def y_flock (h : Hp) (x w : Int32) : Int32 × Hp := if bI (0 ≤ x ∧ x ≤ y0 h 64 3 - 1) = 0 then yF h 1 else if bI (0 ≤ w ∧ w ≤ 5) = 0 then yF h 1 else (m_flV (y0 h) x w.toNatClampNeg, y0 h)
def y_count (n f : Nat) (h : Hp) (w : Int32) : Int32 × Hp := if bI (0 ≤ w ∧ w ≤ 7) = 0 then yF h 1 else (m_cnV n f (y0 h) w.toNatClampNeg, y0 h)
