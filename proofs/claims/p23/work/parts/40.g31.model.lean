/-! THE REFERENCE in numbers: 64 its own object (0 thrown, 1 ponds, 3 flocks), 65 fixed, 66 weather, 67 table, 68 herds, 69 the day and the clay -/
def isI (N : Nat) (x y : Int32) : Prop := ∃ j, j < N ∧ 5 * x + y = nI j
def ix (x y : Int32) : Nat := (5 * x + y).toNatClampNeg
theorem isI_at {N : Nat} {x y : Int32} (hN : N < 2 ^ 31) (h : isI N x y) : 5 * x + y = nI (ix x y) ∧ ix x y < N := by
  obtain ⟨j, hj, e⟩ := h
  unfold ix
  rw [e, nI_clamp (by omega)]
  exact ⟨rfl, hj⟩
theorem ix_nI {a k : Nat} (h : 5 * a + k < 2 ^ 31) : ix (nI a) (nI k) = 5 * a + k := by
  unfold ix
  have e : (5 : Int32) * nI a + nI k = nI (5 * a + k) := by
    show nI 5 * nI a + nI k = _
    rw [pk_mul, nI_add]
  rw [e, nI_clamp h]
theorem isI_nI {N m k : Nat} {x : Int32} (hx : isN m x) (hk : 5 * m + k < N + 5) : isI N x (nI k) := by
  obtain ⟨a, ha, rfl⟩ := hx
  refine ⟨5 * a + k, by omega, ?_⟩
  show nI 5 * nI a + nI k = _
  rw [pk_mul, nI_add]
theorem ix_0 {x : Int32} (hx : isN 10 x) : isI 50 x 0 := isI_nI (k := 0) hx (by omega)
theorem ix_1 {x : Int32} (hx : isN 10 x) : isI 50 x 1 := isI_nI (k := 1) hx (by omega)
theorem ix_2 {x : Int32} (hx : isN 10 x) : isI 50 x 2 := isI_nI (k := 2) hx (by omega)
theorem ix_3 {x : Int32} (hx : isN 10 x) : isI 50 x 3 := isI_nI (k := 3) hx (by omega)
theorem ix_4 {x : Int32} (hx : isN 10 x) : isI 50 x 4 := isI_nI (k := 4) hx (by omega)
theorem jx_0 {x : Int32} (hx : isN 7 x) : isI 35 x 0 := isI_nI (k := 0) hx (by omega)
theorem jx_1 {x : Int32} (hx : isN 7 x) : isI 35 x 1 := isI_nI (k := 1) hx (by omega)
theorem jx_2 {x : Int32} (hx : isN 7 x) : isI 35 x 2 := isI_nI (k := 2) hx (by omega)
theorem jx_3 {x : Int32} (hx : isN 7 x) : isI 35 x 3 := isI_nI (k := 3) hx (by omega)
theorem jx_4 {x : Int32} (hx : isN 7 x) : isI 35 x 4 := isI_nI (k := 4) hx (by omega)
theorem isN_up {n m : Nat} {x : Int32} (h : isN n x) (hm : n ≤ m) : isN m x := by obtain ⟨q, hq, e⟩ := h; exact ⟨q, by omega, e⟩
def m_fx (h : Hp) (x y : Int32) : Int32 := h 65 (ix x y)
def m_po (h : Hp) (x y : Int32) : Int32 := h 67 (ix x y)
def m_fl (h : Hp) (x y : Int32) : Int32 := h 68 (ix x y)
def m_set (h : Hp) (x y v : Int32) : Hp := hp_up h 67 (ix x y) v
def m_setFl (h : Hp) (x y v : Int32) : Hp := hp_up h 68 (ix x y) v
def m_holds (h : Hp) (x : Int32) : Int32 := m_fx h x 3 * m_fx h x 4 * 10
def m_far (h : Hp) (x y : Int32) : Int32 := abI (m_fx h x 0 - m_fx h y 0) + abI (m_fx h x 1 - m_fx h y 1)
def m_use (h : Hp) (x cl : Int32) : Int32 := mnI cl (mnI (100 - m_po h x 1) (h 69 1))
def m_useS (h : Hp) (x cl : Int32) : Hp := m_set h x 1 (m_po h x 1 + m_use h x cl)
def m_useH (h : Hp) (x cl : Int32) : Hp := hp_up (m_useS h x cl) 69 1 (m_useS h x cl 69 1 - m_use h x cl)
def m_change (h : Hp) (x b : Int32) : Hp := m_set h x 0 (mxI 0 (m_po h x 0 + b))
/-- a reference that is in order -/
def OM (n f : Nat) (h : Hp) : Prop := h 64 1 = nI n ∧ n ≤ 10 ∧ h 64 3 = nI f ∧ f ≤ 7 ∧ (∀ j, j < n → h 67 (5 * j + 3) = -1 ∨ isN n (h 67 (5 * j + 3))) ∧ (∀ j, j < f → isN n (h 68 (5 * j + 1)))
def m_at (h : Hp) (f : Nat) (x : Int32) : Int32 := sumN (fun j => if m_fl h (nI j) 1 = x then (if m_fl h (nI j) 2 = 10 then 0 else 1) else 0) f
def m_all (h : Hp) (n : Nat) : Int32 := sumN (fun j => m_po h (nI j) 0) n
def m_dry (h : Hp) (n : Nat) : Int32 := sumN (fun j => if m_po h (nI j) 0 = 0 then 1 else 0) n
def m_lost (h : Hp) (f : Nat) : Int32 := sumN (fun j => if m_fl h (nI j) 2 = 10 then 1 else 0) f
def m_sheep (h : Hp) (f : Nat) : Int32 := sumN (fun j => if m_fl h (nI j) 2 = 10 then 0 else m_fl h (nI j) 0) f
def m_hold (h : Hp) (n : Nat) : Int32 := sumN (fun j => m_holds h (nI j)) n
/-- the chain of links from x on ends within k steps -/
def m_ch (h : Hp) : Nat → Int32 → Prop
  | 0, x => x = -1
  | k + 1, x => x = -1 ∨ m_ch h k (m_po h x 3)
/-- what the walk along the chain adds to the set -/
def m_chS (h : Hp) (p : Int32) (b : Int32) : Nat → Int32 → Int32 → Int32
  | 0, _, s => s
  | k + 1, x, s => if x = -1 then s else m_chS h p b k (m_po h x 3) (if x = p then s ||| b else s)
def m_abv (h : Hp) (p : Int32) : Nat → Int32 := fd (fun s o => m_chS h p ((1 : Int32) <<< (nI o &&& 31)) 11 (m_po h (nI o) 3) s) 0
def m_wt (h : Hp) (j : Nat) : Int32 := 100 * h 66 (3 * j) + 10 * h 66 (3 * j + 1) + h 66 (3 * j + 2)
theorem three {j k : Nat} : (3 : Int32) * nI j + nI k = nI (3 * j + k) := by show nI 3 * nI j + nI k = _; rw [pk_mul, nI_add]
theorem three0 {j : Nat} : (3 : Int32) * nI j = nI (3 * j) := by show nI 3 * nI j = _; rw [pk_mul]
theorem five0 {j : Nat} : (5 : Int32) * nI j = nI (5 * j) := by show nI 5 * nI j = _; rw [pk_mul]

