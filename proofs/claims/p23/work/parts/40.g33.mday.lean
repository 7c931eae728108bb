/-! a day of the reference -/
def m_roamS (h : Hp) (need from_ : Int32) (b : Int32) (j : Nat) : Int32 := if nI j = from_ then b else if m_po h (nI j) 0 < need then b else if b = -1 then nI j else if m_far h from_ b ≤ m_far h from_ (nI j) then b else nI j
def m_best (h : Hp) (need from_ : Int32) : Nat → Int32 := fd (m_roamS h need from_) (-1)
def m_roamB (h : Hp) (n : Nat) (x : Int32) : Int32 := m_best h (2 * m_fl h x 0) (m_fl h x 1) n
def m_roam (h : Hp) (n : Nat) (x : Int32) : Hp := if m_fl h x 3 = 0 then h else if m_fl h x 2 = 0 then h else if m_po h (m_fl h x 1) 0 < 2 * m_fl h x 0 then (if m_roamB h n x = -1 then h else m_setFl h x 1 (m_roamB h n x)) else h
theorem roamS_a {h : Hp} {need from_ b : Int32} {j : Nat} (c : nI j = from_) : m_roamS h need from_ b j = b := if_pos c
theorem roamS_b {h : Hp} {need from_ b : Int32} {j : Nat} (c : ¬ nI j = from_) (c2 : m_po h (nI j) 0 < need) : m_roamS h need from_ b j = b := (if_neg c).trans (if_pos c2)
theorem roamS_c {h : Hp} {need from_ b : Int32} {j : Nat} (c : ¬ nI j = from_) (c2 : ¬ m_po h (nI j) 0 < need) (c3 : b = -1) : m_roamS h need from_ b j = nI j := (if_neg c).trans ((if_neg c2).trans (if_pos c3))
theorem roamS_d {h : Hp} {need from_ b : Int32} {j : Nat} (c : ¬ nI j = from_) (c2 : ¬ m_po h (nI j) 0 < need) (c3 : ¬ b = -1) (c4 : m_far h from_ b ≤ m_far h from_ (nI j)) : m_roamS h need from_ b j = b := (if_neg c).trans ((if_neg c2).trans ((if_neg c3).trans (if_pos c4)))
theorem roamS_e {h : Hp} {need from_ b : Int32} {j : Nat} (c : ¬ nI j = from_) (c2 : ¬ m_po h (nI j) 0 < need) (c3 : ¬ b = -1) (c4 : ¬ m_far h from_ b ≤ m_far h from_ (nI j)) : m_roamS h need from_ b j = nI j := (if_neg c).trans ((if_neg c2).trans ((if_neg c3).trans (if_neg c4)))
theorem best_in {h : Hp} {need from_ : Int32} {n : Nat} : ∀ k, k ≤ n → m_best h need from_ k = -1 ∨ isN n (m_best h need from_ k)
  | 0, _ => Or.inl rfl
  | k + 1, hk => by
    have ih := best_in (h := h) (need := need) (from_ := from_) (n := n) k (by omega)
    show m_roamS h need from_ (m_best h need from_ k) k = -1 ∨ isN n (m_roamS h need from_ (m_best h need from_ k) k)
    unfold m_roamS
    split
    · exact ih
    · split
      · exact ih
      · split
        · exact Or.inr ⟨k, by omega, rfl⟩
        · split
          · exact ih
          · exact Or.inr ⟨k, by omega, rfl⟩
theorem roam_a {h : Hp} {n : Nat} {x : Int32} (c : m_fl h x 3 = 0) : m_roam h n x = h := if_pos c
theorem roam_b {h : Hp} {n : Nat} {x : Int32} (c : ¬ m_fl h x 3 = 0) (c2 : m_fl h x 2 = 0) : m_roam h n x = h := (if_neg c).trans (if_pos c2)
theorem roam_c {h : Hp} {n : Nat} {x : Int32} (c : ¬ m_fl h x 3 = 0) (c2 : ¬ m_fl h x 2 = 0) (c3 : ¬ m_po h (m_fl h x 1) 0 < 2 * m_fl h x 0) : m_roam h n x = h := (if_neg c).trans ((if_neg c2).trans (if_neg c3))
theorem roam_d {h : Hp} {n : Nat} {x : Int32} (c : ¬ m_fl h x 3 = 0) (c2 : ¬ m_fl h x 2 = 0) (c3 : m_po h (m_fl h x 1) 0 < 2 * m_fl h x 0) (c4 : m_roamB h n x = -1) : m_roam h n x = h := (if_neg c).trans ((if_neg c2).trans ((if_pos c3).trans (if_pos c4)))
theorem roam_e {h : Hp} {n : Nat} {x : Int32} (c : ¬ m_fl h x 3 = 0) (c2 : ¬ m_fl h x 2 = 0) (c3 : m_po h (m_fl h x 1) 0 < 2 * m_fl h x 0) (c4 : ¬ m_roamB h n x = -1) : m_roam h n x = m_setFl h x 1 (m_roamB h n x) := (if_neg c).trans ((if_neg c2).trans ((if_pos c3).trans (if_neg c4)))
def m_its (z : Hp) (x : Int32) : Int32 := mnI (2 * m_fl z x 0) (m_po z (m_fl z x 1) 0)
def m_dr1 (z : Hp) (x : Int32) : Hp := m_set z (m_fl z x 1) 0 (m_po z (m_fl z x 1) 0 - m_its z x)
def m_dr2 (z : Hp) (x : Int32) : Hp := m_setFl (m_dr1 z x) x 4 (m_fl (m_dr1 z x) x 4 + m_its z x)
def m_dr3 (z : Hp) (x : Int32) : Hp := m_setFl (m_dr2 z x) x 2 (if m_its z x = 2 * m_fl z x 0 then mxI 0 (m_fl (m_dr2 z x) x 2 - 2) else mnI 10 (m_fl (m_dr2 z x) x 2 + 3))
def m_dr4 (z : Hp) (x : Int32) : Hp := if m_po (m_dr3 z x) (m_fl z x 1) 2 = 0 then m_set (m_dr3 z x) (m_fl z x 1) 1 (mxI 0 (m_po (m_dr3 z x) (m_fl z x 1) 1 - m_fl (m_dr3 z x) x 0 / 10)) else m_dr3 z x
def m_drink (h : Hp) (n : Nat) (x : Int32) : Hp := m_dr4 (m_roam h n x) x
def m_drinkU (h : Hp) (n : Nat) (x : Int32) : Int32 := m_its (m_roam h n x) x
def m_flock (n : Nat) (h : Hp) (j : Nat) : Hp := if m_fl h (nI j) 2 = 10 then h else m_drink h n (nI j)
def m_flockU (n : Nat) (h : Hp) (j : Nat) (u : Int32) : Int32 := if m_fl h (nI j) 2 = 10 then u else u + m_drinkU h n (nI j)
def m_drunk (n : Nat) (h : Hp) : Nat → Int32 := fd (fun u j => m_flockU n (fd (m_flock n) h j) j u) 0
def m_more (h : Hp) (j : Nat) : Int32 := m_po h (nI j) 0 - m_holds h (nI j)
def m_ro2 (h : Hp) (j : Nat) : Hp := m_set (m_change h (nI j) (-m_more h j)) (nI j) 4 (m_po (m_change h (nI j) (-m_more h j)) (nI j) 4 + m_more h j)
def m_ro1 (ht : Int32) (h : Hp) (j : Nat) : Hp := if ¬ m_fx h (nI j) 2 = ht then h else if 0 < m_more h j then (if m_po (m_ro2 h j) (nI j) 3 = -1 then m_ro2 h j else m_change (m_ro2 h j) (m_po (m_ro2 h j) (nI j) 3) (m_more h j)) else h
theorem ro1_a {h : Hp} {ht : Int32} {j : Nat} (c : ¬ m_fx h (nI j) 2 = ht) : m_ro1 ht h j = h := if_pos c
theorem ro1_b {h : Hp} {ht : Int32} {j : Nat} (c : m_fx h (nI j) 2 = ht) (c2 : ¬ 0 < m_more h j) : m_ro1 ht h j = h := (if_neg (fun z => z c)).trans (if_neg c2)
theorem ro1_c {h : Hp} {ht : Int32} {j : Nat} (c : m_fx h (nI j) 2 = ht) (c2 : 0 < m_more h j) (c3 : m_po (m_ro2 h j) (nI j) 3 = -1) : m_ro1 ht h j = m_ro2 h j := (if_neg (fun z => z c)).trans ((if_pos c2).trans (if_pos c3))
theorem ro1_d {h : Hp} {ht : Int32} {j : Nat} (c : m_fx h (nI j) 2 = ht) (c2 : 0 < m_more h j) (c3 : ¬ m_po (m_ro2 h j) (nI j) 3 = -1) : m_ro1 ht h j = m_change (m_ro2 h j) (m_po (m_ro2 h j) (nI j) 3) (m_more h j) := (if_neg (fun z => z c)).trans ((if_pos c2).trans (if_neg c3))
def m_roH (n : Nat) (ht : Int32) (h : Hp) : Hp := fd (m_ro1 ht) h n
def m_roK (n : Nat) : Nat → Hp → Hp
  | 0, z => z
  | k + 1, z => m_roK n k (m_roH n (nI k) z)
def m_by1 (h : Hp) (w j : Nat) : Int32 := h 66 (3 * w) * m_fx h (nI j) 3 / 4 * (if m_fx h (nI j) 2 < 150 then 1 else 2)
def m_d1 (w : Nat) (h : Hp) (j : Nat) : Hp := m_change (m_change h (nI j) (m_by1 h w j)) (nI j) (m_change h (nI j) (m_by1 h w j) 66 (3 * w + 1) * m_fx (m_change h (nI j) (m_by1 h w j)) (nI j) 3 / 2)
def m_by3 (h : Hp) (w j : Nat) : Int32 := -(h 66 (3 * w + 2) * m_fx h (nI j) 3 / 5 / (if m_po h (nI j) 2 = 1 then 2 else 1))
def m_d3 (w : Nat) (h : Hp) (j : Nat) : Hp := m_change (m_change h (nI j) (m_by3 h w j)) (nI j) (-(m_po (m_change h (nI j) (m_by3 h w j)) (nI j) 0 * (100 - m_po (m_change h (nI j) (m_by3 h w j)) (nI j) 1) / 200))
def m_rot (h : Hp) (j : Nat) : Hp := m_set h (nI j) 2 0
def m_h1 (n w : Nat) (h : Hp) : Hp := fd (m_d1 w) h n
def m_h3 (n f w : Nat) (h : Hp) : Hp := fd (m_d3 w) (fd (m_flock n) (m_h1 n w h) f) n
def m_h4 (n f w : Nat) (h : Hp) : Hp := m_roK n 301 (m_h3 n f w h)
def m_h5 (n f w : Nat) (h : Hp) : Hp := if nI w = 9 then fd m_rot (m_h4 n f w h) n else m_h4 n f w h
def m_day (n f t : Nat) (h : Hp) : Hp := hp_up (m_h5 n f (t % 10) h) 69 0 (m_h5 n f (t % 10) h 69 0 + 1)
def m_dayU (n f t : Nat) (h : Hp) : Int32 := m_drunk n (m_h1 n (t % 10) h) f
def m_days (n f t : Nat) (h : Hp) : Nat → Hp := fd (fun z i => m_day n f (t + i) z) h
def m_daysU (n f t : Nat) (h : Hp) : Nat → Int32 := fd (fun u i => u + m_dayU n f (t + i) (m_days n f t h i)) 0
/-! the rows that stay -/
theorem m_set_ne {h : Hp} {x y v : Int32} {a : Nat} (e : a ≠ 67) : m_set h x y v a = h a := hp_ne e
theorem m_setFl_ne {h : Hp} {x y v : Int32} {a : Nat} (e : a ≠ 68) : m_setFl h x y v a = h a := hp_ne e
theorem m_change_ne {h : Hp} {x b : Int32} {a : Nat} (e : a ≠ 67) : m_change h x b a = h a := hp_ne e
theorem m_set_at {h : Hp} {a k b : Nat} {v : Int32} (h5 : 5 * a + k < 2 ^ 31) : m_set h (nI a) (nI k) v 67 b = if b = 5 * a + k then v else h 67 b := by
  unfold m_set
  rw [ix_nI h5, hp_eq]
  rfl
theorem m_setFl_at {h : Hp} {a k b : Nat} {v : Int32} (h5 : 5 * a + k < 2 ^ 31) : m_setFl h (nI a) (nI k) v 68 b = if b = 5 * a + k then v else h 68 b := by
  unfold m_setFl
  rw [ix_nI h5, hp_eq]
  rfl
theorem m_po_nI {h : Hp} {a k : Nat} (h5 : 5 * a + k < 2 ^ 31) : m_po h (nI a) (nI k) = h 67 (5 * a + k) := by unfold m_po; rw [ix_nI h5]
theorem m_fl_nI {h : Hp} {a k : Nat} (h5 : 5 * a + k < 2 ^ 31) : m_fl h (nI a) (nI k) = h 68 (5 * a + k) := by unfold m_fl; rw [ix_nI h5]
theorem m_fx_nI {h : Hp} {a k : Nat} (h5 : 5 * a + k < 2 ^ 31) : m_fx h (nI a) (nI k) = h 65 (5 * a + k) := by unfold m_fx; rw [ix_nI h5]
/-- what a step may change: of the table not the links, of the herds not the ponds, the day -/
def mK (n f : Nat) (h h' : Hp) : Prop := (∀ a, a ≠ 67 → a ≠ 68 → h' a = h a) ∧ (∀ j, j < n → h' 67 (5 * j + 3) = h 67 (5 * j + 3)) ∧ (∀ j, j < f → h' 68 (5 * j + 1) = h 68 (5 * j + 1) ∨ isN n (h' 68 (5 * j + 1)))
theorem mK.refl {n f : Nat} {h : Hp} : mK n f h h := ⟨fun _ _ _ => rfl, fun _ _ => rfl, fun _ _ => Or.inl rfl⟩
theorem mK.trans {n f : Nat} {a b c : Hp} (h1 : mK n f a b) (h2 : mK n f b c) : mK n f a c := by
  refine ⟨fun q e1 e2 => (h2.1 q e1 e2).trans (h1.1 q e1 e2), fun j hj => (h2.2.1 j hj).trans (h1.2.1 j hj), fun j hj => ?_⟩
  rcases h2.2.2 j hj with z | z
  · rcases h1.2.2 j hj with y | y
    · exact Or.inl (z.trans y)
    · exact Or.inr (by rw [z]; exact y)
  · exact Or.inr z
theorem OM.mK {n f : Nat} {h h' : Hp} (H : OM n f h) (k : mK n f h h') : OM n f h' := by
  obtain ⟨a1, a2, a3, a4, a5, a6⟩ := H
  obtain ⟨k1, k2, k3⟩ := k
  refine ⟨by rw [k1 64 (by omega) (by omega)]; exact a1, a2, by rw [k1 64 (by omega) (by omega)]; exact a3, a4, fun j hj => by rw [k2 j hj]; exact a5 j hj, fun j hj => ?_⟩
  rcases k3 j hj with z | z
  · rw [z]; exact a6 j hj
  · exact z
theorem mK_set {n f k : Nat} {h : Hp} {x v : Int32} (hx : isN 10 x) (hk : k < 5) (h3 : k ≠ 3) : mK n f h (m_set h x (nI k) v) := by
  obtain ⟨a, ha, rfl⟩ := hx
  refine ⟨fun q e1 _ => m_set_ne e1, fun j hj => ?_, fun j hj => Or.inl (by rw [m_set_ne (by omega)])⟩
  rw [m_set_at (by omega), if_neg (by omega)]
theorem mK_setFl {n f k : Nat} {h : Hp} {x v : Int32} (hx : isN 7 x) (hk : k < 5) (h1 : k ≠ 1 ∨ isN n v) : mK n f h (m_setFl h x (nI k) v) := by
  obtain ⟨a, ha, rfl⟩ := hx
  refine ⟨fun q _ e2 => m_setFl_ne e2, fun j hj => by rw [m_setFl_ne (by omega)], fun j hj => ?_⟩
  rw [m_setFl_at (by omega)]
  by_cases e : 5 * j + 1 = 5 * a + k
  · rw [if_pos e]
    exact Or.inr (h1.resolve_left (by omega))
  · rw [if_neg e]; exact Or.inl rfl
theorem mK_change {n f : Nat} {h : Hp} {x b : Int32} (hx : isN 10 x) : mK n f h (m_change h x b) := mK_set (k := 0) hx (by omega) (by omega)
theorem mK_d1 {n f w j : Nat} {h : Hp} (hj : j < 10) : mK n f h (m_d1 w h j) := (mK_change ⟨j, hj, rfl⟩).trans (mK_change ⟨j, hj, rfl⟩)
theorem mK_d3 {n f w j : Nat} {h : Hp} (hj : j < 10) : mK n f h (m_d3 w h j) := (mK_change ⟨j, hj, rfl⟩).trans (mK_change ⟨j, hj, rfl⟩)
theorem mK_rot {n f j : Nat} {h : Hp} (hj : j < 10) : mK n f h (m_rot h j) := mK_set (k := 2) ⟨j, hj, rfl⟩ (by omega) (by omega)
theorem m_fl_in {n f j : Nat} {h : Hp} (H : OM n f h) (hj : j < f) : isN n (m_fl h (nI j) 1) := by
  have := H.2.2.2.1
  rw [show m_fl h (nI j) 1 = h 68 (5 * j + 1) from m_fl_nI (k := 1) (by omega)]
  exact H.2.2.2.2.2 j hj
theorem m_po_in {n f j : Nat} {h : Hp} (H : OM n f h) (hj : j < n) : m_po h (nI j) 3 = -1 ∨ isN n (m_po h (nI j) 3) := by
  have := H.2.1
  rw [show m_po h (nI j) 3 = h 67 (5 * j + 3) from m_po_nI (k := 3) (by omega)]
  exact H.2.2.2.2.1 j hj
theorem mK_roam {n f : Nat} {h : Hp} {x : Int32} (hx : isN 7 x) : mK n f h (m_roam h n x) := by
  unfold m_roam
  split
  · exact mK.refl
  · split
    · exact mK.refl
    · split
      · split
        · exact mK.refl
        · rename_i c
          exact mK_setFl (k := 1) hx (by omega) (Or.inr ((best_in n (Nat.le_refl n)).resolve_left c))
      · exact mK.refl
theorem mK_dr4 {n f : Nat} {z : Hp} {x : Int32} (hx : isN 7 x) (hp : isN 10 (m_fl z x 1)) : mK n f z (m_dr4 z x) := by
  have k3 : mK n f z (m_dr3 z x) := ((mK_set (k := 0) hp (by omega) (by omega)).trans (mK_setFl (k := 4) hx (by omega) (Or.inl (by omega)))).trans (mK_setFl (k := 2) hx (by omega) (Or.inl (by omega)))
  unfold m_dr4
  split
  · exact k3.trans (mK_set (k := 1) hp (by omega) (by omega))
  · exact k3
theorem mK_flock {n f j : Nat} {h : Hp} (H : OM n f h) (hj : j < f) : mK n f h (m_flock n h j) := by
  have := H.2.2.2.1
  have hx : isN 7 (nI j) := ⟨j, by omega, rfl⟩
  unfold m_flock
  split
  · exact mK.refl
  · have k1 : mK n f h (m_roam h n (nI j)) := mK_roam hx
    exact k1.trans (mK_dr4 hx (isN_up (m_fl_in (H.mK k1) hj) H.2.1))
theorem mK_ro1 {n f j : Nat} {ht : Int32} {h : Hp} (H : OM n f h) (hj : j < n) : mK n f h (m_ro1 ht h j) := by
  have := H.2.1
  have hx : isN 10 (nI j) := ⟨j, by omega, rfl⟩
  have k2 : mK n f h (m_ro2 h j) := (mK_change hx).trans (mK_set (k := 4) hx (by omega) (by omega))
  unfold m_ro1
  split
  · exact mK.refl
  · split
    · split
      · exact k2
      · rename_i c
        exact k2.trans (mK_change (isN_up ((m_po_in (H.mK k2) hj).resolve_left c) H.2.1))
    · exact mK.refl
theorem mK_fd {n f : Nat} {h : Hp} {step : Hp → Nat → Hp} : ∀ k, (∀ z i, i < k → OM n f z → mK n f z (step z i)) → OM n f h → mK n f h (fd step h k)
  | 0, _, _ => mK.refl
  | k + 1, hs, H => by
    have ih := mK_fd k (fun z i hi => hs z i (by omega)) H
    exact ih.trans (hs _ k (by omega) (H.mK ih))
theorem mK_roK {n f : Nat} : ∀ (k : Nat) (z : Hp), OM n f z → mK n f z (m_roK n k z)
  | 0, _, _ => mK.refl
  | k + 1, z, H => by
    have k1 : mK n f z (m_roH n (nI k) z) := mK_fd n (fun y i hi Hy => mK_ro1 Hy hi) H
    exact k1.trans (mK_roK k _ (H.mK k1))
theorem mK_h5 {n f w : Nat} {h : Hp} (H : OM n f h) : mK n f h (m_h5 n f w h) := by
  have k1 : mK n f h (m_h1 n w h) := mK_fd n (fun z i hi Hz => mK_d1 (by have := Hz.2.1; omega)) H
  have k2 : mK n f (m_h1 n w h) (fd (m_flock n) (m_h1 n w h) f) := mK_fd f (fun z i hi Hz => mK_flock Hz hi) (H.mK k1)
  have k12 := k1.trans k2
  have k3 : mK n f h (m_h3 n f w h) := k12.trans (mK_fd n (fun z i hi Hz => mK_d3 (by have := Hz.2.1; omega)) (H.mK k12))
  have k4 : mK n f h (m_h4 n f w h) := k3.trans (mK_roK 301 _ (H.mK k3))
  unfold m_h5
  split
  · exact k4.trans (mK_fd n (fun z i hi Hz => mK_rot (by have := Hz.2.1; omega)) (H.mK k4))
  · exact k4
theorem OM.day {n f t : Nat} {h : Hp} (H : OM n f h) : OM n f (m_day n f t h) := by
  obtain ⟨a1, a2, a3, a4, a5, a6⟩ := H.mK (mK_h5 (w := t % 10) H)
  unfold m_day
  exact ⟨by rw [hp_ne (by omega)]; exact a1, a2, by rw [hp_ne (by omega)]; exact a3, a4, fun j hj => by rw [hp_ne (by omega)]; exact a5 j hj, fun j hj => by rw [hp_ne (by omega)]; exact a6 j hj⟩
theorem mday_t {n f t : Nat} {h : Hp} (H : OM n f h) (ht : h 69 0 = nI t) : m_day n f t h 69 0 = nI (t + 1) := by
  unfold m_day
  rw [hp_eq]
  simp only [upd, if_true]
  rw [(mK_h5 H).1 69 (by omega) (by omega), ht]
  exact nI_1 t
theorem mdays_ok {n f t : Nat} {h : Hp} (H : OM n f h) (ht : h 69 0 = nI t) : ∀ k, OM n f (m_days n f t h k) ∧ m_days n f t h k 69 0 = nI (t + k)
  | 0 => ⟨H, ht⟩
  | k + 1 => ⟨(mdays_ok H ht k).1.day, mday_t (mdays_ok H ht k).1 (mdays_ok H ht k).2⟩
theorem sub1 (x : Int32) : x + Int32.ofInt (-1) = x - 1 := by rw [Int32.sub_eq_add_neg]; rfl

