/-! the order of running over -/
def hgt (d : Nat) (c : Hp) (j : Nat) : Nat := (c (d + 14 + j) 2).toNatClampNeg
def hlt (H : Nat → Nat) (a b : Nat) : Prop := H b < H a ∨ (H a = H b ∧ a < b)
theorem hlt_as {H : Nat → Nat} {a b : Nat} (h1 : hlt H a b) (h2 : hlt H b a) : False := by
  unfold hlt at h1 h2
  omega
theorem sorted_one {r : Nat → Nat → Prop} (as : ∀ a b, r a b → r b a → False) : ∀ (l1 l2 : List Nat), l1.Pairwise r → l2.Pairwise r → (∀ x, x ∈ l1 ↔ x ∈ l2) → l1 = l2
  | [], [], _, _, _ => rfl
  | [], b :: t2, _, _, h => absurd ((h b).mpr List.mem_cons_self) (List.not_mem_nil)
  | a :: t1, [], _, _, h => absurd ((h a).mp List.mem_cons_self) (List.not_mem_nil)
  | a :: t1, b :: t2, p1, p2, h => by
    rw [List.pairwise_cons] at p1 p2
    have hab : a = b := by
      apply Classical.byContradiction
      intro hne
      have h1 : a ∈ t2 := (List.mem_cons.mp ((h a).mp List.mem_cons_self)).resolve_left hne
      have h2 : b ∈ t1 := (List.mem_cons.mp ((h b).mpr List.mem_cons_self)).resolve_left (Ne.symm hne)
      exact as a b (p1.1 b h2) (p2.1 a h1)
    subst hab
    have e := sorted_one as t1 t2 p1.2 p2.2 (fun x => ⟨fun hx => ?_, fun hx => ?_⟩)
    · rw [e]
    · rcases List.mem_cons.mp ((h x).mp (List.mem_cons_of_mem _ hx)) with z | z
      · subst z
        exact absurd (p1.1 x hx) (fun y => as x x y y)
      · exact z
    · rcases List.mem_cons.mp ((h x).mpr (List.mem_cons_of_mem _ hx)) with z | z
      · subst z
        exact absurd (p2.1 x hx) (fun y => as x x y y)
      · exact z
def bL (d n : Nat) (c : Hp) : List Nat := (List.range n).map (fun r => (c (d + 13) r).toNatClampNeg)
def ORD (d n : Nat) (c : Hp) : Prop := (bL d n c).Pairwise (hlt (hgt d c)) ∧ (∀ j, j < n → j ∈ bL d n c) ∧ ∀ j, j ∈ bL d n c → j < n
theorem fd_fold {s1 : Hp → Nat → Hp} {g : Nat → Nat} {run : Hp → Nat → Hp} {c : Hp} (n : Nat) (h : ∀ k, k < n → s1 (fd s1 c k) k = run (fd s1 c k) (g k)) : fd s1 c n = ((List.range n).map g).foldl run c := by
  induction n with
  | zero => exact fd_0
  | succ n ih =>
    rw [fd_s, h n (by omega), ih (fun k hk => h k (by omega)), List.range_succ, List.map_append, List.foldl_append]
    rfl
theorem run1_13 {d q : Nat} {c : Hp} : d_run1 d c q (d + 13) = c (d + 13) := by
  unfold d_run1 p_spill
  split
  · rw [hp_ne (by omega), hp_ne (by omega)]
  · rw [hp_ne (by omega), hp_ne (by omega), hp_ne (by omega)]
theorem run1_k {d q o k : Nat} {c : Hp} (h5 : k ≠ 5) (h9 : k ≠ 9) : d_run1 d c q o k = c o k := by
  unfold d_run1 p_spill
  split
  · rw [hp_off (Or.inr h9), hp_off (Or.inr h5)]
  · rw [hp_off (Or.inr h5), hp_off (Or.inr h9), hp_off (Or.inr h5)]
theorem runs_13 {d : Nat} {c : Hp} (k : Nat) : fd (d_runS d) c k (d + 13) = c (d + 13) := by
  induction k with
  | zero => rw [fd_0]
  | succ k ih => rw [fd_s, d_runS_eq, run1_13, ih]
theorem class_runs {d n : Nat} {c : Hp} : fd (d_runS d) c n = (bL d n c).foldl (d_run1 d) c := fd_fold n (fun k _ => by rw [d_runS_eq, runs_13])
theorem m_run1_ne {h : Hp} {j a : Nat} (e : a ≠ 67) : m_run1 h j a = h a := by
  unfold m_run1 m_ro2
  split
  · split
    · rw [m_set_ne e, m_change_ne e]
    · rw [m_change_ne e, m_set_ne e, m_change_ne e]
  · rfl
/-- the reference's order -/
def mL (n : Nat) (H : Nat → Nat) : Nat → List Nat
  | 0 => []
  | K + 1 => (List.range n).filter (fun j => decide (H j = K)) ++ mL n H K
theorem m_roH_ne {n : Nat} {ht : Int32} {z : Hp} {a : Nat} (e : a ≠ 67) : fd (m_ro1 ht) z n a = z a := by
  induction n with
  | zero => rw [fd_0]
  | succ n ih =>
    rw [fd_s]
    by_cases c : m_fx (fd (m_ro1 ht) z n) (nI n) 2 = ht
    · rw [m_ro1_y c, m_run1_ne e, ih]
    · rw [m_ro1_n c, ih]
theorem m_roH_fold {n K : Nat} {H : Nat → Nat} {z : Hp} (hK : K ≤ 300) (hH : ∀ j, j < n → H j ≤ 300 ∧ m_fx z (nI j) 2 = nI (H j)) : m_roH n (nI K) z = ((List.range n).filter (fun j => decide (H j = K))).foldl m_run1 z := by
  unfold m_roH
  induction n with
  | zero => exact fd_0
  | succ n ih =>
    have ih := ih (fun j hj => hH j (by omega))
    have hz := hH n (by omega)
    have e1 : m_fx (fd (m_ro1 (nI K)) z n) (nI n) 2 = nI (H n) := by
      rw [← hz.2]
      unfold m_fx
      rw [m_roH_ne (by omega)]
    rw [fd_s, List.range_succ, List.filter_append, List.foldl_append, ← ih]
    by_cases c : H n = K
    · rw [m_ro1_y (by rw [e1, c])]
      simp [c]
    · rw [m_ro1_n (by rw [e1]; exact fun y => c ((nI_eq (by omega) (by omega)).mp y))]
      simp [c]
theorem m_roK_fold {n : Nat} {H : Nat → Nat} (K : Nat) (hK : K ≤ 301) : ∀ z : Hp, (∀ j, j < n → H j ≤ 300 ∧ m_fx z (nI j) 2 = nI (H j)) → m_roK n K z = (mL n H K).foldl m_run1 z := by
  induction K with
  | zero => intro z hz; rfl
  | succ K ih =>
    intro z hz
    show m_roK n K (m_roH n (nI K) z) = ((List.range n).filter (fun j => decide (H j = K)) ++ mL n H K).foldl m_run1 z
    rw [List.foldl_append, ← m_roH_fold (by omega) hz]
    refine ih (by omega) _ (fun j hj => ⟨(hz j hj).1, ?_⟩)
    rw [← (hz j hj).2]
    unfold m_fx m_roH
    rw [m_roH_ne (by omega)]
theorem mL_mem {n : Nat} {H : Nat → Nat} {x : Nat} (K : Nat) : x ∈ mL n H K ↔ x < n ∧ H x < K := by
  induction K with
  | zero => simp [mL]
  | succ K ih =>
    show x ∈ (List.range n).filter (fun j => decide (H j = K)) ++ mL n H K ↔ _
    rw [List.mem_append, ih, List.mem_filter, List.mem_range]
    simp only [decide_eq_true_eq]
    omega
theorem mL_sorted {n : Nat} {H : Nat → Nat} (K : Nat) : (mL n H K).Pairwise (hlt H) := by
  induction K with
  | zero => exact List.Pairwise.nil
  | succ K ih =>
    show ((List.range n).filter (fun j => decide (H j = K)) ++ mL n H K).Pairwise (hlt H)
    rw [List.pairwise_append]
    refine ⟨?_, ih, fun a ha b hb => ?_⟩
    · refine (List.Pairwise.filter _ List.pairwise_lt_range).imp_of_mem (fun {a b} ha hb hab => ?_)
      have h1 := (List.mem_filter.mp ha).2
      have h2 := (List.mem_filter.mp hb).2
      simp only [decide_eq_true_eq] at h1 h2
      exact Or.inr ⟨by omega, hab⟩
    · have h1 := (List.mem_filter.mp ha).2
      simp only [decide_eq_true_eq] at h1
      have h2 := (mL_mem K).mp hb
      exact Or.inl (by omega)
theorem orders_one {d n : Nat} {c : Hp} (O : ORD d n c) (hH : ∀ j, j < n → hgt d c j ≤ 300) : bL d n c = mL n (hgt d c) 301 := by
  refine sorted_one (fun a b => hlt_as) _ _ O.1 (mL_sorted 301) (fun x => ⟨fun hx => ?_, fun hx => ?_⟩)
  · have := O.2.2 x hx
    exact (mL_mem 301).mpr ⟨this, by have := hH x this; omega⟩
  · exact O.2.1 x ((mL_mem 301).mp hx).1
