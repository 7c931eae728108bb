/-- running over at pond q, as the class does it -/
def d_run1 (d : Nat) (h : Hp) (q : Nat) : Hp := if p_spill h (d + 14 + q) (d + 14 + q) 8 = -1 then p_spill h (d + 14 + q) else hp_up (p_spill h (d + 14 + q)) (d + 14 + (p_spill h (d + 14 + q) (d + 14 + q) 8).toNatClampNeg) 5 (p_spill h (d + 14 + q) (d + 14 + (p_spill h (d + 14 + q) (d + 14 + q) 8).toNatClampNeg) 5 + p_over h (d + 14 + q))
theorem d_runS_eq {d r : Nat} {h : Hp} : d_runS d h r = d_run1 d h (h (d + 13) r).toNatClampNeg := rfl
/-- and the reference -/
def m_run1 (h : Hp) (j : Nat) : Hp := if 0 < m_more h j then (if m_po (m_ro2 h j) (nI j) 3 = -1 then m_ro2 h j else m_change (m_ro2 h j) (m_po (m_ro2 h j) (nI j) 3) (m_more h j)) else h
theorem m_ro1_y {ht : Int32} {h : Hp} {j : Nat} (c : m_fx h (nI j) 2 = ht) : m_ro1 ht h j = m_run1 h j := if_neg (fun z => z c)
theorem m_ro1_n {ht : Int32} {h : Hp} {j : Nat} (c : ¬ m_fx h (nI j) 2 = ht) : m_ro1 ht h j = h := if_pos c
def LBd (d n : Nat) (c : Hp) : Prop := ∀ j, j < n → c (d + 14 + j) 8 = -1 ∨ ∃ t, t < n ∧ c (d + 14 + j) 8 = nI t ∧ (c (d + 14 + t) 2).toNatClampNeg < (c (d + 14 + j) 2).toNatClampNeg
theorem LBd.up {d n j k : Nat} {c : Hp} {v : Int32} (L : LBd d n c) (hk : k ≠ 2 ∧ k ≠ 8) : LBd d n (hp_up c (d + 14 + j) k v) := by
  intro i hi
  rcases L i hi with z | ⟨t, h1, h2, h3⟩
  · left; rw [hp_off (Or.inr (by omega))]; exact z
  · right
    refine ⟨t, h1, ?_, ?_⟩
    · rw [hp_off (Or.inr (by omega))]; exact h2
    · rw [hp_off (Or.inr (by omega)), hp_off (Or.inr (by omega))]; exact h3
theorem sim_run {d n f q : Nat} {B : Nat → Nat} {c m : Hp} (hn : n ≤ 10) (hq : q < n) (R : REL d n f c m) (I : INV d n f B c) (L : LBd d n c) (hB : ∀ i, i < n → B i ≤ 2 ^ 25) :
    REL d n f (d_run1 d c q) (m_run1 m q) ∧ LBd d n (d_run1 d c q) ∧ (INV d n f (fun i => if i = q then 5400 else B i) (d_run1 d c q) ∨ ∃ t, t < n ∧ (c (d + 14 + t) 2).toNatClampNeg < (c (d + 14 + q) 2).toNatClampNeg ∧ INV d n f (fun i => if i = q then 5400 else if i = t then B t + B q else B i) (d_run1 d c q)) := by
  obtain ⟨ht, sz, dp, w, li, g1, g2, g3, g4, g5, k1, k2, k3, k4, k5⟩ := I.1 q hq
  have hBq := hB q hq
  have hsd : sz * dp ≤ 540 := Nat.mul_le_mul g2.2 g3.2
  have eh : p_holds c (d + 14 + q) = nI (sz * dp * 10) := by unfold p_holds; rw [k2, k3, pk_mul]; exact pk_mul _ 10
  generalize ehd : sz * dp * 10 = hd at eh
  have hhd : hd ≤ 5400 := by omega
  have eo : p_over c (d + 14 + q) = nI (w - hd) := by unfold p_over; rw [eh, k4, Int32.sub_eq_add_neg]; exact offN (by omega) (by omega)
  have x0 : m_po m (nI q) 0 = nI w := (R.po (k := 0) hn hq (by omega)).trans k4
  have xh : m_holds m (nI q) = nI hd := by
    unfold m_holds
    rw [show m_fx m (nI q) 3 = c (d + 14 + q) 3 from R.fx (k := 3) hn hq (by omega), show m_fx m (nI q) 4 = c (d + 14 + q) 4 from R.fx (k := 4) hn hq (by omega)]
    exact eh
  have esp : p_spill c (d + 14 + q) = hp_up (hp_up c (d + 14 + q) 5 (nI (w - (w - hd)))) (d + 14 + q) 9 (c (d + 14 + q) 9 + nI (w - hd)) := by
    unfold p_spill
    rw [eo, k4, pk_sub (show w - hd ≤ w by omega), hp_off (Or.inr (by omega))]
  have s8 : p_spill c (d + 14 + q) (d + 14 + q) 8 = c (d + 14 + q) 8 := by rw [esp, hp_off (Or.inr (by omega)), hp_off (Or.inr (by omega))]
  by_cases hex : hd < w
  · -- there is more
    have em : m_more m q = nI (w - hd) := by unfold m_more; rw [x0, xh]; exact pk_sub (by omega)
    have e1 : m_change m (nI q) (-nI (w - hd)) = m_change m (nI q) (-nI (w - hd)) := rfl
    have R1 : REL d n f (hp_up c (d + 14 + q) 5 (nI (w - (w - hd)))) (m_change m (nI q) (-nI (w - hd))) := R.change hn hq (by rw [k4]; exact offN (by omega) (by omega))
    have R2 : REL d n f (p_spill c (d + 14 + q)) (m_ro2 m q) := by
      unfold m_ro2
      rw [esp, em, show m_po (m_change m (nI q) (-nI (w - hd))) (nI q) 4 = c (d + 14 + q) 9 from (R1.po (k := 4) hn hq (by omega)).trans (hp_off (Or.inr (by omega)))]
      exact R1.set (k := 4) hn hq (by omega)
    have I1 : INV d n f (fun i => if i = q then 5400 else B i) (hp_up c (d + 14 + q) 5 (nI (w - (w - hd)))) := I.pnd hn hq (Or.inl rfl) ((I.1.water (w := w - (w - hd)) hq).mono (fun i hi => by
      by_cases e : i = q
      · simp only [e, if_true]; omega
      · simp only [e, if_false]; omega))
    have I2 : INV d n f (fun i => if i = q then 5400 else B i) (p_spill c (d + 14 + q)) := by
      rw [esp]
      exact I1.pnd hn hq (Or.inr (Or.inr (Or.inr rfl))) (I1.1.other (fun i hi => Or.inr (by omega)))
    have L2 : LBd d n (p_spill c (d + 14 + q)) := by rw [esp]; exact (L.up (by omega)).up (by omega)
    have hpos : 0 < m_more m q := by
      rw [em]
      exact (nI_ltI (a := 0) (b := w - hd) (by omega) (by omega)).mpr (by omega)
    have x3 : m_po (m_ro2 m q) (nI q) 3 = c (d + 14 + q) 8 := (R2.po (k := 3) hn hq (by omega)).trans s8
    unfold d_run1 m_run1
    rw [if_pos hpos, x3, s8]
    rcases L q hq with z | ⟨t, h1, h2, h3⟩
    · rw [if_pos z, if_pos z]
      exact ⟨R2, L2, Or.inl I2⟩
    · rw [if_neg (by rw [h2]; exact nI_m1 (by omega)), if_neg (by rw [h2]; exact nI_m1 (by omega)), h2, nI_clamp (by omega), em, eo]
      have htq : t ≠ q := by rintro rfl; omega
      obtain ⟨-, -, -, wt, -, -, -, -, y4, -, -, -, -, z4, -⟩ := I2.1 t h1
      have hBt := hB t h1
      have y4' : wt ≤ B t := by simpa [htq] using y4
      rw [z4, nI_add]
      refine ⟨R2.change hn h1 (by rw [z4, nI_add]; exact mx0 (by omega)), L2.up (by omega), Or.inr ⟨t, h1, h3, ?_⟩⟩
      refine I2.pnd hn h1 (Or.inl rfl) ((I2.1.water (w := wt + (w - hd)) h1).mono (fun i hi => ?_))
      by_cases e : i = t
      · subst e
        simp only [if_true, htq, if_false]
        omega
      · by_cases e2 : i = q
        · subst e2; simp [e]
        · simp [e, e2]
  · -- nothing more
    have hz : w - hd = 0 := by omega
    have same : p_spill c (d + 14 + q) = c := by
      rw [esp, hz, Nat.sub_zero, hp_same (c := c) (o := d + 14 + q) (k := 5) k4]
      exact hp_same (by rw [nI_0, Int32.add_zero])
    have hng : ¬ 0 < m_more m q := by
      unfold m_more
      rw [x0, xh]
      intro y
      have e := Int32.lt_iff_toInt_lt.mp y
      rw [pk_sub_toInt (by omega) (by omega), show (0 : Int32).toInt = 0 from by decide] at e
      omega
    have run0 : d_run1 d c q = c := by
      unfold d_run1
      rw [same, eo, hz]
      split
      · rfl
      · exact hp_same (by rw [nI_0, Int32.add_zero])
    rw [run0]
    unfold m_run1
    rw [if_neg hng]
    refine ⟨R, L, Or.inl ⟨?_, I.2⟩⟩
    intro i hi
    by_cases e : i = q
    · subst e
      exact ⟨ht, sz, dp, w, li, g1, g2, g3, by simp only [if_true]; omega, g5, k1, k2, k3, k4, k5⟩
    · simp only [e, if_false]
      exact I.1 i hi
