theorem REL.change {d n f j : Nat} {c m : Hp} {b v : Int32} (hn : n ≤ 10) (h : REL d n f c m) (hj : j < n) (e : mxI 0 (c (d + 14 + j) 5 + b) = v) : REL d n f (hp_up c (d + 14 + j) 5 v) (m_change m (nI j) b) := by
  unfold m_change
  rw [show m_po m (nI j) 0 = c (d + 14 + j) 5 from h.po (k := 0) hn hj (by omega), e]
  exact h.set (k := 0) hn hj (by omega)
theorem PBd.mono {d n : Nat} {B B' : Nat → Nat} {c : Hp} (h : PBd d n B c) (hb : ∀ j, j < n → B j ≤ B' j) : PBd d n B' c := by
  intro j hj
  obtain ⟨ht, sz, dp, w, li, a1, a2, a3, a4, a5⟩ := h j hj
  exact ⟨ht, sz, dp, w, li, a1, a2, a3, Nat.le_trans a4 (hb j hj), a5⟩
theorem PBd.water {d n j w : Nat} {B : Nat → Nat} {c : Hp} (h : PBd d n B c) (hj : j < n) : PBd d n (fun i => if i = j then w else B i) (hp_up c (d + 14 + j) 5 (nI w)) := by
  intro i hi
  obtain ⟨ht, sz, dp, w1, li, a1, a2, a3, a4, a5, b1, b2, b3, b4, b5⟩ := h i hi
  by_cases e : i = j
  · subst e
    refine ⟨ht, sz, dp, w, li, a1, a2, a3, by simp, a5, ?_, ?_, ?_, ?_, ?_⟩
    · rw [hp_off (Or.inr (by omega))]; exact b1
    · rw [hp_off (Or.inr (by omega))]; exact b2
    · rw [hp_off (Or.inr (by omega))]; exact b3
    · rw [hp_eq]; unfold upd; rw [if_pos rfl]
    · rw [hp_off (Or.inr (by omega))]; exact b5
  · refine ⟨ht, sz, dp, w1, li, a1, a2, a3, by simp [e, a4], a5, ?_, ?_, ?_, ?_, ?_⟩ <;> rw [hp_off (Or.inl (by omega))] <;> assumption
theorem PBd.other {d n o k : Nat} {B : Nat → Nat} {c : Hp} {v : Int32} (h : PBd d n B c) (ho : ∀ j, j < n → o ≠ d + 14 + j ∨ (k ≠ 2 ∧ k ≠ 3 ∧ k ≠ 4 ∧ k ≠ 5 ∧ k ≠ 6)) : PBd d n B (hp_up c o k v) := by
  intro i hi
  obtain ⟨ht, sz, dp, w1, li, a1, a2, a3, a4, a5, b1, b2, b3, b4, b5⟩ := h i hi
  have hh := ho i hi
  exact ⟨ht, sz, dp, w1, li, a1, a2, a3, a4, a5, by rw [hp_off (by omega)]; exact b1, by rw [hp_off (by omega)]; exact b2, by rw [hp_off (by omega)]; exact b3, by rw [hp_off (by omega)]; exact b4, by rw [hp_off (by omega)]; exact b5⟩
theorem WBd.other {d o k : Nat} {c : Hp} {v : Int32} (h : WBd d c) (ho : ∀ j, j < 10 → o ≠ d + 2 + j) : WBd d (hp_up c o k v) := by
  intro i q hi hq
  rw [hp_off (Or.inl (fun z => ho i hi z.symm))]
  exact h i q hi hq
theorem lt150 {a : Nat} (h : a ≤ 300) : nI a < 150 ↔ a < 150 := nI_ltI (a := a) (b := 150) (by omega) (by omega)
/-- mist and rain at a pond -/
theorem sim_mist {d n f j wi : Nat} {B : Nat → Nat} {c m : Hp} (hn : n ≤ 10) (hj : j < n) (hwi : wi < 10) (R : REL d n f c m) (P : PBd d n B c) (Wb : WBd d c) (hB : B j ≤ 2 ^ 20) :
    REL d n f (d_mist d (d + 2 + wi) c j) (m_d1 wi m j) ∧ PBd d n (fun i => if i = j then B j + 540 else B i) (d_mist d (d + 2 + wi) c j) ∧ WBd d (d_mist d (d + 2 + wi) c j) := by
  obtain ⟨ht, sz, dp, w, li, a1, a2, a3, a4, a5, b1, b2, b3, b4, b5⟩ := P j hj
  obtain ⟨mm, hmm, em⟩ := Wb wi 0 hwi (by omega)
  obtain ⟨rr, hrr, er⟩ := Wb wi 1 hwi (by omega)
  have hms : mm * sz ≤ 540 := Nat.mul_le_mul hmm a2.2
  have hrs : rr * sz ≤ 540 := Nat.mul_le_mul hrr a2.2
  have hg : mm * sz / 4 * (if ht < 150 then 1 else 2) ≤ 270 := by
    split <;> omega
  generalize eg : mm * sz / 4 * (if ht < 150 then 1 else 2) = gg at hg
  have ec : c (d + 14 + j) 5 + (if c (d + 14 + j) 2 < 150 then c (d + 2 + wi) 0 * c (d + 14 + j) 3 / 4 else 2 * (c (d + 2 + wi) 0 * c (d + 14 + j) 3 / 4)) = nI (w + gg) := by
    rw [b4, b1, em, b2, pk_mul, show (4 : Int32) = nI 4 from rfl, pk_div (by omega) (by omega) (by omega)]
    simp only [lt150 a1]
    rw [← nI_add, ← eg]
    congr 1
    split
    · rw [Nat.mul_one]
    · rw [Nat.mul_comm _ 2]; exact pk_mul 2 _
  have e1 : m_by1 m wi j = nI gg := by
    unfold m_by1
    rw [show m 66 (3 * wi) = c (d + 2 + wi) 0 from (R.2.2.2.1 wi 0 hwi (by omega)).symm, show m_fx m (nI j) 3 = c (d + 14 + j) 3 from R.fx (k := 3) hn hj (by omega), show m_fx m (nI j) 2 = c (d + 14 + j) 2 from R.fx (k := 2) hn hj (by omega), b1, em, b2, pk_mul, show (4 : Int32) = nI 4 from rfl, pk_div (by omega) (by omega) (by omega)]
    simp only [lt150 a1]
    rw [← eg]
    split
    · exact pk_mul _ 1
    · exact pk_mul _ 2
  have c1e : p_mist c (d + 14 + j) (c (d + 2 + wi) 0) = hp_up c (d + 14 + j) 5 (nI (w + gg)) := by unfold p_mist; rw [ec]
  have R1 : REL d n f (hp_up c (d + 14 + j) 5 (nI (w + gg))) (m_change m (nI j) (m_by1 m wi j)) := R.change hn hj (by rw [b4, e1, nI_add]; exact mx0 (by omega))
  have P1 : PBd d n (fun i => if i = j then w + gg else B i) (hp_up c (d + 14 + j) 5 (nI (w + gg))) := P.water hj
  unfold d_mist m_d1
  rw [c1e]
  generalize hc1 : hp_up c (d + 14 + j) 5 (nI (w + gg)) = c1 at R1 P1 ⊢
  generalize m_change m (nI j) (m_by1 m wi j) = m1 at R1 ⊢
  have W1 : WBd d c1 := by rw [← hc1]; exact Wb.other (fun i hi => by omega)
  have s3 : c1 (d + 14 + j) 3 = nI sz := by rw [← hc1, hp_off (Or.inr (by omega))]; exact b2
  have s5 : c1 (d + 14 + j) 5 = nI (w + gg) := by rw [← hc1, hp_eq]; unfold upd; rw [if_pos rfl]
  have s1 : c1 (d + 2 + wi) 1 = nI rr := by rw [← hc1, hp_off (Or.inl (by omega))]; exact er
  have ec2 : c1 (d + 14 + j) 5 + c1 (d + 2 + wi) 1 * c1 (d + 14 + j) 3 / 2 = nI (w + gg + rr * sz / 2) := by
    rw [s5, s1, s3, pk_mul, show (2 : Int32) = nI 2 from rfl, pk_div (by omega) (by omega) (by omega), nI_add]
  have e2 : m1 66 (3 * wi + 1) * m_fx m1 (nI j) 3 / 2 = nI (rr * sz / 2) := by
    rw [show m1 66 (3 * wi + 1) = c1 (d + 2 + wi) 1 from (R1.2.2.2.1 wi 1 hwi (by omega)).symm, show m_fx m1 (nI j) 3 = c1 (d + 14 + j) 3 from R1.fx (k := 3) hn hj (by omega), s1, s3, pk_mul, show (2 : Int32) = nI 2 from rfl, pk_div (by omega) (by omega) (by omega)]
  unfold p_rain
  rw [ec2, e2]
  refine ⟨R1.change hn hj (by rw [s5, nI_add]; exact mx0 (by omega)), ?_, W1.other (fun i hi => by omega)⟩
  refine (P1.water (w := w + gg + rr * sz / 2) hj).mono (fun i hi => ?_)
  by_cases e : i = j
  · simp only [e, if_true]; omega
  · simp only [e, if_false]; omega
