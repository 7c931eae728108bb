theorem PBd.less {d n j w : Nat} {B : Nat → Nat} {c : Hp} (h : PBd d n B c) (hj : j < n) (hw : w ≤ B j) : PBd d n B (hp_up c (d + 14 + j) 5 (nI w)) := (h.water (w := w) hj).mono (fun i hi => by
  by_cases e : i = j
  · subst e; simp only [if_true]; exact hw
  · simp only [e, if_false]; omega)
/-- sun and leak at a pond -/
theorem sim_sun {d n f j wi : Nat} {B : Nat → Nat} {c m : Hp} (hn : n ≤ 10) (hj : j < n) (hwi : wi < 10) (R : REL d n f c m) (P : PBd d n B c) (Wb : WBd d c) (hst : c (d + 14 + j) 7 = 0 ∨ c (d + 14 + j) 7 = 1) (hB : B j ≤ 2 ^ 20) :
    REL d n f (d_sun d (d + 2 + wi) c j) (m_d3 wi m j) ∧ PBd d n B (d_sun d (d + 2 + wi) c j) ∧ WBd d (d_sun d (d + 2 + wi) c j) := by
  obtain ⟨ht, sz, dp, w, li, a1, a2, a3, a4, a5, b1, b2, b3, b4, b5⟩ := P j hj
  obtain ⟨ss, hss, es⟩ := Wb wi 2 hwi (by omega)
  have hms : ss * sz ≤ 540 := Nat.mul_le_mul hss a2.2
  obtain ⟨v, hv, ev, e3⟩ : ∃ v : Nat, v ≤ 540 ∧ (if c (d + 14 + j) 7 = 0 then c (d + 2 + wi) 2 * c (d + 14 + j) 3 / 5 else c (d + 2 + wi) 2 * c (d + 14 + j) 3 / 5 / 2) = nI v ∧ m_by3 m wi j = -(nI v) := by
    unfold m_by3
    rw [show m 66 (3 * wi + 2) = c (d + 2 + wi) 2 from (R.2.2.2.1 wi 2 hwi (by omega)).symm, show m_fx m (nI j) 3 = c (d + 14 + j) 3 from R.fx (k := 3) hn hj (by omega), show m_po m (nI j) 2 = c (d + 14 + j) 7 from R.po (k := 2) hn hj (by omega), es, b2, pk_mul, show (5 : Int32) = nI 5 from rfl, pk_div (by omega) (by omega) (by omega)]
    rcases hst with z | z
    · refine ⟨ss * sz / 5, by omega, by rw [z, if_pos rfl], ?_⟩
      rw [z, if_neg (by decide), show (1 : Int32) = nI 1 from rfl, pk_div (by omega) (by omega) (by omega), Nat.div_one]
    · refine ⟨ss * sz / 5 / 2, by omega, ?_, ?_⟩
      · rw [z, if_neg (by decide), show (2 : Int32) = nI 2 from rfl, pk_div (by omega) (by omega) (by omega)]
      · rw [z, if_pos rfl, show (2 : Int32) = nI 2 from rfl, pk_div (by omega) (by omega) (by omega)]
  have c1e : p_dry c (d + 14 + j) (c (d + 2 + wi) 2) = hp_up c (d + 14 + j) 5 (nI (w - v)) := by
    unfold p_dry
    rw [ev, b4, offC (by omega) (by omega)]
  have R1 : REL d n f (hp_up c (d + 14 + j) 5 (nI (w - v))) (m_change m (nI j) (m_by3 m wi j)) := R.change hn hj (by rw [b4, e3]; exact offN (by omega) (by omega))
  have P1 : PBd d n B (hp_up c (d + 14 + j) 5 (nI (w - v))) := P.less hj (by omega)
  unfold d_sun m_d3
  rw [c1e]
  generalize hc1 : hp_up c (d + 14 + j) 5 (nI (w - v)) = c1 at R1 P1 ⊢
  generalize m_change m (nI j) (m_by3 m wi j) = m1 at R1 ⊢
  have W1 : WBd d c1 := by rw [← hc1]; exact Wb.other (fun i hi => by omega)
  have s6 : c1 (d + 14 + j) 6 = nI li := by rw [← hc1, hp_off (Or.inr (by omega))]; exact b5
  have s5 : c1 (d + 14 + j) 5 = nI (w - v) := by rw [← hc1, hp_eq]; unfold upd; rw [if_pos rfl]
  have hle : (w - v) * (100 - li) / 200 ≤ w - v := by
    have h1 : (w - v) * (100 - li) ≤ (w - v) * 100 := Nat.mul_le_mul_left _ (by omega)
    omega
  have hbig : (w - v) * (100 - li) ≤ 2 ^ 20 * 100 := Nat.mul_le_mul (by omega) (by omega)
  have el : c1 (d + 14 + j) 5 * (100 - c1 (d + 14 + j) 6) / 200 = nI ((w - v) * (100 - li) / 200) := by
    rw [s5, s6, show (100 : Int32) = nI 100 from rfl, pk_sub a5, pk_mul, show (200 : Int32) = nI 200 from rfl, pk_div (by omega) (by omega) (by omega)]
  have em : m_po m1 (nI j) 0 * (100 - m_po m1 (nI j) 1) / 200 = nI ((w - v) * (100 - li) / 200) := by
    rw [show m_po m1 (nI j) 0 = c1 (d + 14 + j) 5 from R1.po (k := 0) hn hj (by omega), show m_po m1 (nI j) 1 = c1 (d + 14 + j) 6 from R1.po (k := 1) hn hj (by omega)]
    exact el
  have ec : p_leak c1 (d + 14 + j) = hp_up c1 (d + 14 + j) 5 (nI (w - v - (w - v) * (100 - li) / 200)) := by
    unfold p_leak
    rw [el, s5, pk_sub hle]
  rw [ec, em]
  refine ⟨R1.change hn hj (by rw [s5]; exact offN (by omega) (by omega)), P1.less hj (by omega), W1.other (fun i hi => by omega)⟩
/-- the straw rots -/
theorem sim_rot {d n f j : Nat} {B : Nat → Nat} {c m : Hp} (hn : n ≤ 10) (hj : j < n) (R : REL d n f c m) (P : PBd d n B c) (Wb : WBd d c) :
    REL d n f (d_rot d c j) (m_rot m j) ∧ PBd d n B (d_rot d c j) ∧ WBd d (d_rot d c j) := by
  unfold d_rot m_rot
  exact ⟨R.set (k := 2) hn hj (by omega), P.other (fun i hi => Or.inr (by omega)), Wb.other (fun i hi => by omega)⟩
