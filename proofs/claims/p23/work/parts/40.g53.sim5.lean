/-- what the class's numbers keep within -/
def INV (d n f : Nat) (B : Nat → Nat) (c : Hp) : Prop := PBd d n B c ∧ WBd d c ∧ XBd d n c ∧ FBd d n f c ∧ SBd d n c
theorem INV.pnd {d n f j k : Nat} {B B' : Nat → Nat} {c : Hp} {v : Int32} (hn : n ≤ 10) (I : INV d n f B c) (hj : j < n) (hk : k = 5 ∨ k = 6 ∨ k = 8 ∨ k = 9) (P : PBd d n B' (hp_up c (d + 14 + j) k v)) : INV d n f B' (hp_up c (d + 14 + j) k v) := by
  obtain ⟨-, i2, i3, i4, i5⟩ := I
  refine ⟨P, i2.other (fun i hi => by omega), fun i hi => ?_, fun i hi => ?_, fun i hi => ?_⟩
  · obtain ⟨x, y, a1, a2, a3, a4⟩ := i3 i hi
    exact ⟨x, y, a1, a2, by rw [hp_off (Or.inr (by omega))]; exact a3, by rw [hp_off (Or.inr (by omega))]; exact a4⟩
  · obtain ⟨s, q, th, a1, a2, a3, b1, b2, b3⟩ := i4 i hi
    exact ⟨s, q, th, a1, a2, a3, by rw [hp_off (Or.inl (by omega))]; exact b1, by rw [hp_off (Or.inl (by omega))]; exact b2, by rw [hp_off (Or.inl (by omega))]; exact b3⟩
  · rw [hp_off (Or.inr (by omega))]; exact i5 i hi
theorem INV.flk {d n f j k : Nat} {B : Nat → Nat} {c : Hp} {v : Int32} (hn : n ≤ 10) (I : INV d n f B c) (F : FBd d n f (hp_up c (d + 25 + j) k v)) : INV d n f B (hp_up c (d + 25 + j) k v) := by
  obtain ⟨i1, i2, i3, i4, i5⟩ := I
  refine ⟨i1.other (fun i hi => Or.inl (by omega)), i2.other (fun i hi => by omega), fun i hi => ?_, F, fun i hi => ?_⟩
  · obtain ⟨x, y, a1, a2, a3, a4⟩ := i3 i hi
    exact ⟨x, y, a1, a2, by rw [hp_off (Or.inl (by omega))]; exact a3, by rw [hp_off (Or.inl (by omega))]; exact a4⟩
  · rw [hp_off (Or.inl (by omega))]; exact i5 i hi
theorem INV.water {d n f j w : Nat} {B : Nat → Nat} {c : Hp} (hn : n ≤ 10) (I : INV d n f B c) (hj : j < n) (hw : w ≤ B j) : INV d n f B (hp_up c (d + 14 + j) 5 (nI w)) := I.pnd hn hj (Or.inl rfl) (I.1.less hj hw)
theorem PBd.lining {d n j l2 : Nat} {B : Nat → Nat} {c : Hp} (h : PBd d n B c) (hj : j < n) (hl : l2 ≤ 100) : PBd d n B (hp_up c (d + 14 + j) 6 (nI l2)) := by
  intro i hi
  obtain ⟨ht, sz, dp, w1, li, a1, a2, a3, a4, a5, b1, b2, b3, b4, b5⟩ := h i hi
  by_cases e : i = j
  · subst e
    exact ⟨ht, sz, dp, w1, l2, a1, a2, a3, a4, hl, by rw [hp_off (Or.inr (by omega))]; exact b1, by rw [hp_off (Or.inr (by omega))]; exact b2, by rw [hp_off (Or.inr (by omega))]; exact b3, by rw [hp_off (Or.inr (by omega))]; exact b4, by rw [hp_eq]; unfold upd; rw [if_pos rfl]⟩
  · exact ⟨ht, sz, dp, w1, li, a1, a2, a3, a4, a5, by rw [hp_off (Or.inl (by omega))]; exact b1, by rw [hp_off (Or.inl (by omega))]; exact b2, by rw [hp_off (Or.inl (by omega))]; exact b3, by rw [hp_off (Or.inl (by omega))]; exact b4, by rw [hp_off (Or.inl (by omega))]; exact b5⟩
theorem FBd.thirst {d n f j t2 : Nat} {c : Hp} (F : FBd d n f c) (ht : t2 ≤ 10) : FBd d n f (hp_up c (d + 25 + j) 2 (nI t2)) := by
  intro i hi
  obtain ⟨s, q, th, a1, a2, a3, b1, b2, b3⟩ := F i hi
  by_cases e : i = j
  · subst e
    exact ⟨s, q, t2, a1, a2, ht, by rw [hp_off (Or.inr (by omega))]; exact b1, by rw [hp_off (Or.inr (by omega))]; exact b2, by rw [hp_eq]; unfold upd; rw [if_pos rfl]⟩
  · exact ⟨s, q, th, a1, a2, a3, by rw [hp_off (Or.inl (by omega))]; exact b1, by rw [hp_off (Or.inl (by omega))]; exact b2, by rw [hp_off (Or.inl (by omega))]; exact b3⟩
theorem FBd.drunk {d n f j k : Nat} {c : Hp} {v : Int32} (F : FBd d n f c) (hk : 3 ≤ k) : FBd d n f (hp_up c (d + 25 + j) k v) := by
  intro i hi
  obtain ⟨s, q, th, a1, a2, a3, b1, b2, b3⟩ := F i hi
  exact ⟨s, q, th, a1, a2, a3, by rw [hp_off (Or.inr (by omega))]; exact b1, by rw [hp_off (Or.inr (by omega))]; exact b2, by rw [hp_off (Or.inr (by omega))]; exact b3⟩
/-- a flock drinks and treads -/
theorem sim_drink {d n f j p : Nat} {B : Nat → Nat} {c m : Hp} (hn : n ≤ 10) (hf : f ≤ 7) (hj : j < f) (hp : p < n) (R : REL d n f c m) (I : INV d n f B c) (hB : ∀ i, i < n → B i ≤ 2 ^ 20) (e1 : c (d + 25 + j) 1 = nI p) :
    mnI (f_need c (d + 25 + j)) (c (d + 14 + p) 5) = m_its m (nI j) ∧ REL d n f (d_drinkH (d + 25 + j) (d + 14 + p) c) (m_dr4 m (nI j)) ∧ INV d n f B (d_drinkH (d + 25 + j) (d + 14 + p) c) := by
  obtain ⟨s, q, th, a1, a2, a3, b1, b2, b3⟩ := I.2.2.2.1 j hj
  obtain ⟨ht, sz, dp, w, li, g1, g2, g3, g4, g5, k1, k2, k3, k4, k5⟩ := I.1 p hp
  have hBp := hB p hp
  have x0 : m_fl m (nI j) 0 = nI s := (R.fl (k := 0) hf hj (by omega)).trans b1
  have x1 : m_fl m (nI j) 1 = nI p := (R.fl (k := 1) hf hj (by omega)).trans e1
  have y0' : m_po m (nI p) 0 = nI w := (R.po (k := 0) hn hp (by omega)).trans k4
  have en : f_need c (d + 25 + j) = nI (2 * s) := by unfold f_need; rw [b1]; exact pk_mul 2 s
  have em : m_its m (nI j) = nI (min (2 * s) w) := by
    unfold m_its
    rw [x0, x1, y0', show (2 : Int32) * nI s = nI (2 * s) from pk_mul 2 s]
    exact mnN (by omega) (by omega)
  have eg : mnI (f_need c (d + 25 + j)) (c (d + 14 + p) 5) = nI (min (2 * s) w) := by rw [en, k4]; exact mnN (by omega) (by omega)
  refine ⟨eg.trans em.symm, ?_⟩
  have hgw : min (2 * s) w ≤ w := Nat.min_le_right _ _
  unfold d_drinkH
  rw [eg]
  -- the water
  have c1e : p_give c (d + 14 + p) (f_need c (d + 25 + j)) = hp_up c (d + 14 + p) 5 (nI (w - min (2 * s) w)) := by unfold p_give; rw [eg, k4, pk_sub hgw]
  have m1e : m_dr1 m (nI j) = m_set m (nI p) 0 (nI (w - min (2 * s) w)) := by unfold m_dr1; rw [x1, y0', em, pk_sub hgw]
  have R1 : REL d n f (hp_up c (d + 14 + p) 5 (nI (w - min (2 * s) w))) (m_dr1 m (nI j)) := by rw [m1e]; exact R.set (k := 0) hn hp (by omega)
  have I1 : INV d n f B (hp_up c (d + 14 + p) 5 (nI (w - min (2 * s) w))) := I.water hn hp (by omega)
  rw [c1e]
  have z0 : hp_up c (d + 14 + p) 5 (nI (w - min (2 * s) w)) (d + 25 + j) 0 = nI s := by rw [hp_off (Or.inl (by omega))]; exact b1
  have z2 : hp_up c (d + 14 + p) 5 (nI (w - min (2 * s) w)) (d + 25 + j) 2 = nI th := by rw [hp_off (Or.inl (by omega))]; exact b3
  have z6 : hp_up c (d + 14 + p) 5 (nI (w - min (2 * s) w)) (d + 14 + p) 6 = nI li := by rw [hp_off (Or.inr (by omega))]; exact k5
  generalize hp_up c (d + 14 + p) 5 (nI (w - min (2 * s) w)) = c1 at R1 I1 z0 z2 z6 ⊢
  -- what it drank
  have m2e : m_dr2 m (nI j) = m_setFl (m_dr1 m (nI j)) (nI j) 4 (c1 (d + 25 + j) 4 + nI (min (2 * s) w)) := by
    unfold m_dr2
    rw [em, show m_fl (m_dr1 m (nI j)) (nI j) 4 = c1 (d + 25 + j) 4 from R1.fl (k := 4) hf hj (by omega)]
  have R2 : REL d n f (f_drinkA c1 (d + 25 + j) (nI (min (2 * s) w))) (m_dr2 m (nI j)) := by rw [m2e]; exact R1.setFl (k := 4) hn hf hj (by omega)
  have I2 : INV d n f B (f_drinkA c1 (d + 25 + j) (nI (min (2 * s) w))) := I1.flk hn (I1.2.2.2.1.drunk (by omega))
  have u0 : f_drinkA c1 (d + 25 + j) (nI (min (2 * s) w)) (d + 25 + j) 0 = nI s := by unfold f_drinkA; rw [hp_off (Or.inr (by omega))]; exact z0
  have u2 : f_drinkA c1 (d + 25 + j) (nI (min (2 * s) w)) (d + 25 + j) 2 = nI th := by unfold f_drinkA; rw [hp_off (Or.inr (by omega))]; exact z2
  have u6 : f_drinkA c1 (d + 25 + j) (nI (min (2 * s) w)) (d + 14 + p) 6 = nI li := by unfold f_drinkA; rw [hp_off (Or.inl (by omega))]; exact z6
  unfold f_drink
  generalize f_drinkA c1 (d + 25 + j) (nI (min (2 * s) w)) = c2 at R2 I2 u0 u2 u6 ⊢
  -- its thirst
  obtain ⟨t2, ht2, et, em3⟩ : ∃ t2 : Nat, t2 ≤ 10 ∧ (if nI (min (2 * s) w) < f_need c2 (d + 25 + j) then hp_up c2 (d + 25 + j) 2 (mnI 10 (c2 (d + 25 + j) 2 + 3)) else hp_up c2 (d + 25 + j) 2 (mxI 0 (c2 (d + 25 + j) 2 - 2))) = hp_up c2 (d + 25 + j) 2 (nI t2) ∧ m_dr3 m (nI j) = m_setFl (m_dr2 m (nI j)) (nI j) 2 (nI t2) := by
    have en2 : f_need c2 (d + 25 + j) = nI (2 * s) := by unfold f_need; rw [u0]; exact pk_mul 2 s
    have et2 : m_fl (m_dr2 m (nI j)) (nI j) 2 = nI th := (R2.fl (k := 2) hf hj (by omega)).trans u2
    unfold m_dr3
    rw [en2, em, x0, et2, u2, show (2 : Int32) * nI s = nI (2 * s) from pk_mul 2 s]
    by_cases hlt : min (2 * s) w < 2 * s
    · rw [if_pos ((nI_ltI (by omega) (by omega)).mpr hlt), if_neg (fun y => absurd ((nI_eq (by omega) (by omega)).mp y) (by omega)), show (3 : Int32) = nI 3 from rfl, nI_add, show (10 : Int32) = nI 10 from rfl, mnN (by omega) (by omega)]
      exact ⟨min 10 (th + 3), Nat.min_le_left _ _, rfl, rfl⟩
    · rw [if_neg (fun y => hlt ((nI_ltI (by omega) (by omega)).mp y)), if_pos ((nI_eq (by omega) (by omega)).mpr (by omega)), show (2 : Int32) = nI 2 from rfl, Int32.sub_eq_add_neg, offN (by omega) (by omega)]
      exact ⟨th - 2, by omega, rfl, rfl⟩
  rw [et]
  have R3 : REL d n f (hp_up c2 (d + 25 + j) 2 (nI t2)) (m_dr3 m (nI j)) := by rw [em3]; exact R2.setFl (k := 2) hn hf hj (by omega)
  have I3 : INV d n f B (hp_up c2 (d + 25 + j) 2 (nI t2)) := I2.flk hn (I2.2.2.2.1.thirst ht2)
  have v0 : hp_up c2 (d + 25 + j) 2 (nI t2) (d + 25 + j) 0 = nI s := by rw [hp_off (Or.inr (by omega))]; exact u0
  have v6 : hp_up c2 (d + 25 + j) 2 (nI t2) (d + 14 + p) 6 = nI li := by rw [hp_off (Or.inl (by omega))]; exact u6
  generalize hp_up c2 (d + 25 + j) 2 (nI t2) = c3 at R3 I3 v0 v6 ⊢
  -- the lining
  unfold p_tread m_dr4
  rw [x1, show m_po (m_dr3 m (nI j)) (nI p) 2 = c3 (d + 14 + p) 7 from R3.po (k := 2) hn hp (by omega), show m_po (m_dr3 m (nI j)) (nI p) 1 = c3 (d + 14 + p) 6 from R3.po (k := 1) hn hp (by omega), show m_fl (m_dr3 m (nI j)) (nI j) 0 = c3 (d + 25 + j) 0 from R3.fl (k := 0) hf hj (by omega), v0, v6]
  by_cases hs : c3 (d + 14 + p) 7 = 0
  · rw [if_pos hs, if_pos hs]
    refine ⟨R3.set (k := 1) hn hp (by omega), I3.pnd hn hp (Or.inr (Or.inl rfl)) ?_⟩
    rw [show (10 : Int32) = nI 10 from rfl, pk_div (by omega) (by omega) (by omega), Int32.sub_eq_add_neg, offN (by omega) (by omega)]
    exact I3.1.lining hp (by omega)
  · rw [if_neg hs, if_neg hs]
    exact ⟨R3, I3⟩
