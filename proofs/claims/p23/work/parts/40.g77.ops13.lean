theorem OK.link {d n f q : Nat} {h : Hp} {v : Int32} (H : OK d n f h) (hq : q < 10) (hv : v = -1 ∨ isN n v) : OK d n f (hp_up h (d + 14 + q) 8 v) := by
  obtain ⟨a1, a2, a3, a4, a5, a6, a7, a8, a9⟩ := H
  refine ⟨by rw [hp_ne (by omega)]; exact a1, a2, by rw [hp_ne (by omega)]; exact a3, a4, fun j hj => ?_, fun j hj => by rw [hp_ne (by omega)]; exact a6 j hj, fun r hr => by rw [hp_ne (by omega)]; exact a7 r hr, fun j hj => ?_, fun j hj => by rw [hp_ne (by omega)]; exact a9 j hj⟩
  · by_cases e : j = q
    · subst e
      rw [hp_eq]
      unfold upd
      rw [if_pos rfl]
      exact hv
    · rw [hp_ne (by omega)]; exact a5 j hj
  · rw [hp_off (Or.inr (by omega))]
    exact a8 j hj
theorem LBd.link {d n q : Nat} {h : Hp} {v : Int32} (L : LBd d n h) (hv : v = -1 ∨ ∃ t, t < n ∧ v = nI t ∧ (h (d + 14 + t) 2).toNatClampNeg < (h (d + 14 + q) 2).toNatClampNeg) : LBd d n (hp_up h (d + 14 + q) 8 v) := by
  intro j hj
  rw [hp_off (Or.inr (show 2 ≠ 8 by omega))]
  by_cases e : j = q
  · subst e
    have e8 : hp_up h (d + 14 + j) 8 v (d + 14 + j) 8 = v := by rw [hp_eq]; unfold upd; rw [if_pos rfl]
    rw [e8]
    rcases hv with z | ⟨t, h1, h2, h3⟩
    · exact Or.inl z
    · exact Or.inr ⟨t, h1, h2, by rw [hp_off (Or.inr (show 2 ≠ 8 by omega))]; exact h3⟩
  · rw [hp_ne (show d + 14 + j ≠ d + 14 + q by omega)]
    rcases L j hj with z | ⟨t, h1, h2, h3⟩
    · exact Or.inl z
    · exact Or.inr ⟨t, h1, h2, by rw [hp_off (Or.inr (show 2 ≠ 8 by omega))]; exact h3⟩
theorem top_link {n f t q j : Nat} {h : Hp} {v : Int32} (T : TOP n f t q h) (hj : j < n) (hv : v = -1 ∨ ∃ t, t < n ∧ v = nI t ∧ (h (1 + 14 + t) 2).toNatClampNeg < (h (1 + 14 + j) 2).toNatClampNeg) :
    TOP n f t q (m_set (y0 (hp_up h (1 + 14 + j) 8 v)) (nI j) 3 v) := by
  obtain ⟨⟨R, I, L, O⟩, K, M, hf, ht, hq, hc, hm, F⟩ := T
  have hn := K.2.1
  have hv2 : v = -1 ∨ isN n v := by
    rcases hv with z | ⟨t, h1, h2, _⟩
    · exact Or.inl z
    · exact Or.inr ⟨t, h1, h2⟩
  have hI : INV 1 n f (cB 5400) (hp_up h (1 + 14 + j) 8 v) := I.pnd hn hj (Or.inr (Or.inr (Or.inl rfl))) (I.1.other (fun i _ => Or.inr (by omega)))
  have O2 : ORD 1 n (hp_up h (1 + 14 + j) 8 v) := by
    have e : bL 1 n (hp_up h (1 + 14 + j) 8 v) = bL 1 n h := by unfold bL; rw [hp_ne (by omega)]
    have eh : hgt 1 (hp_up h (1 + 14 + j) 8 v) = hgt 1 h := by funext i; unfold hgt; rw [hp_off (Or.inr (by omega))]
    unfold ORD
    rw [e, eh]
    exact O
  have S0 : SIM 1 n f (hp_up h (1 + 14 + j) 8 v) (m_set h (nI j) 3 v) := ⟨R.set (k := 3) hn hj (by omega), hI, L.link hv, O2⟩
  have M0 : OM n f (m_set h (nI j) 3 v) := by
    obtain ⟨a1, a2, a3, a4, a5, a6⟩ := M
    refine ⟨by rw [m_set_ne (by omega)]; exact a1, a2, by rw [m_set_ne (by omega)]; exact a3, a4, fun i hi => ?_, fun i hi => by rw [m_set_ne (by omega)]; exact a6 i hi⟩
    rw [show m_set h (nI j) 3 v 67 (5 * i + 3) = if 5 * i + 3 = 5 * j + 3 then v else h 67 (5 * i + 3) from m_set_at (k := 3) (by omega)]
    by_cases e : i = j
    · rw [if_pos (by omega)]; exact hv2
    · rw [if_neg (by omega)]; exact a5 i hi
  have zlo : ∀ o, o < 32 → m_set (y0 (hp_up h (1 + 14 + j) 8 v)) (nI j) 3 v o = hp_up h (1 + 14 + j) 8 v o := fun o ho => by rw [m_set_ne (by omega), y0_ne (by omega)]
  have zhi : ∀ o, 65 ≤ o → m_set (y0 (hp_up h (1 + 14 + j) 8 v)) (nI j) 3 v o = m_set h (nI j) 3 v o := fun o ho => by
    by_cases e : o = 67
    · subst e
      unfold m_set
      rw [hp_eq, hp_eq, y0_ne (by omega), hp_ne (by omega)]
    · rw [m_set_ne e, m_set_ne e, y0_ne (by omega), hp_ne (by omega)]
  have z64 : m_set (y0 (hp_up h (1 + 14 + j) 8 v)) (nI j) 3 v 64 = y0 (hp_up h (1 + 14 + j) 8 v) 64 := m_set_ne (by omega)
  refine ⟨(S0.ccongr hn hf zlo).mcongr zhi, (K.link (by omega) hv2).lo zlo, M0.mcg zhi ?_ ?_, hf, ?_, hq, ?_, ?_, fun i h1 h2 => ?_⟩
  · rw [z64, y0_1, hp_ne (by omega), m_set_ne (by omega)]
  · rw [z64, y0_3, hp_ne (by omega), m_set_ne (by omega)]
  · rw [zlo 1 (by omega), hp_ne (by omega)]; exact ht
  · rw [zlo 1 (by omega), hp_ne (by omega)]; exact hc
  · rw [zhi 69 (by omega), m_set_ne (by omega)]; exact hm
  · obtain ⟨g1, g2, g3, g4, g5⟩ := F i h1 h2
    have em : ∀ b, b ≠ 5 * j + 3 → m_set h (nI j) 3 v 67 b = h 67 b := fun b hb => by rw [show m_set h (nI j) 3 v 67 b = if b = 5 * j + 3 then v else h 67 b from m_set_at (k := 3) (by omega), if_neg hb]
    rw [zlo _ (by omega), hp_ne (by omega), zhi 67 (by omega), em _ (by omega), em _ (by omega), em _ (by omega), em _ (by omega)]
    exact ⟨g1, g2, g3, g4, g5⟩
theorem op_link {n f t q : Nat} {h : Hp} {p o : Int32} (T : TOP n f t q h) :
    (∃ v h2, x_link n h p o = rI v h2 ∧ (y_link h2 p o).1 = v ∧ (y_link h2 p o).2 64 0 = 0 ∧ TOP n f t q (y_link h2 p o).2) ∨ (x_link n h p o = .inr E_I ∧ y_link h p o = yF h 1) ∨ (x_link n h p o = .inr E_A ∧ y_link h p o = yF h 2) := by
  have hn := T.2.1.2.1
  have i1 : ∀ (x : Int32) (z : Hp), z 64 1 = h 64 1 → ((¬ x < 0 ∧ x < nI n) ↔ ¬ bI (0 ≤ x ∧ x ≤ y0 z 64 1 - 1) = 0) := fun x z hz => in_iff (y0_1.trans (hz.trans T.2.2.1.1)) hn
  have epd : ∀ j, j < 10 → pd (nI j) = 1 + 14 + j := fun j hj => by show 1 + 14 + (nI j).toNatClampNeg = _; rw [nI_clamp (by omega)]
  have fin : ∀ (j : Nat), j < n → ∀ v, (v = -1 ∨ ∃ t, t < n ∧ v = nI t ∧ (h (1 + 14 + t) 2).toNatClampNeg < (h (1 + 14 + j) 2).toNatClampNeg) → y_link (hp_up h (1 + 14 + j) 8 v) (nI j) v = (m_po (y0 (hp_up h (1 + 14 + j) 8 v)) (nI j) 3, m_set (y0 (hp_up h (1 + 14 + j) 8 v)) (nI j) 3 v) → 
      (y_link (hp_up h (1 + 14 + j) 8 v) (nI j) v).1 = h (1 + 14 + j) 8 ∧ (y_link (hp_up h (1 + 14 + j) 8 v) (nI j) v).2 64 0 = 0 ∧ TOP n f t q (y_link (hp_up h (1 + 14 + j) 8 v) (nI j) v).2 := by
    intro j hj v hv hy
    rw [hy]
    refine ⟨?_, ?_, top_link T hj hv⟩
    · show m_po (y0 (hp_up h (1 + 14 + j) 8 v)) (nI j) 3 = h (1 + 14 + j) 8
      rw [show m_po (y0 (hp_up h (1 + 14 + j) 8 v)) (nI j) 3 = y0 (hp_up h (1 + 14 + j) 8 v) 67 (5 * j + 3) from m_po_nI (k := 3) (by omega), y0_ne (by omega), hp_ne (by omega)]
      exact (T.1.1.2.1 j 3 hj (by omega)).symm
    · show m_set (y0 (hp_up h (1 + 14 + j) 8 v)) (nI j) 3 v 64 0 = 0
      rw [m_set_ne (by omega)]
      exact y0_0
  unfold x_link
  by_cases c1 : ¬ p < 0 ∧ p < nI n
  · rw [if_pos c1]
    obtain ⟨j, hj, e⟩ := inN_is (by omega) c1
    subst e
    rw [epd j (by omega)]
    have j1 : ∀ v, ¬ bI (0 ≤ nI j ∧ nI j ≤ y0 (hp_up h (1 + 14 + j) 8 v) 64 1 - 1) = 0 := fun v => (i1 _ _ (by rw [hp_ne (by omega)])).mp c1
    by_cases c2 : o = -1
    · rw [if_pos c2]
      left
      refine ⟨_, _, rfl, fin j hj o (Or.inl c2) ?_⟩
      unfold y_link
      rw [if_neg (j1 o), if_pos c2]
    · rw [if_neg c2]
      by_cases c3 : ¬ o < 0 ∧ o < nI n
      · rw [if_pos c3]
        obtain ⟨i, hi, e⟩ := inN_is (by omega) c3
        subst e
        rw [epd i (by omega)]
        obtain ⟨ht1, _, _, _, _, g1, _, _, _, _, k1, _⟩ := T.1.2.1.1 j hj
        obtain ⟨ht2, _, _, _, _, g2, _, _, _, _, k2, _⟩ := T.1.2.1.1 i hi
        have efx : ∀ z : Hp, z 65 = h 65 → (m_fx (y0 z) (nI i) 2 < m_fx (y0 z) (nI j) 2 ↔ h (1 + 14 + i) 2 < h (1 + 14 + j) 2) := by
          intro z hz
          have r1 : ∀ a, a < n → m_fx (y0 z) (nI a) 2 = h (1 + 14 + a) 2 := fun a ha => by
            rw [show m_fx (y0 z) (nI a) 2 = y0 z 65 (5 * a + 2) from m_fx_nI (k := 2) (by omega), y0_ne (by omega), hz]
            exact (T.1.1.1 a 2 ha (by omega)).symm
          rw [r1 i hi, r1 j hj]
        by_cases c4 : h (1 + 14 + i) 2 < h (1 + 14 + j) 2
        · rw [if_pos c4]
          left
          have hlow : (h (1 + 14 + i) 2).toNatClampNeg < (h (1 + 14 + j) 2).toNatClampNeg := by
            rw [k1, k2] at c4
            rw [k1, k2, nI_clamp (by omega), nI_clamp (by omega)]
            exact (nI_ltI (by omega) (by omega)).mp c4
          refine ⟨_, _, rfl, fin j hj (nI i) (Or.inr ⟨i, hi, rfl, hlow⟩) ?_⟩
          unfold y_link
          rw [if_neg (j1 _), if_neg c2, if_neg ((i1 _ _ (by rw [hp_ne (by omega)])).mp c3), if_pos ((efx _ (by rw [hp_ne (by omega)])).mpr c4)]
        · rw [if_neg c4]
          refine Or.inr (Or.inr ⟨rfl, ?_⟩)
          unfold y_link
          rw [if_neg ((i1 _ _ rfl).mp c1), if_neg c2, if_neg ((i1 _ _ rfl).mp c3), if_neg (fun z => c4 ((efx h rfl).mp z))]
      · rw [if_neg c3]
        refine Or.inr (Or.inl ⟨rfl, ?_⟩)
        unfold y_link
        rw [if_neg ((i1 _ _ rfl).mp c1), if_neg c2, if_pos (Decidable.not_not.mp (fun z => c3 ((i1 _ h rfl).mpr z)))]
  · rw [if_neg c1]
    refine Or.inr (Or.inl ⟨rfl, ?_⟩)
    unfold y_link
    rw [if_pos (Decidable.not_not.mp (fun z => c1 ((i1 _ h rfl).mpr z)))]
