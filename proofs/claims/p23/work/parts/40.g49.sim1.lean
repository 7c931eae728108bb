/-! THE SIMULATION IN NUMBERS: the class's part of one picture (a Downs at d) against the reference's part of another -/
def REL (d n f : Nat) (c m : Hp) : Prop :=
  (∀ j k, j < n → k < 5 → c (d + 14 + j) k = m 65 (5 * j + k)) ∧ (∀ j k, j < n → k < 5 → c (d + 14 + j) (5 + k) = m 67 (5 * j + k)) ∧
  (∀ j k, j < f → k < 5 → c (d + 25 + j) k = m 68 (5 * j + k)) ∧ (∀ j k, j < 10 → k < 3 → c (d + 2 + j) k = m 66 (3 * j + k)) ∧ c d 6 = m 69 0
/-- what a pond holds within: B tells how much water at most -/
def PBd (d n : Nat) (B : Nat → Nat) (c : Hp) : Prop := ∀ j, j < n → ∃ ht sz dp w li : Nat, ht ≤ 300 ∧ (1 ≤ sz ∧ sz ≤ 60) ∧ (1 ≤ dp ∧ dp ≤ 9) ∧ w ≤ B j ∧ li ≤ 100 ∧ c (d + 14 + j) 2 = nI ht ∧ c (d + 14 + j) 3 = nI sz ∧ c (d + 14 + j) 4 = nI dp ∧ c (d + 14 + j) 5 = nI w ∧ c (d + 14 + j) 6 = nI li
def WBd (d : Nat) (c : Hp) : Prop := ∀ j k, j < 10 → k < 3 → ∃ v : Nat, v ≤ 9 ∧ c (d + 2 + j) k = nI v
theorem REL.congr {d n f : Nat} {c m c' m' : Hp} (hd : isD d) (hn : n ≤ 10) (hf : f ≤ rmD d) (h : REL d n f c m) (hc : ∀ o, o < 64 → c' o = c o) (hm : ∀ o, 64 ≤ o → m' o = m o) : REL d n f c' m' := by
  obtain ⟨r1, r2, r3, r4, r5⟩ := h
  have hd32 : d ≤ 32 := by rcases hd with rfl | rfl <;> omega
  have hfr : ∀ j, j < f → d + 25 + j < 64 := by
    intro j hj
    rcases hd with rfl | rfl
    · have : rmD 1 = 6 := rfl
      omega
    · have : rmD 32 = 7 := rfl
      omega
  refine ⟨fun j k hj hk => ?_, fun j k hj hk => ?_, fun j k hj hk => ?_, fun j k hj hk => ?_, ?_⟩
  · rw [hc _ (by omega), hm _ (by omega)]; exact r1 j k hj hk
  · rw [hc _ (by omega), hm _ (by omega)]; exact r2 j k hj hk
  · rw [hc _ (hfr j hj), hm _ (by omega)]; exact r3 j k hj hk
  · rw [hc _ (by omega), hm _ (by omega)]; exact r4 j k hj hk
  · rw [hc _ (by omega), hm _ (by omega)]; exact r5
/-- the same write on both sides: a pond's -/
theorem REL.pond {d n f j k : Nat} {c m : Hp} {v : Int32} (hn : n ≤ 10) (h : REL d n f c m) (hj : j < n) (hk : k < 5) : REL d n f (hp_up c (d + 14 + j) (5 + k) v) (hp_up m 67 (5 * j + k) v) := by
  obtain ⟨r1, r2, r3, r4, r5⟩ := h
  refine ⟨fun i q hi hq => ?_, fun i q hi hq => ?_, fun i q hi hq => ?_, fun i q hi hq => ?_, ?_⟩
  · rw [hp_off (Or.inr (by omega)), hp_off (Or.inl (by omega))]; exact r1 i q hi hq
  · by_cases e : i = j ∧ q = k
    · obtain ⟨rfl, rfl⟩ := e
      rw [hp_eq, hp_eq]
      unfold upd
      rw [if_pos rfl, if_pos rfl]
    · rw [hp_off (by omega), hp_off (Or.inr (by omega))]; exact r2 i q hi hq
  · rw [hp_off (Or.inl (by omega)), hp_off (Or.inl (by omega))]; exact r3 i q hi hq
  · rw [hp_off (Or.inl (by omega)), hp_off (Or.inl (by omega))]; exact r4 i q hi hq
  · rw [hp_off (Or.inl (by omega)), hp_off (Or.inl (by omega))]; exact r5
theorem REL.flock {d n f j k : Nat} {c m : Hp} {v : Int32} (hn : n ≤ 10) (h : REL d n f c m) (hj : j < f) (hk : k < 5) : REL d n f (hp_up c (d + 25 + j) k v) (hp_up m 68 (5 * j + k) v) := by
  obtain ⟨r1, r2, r3, r4, r5⟩ := h
  refine ⟨fun i q hi hq => ?_, fun i q hi hq => ?_, fun i q hi hq => ?_, fun i q hi hq => ?_, ?_⟩
  · rw [hp_off (Or.inl (by omega)), hp_off (Or.inl (by omega))]; exact r1 i q hi hq
  · rw [hp_off (Or.inl (by omega)), hp_off (Or.inl (by omega))]; exact r2 i q hi hq
  · by_cases e : i = j ∧ q = k
    · obtain ⟨rfl, rfl⟩ := e
      rw [hp_eq, hp_eq]
      unfold upd
      rw [if_pos rfl, if_pos rfl]
    · rw [hp_off (by omega), hp_off (Or.inr (by omega))]; exact r3 i q hi hq
  · rw [hp_off (Or.inl (by omega)), hp_off (Or.inl (by omega))]; exact r4 i q hi hq
  · rw [hp_off (Or.inl (by omega)), hp_off (Or.inl (by omega))]; exact r5
theorem REL.day {d n f : Nat} {c m : Hp} {v : Int32} (h : REL d n f c m) : REL d n f (hp_up c d 6 v) (hp_up m 69 0 v) := by
  obtain ⟨r1, r2, r3, r4, r5⟩ := h
  refine ⟨fun i q hi hq => ?_, fun i q hi hq => ?_, fun i q hi hq => ?_, fun i q hi hq => ?_, ?_⟩
  · rw [hp_off (Or.inl (by omega)), hp_off (Or.inl (by omega))]; exact r1 i q hi hq
  · rw [hp_off (Or.inl (by omega)), hp_off (Or.inl (by omega))]; exact r2 i q hi hq
  · rw [hp_off (Or.inl (by omega)), hp_off (Or.inl (by omega))]; exact r3 i q hi hq
  · rw [hp_off (Or.inl (by omega)), hp_off (Or.inl (by omega))]; exact r4 i q hi hq
  · rw [hp_eq, hp_eq]; unfold upd; rw [if_pos rfl, if_pos rfl]
/-! the reference's readers in the class's words -/
theorem REL.fx {d n f j k : Nat} {c m : Hp} (hn : n ≤ 10) (h : REL d n f c m) (hj : j < n) (hk : k < 5) : m_fx m (nI j) (nI k) = c (d + 14 + j) k := by
  rw [m_fx_nI (by omega)]; exact (h.1 j k hj hk).symm
theorem REL.po {d n f j k : Nat} {c m : Hp} (hn : n ≤ 10) (h : REL d n f c m) (hj : j < n) (hk : k < 5) : m_po m (nI j) (nI k) = c (d + 14 + j) (5 + k) := by
  rw [m_po_nI (by omega)]; exact (h.2.1 j k hj hk).symm
theorem REL.fl {d n f j k : Nat} {c m : Hp} (hf : f ≤ 7) (h : REL d n f c m) (hj : j < f) (hk : k < 5) : m_fl m (nI j) (nI k) = c (d + 25 + j) k := by
  rw [m_fl_nI (by omega)]; exact (h.2.2.1 j k hj hk).symm
theorem m_set_nI {h : Hp} {a k : Nat} {v : Int32} (h5 : 5 * a + k < 2 ^ 31) : m_set h (nI a) (nI k) v = hp_up h 67 (5 * a + k) v := by unfold m_set; rw [ix_nI h5]
theorem m_setFl_nI {h : Hp} {a k : Nat} {v : Int32} (h5 : 5 * a + k < 2 ^ 31) : m_setFl h (nI a) (nI k) v = hp_up h 68 (5 * a + k) v := by unfold m_setFl; rw [ix_nI h5]
theorem REL.set {d n f j k : Nat} {c m : Hp} {v : Int32} (hn : n ≤ 10) (h : REL d n f c m) (hj : j < n) (hk : k < 5) : REL d n f (hp_up c (d + 14 + j) (5 + k) v) (m_set m (nI j) (nI k) v) := by
  rw [m_set_nI (by omega)]; exact h.pond hn hj hk
theorem REL.setFl {d n f j k : Nat} {c m : Hp} {v : Int32} (hn : n ≤ 10) (hf : f ≤ 7) (h : REL d n f c m) (hj : j < f) (hk : k < 5) : REL d n f (hp_up c (d + 25 + j) k v) (m_setFl m (nI j) (nI k) v) := by
  rw [m_setFl_nI (by omega)]; exact h.flock hn hj hk
/-! small numbers -/
theorem mx0 {a : Nat} (h : a < 2 ^ 31) : mxI 0 (nI a) = nI a := by
  unfold mxI
  by_cases e : a = 0
  · subst e
    rw [if_neg (by decide)]
    rfl
  · rw [if_pos]
    have := nI_ltI (a := 0) (b := a) (by omega) h
    exact this.mpr (by omega)
theorem mnN {a b : Nat} (ha : a < 2 ^ 31) (hb : b < 2 ^ 31) : mnI (nI a) (nI b) = nI (min a b) := by
  unfold mnI
  by_cases e : b < a
  · rw [if_pos ((nI_ltI hb ha).mpr e), Nat.min_eq_right (by omega)]
  · rw [if_neg (fun z => e ((nI_ltI hb ha).mp z)), Nat.min_eq_left (by omega)]
theorem subN {a b : Nat} (h : b ≤ a) : nI a + -(nI b) = nI (a - b) := by
  rw [← Int32.sub_eq_add_neg]; exact pk_sub h
/-- taken off, but not below nothing: as the reference does it -/
theorem offN {a b : Nat} (ha : a < 2 ^ 30) (hb : b < 2 ^ 30) : mxI 0 (nI a + -(nI b)) = nI (a - b) := by
  by_cases h : b ≤ a
  · rw [subN h]; exact mx0 (by omega)
  · rw [← Int32.sub_eq_add_neg, show a - b = 0 by omega]
    unfold mxI
    rw [if_neg (fun y => ?_)]
    · exact nI_0.symm
    · have e := Int32.lt_iff_toInt_lt.mp y
      rw [pk_sub_toInt ha hb] at e
      have : (0 : Int32).toInt = 0 := by decide
      omega
/-- as the class does it -/
theorem offC {a b : Nat} (ha : a < 2 ^ 31) (hb : b < 2 ^ 31) : nI a - mnI (nI a) (nI b) = nI (a - b) := by
  rw [mnN ha hb, pk_sub (Nat.min_le_left a b)]
  congr 1
  omega
