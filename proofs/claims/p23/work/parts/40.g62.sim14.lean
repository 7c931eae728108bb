/-! looking ahead -/
theorem SIM.ccongr {n f : Nat} {c c' m : Hp} (hn : n ≤ 10) (hf : f ≤ 6) (S : SIM 1 n f c m) (hc : ∀ o, o < 32 → c' o = c o) : SIM 1 n f c' m := by
  obtain ⟨⟨r1, r2, r3, r4, r5⟩, ⟨i1, i2, i3, i4, i5⟩, L, O⟩ := S
  refine ⟨⟨fun j k hj hk => ?_, fun j k hj hk => ?_, fun j k hj hk => ?_, fun j k hj hk => ?_, ?_⟩, ⟨fun j hj => ?_, fun j k hj hk => ?_, fun j hj => ?_, fun j hj => ?_, fun j hj => ?_⟩, L.keep ⟨hc _ (by omega), fun j k hj _ => by rw [hc _ (by omega)]⟩, O.keep ⟨hc _ (by omega), fun j k hj _ => by rw [hc _ (by omega)]⟩⟩
  · rw [hc _ (by omega)]; exact r1 j k hj hk
  · rw [hc _ (by omega)]; exact r2 j k hj hk
  · rw [hc _ (by omega)]; exact r3 j k hj hk
  · rw [hc _ (by omega)]; exact r4 j k hj hk
  · rw [hc _ (by omega)]; exact r5
  · rw [hc _ (by omega)]; exact i1 j hj
  · rw [hc _ (by omega)]; exact i2 j k hj hk
  · rw [hc _ (by omega)]; exact i3 j hj
  · rw [hc _ (by omega)]; exact i4 j hj
  · rw [hc _ (by omega)]; exact i5 j hj
theorem say_foresee {n f t j k : Nat} {c m : Hp} (hn : n ≤ 10) (hf : f ≤ 6) (S : SIM 1 n f c m) (hj : j < n) : d_days 32 n f t (d_like n f c) k (32 + 14 + j) 5 = m_po (m_days n f t m k) (nI j) 0 :=
  ((sim_days (t := t) hn (by omega) (S.like hn hf) k).1.1.po (k := 0) hn hj (by omega)).symm
theorem le0 {a : Nat} (h : a < 2 ^ 31) : nI a ≤ 0 ↔ nI a = 0 := by
  have h1 := nI_leI (a := a) (b := 0) h (by omega)
  have h2 := nI_eq (a := a) (b := 0) h (by omega)
  rw [show (0 : Int32) = nI 0 from rfl, h1, h2]
  omega
theorem say_lastL {n f t j : Nat} {L m : Hp} (hW : ∀ i, ∃ w : Nat, w ≤ 5400 ∧ d_days 32 n f t L i (32 + 14 + j) 5 = nI w ∧ m_po (m_days n f t m i) (nI j) 0 = nI w) : ∀ (q i : Nat), ¬ m_po (m_days n f t m i) (nI j) 0 ≤ 0 →
    ∃ i2, x_lastL n f t (32 + 14 + j) L q i = rI (if m_po (m_days n f t m (m_las n f t m (nI j) q i)) (nI j) 0 ≤ 0 then nI (m_las n f t m (nI j) q i) else -1) (d_days 32 n f t L i2) := by
  intro q
  induction q with
  | zero =>
    intro i hi
    refine ⟨i, ?_⟩
    show rI (-1) (d_days 32 n f t L i) = rI (if m_po (m_days n f t m i) (nI j) 0 ≤ 0 then nI i else -1) (d_days 32 n f t L i)
    rw [if_neg hi]
  | succ q ih =>
    intro i hi
    obtain ⟨w, hw, e1, e2⟩ := hW (i + 1)
    have el : m_las n f t m (nI j) (q + 1) i = m_las n f t m (nI j) q (i + 1) := if_neg hi
    rw [el]
    by_cases c0 : d_days 32 n f t L (i + 1) (32 + 14 + j) 5 = 0
    · have c1 : m_po (m_days n f t m (i + 1)) (nI j) 0 ≤ 0 := by rw [e2]; exact (le0 (by omega)).mpr (by rw [← e1]; exact c0)
      rw [lastL_y c0, las_n c1 q, if_pos c1]
      exact ⟨i + 1, rfl⟩
    · have c1 : ¬ m_po (m_days n f t m (i + 1)) (nI j) 0 ≤ 0 := by rw [e2]; exact fun z => c0 (by rw [e1]; exact (le0 (by omega)).mp z)
      rw [lastL_n c0]
      exact ih (i + 1) c1
theorem say_lasts {n f t j : Nat} {c m : Hp} (hn : n ≤ 10) (hf : f ≤ 6) (S : SIM 1 n f c m) (hj : j < n) :
    (c (1 + 14 + j) 5 = 0 → m_lasV n f t m (nI j) = 0) ∧ (¬ c (1 + 14 + j) 5 = 0 → ∃ i, x_lastL n f t (32 + 14 + j) (d_like n f c) 200 0 = rI (m_lasV n f t m (nI j)) (d_days 32 n f t (d_like n f c) i)) := by
  have hW : ∀ i, ∃ w : Nat, w ≤ 5400 ∧ d_days 32 n f t (d_like n f c) i (32 + 14 + j) 5 = nI w ∧ m_po (m_days n f t m i) (nI j) 0 = nI w := by
    intro i
    obtain ⟨R, I, -, -⟩ := (sim_days (t := t) hn (by omega) (S.like hn hf) i).1
    obtain ⟨ht, sz, dp, w, li, g1, g2, g3, g4, g5, k1, k2, k3, k4, k5⟩ := I.1 j hj
    exact ⟨w, g4, k4, (R.po (k := 0) hn hj (by omega)).trans k4⟩
  obtain ⟨ht, sz, dp, w, li, g1, g2, g3, g4, g5, k1, k2, k3, k4, k5⟩ := S.2.1.1 j hj
  have e0 : m_po (m_days n f t m 0) (nI j) 0 = nI w := by
    unfold m_days
    rw [fd_0]
    exact (S.1.po (k := 0) hn hj (by omega)).trans k4
  have g4' : w ≤ 5400 := g4
  refine ⟨fun z => ?_, fun z => ?_⟩
  · have c1 : m_po (m_days n f t m 0) (nI j) 0 ≤ 0 := by rw [e0]; exact (le0 (by omega)).mpr (by rw [← k4]; exact z)
    unfold m_lasV
    rw [las_n c1 200, if_pos c1]
    rfl
  · have c1 : ¬ m_po (m_days n f t m 0) (nI j) 0 ≤ 0 := by rw [e0]; exact fun y => z (by rw [k4]; exact (le0 (by omega)).mp y)
    exact say_lastL hW 200 0 c1
theorem mkF_new {d f k : Nat} {c : Hp} {p s : Int32} (hk : k < 5) : d_mkF d f c p s (d + 25 + f) k = pfR s p k := by
  unfold d_mkF
  rw [hp_ne (by omega)]
  unfold f_start pfR
  rcases (show k = 0 ∨ k = 1 ∨ k = 2 ∨ k = 3 ∨ k = 4 by omega) with rfl | rfl | rfl | rfl | rfl <;> simp [hp_up, upd]
theorem mkF_k {d f k : Nat} {c : Hp} {p s : Int32} (hk : k ≠ 5) : d_mkF d f c p s d k = c d k := by
  unfold d_mkF
  rw [hp_off (Or.inr hk), f_start_ne (by omega)]
/-- a new flock on both sides -/
theorem SIM.mkF {d n f p s : Nat} {c m : Hp} (hn : n ≤ 10) (S : SIM d n f c m) (hp : p < n) (hs : 1 ≤ s ∧ s ≤ 80) : SIM d n (f + 1) (d_mkF d f c (nI p) (nI s)) (m_putF f m (nI p) (nI s)) := by
  obtain ⟨⟨r1, r2, r3, r4, r5⟩, ⟨i1, i2, i3, i4, i5⟩, L, O⟩ := S
  have eP : ∀ j, j < n → d_mkF d f c (nI p) (nI s) (d + 14 + j) = c (d + 14 + j) := fun j hj => mkF_ne (by omega) (by omega)
  have K : KEEP d n c (d_mkF d f c (nI p) (nI s)) := ⟨mkF_ne (by omega) (by omega), fun j k hj _ => by rw [eP j hj]⟩
  refine ⟨⟨fun j k hj hk => ?_, fun j k hj hk => ?_, fun j k hj hk => ?_, fun j k hj hk => ?_, ?_⟩, ⟨fun j hj => ?_, fun j k hj hk => ?_, fun j hj => ?_, fun j hj => ?_, fun j hj => ?_⟩, L.keep K, O.keep K⟩
  · rw [eP j hj, putF_ne (by omega) (by omega)]; exact r1 j k hj hk
  · rw [eP j hj, putF_ne (by omega) (by omega)]; exact r2 j k hj hk
  · by_cases e : j = f
    · subst e
      rw [mkF_new hk, putF_new hk]
    · rw [mkF_ne (by omega) (by omega), putF_row (by omega)]; exact r3 j k (by omega) hk
  · rw [mkF_ne (by omega) (by omega), putF_ne (by omega) (by omega)]; exact r4 j k hj hk
  · rw [mkF_k (by omega), putF_ne (by omega) (by omega)]; exact r5
  · rw [eP j hj]; exact i1 j hj
  · rw [mkF_ne (by omega) (by omega)]; exact i2 j k hj hk
  · rw [eP j hj]; exact i3 j hj
  · by_cases e : j = f
    · subst e
      refine ⟨s, p, 0, hs, hp, by omega, ?_, ?_, ?_⟩
      · rw [mkF_new (by omega)]; simp [pfR, upd]
      · rw [mkF_new (by omega)]; simp [pfR, upd]
      · rw [mkF_new (by omega)]; simp [pfR, upd]; rfl
    · rw [mkF_ne (by omega) (by omega)]; exact i4 j (by omega)
  · rw [eP j hj]; exact i5 j hj
