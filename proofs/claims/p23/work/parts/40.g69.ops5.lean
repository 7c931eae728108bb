/-- the same write at a flock on both sides, the reference after the class -/
theorem top_flk {n f t q j k : Nat} {h : Hp} {v : Int32} (T : TOP n f t q h) (hj : j < f) (hk : k < 5) (hk1 : k ≠ 1 ∨ isN n v) (hF : FBd 1 n f (hp_up h (1 + 25 + j) k v)) (hK : OK 1 n f (hp_up h (1 + 25 + j) k v)) :
    TOP n f t q (m_setFl (y0 (hp_up h (1 + 25 + j) k v)) (nI j) (nI k) v) := by
  obtain ⟨⟨R, I, L, O⟩, K, M, hf, ht, hq, hc, hm, F⟩ := T
  have hn := K.2.1
  have KP : KEEP 1 n h (hp_up h (1 + 25 + j) k v) := KEEP.up (by omega) (fun i _ => Or.inl (by omega))
  have S0 : SIM 1 n f (hp_up h (1 + 25 + j) k v) (m_setFl h (nI j) (nI k) v) := ⟨R.setFl hn (by omega) hj hk, I.flk hn hF, L.keep KP, O.keep KP⟩
  have M0 : OM n f (m_setFl h (nI j) (nI k) v) := M.mK (mK_setFl ⟨j, by omega, rfl⟩ hk hk1)
  have zlo : ∀ o, o < 32 → m_setFl (y0 (hp_up h (1 + 25 + j) k v)) (nI j) (nI k) v o = hp_up h (1 + 25 + j) k v o := fun o ho => by rw [m_setFl_ne (by omega), y0_ne (by omega)]
  have zhi : ∀ o, 65 ≤ o → m_setFl (y0 (hp_up h (1 + 25 + j) k v)) (nI j) (nI k) v o = m_setFl h (nI j) (nI k) v o := fun o ho => by
    by_cases e : o = 68
    · subst e
      rw [m_setFl_nI (by omega), m_setFl_nI (by omega), hp_eq, hp_eq, y0_ne (by omega), hp_ne (by omega)]
    · rw [m_setFl_ne e, m_setFl_ne e, y0_ne (by omega), hp_ne (by omega)]
  have z64 : m_setFl (y0 (hp_up h (1 + 25 + j) k v)) (nI j) (nI k) v 64 = y0 (hp_up h (1 + 25 + j) k v) 64 := m_setFl_ne (by omega)
  refine ⟨(S0.ccongr hn hf zlo).mcongr zhi, hK.lo zlo, M0.mcg zhi ?_ ?_, hf, ?_, hq, ?_, ?_, fun i h1 h2 => ?_⟩
  · rw [z64, y0_1, hp_ne (by omega), m_setFl_ne (by omega)]
  · rw [z64, y0_3, hp_ne (by omega), m_setFl_ne (by omega)]
  · rw [zlo 1 (by omega), hp_ne (by omega)]; exact ht
  · rw [zlo 1 (by omega), hp_ne (by omega)]; exact hc
  · rw [zhi 69 (by omega), m_setFl_ne (by omega)]; exact hm
  · obtain ⟨g1, g2, g3, g4, g5⟩ := F i h1 h2
    rw [zlo _ (by omega), hp_ne (by omega), zhi 67 (by omega), m_setFl_ne (by omega)]
    exact ⟨g1, g2, g3, g4, g5⟩
theorem op_setRoams {n f t q : Nat} {h : Hp} {p b : Int32} (T : TOP n f t q h) (hb : b = 0 ∨ b = 1) :
    (∃ v h2, x_setRoams f h p b = rI v h2 ∧ (y_setRoams h2 p b).1 = v ∧ (y_setRoams h2 p b).2 64 0 = 0 ∧ TOP n f t q (y_setRoams h2 p b).2) ∨ (x_setRoams f h p b = .inr E_I ∧ (y_setRoams h p b).2 64 0 = 1 ∧ TOP n f t q (y_setRoams h p b).2) := by
  have hn := T.2.1.2.1
  have hf := T.2.2.2.1
  have i1 : ∀ z : Hp, z 64 3 = h 64 3 → ((¬ p < 0 ∧ p < nI f) ↔ ¬ bI (0 ≤ p ∧ p ≤ z 64 3 - 1) = 0) := fun z hz => in_iff (hz.trans T.2.2.1.2.2.1) (by omega)
  unfold x_setRoams
  by_cases c1 : ¬ p < 0 ∧ p < nI f
  · rw [if_pos c1]
    left
    obtain ⟨j, hj, e⟩ := inN_is (by omega) c1
    subst e
    have ep : fl (nI j) = 1 + 25 + j := by show 1 + 25 + (nI j).toNatClampNeg = _; rw [nI_clamp (by omega)]
    rw [ep]
    refine ⟨_, hp_up h (1 + 25 + j) 3 b, rfl, ?_⟩
    have r1 : SIM 1 n f h (y0 (hp_up h (1 + 25 + j) 3 b)) := T.1.mcongr (fun o ho => by rw [y0_ne (by omega), hp_ne (by omega)])
    have eb : (if b = 0 then (0 : Int32) else 1) = b := by
      rcases hb with z | z
      · rw [z, if_pos rfl]
      · rw [z, if_neg (by decide)]
    have hy : y_setRoams (hp_up h (1 + 25 + j) 3 b) (nI j) b = (if m_fl (y0 (hp_up h (1 + 25 + j) 3 b)) (nI j) 3 = 1 then 1 else 0, m_setFl (y0 (hp_up h (1 + 25 + j) 3 b)) (nI j) 3 b) := by
      unfold y_setRoams
      rw [if_neg ((i1 _ (by rw [hp_ne (by omega)])).mp c1), eb]
    rw [hy]
    have hKr : OK 1 n f (hp_up h (1 + 25 + j) 3 b) := T.2.1.f (q := j) (Nat.lt_of_lt_of_le hj T.2.1.2.2.2.1) (fun _ e => hp_ne e) (fun hqf => by rw [hp_off (Or.inr (by omega))]; exact T.2.1.2.2.2.2.2.1 j hqf) (fun _ => by rw [hp_eq]; unfold upd; rw [if_pos rfl]; exact hb)
    refine ⟨?_, ?_, top_flk (k := 3) T hj (by omega) (Or.inl (by omega)) (T.1.2.1.2.2.2.1.drunk (by omega)) hKr⟩
    · show (if m_fl (y0 (hp_up h (1 + 25 + j) 3 b)) (nI j) 3 = 1 then (1 : Int32) else 0) = h (1 + 25 + j) 3
      rw [show m_fl (y0 (hp_up h (1 + 25 + j) 3 b)) (nI j) 3 = h (1 + 25 + j) 3 from r1.1.fl (k := 3) (by omega) hj (by omega)]
      rcases T.2.1.2.2.2.2.2.2.2.2 j hj with z | z
      · rw [z, if_neg (by decide)]
      · rw [z, if_pos rfl]
    · have hs : m_setFl (y0 (hp_up h (1 + 25 + j) 3 b)) (nI j) 3 b 64 = y0 (hp_up h (1 + 25 + j) 3 b) 64 := m_setFl_ne (by omega)
      exact (congrFun hs 0).trans y0_0
  · rw [if_neg c1]
    have hy : y_setRoams h p b = (0, hp_up h 64 0 1) := by
      unfold y_setRoams
      rw [if_pos (Decidable.not_not.mp (fun z => c1 ((i1 h rfl).mpr z)))]
    rw [hy]
    refine Or.inr ⟨rfl, ?_, ?_⟩
    · show hp_up h 64 0 1 64 0 = 1
      rw [hp_eq]
      unfold upd
      rw [if_pos rfl]
    · show TOP n f t q (hp_up h 64 0 1)
      exact T.put (fun o ho => hp_ne (by omega)) (fun o ho => hp_ne (by omega)) (hp_off (Or.inr (by omega))) (hp_off (Or.inr (by omega)))
