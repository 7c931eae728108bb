/-- a new flock, the reference after the class -/
theorem top_mkF {n f t q p s : Nat} {h : Hp} (T : TOP n f t q h) (hf5 : f < 6) (hp : p < n) (hs : 1 ≤ s ∧ s ≤ 80) : TOP n (f + 1) t q (m_putF f (y0 (d_mkF 1 f h (nI p) (nI s))) (nI p) (nI s)) := by
  obtain ⟨S, K, M, hf, ht, hq, hc, hm, F⟩ := T
  have hn := K.2.1
  have S1 := S.mkF hn hp hs
  have zlo : ∀ o, o < 32 → m_putF f (y0 (d_mkF 1 f h (nI p) (nI s))) (nI p) (nI s) o = d_mkF 1 f h (nI p) (nI s) o := fun o ho => by rw [putF_ne (by omega) (by omega), y0_ne (by omega)]
  have yhi : ∀ o, 65 ≤ o → y0 (d_mkF 1 f h (nI p) (nI s)) o = h o := fun o ho => by rw [y0_ne (by omega), mkF_ne (by omega) (by omega)]
  have zhi : ∀ o, 65 ≤ o → m_putF f (y0 (d_mkF 1 f h (nI p) (nI s))) (nI p) (nI s) o = m_putF f h (nI p) (nI s) o := fun o ho => by
    by_cases e : o = 68
    · subst e
      unfold m_putF m_pf1
      rw [hp_ne (by omega), hp_ne (by omega), hp_row_eq, hp_row_eq, yhi 68 (by omega)]
    · rw [putF_ne e (by omega), putF_ne e (by omega), yhi o ho]
  have M1 : OM n f (y0 (d_mkF 1 f h (nI p) (nI s))) := M.mcg yhi (by rw [y0_1, mkF_ne (by omega) (by omega)]) (by rw [y0_3, mkF_ne (by omega) (by omega)])
  refine ⟨(S1.ccongr hn (by omega) zlo).mcongr zhi, (K.mkF (show f < 6 from hf5) ⟨p, hp, rfl⟩).lo zlo, om_putF M1 hf ⟨p, hp, rfl⟩, by omega, ?_, hq, ?_, ?_, fun i h1 h2 => ?_⟩
  · rw [zlo 1 (by omega), mkF_6]; exact ht
  · rw [zlo 1 (by omega), mkF_k (by omega)]; exact hc
  · rw [zhi 69 (by omega), putF_ne (by omega) (by omega)]; exact hm
  · obtain ⟨g1, g2, g3, g4, g5⟩ := F i h1 h2
    rw [zlo _ (by omega), mkF_ne (by omega) (by omega), zhi 67 (by omega), putF_ne (by omega) (by omega)]
    exact ⟨g1, g2, g3, g4, g5⟩
