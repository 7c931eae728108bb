theorem op_pass {n f t q : Nat} {h : Hp} {k : Int32} (T : TOP n f t q h) :
    (∃ v h2, x_pass n f t h k = rI v h2 ∧ (y_pass n f t h2 k).1 = v ∧ (y_pass n f t h2 k).2 64 0 = 0 ∧ TOP n f (t + k.toNatClampNeg) q (y_pass n f t h2 k).2 ∧ k.toNatClampNeg ≤ 100) ∨ (x_pass n f t h k = .inr E_A ∧ y_pass n f t h k = yF h 1) := by
  have T0 := T
  obtain ⟨S, K, M, hf, ht, hq, hc, hm, F⟩ := T
  have hn := K.2.1
  unfold x_pass
  by_cases c1 : bI (1 ≤ k ∧ k ≤ 100) = 0
  · rw [if_pos c1]
    refine Or.inr ⟨rfl, ?_⟩
    unfold y_pass
    rw [if_pos c1]
  · rw [if_neg c1]
    left
    obtain ⟨ek, hk⟩ := in1 (N := 100) rfl (by omega) c1
    generalize hkk : k.toNatClampNeg = kk at hk
    have hhi : ∀ o, 1 + 32 ≤ o → d_days 1 n f t h kk o = h o := fun o ho => top_days K ht ho kk
    generalize hz : d_days 1 n f t h kk = z at hhi
    have Sz : SIM 1 n f h (y0 z) := S.mcongr (fun o ho => by rw [y0_ne (by omega)]; exact hhi o (by omega))
    obtain ⟨S2, eU⟩ := sim_days (t := t) hn (by omega) Sz kk
    rw [hz] at S2
    have Ky := days_ok K ht kk
    rw [hz] at Ky
    have Mz : OM n f (y0 z) := M.mcg (fun o ho => by rw [y0_ne (by omega)]; exact hhi o (by omega)) (by rw [y0_1, hhi 64 (by omega)]) (by rw [y0_3, hhi 64 (by omega)])
    have m0 : h 69 0 = nI t := by rw [← S.1.2.2.2.2]; exact ht
    have tz : y0 z 69 0 = nI t := by rw [y0_ne (by omega), hhi 69 (by omega)]; exact m0
    have My := mdays_ok Mz tz kk
    obtain ⟨f1, f2, f3⟩ := mF_days Mz tz kk
    have hy : y_pass n f t z k = (m_daysU n f t (y0 z) kk, m_days n f t (y0 z) kk) := by
      unfold y_pass
      rw [if_neg c1, hkk]
    refine ⟨_, z, rfl, ?_⟩
    rw [hy, eU]
    generalize m_days n f t (y0 z) kk = w at S2 My f1 f2 f3
    have wlo : ∀ o, o < 32 → w o = z o := fun o ho => by rw [f2 o (by omega) (by omega) (by omega), y0_ne (by omega)]
    have e69 : w 69 1 = nI q := by rw [f3, y0_ne (by omega), hhi 69 (by omega)]; exact hm
    have e7 : w 1 7 = nI q := by rw [wlo 1 (by omega), ← hz, d7_days K ht kk]; exact hc
    have eF : FRESH n w := by
      intro j h1 h2
      have e1 : z (1 + 14 + j) = h (1 + 14 + j) := by rw [← hz]; exact mid_days K ht (by omega) (by omega) kk
      have e2 : ∀ a, 5 * n ≤ a → w 67 a = h 67 a := fun a ha => by rw [f1 a ha, y0_ne (by omega), hhi 67 (by omega)]
      rw [wlo _ (by omega), e1, e2 _ (by omega), e2 _ (by omega), e2 _ (by omega), e2 _ (by omega)]
      exact F j h1 h2
    have TT : TOP n f (t + kk) q w := ⟨(S2.ccongr hn hf wlo), Ky.1.lo wlo, My.1, hf, by rw [wlo 1 (by omega)]; exact Ky.2, hq, e7, e69, eF⟩
    refine ⟨rfl, ?_, TT, hk⟩
    show w 64 0 = 0
    rw [f2 64 (by omega) (by omega) (by omega)]
    exact y0_0
