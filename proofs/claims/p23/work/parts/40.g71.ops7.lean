theorem SIM.c7 {d n f : Nat} {c m : Hp} {v : Int32} (S : SIM d n f c m) : SIM d n f (hp_up c d 7 v) m := by
  obtain ⟨⟨r1, r2, r3, r4, r5⟩, I, L, O⟩ := S
  have K : KEEP d n c (hp_up c d 7 v) := KEEP.up (by omega) (fun i _ => Or.inl (by omega))
  refine ⟨⟨fun j k hj hk => ?_, fun j k hj hk => ?_, fun j k hj hk => ?_, fun j k hj hk => ?_, ?_⟩, I.dn, L.keep K, O.keep K⟩
  · rw [hp_ne (by omega)]; exact r1 j k hj hk
  · rw [hp_ne (by omega)]; exact r2 j k hj hk
  · rw [hp_ne (by omega)]; exact r3 j k hj hk
  · rw [hp_ne (by omega)]; exact r4 j k hj hk
  · rw [hp_off (Or.inr (by omega))]; exact r5
/-- the heap of clay on both sides -/
theorem top_clay {n f t q q2 : Nat} {h : Hp} (T : TOP n f t q h) (hq2 : q2 ≤ 500) : TOP n f t q2 (hp_up (y0 (hp_up h 1 7 (nI q2))) 69 1 (nI q2)) := by
  obtain ⟨S, K, M, hf, ht, hq, hc, hm, F⟩ := T
  have hn := K.2.1
  have zlo : ∀ o, o < 32 → hp_up (y0 (hp_up h 1 7 (nI q2))) 69 1 (nI q2) o = hp_up h 1 7 (nI q2) o := fun o ho => by rw [hp_ne (by omega), y0_ne (by omega)]
  have zhi : ∀ o, 65 ≤ o → o ≠ 69 → hp_up (y0 (hp_up h 1 7 (nI q2))) 69 1 (nI q2) o = h o := fun o ho he => by rw [hp_ne he, y0_ne (by omega), hp_ne (by omega)]
  have S1 : SIM 1 n f (hp_up h 1 7 (nI q2)) (y0 (hp_up h 1 7 (nI q2))) := (S.c7).mcongr (fun o ho => by rw [y0_ne (by omega), hp_ne (by omega)])
  have S2 : SIM 1 n f (hp_up h 1 7 (nI q2)) (hp_up (y0 (hp_up h 1 7 (nI q2))) 69 1 (nI q2)) := ⟨S1.1.m69 (by omega), S1.2⟩
  have e64 : ∀ k, k ≠ 0 → hp_up (y0 (hp_up h 1 7 (nI q2))) 69 1 (nI q2) 64 k = h 64 k := by
    intro k hk
    rw [hp_ne (by omega)]
    unfold y0
    rw [hp_off (Or.inr hk), hp_ne (by omega)]
  refine ⟨S2.ccongr hn hf zlo, (K.dslot (Or.inr rfl)).lo zlo, ?_, hf, ?_, hq2, ?_, ?_, fun i h1 h2 => ?_⟩
  · obtain ⟨a1, a2, a3, a4, a5, a6⟩ := M
    exact ⟨(e64 1 (by omega)).trans a1, a2, (e64 3 (by omega)).trans a3, a4, fun j hj => by rw [zhi 67 (by omega) (by omega)]; exact a5 j hj, fun j hj => by rw [zhi 68 (by omega) (by omega)]; exact a6 j hj⟩
  · rw [zlo 1 (by omega), hp_off (Or.inr (by omega))]; exact ht
  · rw [zlo 1 (by omega), hp_eq]; unfold upd; rw [if_pos rfl]
  · rw [hp_eq]; unfold upd; rw [if_pos rfl]
  · obtain ⟨g1, g2, g3, g4, g5⟩ := F i h1 h2
    rw [zlo _ (by omega), hp_ne (by omega), zhi 67 (by omega) (by omega)]
    exact ⟨g1, g2, g3, g4, g5⟩
theorem op_bring {n f t q : Nat} {h : Hp} {b : Int32} (T : TOP n f t q h) :
    (∃ v h2 q2, x_bring h b = rI v h2 ∧ (y_bring h2 b).1 = v ∧ (y_bring h2 b).2 64 0 = 0 ∧ TOP n f t q2 (y_bring h2 b).2) ∨ (x_bring h b = .inr E_A ∧ y_bring h b = yF h 1) ∨ (x_bring h b = .inr E_S ∧ y_bring h b = yF h 2) := by
  have hc := T.2.2.2.2.2.2.1
  have hm := T.2.2.2.2.2.2.2.1
  have hq := T.2.2.2.2.2.1
  unfold x_bring
  by_cases c1 : bI (1 ≤ b ∧ b ≤ 100) = 0
  · rw [if_pos c1]
    refine Or.inr (Or.inl ⟨rfl, ?_⟩)
    unfold y_bring
    rw [if_pos c1]
  · rw [if_neg c1]
    obtain ⟨eb, hb⟩ := in1 (N := 100) rfl (by omega) c1
    generalize b.toNatClampNeg = bb at eb hb
    subst eb
    rw [hc, nI_add]
    by_cases c2 : nI (q + bb) ≤ 500
    · rw [if_pos c2]
      left
      have hq2 : q + bb ≤ 500 := (nI_leI (a := q + bb) (b := 500) (by omega) (by omega)).mp c2
      refine ⟨_, hp_up h 1 7 (nI (q + bb)), q + bb, rfl, ?_⟩
      have e69 : y0 (hp_up h 1 7 (nI (q + bb))) 69 1 = nI q := by rw [y0_ne (by omega), hp_ne (by omega)]; exact hm
      have hy : y_bring (hp_up h 1 7 (nI (q + bb))) (nI bb) = (hp_up (y0 (hp_up h 1 7 (nI (q + bb)))) 69 1 (nI (q + bb)) 69 1, hp_up (y0 (hp_up h 1 7 (nI (q + bb)))) 69 1 (nI (q + bb))) := by
        unfold y_bring
        rw [if_neg c1, e69, nI_add, if_pos c2]
      rw [hy]
      refine ⟨?_, ?_, top_clay T hq2⟩
      · show hp_up (y0 (hp_up h 1 7 (nI (q + bb)))) 69 1 (nI (q + bb)) 69 1 = hp_up h 1 7 (nI (q + bb)) 1 7
        rw [hp_eq, hp_eq]
        unfold upd
        rw [if_pos rfl, if_pos rfl]
      · show hp_up (y0 (hp_up h 1 7 (nI (q + bb)))) 69 1 (nI (q + bb)) 64 0 = 0
        rw [hp_ne (by omega)]
        exact y0_0
    · rw [if_neg c2]
      refine Or.inr (Or.inr ⟨rfl, ?_⟩)
      unfold y_bring
      rw [if_neg c1, show y0 h 69 1 = nI q from by rw [y0_ne (by omega)]; exact hm, nI_add, if_neg c2]
