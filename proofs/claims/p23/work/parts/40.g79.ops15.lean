theorem top_W {n f t q j a b d : Nat} {h : Hp} (T : TOP n f t q h) (hj : j < 10) (ha : a ≤ 9) (hb : b ≤ 9) (hd : d ≤ 9) :
    TOP n f t q (y_setWH (y0 (hp_up (hp_up (hp_up h (1 + 2 + j) 0 (nI a)) (1 + 2 + j) 1 (nI b)) (1 + 2 + j) 2 (nI d))) j (nI a) (nI b) (nI d)) := by
  obtain ⟨S, K, M, hf, ht, hq, hc, hm, F⟩ := T
  have hn := K.2.1
  have S3 := ((S.wt hn hj (show 0 < 3 by omega) ha).wt hn hj (show 1 < 3 by omega) hb).wt hn hj (show 2 < 3 by omega) hd
  generalize hC : hp_up (hp_up (hp_up h (1 + 2 + j) 0 (nI a)) (1 + 2 + j) 1 (nI b)) (1 + 2 + j) 2 (nI d) = C at S3
  have hCn : ∀ o, o ≠ 1 + 2 + j → C o = h o := fun o ho => by rw [← hC, hp_ne ho, hp_ne ho, hp_ne ho]
  have zn : ∀ o, o ≠ 66 → o ≠ 64 → y_setWH (y0 C) j (nI a) (nI b) (nI d) o = C o := fun o h1 h2 => by unfold y_setWH; rw [hp_ne h1, hp_ne h1, hp_ne h1, y0_ne h2]
  have z66 : y_setWH (y0 C) j (nI a) (nI b) (nI d) 66 = hp_up (hp_up (hp_up h 66 (3 * j + 0) (nI a)) 66 (3 * j + 1) (nI b)) 66 (3 * j + 2) (nI d) 66 := by
    unfold y_setWH
    rw [hp_eq, hp_eq, hp_eq, hp_eq, hp_eq, hp_eq, y0_ne (by omega), hCn 66 (by omega)]
    rfl
  have zhi : ∀ o, 65 ≤ o → y_setWH (y0 C) j (nI a) (nI b) (nI d) o = hp_up (hp_up (hp_up h 66 (3 * j + 0) (nI a)) 66 (3 * j + 1) (nI b)) 66 (3 * j + 2) (nI d) o := fun o ho => by
    by_cases e : o = 66
    · subst e; exact z66
    · rw [zn o e (by omega), hCn o (by omega), hp_ne e, hp_ne e, hp_ne e]
  have z64 : ∀ k, k ≠ 0 → y_setWH (y0 C) j (nI a) (nI b) (nI d) 64 k = h 64 k := fun k hk => by
    unfold y_setWH
    rw [hp_ne (by omega), hp_ne (by omega), hp_ne (by omega)]
    unfold y0
    rw [hp_off (Or.inr hk), hCn 64 (by omega)]
  have zlo : ∀ o, o < 32 → y_setWH (y0 C) j (nI a) (nI b) (nI d) o = C o := fun o ho => zn o (by omega) (by omega)
  have KC : OK 1 n f C := by
    obtain ⟨a1, a2, a3, a4, a5, a6, a7, a8, a9⟩ := K
    refine ⟨by rw [hCn _ (by omega)]; exact a1, a2, by rw [hCn _ (by omega)]; exact a3, a4, fun j hj => by rw [hCn _ (by omega)]; exact a5 j hj, fun j hj => by rw [hCn _ (by omega)]; exact a6 j hj, fun r hr => by rw [hCn _ (by omega)]; exact a7 r hr, fun j hj => by rw [hCn _ (by omega)]; exact a8 j hj, fun j hj => by rw [hCn _ (by omega)]; exact a9 j hj⟩
  refine ⟨(S3.mcongr zhi).ccongr hn hf zlo, KC.lo zlo, ?_, hf, ?_, hq, ?_, ?_, fun i h1 h2 => ?_⟩
  · obtain ⟨a1, a2, a3, a4, a5, a6⟩ := M
    exact ⟨(z64 1 (by omega)).trans a1, a2, (z64 3 (by omega)).trans a3, a4, fun j hj => by rw [zn 67 (by omega) (by omega), hCn _ (by omega)]; exact a5 j hj, fun j hj => by rw [zn 68 (by omega) (by omega), hCn _ (by omega)]; exact a6 j hj⟩
  · rw [zlo 1 (by omega), hCn _ (by omega)]; exact ht
  · rw [zlo 1 (by omega), hCn _ (by omega)]; exact hc
  · rw [zn 69 (by omega) (by omega), hCn _ (by omega)]; exact hm
  · rw [zlo _ (by omega), hCn _ (by omega), zn 67 (by omega) (by omega), hCn _ (by omega)]
    exact F i h1 h2
theorem op_setW {n f t q : Nat} {h : Hp} {x a b d : Int32} (T : TOP n f t q h) :
    (∃ v h2, x_setW h x a b d = rI v h2 ∧ (y_setW h2 x a b d).1 = v ∧ (y_setW h2 x a b d).2 64 0 = 0 ∧ TOP n f t q (y_setW h2 x a b d).2) ∨ (x_setW h x a b d = .inr E_I ∧ y_setW h x a b d = yF h 1) ∨ (x_setW h x a b d = .inr E_A ∧ y_setW h x a b d = yF h 2) := by
  have i1 := in_iffK (p := x) (M := 9) (N := 9) rfl (by omega)
  unfold x_setW
  by_cases c1 : ¬ x < 0 ∧ x < nI 10
  · rw [if_pos c1]
    by_cases ca : bI (0 ≤ a ∧ a ≤ 9) = 0
    · rw [if_pos ca]
      refine Or.inr (Or.inr ⟨rfl, ?_⟩)
      unfold y_setW
      rw [if_neg (i1.mp c1), if_pos ca]
    · rw [if_neg ca]
      by_cases cb : bI (0 ≤ b ∧ b ≤ 9) = 0
      · rw [if_pos cb]
        refine Or.inr (Or.inr ⟨rfl, ?_⟩)
        unfold y_setW
        rw [if_neg (i1.mp c1), if_neg ca, if_pos cb]
      · rw [if_neg cb]
        by_cases cd : bI (0 ≤ d ∧ d ≤ 9) = 0
        · rw [if_pos cd]
          refine Or.inr (Or.inr ⟨rfl, ?_⟩)
          unfold y_setW
          rw [if_neg (i1.mp c1), if_neg ca, if_neg cb, if_pos cd]
        · rw [if_neg cd]
          left
          obtain ⟨ea, ha⟩ := in0 (N := 9) rfl (by omega) ca
          obtain ⟨eb, hb⟩ := in0 (N := 9) rfl (by omega) cb
          obtain ⟨ed, hd⟩ := in0 (N := 9) rfl (by omega) cd
          obtain ⟨j, hj, e⟩ := inN_is (by omega) c1
          have TW := top_W (j := j) T hj ha hb hd
          rw [← ea, ← eb, ← ed] at TW
          have ew : wd x = 1 + 2 + j := by subst e; show 1 + 2 + (nI j).toNatClampNeg = _; rw [nI_clamp (by omega)]
          have ex : x.toNatClampNeg = j := by subst e; exact nI_clamp (by omega)
          rw [ew]
          refine ⟨_, _, rfl, ?_⟩
          generalize hC : hp_up (hp_up (hp_up h (1 + 2 + j) 0 a) (1 + 2 + j) 1 b) (1 + 2 + j) 2 d = C at TW
          have hCn : ∀ o, o ≠ 1 + 2 + j → C o = h o := fun o ho => by rw [← hC, hp_ne ho, hp_ne ho, hp_ne ho]
          have hy : y_setW C x a b d = (m_wt (y0 C) j, y_setWH (y0 C) j a b d) := by
            unfold y_setW
            rw [if_neg (i1.mp c1), if_neg ca, if_neg cb, if_neg cd, ex]
          rw [hy]
          refine ⟨?_, ?_, TW⟩
          · show m_wt (y0 C) j = w_num h (1 + 2 + j)
            exact say_wt (n := n) (f := f) (T.1.1.mcongr (fun o ho => by rw [y0_ne (by omega), hCn _ (by omega)])) hj
          · show y_setWH (y0 C) j a b d 64 0 = 0
            unfold y_setWH
            rw [hp_ne (by omega), hp_ne (by omega), hp_ne (by omega)]
            exact y0_0
  · rw [if_neg c1]
    refine Or.inr (Or.inl ⟨rfl, ?_⟩)
    unfold y_setW
    rw [if_pos (Decidable.not_not.mp (fun z => c1 (i1.mpr z)))]
