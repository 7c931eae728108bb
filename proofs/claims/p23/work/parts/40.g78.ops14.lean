theorem hp_comm {h : Hp} {o k o2 k2 : Nat} {v w : Int32} (e : o ≠ o2) : hp_up (hp_up h o k v) o2 k2 w = hp_up (hp_up h o2 k2 w) o k v := by
  funext a
  by_cases e1 : a = o
  · subst e1
    rw [hp_ne e, hp_eq, hp_eq, hp_ne e]
  · by_cases e2 : a = o2
    · subst e2
      rw [hp_eq, hp_ne e1, hp_ne e1, hp_eq]
    · rw [hp_ne e2, hp_ne e1, hp_ne e1, hp_ne e2]
theorem y0_comm {h : Hp} {o k : Nat} {v : Int32} (e : o ≠ 64) : y0 (hp_up h o k v) = hp_up (y0 h) o k v := by
  unfold y0
  exact hp_comm e
theorem y0_y0 {h : Hp} : y0 (y0 h) = y0 h := by
  unfold y0
  exact hp_same (by rw [hp_eq]; unfold upd; rw [if_pos rfl])
theorem op_puddle {n f t q : Nat} {h : Hp} {p c : Int32} (T : TOP n f t q h) :
    (∃ v h2 q2, x_puddle n h p c = rI v h2 ∧ (y_puddle h2 p c).1 = v ∧ (y_puddle h2 p c).2 64 0 = 0 ∧ TOP n f t q2 (y_puddle h2 p c).2) ∨ (x_puddle n h p c = .inr E_I ∧ y_puddle h p c = yF h 1) ∨ (x_puddle n h p c = .inr E_A ∧ y_puddle h p c = yF h 2) ∨ (x_puddle n h p c = .inr E_S ∧ y_puddle h p c = yF h 3) := by
  have hn := T.2.1.2.1
  have hq := T.2.2.2.2.2.1
  have hc := T.2.2.2.2.2.2.1
  have hm := T.2.2.2.2.2.2.2.1
  have i1 : ∀ (z : Hp), z 64 1 = h 64 1 → ((¬ p < 0 ∧ p < nI n) ↔ ¬ bI (0 ≤ p ∧ p ≤ y0 z 64 1 - 1) = 0) := fun z hz => in_iff (y0_1.trans (hz.trans T.2.2.1.1)) hn
  unfold x_puddle
  by_cases c1 : ¬ p < 0 ∧ p < nI n
  · rw [if_pos c1]
    by_cases c2 : bI (1 ≤ c ∧ c ≤ 100) = 0
    · rw [if_pos c2]
      refine Or.inr (Or.inr (Or.inl ⟨rfl, ?_⟩))
      unfold y_puddle
      rw [if_neg ((i1 h rfl).mp c1), if_pos c2]
    · rw [if_neg c2]
      obtain ⟨j, hj, e⟩ := inN_is (by omega) c1
      subst e
      have ep : pd (nI j) = 1 + 14 + j := by show 1 + 14 + (nI j).toNatClampNeg = _; rw [nI_clamp (by omega)]
      rw [ep]
      obtain ⟨ht, sz, dp, w, li, g1, g2, g3, g4, g5, k1, k2, k3, k4, k5⟩ := T.1.2.1.1 j hj
      have elow : ∀ z : Hp, SIM 1 n f h (y0 z) → ((m_po (y0 z) (nI j) 0 ≤ m_holds (y0 z) (nI j) / 4) ↔ (h (1 + 14 + j) 5 ≤ p_holds h (1 + 14 + j) / 4)) := by
        intro z Sz
        rw [say_holds hn Sz.1 hj, show m_po (y0 z) (nI j) 0 = h (1 + 14 + j) 5 from Sz.1.po (k := 0) hn hj (by omega)]
      have S0 : SIM 1 n f h (y0 h) := T.1.mcongr (fun o ho => y0_ne (by omega))
      by_cases c3 : bI (h (1 + 14 + j) 5 ≤ p_holds h (1 + 14 + j) / 4) = 0
      · rw [if_pos c3]
        refine Or.inr (Or.inr (Or.inr ⟨rfl, ?_⟩))
        unfold y_puddle
        rw [if_neg ((i1 h rfl).mp c1), if_neg c2, if_pos (bIf (fun z => bI0 c3 ((elow h S0).mp z)))]
      · rw [if_neg c3]
        left
        obtain ⟨ec, hcc⟩ := in1 (N := 100) rfl (by omega) c2
        generalize hcg : c.toNatClampNeg = cc at ec hcc
        -- what is used
        have emn : mnI c (h 1 7) = nI (min cc q) := by rw [ec, hc]; exact mnN (by omega) (by omega)
        have eu : p_use h (1 + 14 + j) (nI (min cc q)) = nI (min (min cc q) (100 - li)) := by unfold p_use; rw [k5, show (100 : Int32) = nI 100 from rfl, pk_sub g5]; exact mnN (by omega) (by omega)
        have el : p_line h (1 + 14 + j) (nI (min cc q)) = hp_up h (1 + 14 + j) (5 + 1) (nI (li + min (min cc q) (100 - li))) := by unfold p_line; rw [eu, k5, nI_add]
        generalize hu : min (min cc q) (100 - li) = u at eu el
        have huq : u ≤ q := by omega
        have hul : li + u ≤ 100 := by omega
        rw [emn, eu, el, hp_ne (show (1 : Nat) ≠ 1 + 14 + j by omega), hc, pk_sub huq]
        -- the pictures
        have TP := top_pond (k := 1) (v := nI (li + u)) T hj (by omega) (by omega) (T.1.2.1.pnd hn hj (Or.inr (Or.inl rfl)) (T.1.2.1.1.lining hj hul)) (T.2.1.p (by omega) (fun _ e => hp_ne e) (by rw [hp_off (Or.inr (by omega))]) (fun hqn => by rw [hp_off (Or.inr (by omega))]; exact T.2.1.2.2.2.2.2.2.2.1 j hqn))
        have TC := top_clay TP (q2 := q - u) (by omega)
        refine ⟨_, _, q - u, rfl, ?_⟩
        generalize hz : hp_up (hp_up h (1 + 14 + j) (5 + 1) (nI (li + u))) 1 7 (nI (q - u)) = z
        have zhi : ∀ o, 65 ≤ o → y0 z o = h o := fun o ho => by rw [y0_ne (by omega), ← hz, hp_ne (by omega), hp_ne (by omega)]
        have Sz : SIM 1 n f h (y0 z) := T.1.mcongr zhi
        have x1 : m_po (y0 z) (nI j) 1 = nI li := (Sz.1.po (k := 1) hn hj (by omega)).trans k5
        have em : m_use (y0 z) (nI j) c = nI u := by
          unfold m_use
          rw [x1, zhi 69 (by omega), hm, show (100 : Int32) = nI 100 from rfl, pk_sub g5, mnN (by omega) (by omega), ec, mnN (by omega) (by omega), ← hu]
          congr 1
          omega
        have hy : y_puddle z (nI j) c = (m_use (y0 z) (nI j) c, m_useH (y0 z) (nI j) c) := by
          unfold y_puddle
          rw [if_neg ((i1 z (by rw [← hz, hp_ne (by omega), hp_ne (by omega)])).mp c1), if_neg c2, if_neg (by rw [bIt ((elow z Sz).mpr (bI1 c3))]; decide)]
        rw [hy]
        have eH : m_useH (y0 z) (nI j) c = hp_up (m_set (y0 z) (nI j) (nI 1) (nI (li + u))) 69 1 (nI (q - u)) := by
          unfold m_useH m_useS
          rw [em, x1, nI_add, m_set_ne (by omega), zhi 69 (by omega), hm, pk_sub huq]
          rfl
        refine ⟨em, ?_, ?_⟩
        · show m_useH (y0 z) (nI j) c 64 0 = 0
          rw [eH, hp_ne (by omega), m_set_ne (by omega)]
          exact y0_0
        · show TOP n f t (q - u) (m_useH (y0 z) (nI j) c)
          rw [eH]
          have eT : hp_up (y0 (hp_up (m_set (y0 (hp_up h (1 + 14 + j) (5 + 1) (nI (li + u)))) (nI j) (nI 1) (nI (li + u))) 1 7 (nI (q - u)))) 69 1 (nI (q - u)) = hp_up (m_set (y0 z) (nI j) (nI 1) (nI (li + u))) 69 1 (nI (q - u)) := by
            rw [← hz]
            unfold m_set
            generalize ix (nI j) (nI 1) = b
            generalize hp_up h (1 + 14 + j) (5 + 1) (nI (li + u)) = X
            rw [hp_comm (h := y0 X) (o := 67) (o2 := 1) (by omega), y0_comm (o := 1) (by omega), y0_comm (o := 67) (by omega), y0_comm (h := y0 X) (o := 1) (by omega), y0_y0]
          rw [← eT]
          exact TC
  · rw [if_neg c1]
    refine Or.inr (Or.inl ⟨rfl, ?_⟩)
    unfold y_puddle
    rw [if_pos (Decidable.not_not.mp (fun z => c1 ((i1 h rfl).mpr z)))]
