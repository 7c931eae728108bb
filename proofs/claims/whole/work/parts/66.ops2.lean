theorem wH_hi {n f t k a : Nat} {h : Hp} {p : Int32} (H : OK 1 n f h) (ht : h 1 6 = nI t) (hp : p = -1 ∨ isN n p) (ha : 64 ≤ a) : x_wH n f t h k p a = h a := by
  have hn := H.2.1
  have hf6 : f ≤ 6 := H.2.2.2.1
  unfold x_wH
  rw [top_days (wL_ok H hp) (wL_t ht) (by omega)]
  unfold x_wL
  split
  · exact like_hi hn hf6 ha
  · rename_i hne
    obtain ⟨j, hj, e⟩ := hp.resolve_left hne
    subst e
    rw [nI_clamp (by omega), p_line_ne (by omega)]
    exact like_hi hn hf6 ha
theorem adv_hi {n f t k : Nat} {h : Hp} (H : OK 1 n f h) (ht : h 1 6 = nI t) (j : Nat) (hj : j ≤ n) : ∀ a, 64 ≤ a → (x_adv n f t h k j).2.2 a = h a := by
  induction j with
  | zero =>
    intro a ha
    have e1 : x_adv n f t h k 0 = (-1, x_wV n f t h k (-1), x_wH n f t h k (-1)) := by unfold x_adv; rw [fd_0]
    rw [e1]
    exact wH_hi H ht (Or.inl rfl) ha
  | succ j ih =>
    intro a ha
    have ih := ih (by omega)
    have hlo := adv_lo (k := k) H ht j (by omega)
    have H1 : OK 1 n f (x_adv n f t h k j).2.2 := H.lo hlo
    have ht1 : (x_adv n f t h k j).2.2 1 6 = nI t := by rw [hlo 1 (by omega)]; exact ht
    have e : x_adv n f t h k (j + 1) = x_advS n f t k (x_adv n f t h k j) j := by unfold x_adv; rw [fd_s]
    rw [e]
    by_cases c : bI ((x_adv n f t h k j).2.2 (1 + 14 + j) 5 ≤ p_holds (x_adv n f t h k j).2.2 (1 + 14 + j) / 4) = 0
    · rw [advS_a c]; exact ih a ha
    · by_cases c2 : x_wV n f t (x_adv n f t h k j).2.2 k (nI j) ≤ (x_adv n f t h k j).2.1
      · rw [advS_b c c2]; exact (wH_hi H1 ht1 (Or.inr ⟨j, by omega, rfl⟩) ha).trans (ih a ha)
      · rw [advS_c c c2]; exact (wH_hi H1 ht1 (Or.inr ⟨j, by omega, rfl⟩) ha).trans (ih a ha)
theorem op_advise {n f t q : Nat} {h : Hp} {k : Int32} (T : TOP n f t q h) :
    (∃ v h2, x_advise n f t h k = rI v h2 ∧ TOP n f t q h2 ∧ y_advise n f t h2 k = (v, y0 h2)) ∨ (x_advise n f t h k = .inr E_A ∧ y_advise n f t h k = yF h 1) := by
  have hn := T.2.1.2.1
  have hf := T.2.2.2.1
  unfold x_advise
  by_cases c2 : bI (1 ≤ k ∧ k ≤ 50) = 0
  · rw [if_pos c2]
    refine Or.inr ⟨rfl, ?_⟩
    unfold y_advise
    rw [if_pos c2]
  · rw [if_neg c2]
    left
    have hz : ∀ o, o < 32 ∨ 64 ≤ o → (x_adv n f t h k.toNatClampNeg n).2.2 o = h o := by
      intro o ho
      rcases ho with a | a
      · exact adv_lo T.2.1 T.2.2.2.2.1 n (Nat.le_refl n) o a
      · exact adv_hi T.2.1 T.2.2.2.2.1 n (Nat.le_refl n) o a
    refine ⟨_, _, rfl, top_fr T hz, ?_⟩
    unfold y_advise
    rw [if_neg c2]
    have := (say_adv (k := k.toNatClampNeg) hn hf (sim_fr T hz) T.2.1 T.2.2.2.2.1 T.2.2.2.2.2.1 (by rw [y0_ne (by omega), hz 69 (Or.inr (by omega))]; exact T.2.2.2.2.2.2.2.1) T.2.2.2.2.2.2.1 n (Nat.le_refl n)).1
    rw [this]
/-- full: the same quotient, the same NaN-free zero -/
theorem op_full {n f t q : Nat} {h : Hp} {r1 r2 : UInt64} (T : TOP n f t q h) (h1 : x_full n h r1) (h2 : y_full n (y0 h) r2) : (r1 = FP.dconst0 ∧ r2 = FP.dconst0) ∨ ∃ z, alike64 r1 z = true ∧ alike64 r2 z = true := by
  have hn := T.2.1.2.1
  have S0 : SIM 1 n f h (y0 h) := T.1.mcongr (fun o ho => y0_ne (by omega))
  have e1 := say_all hn S0.1
  have e2 := say_hold hn S0.1
  unfold x_full at h1
  unfold y_full at h2
  rw [e1, e2] at h1
  have e64 : y0 h 64 1 = nI n := y0_1.trans T.2.2.1.1
  have ez : m_hold (y0 h) n = 0 ↔ n = 0 := by
    constructor
    · intro z
      apply Classical.byContradiction
      intro hne
      -- the hold of all ponds is a number between 1 and 54000
      have key : ∀ k, k ≤ n → ∃ a : Nat, k ≤ a ∧ a ≤ 5400 * k ∧ m_hold (y0 h) k = nI a := by
        intro k
        induction k with
        | zero => intro _; exact ⟨0, by omega, by omega, by unfold m_hold sumN; rw [fd_0]; rfl⟩
        | succ k ih =>
          intro hk
          obtain ⟨a, a1, a2, a3⟩ := ih (by omega)
          obtain ⟨ht, sz, dp, w, li, g1, g2, g3, g4, g5, k1, k2, k3, k4, k5⟩ := S0.2.1.1 k (by omega)
          have es : m_hold (y0 h) (k + 1) = m_hold (y0 h) k + m_holds (y0 h) (nI k) := by unfold m_hold sumN; rw [fd_s]
          have eh : m_holds (y0 h) (nI k) = nI (sz * dp * 10) := by
            rw [say_holds hn S0.1 (by omega)]
            unfold p_holds
            rw [k2, k3, pk_mul]
            exact pk_mul _ 10
          have hsd : sz * dp ≤ 540 := Nat.mul_le_mul g2.2 g3.2
          have hsd1 : 1 * 1 ≤ sz * dp := Nat.mul_le_mul g2.1 g3.1
          exact ⟨a + sz * dp * 10, by omega, by omega, by rw [es, a3, eh, nI_add]⟩
      obtain ⟨a, a1, a2, a3⟩ := key n (Nat.le_refl n)
      rw [a3] at z
      have := (nI_eq (a := a) (b := 0) (by omega) (by omega)).mp z
      omega
    · intro z
      subst z
      unfold m_hold sumN
      rw [fd_0]
  by_cases c : n = 0
  · rw [if_pos (ez.mpr c)] at h1
    rw [if_pos (by rw [e64, c]; rfl)] at h2
    exact Or.inl ⟨h1, h2⟩
  · rw [if_neg (fun z => c (ez.mp z))] at h1
    rw [if_neg (by rw [e64]; exact fun z => c ((nI_eq (a := n) (b := 0) (by omega) (by omega)).mp z))] at h2
    exact Or.inr ⟨_, h1, h2⟩
