/-! pouring into a dry pond; rows that agree -/
theorem SR.same {n f : Nat} {c r r2 : Hp} (R : SR n f c r) (h : ∀ o k, sW n f o k → r o k = r2 o k) (h6 : r 1 6 = r2 1 6) (h7 : r 1 7 = r2 1 7) : SR n f c r2 := ⟨fun o k hw => (R.1 o k hw).trans (h o k hw), R.2.1.trans h6, R.2.2.trans h7⟩
theorem hold_nI {n f t q j : Nat} {h r : Hp} (T : TOP n f t q h) (R : SR n f h r) (hj : j < n) : ∃ H : Nat, H ≤ 5400 ∧ s_holds r (15 + j) = nI H := by
  obtain ⟨ht, sz, dp, w, li, g1, g2, g3, g4, g5, k1, k2, k3, k4, k5⟩ := T.1.2.1.1 j hj
  have hsd : sz * dp ≤ 540 := Nat.mul_le_mul g2.2 g3.2
  refine ⟨sz * dp * 10, by omega, ?_⟩
  have k2 : h (15 + j) 3 = nI sz := k2
  have k3 : h (15 + j) 4 = nI dp := k3
  rw [← R.hold hj]
  unfold p_holds
  rw [k2, k3, pk_mul]
  exact pk_mul _ 10
theorem lw_pour0 {n f t q j a : Nat} {h r : Hp} (T : TOP n f t q h) (R : SR n f h r) (hj : j < n) (ha : a < 6000) (h5 : r (15 + j) 5 = 0) : ANS n f t q (x_pour n h (nI j) (nI a)) (mnI (nI a) (s_holds r (15 + j))) (hp_up r (15 + j) 5 (mnI (nI a) (s_holds r (15 + j)))) := by
  have hb : (-10000 : Int32) ≤ nI a ∧ nI a ≤ 10000 := by
    rw [Int32.le_iff_toInt_le, Int32.le_iff_toInt_le, nI_toInt (by omega), show (-10000 : Int32).toInt = -10000 from by decide, show (10000 : Int32).toInt = 10000 from by decide]
    omega
  have A := lw_pour T R hj hb
  obtain ⟨H, hH, eH⟩ := hold_nI T R hj
  have ev : mxI 0 (mnI (s_holds r (15 + j)) (r (15 + j) 5 + nI a)) = mnI (nI a) (s_holds r (15 + j)) := by
    rw [h5, Int32.zero_add, eH, mnN (by omega) (by omega), mnN (by omega) (by omega), mx0 (by omega), Nat.min_comm]
  rw [ev] at A
  exact A
