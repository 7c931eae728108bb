theorem q_n_E_I : Cond.initialized E_I ∈ TT := by decide +kernel
theorem q_n_E_A : Cond.initialized E_A ∈ TT := by decide +kernel
theorem q_n_E_S : Cond.initialized E_S ∈ TT := by decide +kernel
theorem gx_of {own : String} {ic : Nat} {cls : String} (h : (vx_atS own ic cls eNm).all (fun w => decide (w ∈ TT) || decide (w ∈ NBl)) = true) : goodX own ic cls := fun w hw => by
  have := List.all_eq_true.mp h w hw
  simpa using this
theorem gx_X0_72 : goodX RX0 72 E_I := gx_of (by decide +kernel)
theorem gx_X0_83 : goodX RX0 83 E_S := gx_of (by decide +kernel)
theorem gx_X4_29 : goodX RX4 29 E_A := gx_of (by decide +kernel)
theorem gx_X4_63 : goodX RX4 63 E_S := gx_of (by decide +kernel)
theorem gx_X4_118 : goodX RX4 118 E_I := gx_of (by decide +kernel)
theorem gy_X0_72 : (Cond.classLink RX0 68 E_I :: Cond.initialized E_I :: vx_atS RX0 72 E_I eNm).all vx_ot = true := by decide +kernel
theorem gy_X0_83 : (Cond.classLink RX0 79 E_S :: Cond.initialized E_S :: vx_atS RX0 83 E_S eNm).all vx_ot = true := by decide +kernel
theorem gy_X4_29 : (Cond.classLink RX4 25 E_A :: Cond.initialized E_A :: vx_atS RX4 29 E_A eNm).all vx_ot = true := by decide +kernel
theorem gy_X4_63 : (Cond.classLink RX4 59 E_S :: Cond.initialized E_S :: vx_atS RX4 63 E_S eNm).all vx_ot = true := by decide +kernel
theorem gy_X4_118 : (Cond.classLink RX4 114 E_I :: Cond.initialized E_I :: vx_atS RX4 118 E_I eNm).all vx_ot = true := by decide +kernel
theorem isN_of {n : Nat} {x b : Int32} (hb : b = nI n) (hn : n < 2 ^ 31) (h0 : ¬ x < 0) (h1 : x < b) : isN n x := by
  subst hb
  obtain ⟨j, hj, rfl⟩ := nI_of h0
  exact ⟨j, (nI_ltI hj hn).mp h1, rfl⟩
