/-! the law's loop -/
theorem EXs.dr {g : gW} {s : State} (h : EXs g s) (d : Drawn) : EXs g (s.setDrawn d) := by
  obtain ⟨q2, q3, q4, q5⟩ := h
  refine ⟨fun w hw => ?_, fun z hz => ?_, vx_Zq.moved (u := s) (U := s.setDrawn d) (Vm.Alike.refl s.vm) q4, vx_Zq.moved (u := s) (U := s.setDrawn d) (Vm.Alike.refl s.vm) q5⟩
  · have h1 := q2 w hw
    have ht : w.onTables = true := by
      simp only [NBl, List.mem_cons, List.not_mem_nil, or_false] at hw
      rcases hw with rfl | rfl | rfl | rfl | rfl | rfl <;> rfl
    exact va_Nw.same ht (u := s) rfl h1
  · obtain ⟨x, hx⟩ := q3 z hz
    exact ⟨x, vk_R.same (u := s) rfl hx⟩
theorem NCs.dr {s : State} (h : NCs s) (d : Drawn) : NCs (s.setDrawn d) := ⟨va_Nc.moved (u := s) (U := s.setDrawn d) (Vm.Alike.refl s.vm) h.1, va_Nc.moved (u := s) (U := s.setDrawn d) (Vm.Alike.refl s.vm) h.2.1, va_Nc.moved (u := s) (U := s.setDrawn d) (Vm.Alike.refl s.vm) h.2.2⟩
theorem KX.dr {s : State} (h : KX s) (d : Drawn) : KX (s.setDrawn d) := ⟨va_Nw.same rfl (u := s) rfl h.1, ovA_moved (u := s) (U := s.setDrawn d) (Vm.Alike.refl s.vm) h.2⟩
theorem LC.dr {g : gW} {p : Program} {s : State} {m : MethodId} {b : Nat} {meth : Method} {c : Code} {L : Nat} {xs : Nat → Int32} (Z : LC g p s m b meth c L xs) (d : Drawn) : LC g p (s.setDrawn d) m b meth c L xs :=
  ⟨Z.1.dr d, Z.2.1.dr d, Z.2.2.1.dr d, Z.2.2.2.1.dr d, Z.2.2.2.2.1, Z.2.2.2.2.2.1, Z.2.2.2.2.2.2⟩
section GLL
variable {g : gW} {p : Program} {l : Launch} {e : Env} {s : State} {m : MethodId} {below : List Frame} {meth : Method} {c : Code} {b L : Nat} {xs : Nat → Int32}
set_option maxRecDepth 100000 in
set_option maxHeartbeats 1600000 in
theorem law_digest {j n f t q cells slots : Nat} {h : Hp} {Q : State → Prop} (Z : LC g p s m b meth c L xs) (T : TOP n f t q h) (hr : cells + 100 ≤ room_1.cells ∧ slots + 1000 ≤ room_1.slots)
    (kk : ∀ h2, PT (t + 100) h2 → WW g p l e room_1 s m #[.ref b] below meth c 9 [] h2 (lv0 g b (nI (6 * j))) (cells + 100) (slots + 1000) Q 1461 []) : WW g p l e room_1 s m #[.ref b] below meth c 9 [] h (lv0 g b (nI (6 * j))) cells slots Q 1447 [] := by
  obtain ⟨C, hE, hN, hKX, hX, hbl, hL⟩ := Z
  obtain ⟨hM, hM0, hMC⟩ := mok_top T
  refine lx_aload_n C dL_law_1447 1 rfl rfl ?_
  refine lx_callV (As := []) (rest := []) (ci := 4) C mf_X4_digest (ct_X4_digest T.2.1) q_m_L_148 (by omega) rfl rfl ⟨_, rfl⟩ rfl rfl (Nat.le_of_ble_eq_true rfl) ⟨(Nat.le_of_ble_eq_true rfl), (Nat.le_of_ble_eq_true rfl)⟩ ⟨Nat.le_trans (by omega) hr.1, Nat.le_trans (by omega) hr.2⟩ dL_law_1448 ?_
  refine lx_aload_n C dL_law_1451 2 rfl rfl ?_
  refine lx_callV (As := []) (rest := [.long (x_digest n f h)]) (ci := 5) C mf_X5_digest (ct_X5_digest hM hMC) q_m_L_152 (by omega) rfl rfl ⟨_, rfl⟩ rfl rfl (Nat.le_of_ble_eq_true rfl) ⟨(Nat.le_of_ble_eq_true rfl), (Nat.le_of_ble_eq_true rfl)⟩ ⟨Nat.le_trans (by omega) hr.1, Nat.le_trans (by omega) hr.2⟩ dL_law_1452 ?_
  refine lx_lcmp C dL_law_1455 ?_
  refine lx_if_eq C dL_law_1456 1461 (by decide) (fun _ => ?_) (fun z => absurd (by rw [op_digest T]; exact lg_self _) z)
  exact ww_wide _ _ (by omega) (by omega) (kk _ ⟨n, f, t, q, top_y0 T, by omega⟩)
set_option maxRecDepth 100000 in
set_option maxHeartbeats 1600000 in
theorem law_full {j n f t q cells slots : Nat} {h : Hp} {Q : State → Prop} {d0 : Drawn} (hd0 : s.drawn.sameBut d0 lw_cs) (Z : LC g p s m b meth c L xs) (T : TOP n f t q h) (hr : cells + 100 ≤ room_1.cells ∧ slots + 1000 ≤ room_1.slots)
    (kk : ∀ d1, s.drawn.sameBut d1 lw_cs → ∀ h2, PT (t + 100) h2 → WW g p l e room_1 (s.setDrawn d1) m #[.ref b] below meth c 9 [] h2 (lv0 g b (nI (6 * j))) (cells + 100) (slots + 1000) Q 1461 []) : WW g p l e room_1 (s.setDrawn d0) m #[.ref b] below meth c 9 [] h (lv0 g b (nI (6 * j))) cells slots Q 1406 [] := by
  have C := Z.1.dr d0
  refine lx_aload_n C dL_law_1406 1 rfl rfl ?_
  refine lx_callD hd0 (As := []) (rest := []) (ci := 4) C mf_X4_full (dt_X4_full T.2.1) q_m_L_143 (by omega) rfl rfl ⟨_, rfl⟩ rfl rfl (Nat.le_of_ble_eq_true rfl) ⟨(Nat.le_of_ble_eq_true rfl), (Nat.le_of_ble_eq_true rfl)⟩ ⟨Nat.le_trans (by omega) hr.1, Nat.le_trans (by omega) hr.2⟩ dL_law_1407 (fun r1 d1 hd1 h1 => ?_)
  have C1 := Z.1.dr d1
  refine lx_dstore C1 dL_law_1410 (by omega) (lv2 := (5, .double r1) :: lv0 g b (nI (6 * j))) rfl ?_
  refine lx_aload_n C1 dL_law_1412 2 rfl rfl ?_
  refine lx_callD hd1 (As := []) (rest := []) (ci := 5) C1 mf_X5_full (dt_X5_full T.2.2.1) q_m_L_147 (by omega) rfl rfl ⟨_, rfl⟩ rfl rfl (Nat.le_of_ble_eq_true rfl) ⟨(Nat.le_of_ble_eq_true rfl), (Nat.le_of_ble_eq_true rfl)⟩ ⟨Nat.le_trans (by omega) hr.1, Nat.le_trans (by omega) hr.2⟩ dL_law_1413 (fun r2 d2 hd2 h2 => ?_)
  have C2 := Z.1.dr d2
  refine lx_dstore C2 dL_law_1416 (by omega) (lv2 := (7, .double r2) :: (5, .double r1) :: lv0 g b (nI (6 * j))) rfl ?_
  refine lx_dload C2 dL_law_1418 rfl ?_
  refine lx_dload C2 dL_law_1420 rfl ?_
  refine lx_dcmp C2 dL_law_1422 ?_
  have fin : WW g p l e room_1 (s.setDrawn d2) m #[.ref b] below meth c 9 [] (y0 h) ((7, .double r2) :: (5, .double r1) :: lv0 g b (nI (6 * j))) (cells + 0 + 0) (slots + 0 + 0) Q 1444 [] := by
    refine lx_goto C2 dL_law_1444 1461 (by decide) ?_
    exact ww_lv (lv0 g b (nI (6 * j))) ⟨rfl, rfl, rfl, rfl, rfl, trivial⟩ (ww_wide _ _ (by omega) (by omega) (kk d2 hd2 _ ⟨n, f, t, q, top_y0 T, by omega⟩))
  refine lx_if_eq C2 dL_law_1423 1444 (by decide) (fun _ => fin) (fun z => ?_)
  obtain ⟨z1, z2⟩ := (full_cmp (op_full T h1 h2)).resolve_left z
  refine lx_dload C2 dL_law_1426 rfl ?_
  refine lx_dload C2 dL_law_1428 rfl ?_
  refine lx_dcmp C2 dL_law_1430 ?_
  refine lx_if_eq C2 dL_law_1431 1442 (by decide) (fun z9 => absurd z9 z1) (fun _ => ?_)
  refine lx_dload C2 dL_law_1434 rfl ?_
  refine lx_dload C2 dL_law_1436 rfl ?_
  refine lx_dcmp C2 dL_law_1438 ?_
  exact lx_if_ne C2 dL_law_1439 1444 (by decide) (fun _ => fin) (fun z9 => absurd z9 z2)
end GLL
