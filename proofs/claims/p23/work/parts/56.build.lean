/-! build -/
theorem sr_00 {h : Hp} (h6 : h 1 6 = 0) (h7 : h 1 7 = 100) (hw : ∀ j c, j < 10 → c < 3 → h (3 + j) c = 0) : SR 0 0 h r00 := by
  refine ⟨fun o k hs => ?_, h6, h7⟩
  have e : r00 o k = 0 := if_neg (by unfold sW at hs; omega)
  rw [e]
  unfold sW at hs
  obtain ⟨j, rfl⟩ : ∃ j, o = 3 + j := ⟨o - 3, by omega⟩
  exact hw j k (by omega) (by omega)
set_option maxHeartbeats 4000000 in
theorem gt_L_build {g : gW} {l : Launch} (hst : l.stackTraces = false) {b N : Nat} {xs : Nat → Int32} (hN : N ≤ 260) {q0 : Nat} {h : Hp} (hT : TOP 0 0 0 q0 h) (hR : SR 0 0 h r00) : GT g l yL_build cL_build 13 (some (FieldType.object "DewPondLaw$Sim")) 8 100 600 [.ref (gB g + 0), .ref b, .int 7] (fun U => (EXs g U ∧ XS g b N xs U) ∧ KN U) (wl g [] h) (AG g) (fun v L2 N2 => N2 = [] ∧ ∃ (A : Ad) (n f q : Nat) (h r : Hp), v = some (.ref (A 1)) ∧ L2 = wl g (sx g A n f r) h ∧ 1 ≤ n ∧ n ≤ 7 ∧ f ≤ 5 ∧ TS n f 0 q h r) := by
  refine GT.of (lv0 := [(0, .ref (gB g + 0)), (1, .ref b), (2, .int 7)]) mf_L_build.1.2.2.2 (Nat.le_of_ble_eq_true rfl) rfl ?_
  intro p e s m below meth c C hE hr hD0 hP0
  obtain ⟨⟨hE, hX⟩, hKN⟩ := hE
  have hFA : ∀ q, q < s.heap.size → FF (AG g) s.heap.size q → AG g q := fun q h1 h2 => h2.elim id (fun z => absurd h1 (by omega))
  have hn : 0 ≤ 10 := by omega
  refine gg_new (T := TX5) (Nf := 5) (ci := 5) (fs := [.int 0, .int 0, .null, .null, .null]) C (fun _ h9 => Or.inr h9) rfl inX5 tyX5 tyX5_ok q_k_L_9 q_a_X5 q_n_X5 (by decide +kernel) ⟨Nat.le_of_ble_eq_true rfl, Nat.le_of_ble_eq_true rfl⟩ dL_build_0 (fun a => ?_)
  refine gg_dup C dL_build_3 rfl ?_
  refine gg_ls (wl g [] h ++ ([(a, .inr (5, [.int 0, .int 0, .null, .null, .null]))] ++ [])) rfl ?_
  refine gg_callN (A := wl g [] h) (B := []) (As := []) C mf_X5_init rfl q_i_X5_init gt_X5_init EB.tt EM.tt (fun x hx => ?_) (fun hD q hq => ?_) (fun hD x hx => ?_) hKN rfl rfl (Nat.le_of_ble_eq_true rfl) (by exact ⟨Nat.le_of_ble_eq_true rfl, Nat.le_of_ble_eq_true rfl⟩) (by exact ⟨Nat.le_of_ble_eq_true rfl, Nat.le_of_ble_eq_true rfl⟩) dL_build_4 (fun v L2 N9 hp => ?_) (fun v L2 N9 hp => hp.1)
  · rcases List.mem_cons.mp hx with rfl | h9
    · rfl
    · cases h9
  · rcases hq with rfl | hq
    · exact hD.mem (q, _) (List.mem_append_right _ List.mem_cons_self)
    · exact Or.inr hq
  · have hx : x ∈ wl g [] h := hx.resolve_right (fun h9 => by cases h9)
    have hd := hD.nd
    rw [List.map_append] at hd
    obtain ⟨-, -, h3⟩ := List.nodup_append.mp hd
    exact h3 x.1 (List.mem_map.mpr ⟨x, hx, rfl⟩) a List.mem_cons_self
  obtain ⟨rfl, A, rfl, hL⟩ := hp
  refine gg_ls (wc g h ++ (sx g A 0 0 r00 ++ [])) (by rw [← hL, List.append_nil, List.nil_append]; show (wc g h ++ []) ++ _ = _; rw [List.append_nil]) ?_
  refine gg_astore_n C dL_build_7 3 rfl (by decide) ?_
  refine gg_iconst (v := 1) C dL_build_8 (by decide) ?_
  refine gg_aload_n C dL_build_9 1 rfl rfl ?_
  refine gg_iconst (v := 0) C dL_build_10 (by decide) ?_
  refine gg_top (y := nI 0) rfl ?_
  refine gg_callP (v := cel N xs 0) C mf_L_cell (gt_L_cell (by omega) (by omega)) XS_blind (EM.xs hX hFA) (fun _ h9 => Or.inr h9) q_m_L_12 rfl rfl (Nat.le_of_ble_eq_true rfl) (by exact ⟨Nat.le_of_ble_eq_true rfl, Nat.le_of_ble_eq_true rfl⟩) (by exact ⟨by show _ ≤ 100; omega, by show _ ≤ 600; omega⟩) dL_build_11 ?_
  refine gg_iload_n C dL_build_14 2 rfl rfl ?_
  refine gg_callP (v := bel (cel N xs 0) 7) C mf_L_below (gt_L_below (by decide)) EB.tt EM.tt (fun _ h9 => Or.inr h9) q_m_L_18 rfl rfl (Nat.le_of_ble_eq_true rfl) (by exact ⟨Nat.le_of_ble_eq_true rfl, Nat.le_of_ble_eq_true rfl⟩) (by exact ⟨by show _ ≤ 100; omega, by show _ ≤ 600; omega⟩) dL_build_15 ?_
  obtain ⟨a0, ha0, ea0⟩ := bel_is (x := (cel N xs 0)) (N := 7) (by omega) (by omega)
  refine gg_top (show bel (cel N xs 0) 7 = nI a0 from ea0) ?_
  refine gg_iadd C dL_build_18 ?_
  refine gg_top (y := nI (a0 + 1)) (by rw [show (1 : Int32) = nI 1 from rfl, nI_add, Nat.add_comm]) ?_
  refine gg_istore C dL_build_19 (by decide) ?_
  refine gg_iconst (v := 0) C dL_build_21 (by decide) ?_
  refine gg_istore C dL_build_22 (by decide) ?_
  refine gg_lv [(0, .ref (gB g + 0)), (1, .ref b), (3, .ref (A 1)), (4, .int (nI (a0 + 1))), (5, .int (nI 0))] ⟨rfl, rfl, rfl, rfl, rfl, trivial⟩ ?_
  refine bd_1 (P := a0 + 1) (q := q0) C hst hE hX hN ⟨by omega, by omega⟩ (fun A n h r hn1 hn7 hT hW => ?_) (a0 + 1 + 1) 0 (by omega) (by omega) A 0 h r00 (by omega) (fun z => absurd z (Nat.lt_irrefl 0)) ⟨hT, hR, fun j hj => absurd hj (Nat.not_lt_zero j)⟩ ⟨fun j hj => absurd hj (Nat.not_lt_zero j), fun j c h1 h2 => if_neg (by omega)⟩
  have hn : n ≤ 10 := by omega
  refine gg_aload_n C dL_build_325 3 rfl rfl ?_
  refine gs_pon C hn q_f_L_22 dL_build_326 ?_
  refine gs_lenP C hn dL_build_329 ?_
  refine gg_istore C dL_build_330 (by decide) ?_
  refine gg_iconst (v := 0) C dL_build_332 (by decide) ?_
  refine gg_istore C dL_build_333 (by decide) ?_
  refine gg_lv [(0, .ref (gB g + 0)), (1, .ref b), (3, .ref (A 1)), (5, .int (nI n)), (6, .int (nI 0))] ⟨rfl, rfl, rfl, rfl, rfl, trivial⟩ ?_
  refine bd_2 C hst hE hX hN hn1 hn7 (fun h r hT hW0 => ?_) (n + 1) 0 (Nat.zero_le _) (by omega) h r hT (fun i _ hi => hW.1 i hi) hW.2
  refine gg_iconst (v := 0) C dL_build_493 (by decide) ?_
  refine gg_istore C dL_build_494 (by decide) ?_
  refine gg_lv [(0, .ref (gB g + 0)), (1, .ref b), (3, .ref (A 1)), (5, .int (nI n)), (6, .int (nI 0))] ⟨rfl, rfl, rfl, rfl, rfl, trivial⟩ ?_
  refine bd_3 C hst hE hX hN hn1 hn7 (fun A3 h r hT => ?_) (10 + 1) 0 (Nat.zero_le _) (by omega) A h r hT (fun o c _ h1 h2 => hW0 o c h1 h2)
  refine gg_aload_n C dL_build_611 1 rfl rfl ?_
  refine gg_bipush (v := 10) C dL_build_612 (by decide) ?_
  refine gg_top (y := nI 10) rfl ?_
  refine gg_callP (v := cel N xs 10) C mf_L_cell (gt_L_cell (by omega) (by omega)) XS_blind (EM.xs hX hFA) (fun _ h9 => Or.inr h9) q_m_L_12 rfl rfl (Nat.le_of_ble_eq_true rfl) (by exact ⟨Nat.le_of_ble_eq_true rfl, Nat.le_of_ble_eq_true rfl⟩) (by exact ⟨by show _ ≤ 100; omega, by show _ ≤ 600; omega⟩) dL_build_614 ?_
  refine gg_bipush (v := 6) C dL_build_617 (by decide) ?_
  refine gg_callP (v := bel (cel N xs 10) 6) C mf_L_below (gt_L_below (by decide)) EB.tt EM.tt (fun _ h9 => Or.inr h9) q_m_L_18 rfl rfl (Nat.le_of_ble_eq_true rfl) (by exact ⟨Nat.le_of_ble_eq_true rfl, Nat.le_of_ble_eq_true rfl⟩) (by exact ⟨by show _ ≤ 100; omega, by show _ ≤ 600; omega⟩) dL_build_619 ?_
  obtain ⟨nf, hnf, enf⟩ := bel_is (x := (cel N xs 10)) (N := 6) (by omega) (by omega)
  refine gg_top (show bel (cel N xs 10) 6 = nI nf from enf) ?_
  refine gg_istore C dL_build_622 (by decide) ?_
  refine gg_iconst (v := 0) C dL_build_624 (by decide) ?_
  refine gg_istore C dL_build_625 (by decide) ?_
  refine gg_lv [(0, .ref (gB g + 0)), (1, .ref b), (3, .ref (A3 1)), (5, .int (nI n)), (6, .int (nI nf)), (7, .int (nI 0))] ⟨rfl, rfl, rfl, rfl, rfl, rfl, trivial⟩ ?_
  refine bd_4 C hst hE hX hN hn1 hn7 hnf (fun A4 f h r hf hT => ?_) (nf + 1) 0 (Nat.zero_le _) (by omega) A3 h r hT
  refine gg_aload_n C dL_build_786 3 rfl rfl ?_
  refine gg_wide 100 600 (by omega) (by omega) ?_
  exact gg_aret C (wl g (sx g A4 n f r) h) [] (by show wc g h ++ (sx g A4 n f r ++ []) = (wc g h ++ sx g A4 n f r) ++ []; rw [List.append_nil, List.append_nil]) ⟨rfl, A4, n, f, _, h, r, rfl, rfl, hn1, hn7, hf, hT⟩ hr (Or.inl ⟨_, rfl⟩) dL_build_787
