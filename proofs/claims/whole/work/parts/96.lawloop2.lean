/-- the loop, from its head: it comes to the end with 1 -/
theorem law_end {g : gW} {p : Program} {l : Launch} {e : Env} {s : State} {m : MethodId} {below : List Frame} {meth : Method} {c : Code} {b : Nat} {lv : List (Nat × Value)} {cells slots : Nat} {h : Hp} {d0 : Drawn} (hd0 : s.drawn.sameBut d0 lw_cs) (C : CL g p (s.setDrawn d0) m #[.ref b] meth c cL_law 9 RL) (hret : meth.sig.returnType = ret) (hc : cells ≤ 601024) (hs : slots ≤ 7293034) : WW g p l e room_1 (s.setDrawn d0) m #[.ref b] below meth c 9 [] h lv cells slots (lw_Z below #[Value.ref b] s) 1467 [] := by
  refine lx_iconst (v := 1) C dL_law_1467 (by decide) ?_
  intro H locs ls hP hD hS hl
  have h8 : s.heap.size = gB g := C.2.2.2.2.2.2.2
  refine va_forget (fun q hq => ?_) (W.widen hc hs (lw_ret hd0 C.1 C.2.1 hret C.2.2.2.2.2.2.1 dL_law_1468))
  have h1 := hS.2.2 q hq
  show s.heap.size ≤ q.base
  rcases h1 with z | z
  · omega
  · exact z
set_option maxRecDepth 100000 in
set_option maxHeartbeats 4000000 in
theorem law_loop {g : gW} {p : Program} {l : Launch} {e : Env} {s : State} {m : MethodId} {below : List Frame} {meth : Method} {c : Code} {b L : Nat} {xs : Nat → Int32} (hst : l.stackTraces = false) (hret : meth.sig.returnType = ret) (Z : LC g p s m b meth c L xs) : ∀ (fu j : Nat), L + 6 ≤ 6 * j + fu → 6 * j ≤ L + 6 → ∀ (d0 : Drawn), s.drawn.sameBut d0 lw_cs → ∀ (h : Hp), PT (100 * j) h →
    WW g p l e room_1 (s.setDrawn d0) m #[.ref b] below meth c 9 [] h (lv0 g b (nI (6 * j))) (71 + 100 * j) (2000 + 1000 * j) (lw_Z below #[Value.ref b] s) 23 [] := by
  have hL : L ≤ 3072 := Z.2.2.2.2.2.2
  intro fu
  induction fu with
  | zero =>
    intro j h1 h2 d0 hd0 h hP
    have Zd := Z.dr d0
    obtain ⟨C, hE, hN, hKX, hX, hbl, -⟩ := Zd
    refine lx_iload C dL_law_23 rfl ?_
    refine lx_aload_n C dL_law_25 0 rfl rfl ?_
    refine lx_slen C hX hbl dL_law_26 ?_
    refine lx_bipush (v := nI 6) C dL_law_27 (by decide) ?_
    refine lx_isub C dL_law_29 ?_
    refine lx_icmp_gt C dL_law_30 1467 (by decide) (fun _ => law_end hd0 C hret (by omega) (by omega)) (fun z => ?_)
    exfalso
    apply z
    rw [Int32.lt_iff_toInt_lt, pk_sub_toInt (by omega) (by omega), nI_toInt (by omega)]
    omega
  | succ fu ih =>
    intro j h1 h2 d0 hd0 h hP
    have Zd := Z.dr d0
    obtain ⟨C, hE, hN, hKX, hX, hbl, -⟩ := id Zd
    refine lx_iload C dL_law_23 rfl ?_
    refine lx_aload_n C dL_law_25 0 rfl rfl ?_
    refine lx_slen C hX hbl dL_law_26 ?_
    refine lx_bipush (v := nI 6) C dL_law_27 (by decide) ?_
    refine lx_isub C dL_law_29 ?_
    refine lx_icmp_gt C dL_law_30 1467 (by decide) (fun _ => law_end hd0 C hret (by omega) (by omega)) (fun z => ?_)
    rw [Int32.lt_iff_toInt_lt, pk_sub_toInt (by omega) (by omega), nI_toInt (by omega)] at z
    have hj : 6 * j + 6 ≤ L := by omega
    obtain ⟨n, f, t, q, T, ht⟩ := hP
    have hr : 71 + 100 * j + 100 ≤ room_1.cells ∧ 2000 + 1000 * j + 1000 ≤ room_1.slots := ⟨by show _ ≤ 601024; omega, by show _ ≤ 7293034; omega⟩
    have ht4 : t + 400 < 2 ^ 31 := by omega
    have tail : ∀ (d1 : Drawn), s.drawn.sameBut d1 lw_cs → ∀ h2 : Hp, PT (t + 100) h2 → WW g p l e room_1 (s.setDrawn d1) m #[.ref b] below meth c 9 [] h2 (lv0 g b (nI (6 * j))) (71 + 100 * j + 100) (2000 + 1000 * j + 1000) (lw_Z below #[Value.ref b] s) 1461 [] := by
      intro d1 hd1 h2 hP2
      have C1 := Z.1.dr d1
      refine lx_iinc (v := nI (6 * (j + 1))) C1 dL_law_1461 rfl ?_ (by omega) ?_
      · show nI (6 * j) + nI 6 = nI (6 * (j + 1))
        rw [nI_add]
        rfl
      refine lx_goto C1 dL_law_1464 23 (by decide) ?_
      exact ww_lv (lv0 g b (nI (6 * (j + 1)))) ⟨rfl, rfl, rfl, rfl, rfl, trivial⟩ (ww_wide _ _ (by omega) (by omega) (ih (j + 1) (by omega) (by omega) d1 hd1 h2 (hP2.mono (by omega))))
    refine lx_aload_n C dL_law_33 0 rfl rfl ?_
    refine lx_iload C dL_law_34 rfl ?_
    refine lx_sld (j := 6 * j) C hX hbl rfl (by omega) (by omega) dL_law_36 ?_
    refine lx_bipush (v := 31) C dL_law_37 (by decide) ?_
    refine lx_iand C dL_law_39 ?_
    obtain ⟨k, hk, ek⟩ := pk_andE (xs (6 * j)) (m := 31) 5 (by decide)
    rw [ek]
    have hcase : k = 0 ∨ k = 1 ∨ k = 2 ∨ k = 3 ∨ k = 4 ∨ k = 5 ∨ k = 6 ∨ k = 7 ∨ k = 8 ∨ k = 9 ∨ k = 10 ∨ k = 11 ∨ k = 12 ∨ k = 13 ∨ k = 14 ∨ k = 15 ∨ k = 16 ∨ k = 17 ∨ k = 18 ∨ k = 19 ∨ 20 ≤ k := by omega
    rcases hcase with rfl | rfl | rfl | rfl | rfl | rfl | rfl | rfl | rfl | rfl | rfl | rfl | rfl | rfl | rfl | rfl | rfl | rfl | rfl | rfl | hk20
    · exact lx_sw C dL_law_40 (by decide) (by decide) rfl (by decide) (law_dig hst Zd hj T ht4 hr (tail d0 hd0))
    · exact lx_sw C dL_law_40 (by decide) (by decide) rfl (by decide) (law_link hst Zd hj T ht4 hr (tail d0 hd0))
    · exact lx_sw C dL_law_40 (by decide) (by decide) rfl (by decide) (law_puddle hst Zd hj T ht4 hr (tail d0 hd0))
    · exact lx_sw C dL_law_40 (by decide) (by decide) rfl (by decide) (law_strew hst Zd hj T ht4 hr (tail d0 hd0))
    · exact lx_sw C dL_law_40 (by decide) (by decide) rfl (by decide) (law_pour hst Zd hj T ht4 hr (tail d0 hd0))
    · exact lx_sw C dL_law_40 (by decide) (by decide) rfl (by decide) (law_pond hst Zd hj T ht4 hr (tail d0 hd0))
    · exact lx_sw C dL_law_40 (by decide) (by decide) rfl (by decide) (law_setWeather hst Zd hj T ht4 hr (tail d0 hd0))
    · exact lx_sw C dL_law_40 (by decide) (by decide) rfl (by decide) (law_bring hst Zd hj T ht4 hr (tail d0 hd0))
    · exact lx_sw C dL_law_40 (by decide) (by decide) rfl (by decide) (law_addFlock hst Zd hj T ht4 hr (tail d0 hd0))
    · exact lx_sw C dL_law_40 (by decide) (by decide) rfl (by decide) (law_drive hst Zd hj T ht4 hr (tail d0 hd0))
    · exact lx_sw C dL_law_40 (by decide) (by decide) rfl (by decide) (law_setRoams hst Zd hj T ht4 hr (tail d0 hd0))
    · exact lx_sw C dL_law_40 (by decide) (by decide) rfl (by decide) (law_flock hst Zd hj T ht4 hr (tail d0 hd0))
    · exact lx_sw C dL_law_40 (by decide) (by decide) rfl (by decide) (law_pass hst Zd hj T ht4 hr (tail d0 hd0))
    · exact lx_sw C dL_law_40 (by decide) (by decide) rfl (by decide) (law_count hst Zd hj T ht4 hr (tail d0 hd0))
    · exact lx_sw C dL_law_40 (by decide) (by decide) rfl (by decide) (law_foresee hst Zd hj T ht4 hr (tail d0 hd0))
    · exact lx_sw C dL_law_40 (by decide) (by decide) rfl (by decide) (law_lasts hst Zd hj T ht4 hr (tail d0 hd0))
    · exact lx_sw C dL_law_40 (by decide) (by decide) rfl (by decide) (law_keep hst Zd hj T ht4 hr (tail d0 hd0))
    · exact lx_sw C dL_law_40 (by decide) (by decide) rfl (by decide) (law_advise hst Zd hj T ht4 hr (tail d0 hd0))
    · exact lx_sw C dL_law_40 (by decide) (by decide) rfl (by decide) (law_full hd0 Z T hr tail)
    · exact lx_sw C dL_law_40 (by decide) (by decide) rfl (by decide) (law_digest Zd T hr (tail d0 hd0))
    · refine lx_swD (tgt := 1461) C dL_law_40 (Or.inr ?_) (by decide) ?_
      · rw [nI_toInt (by omega)]
        omega
      · exact ww_wide _ _ (by omega) (by omega) (tail d0 hd0 h ⟨n, f, t, q, T, by omega⟩)
