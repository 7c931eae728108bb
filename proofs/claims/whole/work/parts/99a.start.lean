set_option maxRecDepth 100000 in
set_option maxHeartbeats 4000000 in
/-- from the law's entry to its end -/
theorem whole_start {p : Program} {e : Env} {s : State} {m : MethodId} {below : List Frame} {meth : Method} {c : Code} (l : Launch) (hflags : l.flags = flags0) {b L : Nat} {xs : Nat → Int32} (hL : L ≤ 3072) (C0 : lw_At p s m meth c b L xs) : W p l e room_1 s m #[Value.ref b] below meth c s.heap [] 0 0 (lw_Z below #[Value.ref b] s) (entryFrame m ([Value.ref b] : List Value).toArray 9) := by
  obtain ⟨hx, hb, hret, hml, hown, hts0, hX, hbl, hlocks, hgv⟩ := C0
  have hst : l.stackTraces = false := by unfold Launch.stackTraces; rw [hflags]; decide
  obtain ⟨g, hB, hK⟩ := en_K hts0
  have ht : ∀ w ∈ TT, w.before #[Value.ref b] s = true := fun w hw => hts0 w (List.mem_filter.mp hw).1
  have hd0 := Drawn.sameBut.refl s.drawn lw_cs
  have CLs : CL g p s m #[.ref b] meth c cL_law 9 RL := ⟨hx, hb, hml, hown, ht, hK, hlocks, hB.symm⟩
  have Z : LC g p s m b meth c L xs := ⟨CLs, en_EXs hB hts0 hgv, en_NCs hgv, en_KX hts0, hX, hbl, hL⟩
  have CLd := CLs.dr s.drawn
  have C : CV g p (s.setDrawn s.drawn) m #[.ref b] meth c cL_law 9 RL 0 := ⟨CLd.1, CLd.2.1, CLd.2.2.1, CLd.2.2.2.1, CLd.2.2.2.2.1, CLd.2.2.2.2.2.1, CLd.2.2.2.2.2.2.1, CLd.2.2.2.2.2.2.2, (en_KC hts0).dr s.drawn⟩
  have harr : (Cond.arrayClass .long).before #[Value.ref b] (s.setDrawn s.drawn) = true := dr_words hts0 s.drawn _ (List.mem_append_right _ (List.mem_of_getElem? (i := 888) (by decide +kernel)))
  have key : VW g p l e room_1 (s.setDrawn s.drawn) m #[.ref b] below meth c 9 0 (fun _ => .inr (0, [])) [(0, .ref b)] 0 0 (lw_Z below #[Value.ref b] s) 0 [] := by
    refine vv_new (T := TX4) (Nf := 2) (ci := 4) (fs := [.null, .null]) C rfl inX4 tyX4 tyX4_ok q_k_L_8 q_a_X4 q_n_X4 (by decide +kernel) rfl ⟨(Nat.le_of_ble_eq_true rfl), (Nat.le_of_ble_eq_true rfl)⟩ dL_law_0 ?_
    refine vv_dup C dL_law_3 rfl ?_
    refine vv_callC (As := []) (N2 := 64) C mf_X4_init rfl q_i_X4_init (cc_X4_init cu_eq) q_m_L_74 rfl rfl rfl (Nat.le_of_ble_eq_true rfl) ⟨(Nat.le_of_ble_eq_true rfl), (Nat.le_of_ble_eq_true rfl)⟩ ⟨(Nat.le_of_ble_eq_true rfl), (Nat.le_of_ble_eq_true rfl)⟩ dL_law_4 ?_
    refine vv_astore_n C dL_law_7 1 rfl (by omega) ?_
    refine vv_new (T := TX5) (Nf := 8) (ci := 5) (fs := [.int 0, .int 0, .null, .int 0, .null, .null, .null, .null]) C rfl inX5 tyX5 tyX5_ok q_k_L_75 q_a_X5 q_n_X5 (by decide +kernel) rfl ⟨(Nat.le_of_ble_eq_true rfl), (Nat.le_of_ble_eq_true rfl)⟩ dL_law_8 ?_
    refine vv_dup C dL_law_11 rfl ?_
    refine vv_callC (As := []) (N2 := 70) C mf_X5_init rfl q_i_X5_init (cc_X5_init cu_eq) q_m_L_77 rfl rfl rfl (Nat.le_of_ble_eq_true rfl) ⟨(Nat.le_of_ble_eq_true rfl), (Nat.le_of_ble_eq_true rfl)⟩ ⟨(Nat.le_of_ble_eq_true rfl), (Nat.le_of_ble_eq_true rfl)⟩ dL_law_12 ?_
    refine vv_astore_n C dL_law_15 2 rfl (by omega) ?_
    refine vv_iconst (v := nI 1) C dL_law_16 (by decide) ?_
    refine vv_newl (k := 1) C harr rfl (by omega) rfl ⟨(Nat.le_of_ble_eq_true rfl), (Nat.le_of_ble_eq_true rfl)⟩ dL_law_17 ?_
    refine vv_astore_n C dL_law_19 3 rfl (by omega) ?_
    refine vv_iconst (v := nI 0) C dL_law_20 (by decide) ?_
    refine vv_istore C dL_law_21 (by omega) ?_
    refine vv_world (h := h00) hB.symm (fun o ho => ?_) ?_
    · by_cases e7 : o = 70
      · subst e7
        rw [cu_eq]
        have e0 : h00 70 0 = 0 := h00_0 (by omega) (by omega)
        show (Sum.inl (gA g 4, 1, Sum.inr (Sum.inl (fun _ => 0))) : va_E) = Sum.inl (gA g 4, 1, Sum.inr (Sum.inl (fun _ => (h00 70 0).toInt64)))
        rw [e0]
        rfl
      rw [cu_ne e7]
      by_cases e6 : 64 ≤ o
      · rw [if_neg (by omega), h00_hi e6]
      · rw [if_pos (by omega), cu_ne (by omega)]
        unfold ce
        by_cases e0 : o = 0
        · rw [if_pos e0, if_pos e0]
        · rw [if_neg e0, if_neg e0]
          by_cases e1 : o < 32
          · rw [if_pos e1, if_pos e1, h00_lo e0 e1]
          · rw [if_neg e1, if_neg e1, if_pos (by omega), h00_mi (by omega) (by omega)]
    · refine ww_lv (lv0 g b (nI (6 * 0))) ⟨rfl, rfl, rfl, rfl, rfl, trivial⟩ (ww_wide (71 + 100 * 0) (2000 + 1000 * 0) (Nat.le_of_ble_eq_true rfl) (Nat.le_of_ble_eq_true rfl) ?_)
      exact law_loop hst hret Z (L + 6) 0 (by omega) (by omega) s.drawn hd0 h00 ⟨0, 0, 0, 100, top_00, by omega⟩
  refine W.base ?_
  have hl := lv_entry ([.ref b]) (n := 9) (Nat.le_of_ble_eq_true rfl)
  rw [lg_entry_eq]
  exact key s.heap [] _ (fun k q hq => by cases hq) va_S.rf hl
