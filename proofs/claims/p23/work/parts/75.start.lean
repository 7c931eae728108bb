/-! from the law's entry to its end -/
section GST
variable {g : gW} {p : Program} {l : Launch} {e : Env} {R : Room} {s : State} {m : MethodId} {args : Array Value} {below : List Frame} {meth : Method} {c : Code} {cc : ByteArray} {nL N0 N : Nat} {own : String} {cp : Nat → va_E} {L : va_W} {F : Nat → Prop} {lv : List (Nat × Value)} {cells slots : Nat} {Q : State → Prop} {pc : Nat} {st : List Value}
theorem gg_ifnonnull (C : CG g p s m args meth c cc nL own) {x : Nat} {off : Int} (hd : decode cc pc = .ok (.ifnonnull off, 3)) (tgt : Nat) (ht : (pc : Int) + off = (tgt : Int)) (k : GW g p l e R s m args below meth c nL L F lv cells slots Q tgt st) : GW g p l e R s m args below meth c nL L F lv cells slots Q pc (.ref x :: st) :=
  fun H locs ls hP hD hS hl => lv_ifnonnull C.1 C.2.1 hd ht (k H locs ls hP hD hS hl)
/-- the world stands -/
theorem vv_world {h : Hp} (hc : ∀ o, o < 64 → cp o = ce g (h o) o) (k : GW g p l e R s m args below meth c nL (wl g [] h) (FF (AG g) s.heap.size) lv cells slots Q pc st) : VW g p l e R s m args below meth c nL 64 cp lv cells slots Q pc st := by
  intro H locs ls hP hS hl
  have ew : vl g 64 cp = wl g [] h := by
    rw [vl_congr hc]
    unfold vl wl
    rw [List.append_nil]
  rw [ew] at hP
  exact k H locs ls hP (wl_D0 (fun q hq => Or.inl hq.1)) ⟨hS.1, fun q h1 h2 => hS.2.1 q h1 (fun z => h2 (Or.inl z)), fun q hq => Or.inl (hS.2.2 q hq)⟩ hl
theorem law_end {b : Nat} (C : CG g p s m #[.ref b] meth c cL_law 26 RL) (hB : gB g = s.heap.size) (hret : meth.sig.returnType = ret) (hc : cells ≤ 625049) (hs : slots ≤ 7226551) : GW g p l e room_1 s m #[.ref b] below meth c 26 L (FF (AG g) s.heap.size) lv cells slots (lw_Z below #[Value.ref b] s) 1072 [] := by
  refine gg_iconst (v := 1) C dL_law_1072 (by decide) ?_
  intro H locs ls hP hD hS hl
  refine va_forget (fun q hq => ?_) (W.widen hc hs (lw_ret C.1 C.2.1 hret C.2.2.2.2.2.2.1 dL_law_1073))
  have h1 := hS.2.2 q hq
  show s.heap.size ≤ q.base
  rcases h1 with z | z
  · have z : gB g ≤ q.base := z
    omega
  · exact z
end GST
set_option maxRecDepth 100000 in
set_option maxHeartbeats 4000000 in
theorem whole_start {p : Program} {e : Env} {s : State} {m : MethodId} {below : List Frame} {meth : Method} {c : Code} (l : Launch) (hflags : l.flags = flags0) {b L : Nat} {xs : Nat → Int32} (hL : L ≤ 260) (C0 : lw_At p s m meth c b L xs) : W p l e room_1 s m #[Value.ref b] below meth c s.heap [] 0 0 (lw_Z below #[Value.ref b] s) (entryFrame m ([Value.ref b] : List Value).toArray 26) := by
  obtain ⟨hx, hb, hret, hml, hown, hts0, hX, hbl, hlocks, hgv⟩ := C0
  have hst : l.stackTraces = false := by unfold Launch.stackTraces; rw [hflags]; decide
  obtain ⟨g, hB, hK⟩ := en_K hts0
  have ht : ∀ w ∈ TT, w.before #[Value.ref b] s = true := fun w hw => hts0 w (List.mem_filter.mp hw).1
  have C : CG g p s m #[.ref b] meth c cL_law 26 RL := ⟨hx, hb, hml, hown, ht, hK, hlocks, en_KX hts0⟩
  have hE : EXs g s := en_EXs hB hts0 hgv
  have hXS : XS g b L xs s := ⟨hX, by rw [hB]; exact hbl, hbl⟩
  have hKN : KN s := en_KN hts0
  have CV0 : CV g p s m #[.ref b] meth c cL_law 26 RL 0 := ⟨hx, hb, hml, hown, ht, hK, hlocks, hB.symm, en_KC hts0⟩
  have hFA : ∀ q, q < s.heap.size → FF (AG g) s.heap.size q → AG g q := fun q h1 h2 => h2.elim id (fun z => absurd h1 (by omega))
  have hFA2 : ∀ q, FF (AG g) s.heap.size q → AG g q := fun q h2 => h2.elim id (fun z => by show gB g ≤ q; omega)
  have key : VW g p l e room_1 s m #[.ref b] below meth c 26 0 (fun _ => .inr (0, [])) [(0, .ref b)] 0 0 (lw_Z below #[Value.ref b] s) 0 [] := by
    refine vv_new (T := TX4) (Nf := 2) (ci := 4) (fs := [.null, .null]) CV0 rfl inX4 tyX4 tyX4_ok q_k_L_27 q_a_X4 q_n_X4 (by decide +kernel) rfl ⟨(Nat.le_of_ble_eq_true rfl), (Nat.le_of_ble_eq_true rfl)⟩ dL_law_0 ?_
    refine vv_dup CV0 dL_law_3 rfl ?_
    refine vv_callC (As := []) (N2 := 64) CV0 mf_X4_init rfl q_i_X4_init (cc_X4_init cu_eq) q_m_L_90 rfl rfl rfl (Nat.le_of_ble_eq_true rfl) ⟨(Nat.le_of_ble_eq_true rfl), (Nat.le_of_ble_eq_true rfl)⟩ ⟨(Nat.le_of_ble_eq_true rfl), (Nat.le_of_ble_eq_true rfl)⟩ dL_law_4 ?_
    refine vv_astore_n CV0 dL_law_7 1 rfl (by omega) ?_
    refine vv_world (h := h00) (fun o ho => ?_) ?_
    · unfold ce
      by_cases e0 : o = 0
      · rw [if_pos e0, if_pos e0]
      · rw [if_neg e0, if_neg e0]
        by_cases e1 : o < 32
        · rw [if_pos e1, if_pos e1, h00_lo e0 e1]
        · rw [if_neg e1, if_neg e1, h00_mi (by omega) (by omega)]
    · refine gg_lv [(0, .ref b), (1, .ref (gB g + 0))] ⟨rfl, rfl, trivial⟩ ?_
      refine gg_aload_n C dL_law_8 1 rfl rfl ?_
      refine gg_aload_n C dL_law_9 0 rfl rfl ?_
      refine gg_bipush (v := 7) C dL_law_10 (by decide) ?_
      have e1 : h00 1 = fun k => if k = 7 then 100 else 0 := (h00_lo (by omega) (by omega)).trans dz_d
      have hR : SR 0 0 h00 r00 := sr_00 (by rw [e1]; rfl) (by rw [e1]; rfl) (fun j k hj hk => by rw [h00_lo (by omega) (by omega), dz_0 (by omega) (by omega)])
      refine gg_wide 100 1000 (Nat.le_of_ble_eq_true rfl) (Nat.le_of_ble_eq_true rfl) ?_
      refine gg_ls ([] ++ (wl g [] h00 ++ [])) (by rw [List.nil_append, List.append_nil]) ?_
      refine gg_hD (fun hD9 => ?_)
      refine gg_callS (A := []) (B := []) (rest := []) C mf_L_build (gt_L_build hst hL top_00 hR) (EB.and (EB.and EXs_blind XS_blind) KN_blind) (EM.and (EM.and (EM.exs hE hFA) (EM.xs hXS hFA)) (EM.kn hKN)) (fun y hy => hFA2 _ (hD9.mem y (by rw [List.nil_append, List.append_nil]; exact hy))) (fun _ q hq => hq.elim Or.inl Or.inr) (fun _ y hy => by rcases hy with z | z <;> cases z) q_m_L_91 rfl rfl (Nat.le_of_ble_eq_true rfl) (by exact ⟨Nat.le_of_ble_eq_true rfl, Nat.le_of_ble_eq_true rfl⟩) (by exact ⟨Nat.le_of_ble_eq_true rfl, Nat.le_of_ble_eq_true rfl⟩) dL_law_12 (fun v9 L9 N9 hp9 => ?_)
      obtain ⟨rfl, A, n, f, q, h, r, rfl, rfl, hn1, hn7, hf5, hT⟩ := hp9
      have hn : n ≤ 10 := by omega
      refine gg_ls (wc g h ++ (sx g A n f r ++ [])) (by rw [List.append_nil, List.append_nil, List.append_nil, List.nil_append]; rfl) ?_
      refine gg_astore_n C dL_law_15 2 rfl (by decide) ?_
      refine gg_aload_n C dL_law_16 2 rfl rfl ?_
      refine gg_ifnonnull C dL_law_17 22 (by decide) ?_
      refine gg_aload_n C dL_law_22 2 rfl rfl ?_
      refine gs_pon C hn q_f_L_22 dL_law_23 ?_
      refine gs_lenP C hn dL_law_26 ?_
      refine gg_istore_n C dL_law_27 3 rfl (by decide) ?_
      refine gg_aload_n C dL_law_28 2 rfl rfl ?_
      refine gs_flo C hn q_f_L_61 dL_law_29 ?_
      refine gs_lenF C hn dL_law_32 ?_
      refine gg_istore C dL_law_33 (by decide) ?_
      refine gg_iconst (v := 0) C dL_law_35 (by decide) ?_
      refine gg_istore C dL_law_36 (by decide) ?_
      refine gg_lv [(0, .ref b), (1, .ref (gB g + 0)), (2, .ref (A 1)), (3, .int (nI n)), (4, .int (nI f)), (5, .int (nI 0))] ⟨rfl, rfl, rfl, rfl, rfl, rfl, trivial⟩ ?_
      refine gg_wide (200 + 30 * 0) (2000 + 400 * 0) (Nat.le_of_ble_eq_true rfl) (Nat.le_of_ble_eq_true rfl) ?_
      exact dy_all C hst hB hE hXS hL hn1 hn7 hf5 (fun h r => law_end C hB hret (Nat.le_of_ble_eq_true rfl) (Nat.le_of_ble_eq_true rfl)) (40 + 1) 0 q h r (Nat.zero_le _) (by omega) hT
  have hl := lv_entry ([.ref b]) (n := 26) (Nat.le_of_ble_eq_true rfl)
  rw [lg_entry_eq]
  exact key s.heap [] _ (fun k q hq => by cases hq) va_S.rf hl
