/-! the law: forty days -/
theorem gg_hD {g : gW} {p : Program} {l : Launch} {e : Env} {R : Room} {s : State} {m : MethodId} {args : Array Value} {below : List Frame} {meth : Method} {c : Code} {nL : Nat} {L : va_W} {F : Nat → Prop} {lv : List (Nat × Value)} {cells slots : Nat} {Q : State → Prop} {pc : Nat} {st : List Value} (k : va_D F L → GW g p l e R s m args below meth c nL L F lv cells slots Q pc st) : GW g p l e R s m args below meth c nL L F lv cells slots Q pc st := fun H locs ls hP hD hS hl => k hD H locs ls hP hD hS hl
set_option maxHeartbeats 4000000 in
theorem dy_all {g : gW} {p : Program} {l : Launch} {e : Env} {s : State} {m : MethodId} {below : List Frame} {meth : Method} {c : Code} {b : Nat} {Q : State → Prop} (C : CG g p s m #[.ref b] meth c cL_law 26 RL) (hst : l.stackTraces = false) (hB : gB g = s.heap.size) (hE : EXs g s) {N : Nat} {xs : Nat → Int32} (hX : XS g b N xs s) (hN : N ≤ 260) {A : Ad} {n f : Nat} (hn1 : 1 ≤ n) (hn7 : n ≤ 7) (hf5 : f ≤ 5)
    (K : ∀ h r, GW g p l e room_1 s m #[.ref b] below meth c 26 (wc g h ++ (sx g A n f r ++ [])) (FF (AG g) s.heap.size) [(0, .ref b), (1, .ref (gB g + 0)), (2, .ref (A 1)), (3, .int (nI n)), (4, .int (nI f)), (5, .int (nI 40))] (200 + 30 * 40) (2000 + 400 * 40) Q 1072 []) :
    ∀ (fu t q : Nat) (h r : Hp), t ≤ 40 → 40 < fu + t → TS n f t q h r → GW g p l e room_1 s m #[.ref b] below meth c 26 (wc g h ++ (sx g A n f r ++ [])) (FF (AG g) s.heap.size) [(0, .ref b), (1, .ref (gB g + 0)), (2, .ref (A 1)), (3, .int (nI n)), (4, .int (nI f)), (5, .int (nI t))] (200 + 30 * t) (2000 + 400 * t) Q 38 [] := by
  have hn : n ≤ 10 := by omega
  have hFA : ∀ q, q < s.heap.size → FF (AG g) s.heap.size q → AG g q := fun q h1 h2 => h2.elim id (fun z => absurd h1 (by omega))
  have hFA2 : ∀ q, FF (AG g) s.heap.size q → AG g q := fun q h2 => h2.elim id (fun z => by show gB g ≤ q; omega)
  intro fu
  induction fu with
  | zero => intro t q h r h1 h2; omega
  | succ fu ih =>
    intro t q h r ht9 hfu hT
    refine gg_iload C dL_law_38 rfl ?_
    refine gg_bipush (v := 40) C dL_law_40 (by decide) ?_
    refine gg_icmp_ge C dL_law_42 1072 (by decide) (fun q9 => ?_) (fun q9 => ?_)
    · have htn := lp_exit (n := 40) rfl q9 ht9 (by omega)
      subst htn
      exact K h r
    · have ht := lp_body (n := 40) rfl q9 ht9 (by omega)
      refine gg_aload_n C dL_law_45 0 rfl rfl ?_
      refine gg_iload C dL_law_46 rfl ?_
      refine gg_bipush (v := 16) C dL_law_48 (by decide) ?_
      refine gg_irem C dL_law_50 (by decide) ?_
      refine gg_top (y := nI (t % 16)) (mod_nI (d := 16) (by omega) (by omega) (by omega)) ?_
      refine gg_callP (v := cel N xs (t % 16)) C mf_L_cell (gt_L_cell (by omega) (by omega)) XS_blind (EM.xs hX hFA) (fun _ h9 => Or.inr h9) q_m_L_12 rfl rfl (Nat.le_of_ble_eq_true rfl) (by exact ⟨Nat.le_of_ble_eq_true rfl, Nat.le_of_ble_eq_true rfl⟩) (by exact ⟨by show _ ≤ 625049; omega, by show _ ≤ 7226551; omega⟩) dL_law_51 ?_
      refine gg_iload C dL_law_54 rfl ?_
      refine gg_bipush (v := 16) C dL_law_56 (by decide) ?_
      refine gg_idiv C dL_law_58 (by decide) ?_
      refine gg_iconst (v := 3) C dL_law_59 (by decide) ?_
      refine gg_imul C dL_law_60 ?_
      refine gg_ishr C dL_law_61 ?_
      refine gg_bipush (v := 7) C dL_law_62 (by decide) ?_
      refine gg_iload C dL_law_64 rfl ?_
      refine gg_imul C dL_law_66 ?_
      refine gg_iadd C dL_law_67 ?_
      refine gg_istore C dL_law_68 (by decide) ?_
      generalize (((cel N xs (t % 16)) >>> ((((nI t) / 16) * 3) &&& 31)) + (7 * (nI t))) = x
      refine gg_aload_n C dL_law_70 1 rfl rfl ?_
      refine gg_aload_n C dL_law_71 2 rfl rfl ?_
      refine gg_iload C dL_law_72 rfl ?_
      refine gg_ls ([] ++ (wl g (sx g A n f r) h ++ [])) (by rw [List.nil_append, List.append_nil, List.append_nil]; rfl) ?_
      refine gg_hD (fun hD9 => ?_)
      refine gg_callS (A := []) (B := []) (rest := []) C mf_L_act (gt_L_act hst hn1 hT) EXs_blind (EM.exs hE hFA) (fun y hy => hFA2 _ (hD9.mem y (by rw [List.nil_append, List.append_nil]; exact hy))) (fun _ q hq => hq.elim Or.inl Or.inr) (fun _ y hy => by rcases hy with z | z <;> cases z) q_m_L_95 rfl rfl (Nat.le_of_ble_eq_true rfl) (by exact ⟨Nat.le_of_ble_eq_true rfl, Nat.le_of_ble_eq_true rfl⟩) (by exact ⟨by show _ ≤ 625049; omega, by show _ ≤ 7226551; omega⟩) dL_law_74 (fun v9 L9 N9 hp9 => ?_)
      obtain ⟨rfl, rfl, q2, h2, r2, rfl, hT2⟩ := hp9
      refine gg_ls (wc g h2 ++ (sx g A n f r2 ++ [])) (by rw [List.append_nil, List.append_nil, List.append_nil, List.nil_append]; rfl) ?_
      refine gg_if_ne C dL_law_77 82 (by decide) (fun c77 => ?_) (fun q => absurd q (by decide))
      refine gg_lv [(0, .ref b), (1, .ref (gB g + 0)), (2, .ref (A 1)), (3, .int (nI n)), (4, .int (nI f)), (5, .int (nI t)), (6, .int x)] ⟨rfl, rfl, rfl, rfl, rfl, rfl, rfl, trivial⟩ ?_
      refine dy_1 (ce := 200 + 30 * t + 1) (sl := 2000 + 400 * t + 6) C hT2.1 hn1 hn7 hf5 (by omega) (by omega) (fun q7 r7 P q8 r8 V hP hV => ?_)
      refine dy_2 (ce := 200 + 30 * t + 1 + 20) (sl := 2000 + 400 * t + 6 + 200) C hst hE hT2 ht hn1 hn7 hf5 hP (by omega) (by omega) (fun h7 its q17 q18 H7 D7 W7 => ?_)
      refine dy_3 (ce := 200 + 30 * t + 1 + 20 + 8) (sl := 2000 + 400 * t + 6 + 200 + 100) C hT2.1 H7 D7 hn7 hf5 hV (by omega) (by omega) (fun ψ => ?_)
      refine dy_4 (ce := 200 + 30 * t + 1 + 20 + 8) (sl := 2000 + 400 * t + 6 + 200 + 100) C hT2.1 H7 D7 ht hn7 hf5 hP (fun j hj => by rw [show h2 (15 + j) 9 = r2 (15 + j) 9 from hT2.2.1.p hj (by omega)]; exact hT2.2.2 j hj) W7 (by omega) (by omega) ?_
      refine gg_iinc (v := nI (t + 1)) C dL_law_1066 rfl (nI_inc _) (by decide) ?_
      refine gg_goto C dL_law_1069 38 (by decide) ?_
      refine gg_wide (200 + 30 * (t + 1)) (2000 + 400 * (t + 1)) (by omega) (by omega) ?_
      refine gg_lv [(0, .ref b), (1, .ref (gB g + 0)), (2, .ref (A 1)), (3, .int (nI n)), (4, .int (nI f)), (5, .int (nI (t + 1)))] ⟨rfl, rfl, rfl, rfl, rfl, rfl, trivial⟩ ?_
      exact ih (t + 1) q2 h7 (s_day n f t r2) (by omega) (by omega) H7
