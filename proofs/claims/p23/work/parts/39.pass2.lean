section GSZ
variable {g : gW} {p : Program} {l : Launch} {e : Env} {R : Room} {s : State} {m : MethodId} {args : Array Value} {below : List Frame} {meth : Method} {c : Code} {cc : ByteArray} {nL : Nat} {own : String} {A : Ad} {n f : Nat} {r : Hp} {P0 : va_W} {F : Nat → Prop} {lv : List (Nat × Value)} {cells slots : Nat} {Q : State → Prop} {pc : Nat} {st : List Value}
theorem gs_zald (C : CG g p s m args meth c cc nL own) {q j : Nat} {x : Int32} {dn : Nat → Int32} (hn : n ≤ 10) (hx : x = nI j) (hj : j < n) (hd : decode cc pc = .ok (.baload, 1)) (kk : GW g p l e R s m args below meth c nL (P0 ++ (sx g A n f r ++ [cZ g q n dn])) F lv cells slots Q (pc + 1) (.int (dn j) :: st)) : GW g p l e R s m args below meth c nL (P0 ++ (sx g A n f r ++ [cZ g q n dn])) F lv cells slots Q pc (.int x :: .ref q :: st) :=
  gg_zald C _ (sl_Y (i := 0) rfl) hx hj (by omega) hd kk
theorem gs_zast (C : CG g p s m args meth c cc nL own) {q j : Nat} {x v : Int32} {dn : Nat → Int32} (hn : n ≤ 10) (hx : x = nI j) (hj : j < n) (hv : vp_nar .boolean v = v) (hd : decode cc pc = .ok (.bastore, 1)) (kk : GW g p l e R s m args below meth c nL (P0 ++ (sx g A n f r ++ [cZ g q n (upd dn j v)])) F lv cells slots Q (pc + 1) st) : GW g p l e R s m args below meth c nL (P0 ++ (sx g A n f r ++ [cZ g q n dn])) F lv cells slots Q pc (.int v :: .int x :: .ref q :: st) :=
  gg_zast C (P0.length + (14 + n + f + 0)) (sl_Y (i := 0) rfl) hx hj (by omega) hv hd (gg_ls _ sl_setY kk)
end GSZ
theorem s_top_in {r : Hp} {dn : Nat → Int32} {n : Nat} : ∀ k, k ≤ n → fd (s_topS r dn) (-1) k = -1 ∨ isN n (fd (s_topS r dn) (-1) k)
  | 0, _ => Or.inl rfl
  | k + 1, hk => by
    have ih := s_top_in (r := r) (dn := dn) (n := n) k (by omega)
    rw [fd_s]
    generalize fd (s_topS r dn) (-1) k = b at ih ⊢
    unfold s_topS
    split
    · split
      · exact Or.inr ⟨k, by omega, rfl⟩
      · split
        · exact Or.inr ⟨k, by omega, rfl⟩
        · exact ih
    · exact ih
theorem day_mod {t : Nat} (ht : t < 2 ^ 31) : nI t - nI t / 10 * 10 = nI (t % 10) := by
  rw [show (10 : Int32) = nI 10 from rfl, pk_div (by omega) (by omega) (by omega), pk_mul, pk_sub (by omega)]
  congr 1
  omega
theorem ps_run {g : gW} {p : Program} {l : Launch} {e : Env} {s : State} {m : MethodId} {below : List Frame} {meth : Method} {c : Code} {A : Ad} {n f : Nat} {r : Hp} {Q : State → Prop} {FX : Nat → Prop} {u : Int32} (C : CG g p s m ([.ref (A 1)] : List Value).toArray meth c cX5_pass 9 RX5) (hn : n ≤ 10) (H : OKS n f r) (hT : TPS n r) (hF : ∀ q, s.heap.size ≤ q → FX q) (K : GW g p l e (rK 3 1 10) s m ([.ref (A 1)] : List Value).toArray below meth c 9 ([] ++ (sx g A n f ((s_run n r n).1) ++ [])) FX [(0, .ref (A 1)), (2, .int u)] 1 10 Q 588 []) : GW g p l e (rK 3 1 10) s m ([.ref (A 1)] : List Value).toArray below meth c 9 ([] ++ (sx g A n f r ++ [])) FX [(0, .ref (A 1)), (2, .int u)] 0 0 Q 407 [] := by
  refine gg_aload_n C dX5_pass_407 0 rfl rfl ?_
  refine gs_pon C hn q_f_X5_20 dX5_pass_408 ?_
  refine gs_lenP C hn dX5_pass_411 ?_
  refine gg_newZ C hF rfl (by omega) (by exact ⟨Nat.le_of_ble_eq_true rfl, by show 0 + n ≤ 10; omega⟩) dX5_pass_412 (fun q => ?_)
  refine gg_wide 1 10 (Nat.le_refl 1) (by omega) ?_
  refine gg_ls ([] ++ (sx g A n f r ++ [cZ g q n (fun _ => 0)])) (by rw [sl_add]; rfl) ?_
  have ho : ∀ (fuo k : Nat), k ≤ n → n < fuo + k → GW g p l e (rK 3 1 10) s m ([.ref (A 1)] : List Value).toArray below meth c 9 ([] ++ (sx g A n f ((s_run n r k).1) ++ [cZ g q n (s_run n r k).2])) FX [(0, .ref (A 1)), (2, .int u), (3, .ref q), (4, .int (nI k))] 1 10 Q 418 [] := by
    intro fuo
    induction fuo with
    | zero => intro k h1 h2; omega
    | succ fuo iho =>
      intro k hk9 hfuo
      refine gg_iload C dX5_pass_418 rfl ?_
      refine gg_aload_n C dX5_pass_420 0 rfl rfl ?_
      refine gs_pon C hn q_f_X5_20 dX5_pass_421 ?_
      refine gs_lenP C hn dX5_pass_424 ?_
      refine gg_icmp_ge C dX5_pass_425 588 (by decide) (fun q9 => ?_) (fun q9 => ?_)
      · have hkn := lp_exit rfl q9 hk9 (by omega)
        subst hkn
        refine gg_sub (L2 := [] ++ (sx g A n f (s_run n r n).1 ++ [])) (List.Sublist.append_left (List.Sublist.append_left (List.nil_sublist _) _) _) ?_
        refine gg_lv [(0, .ref (A 1)), (2, .int u)] ⟨rfl, rfl, trivial⟩ ?_
        exact K
      · have hk := lp_body rfl q9 hk9 (by omega)
        have ht := hT k hk
        have Hz := H.run hn hT k hk9
        generalize hz : s_run n r k = z at ht Hz ⊢
        refine gg_iconst (v := (-1)) C dX5_pass_428 (by decide) ?_
        refine gg_istore C dX5_pass_429 (by decide) ?_
        have hi : ∀ (fu j : Nat), j ≤ n → n < fu + j → GW g p l e (rK 3 1 10) s m ([.ref (A 1)] : List Value).toArray below meth c 9 ([] ++ (sx g A n f z.1 ++ [cZ g q n z.2])) FX [(0, .ref (A 1)), (2, .int u), (3, .ref q), (4, .int (nI k)), (5, .int (fd (s_topS z.1 z.2) (-1) j)), (6, .int (nI j))] 1 10 Q 434 [] := by
          intro fu
          induction fu with
          | zero => intro j h1 h2; omega
          | succ fu ih =>
            intro j hj9 hfu
            refine gg_iload C dX5_pass_434 rfl ?_
            refine gg_aload_n C dX5_pass_436 0 rfl rfl ?_
            refine gs_pon C hn q_f_X5_20 dX5_pass_437 ?_
            refine gs_lenP C hn dX5_pass_440 ?_
            refine gg_icmp_ge C dX5_pass_441 487 (by decide) (fun q9 => ?_) (fun q9 => ?_)
            · have hjn := lp_exit rfl q9 hj9 (by omega)
              subst hjn
              have hta := isN_at ht (by omega)
              change isN n (fd (s_topS z.1 z.2) (-1) n) at ht
              have et : s_top z.1 z.2 n = fd (s_topS z.1 z.2) (-1) n := rfl
              rw [et] at hta
              generalize ea : (fd (s_topS z.1 z.2) (-1) n).toNatClampNeg = a at hta
              refine gg_aload_n C dX5_pass_487 3 rfl rfl ?_
              refine gg_iload C dX5_pass_488 rfl ?_
              refine gg_iconst (v := 1) C dX5_pass_490 (by decide) ?_
              refine gs_zast C hn hta.1 hta.2 rfl dX5_pass_491 ?_
              have es : s_run n r (k + 1) = (s_run1 z.1 (15 + a), upd z.2 a 1) := by rw [s_run_s, hz]; unfold s_runS; rw [et, ea]
              refine gg_aload_n C dX5_pass_492 0 rfl rfl ?_
              refine gs_pon C hn q_f_X5_20 dX5_pass_493 ?_
              refine gg_iload C dX5_pass_496 rfl ?_
              refine gs_aldP (j := a) C hn hta.1 hta.2 dX5_pass_498 ?_
              refine gg_iconst (v := 5) C dX5_pass_499 (by decide) ?_
              refine gs_ld (o := 15 + a) (k := 5) C hn (by decide) (by unfold sW; omega) dX5_pass_500 ?_
              refine gg_aload_n C dX5_pass_501 0 rfl rfl ?_
              refine gg_iload C dX5_pass_502 rfl ?_
              refine gg_callV (A := []) (B := [cZ g q n (upd z.2 a 1)]) (q := (RX5, TX5, 5)) (ci := 5) C mf_X5_holds (gt_X5_holds hn (j := a) hta.1 hta.2) EB.tt EM.tt sx_mem (sx_hG hn hF) (sx_hap hn) q_m_X5_51 rfl rfl (sJ n 1) (sx_get hn (Or.inl ⟨by omega, by omega⟩)) rfl rfl (Nat.le_of_ble_eq_true rfl) (by exact ⟨Nat.le_of_ble_eq_true rfl, Nat.le_of_ble_eq_true rfl⟩) (by exact ⟨Nat.le_of_ble_eq_true rfl, Nat.le_of_ble_eq_true rfl⟩) dX5_pass_504 (fun v9 L9 N9 hp9 => ?_)
              obtain ⟨rfl, rfl, rfl⟩ := hp9
              refine gg_ls ([] ++ (sx g A n f z.1 ++ [cZ g q n (upd z.2 a 1)])) (by rw [List.append_nil]) ?_
              refine gg_isub C dX5_pass_507 ?_
              refine gg_istore C dX5_pass_508 (by decide) ?_
              refine gg_iload C dX5_pass_510 rfl ?_
              refine gg_if_gt C dX5_pass_512 518 (by decide) (fun c512 => ?_) (fun c512 => ?_)
              · change 0 < s_more z.1 (15 + a) at c512
                refine gg_aload_n C dX5_pass_518 0 rfl rfl ?_
                refine gs_pon C hn q_f_X5_20 dX5_pass_519 ?_
                refine gg_iload C dX5_pass_522 rfl ?_
                refine gs_aldP (j := a) C hn hta.1 hta.2 dX5_pass_524 ?_
                refine gg_iconst (v := 5) C dX5_pass_525 (by decide) ?_
                refine gg_dup2 C dX5_pass_526 rfl rfl ?_
                refine gs_ld (o := 15 + a) (k := 5) C hn (by decide) (by unfold sW; omega) dX5_pass_527 ?_
                refine gg_iload C dX5_pass_528 rfl ?_
                refine gg_isub C dX5_pass_530 ?_
                refine gs_st (o := 15 + a) (k := 5) C hn (by decide) (by unfold sW; omega) dX5_pass_531 ?_
                refine gg_aload_n C dX5_pass_532 0 rfl rfl ?_
                refine gs_pon C hn q_f_X5_20 dX5_pass_533 ?_
                refine gg_iload C dX5_pass_536 rfl ?_
                refine gs_aldP (j := a) C hn hta.1 hta.2 dX5_pass_538 ?_
                refine gg_bipush (v := 9) C dX5_pass_539 (by decide) ?_
                refine gg_dup2 C dX5_pass_541 rfl rfl ?_
                refine gs_ld (o := 15 + a) (k := 9) C hn (by decide) (by unfold sW; omega) dX5_pass_542 ?_
                refine gg_iload C dX5_pass_543 rfl ?_
                refine gg_iadd C dX5_pass_545 ?_
                refine gs_st (o := 15 + a) (k := 9) C hn (by decide) (by unfold sW; omega) dX5_pass_546 ?_
                refine gs_r (r2 := s_off z.1 (15 + a) (s_more z.1 (15 + a))) rfl ?_
                have H8 : s_off z.1 (15 + a) (s_more z.1 (15 + a)) (15 + a) 8 = z.1 (15 + a) 8 := by unfold s_off; rw [hp_off (Or.inr (by omega)), hp_off (Or.inr (by omega))]
                refine gg_aload_n C dX5_pass_547 0 rfl rfl ?_
                refine gs_pon C hn q_f_X5_20 dX5_pass_548 ?_
                refine gg_iload C dX5_pass_551 rfl ?_
                refine gs_aldP (j := a) C hn hta.1 hta.2 dX5_pass_553 ?_
                refine gg_bipush (v := 8) C dX5_pass_554 (by decide) ?_
                refine gs_ld (o := 15 + a) (k := 8) C hn (by decide) (by unfold sW; omega) dX5_pass_556 ?_
                refine gg_if_lt C dX5_pass_557 582 (by decide) (fun c557 => ?_) (fun c557 => ?_)
                · refine gg_iinc (v := nI (k + 1)) C dX5_pass_582 rfl (nI_inc _) (by decide) ?_
                  refine gg_goto C dX5_pass_585 418 (by decide) ?_
                  refine gs_r (r2 := s_run1 z.1 (15 + a)) (by unfold s_run1; rw [if_pos c512]; unfold s_in; rw [if_pos c557]) ?_
                  refine gg_lv [(0, .ref (A 1)), (2, .int u), (3, .ref q), (4, .int (nI (k + 1)))] ⟨rfl, rfl, rfl, rfl, trivial⟩ ?_
                  have ihk := iho (k + 1) hk (by omega)
                  rw [es] at ihk
                  exact ihk
                · have hl : isN n (s_off z.1 (15 + a) (s_more z.1 (15 + a)) (15 + a) 8) := by
                    rw [H8]
                    rcases Hz.1 a hta.2 with y | y
                    · rw [H8, y] at c557; exact absurd (by decide) c557
                    · exact y
                  have hla := isN_at hl (by omega)
                  refine gg_aload_n C dX5_pass_560 0 rfl rfl ?_
                  refine gs_pon C hn q_f_X5_20 dX5_pass_561 ?_
                  refine gg_aload_n C dX5_pass_564 0 rfl rfl ?_
                  refine gs_pon C hn q_f_X5_20 dX5_pass_565 ?_
                  refine gg_iload C dX5_pass_568 rfl ?_
                  refine gs_aldP (j := a) C hn hta.1 hta.2 dX5_pass_570 ?_
                  refine gg_bipush (v := 8) C dX5_pass_571 (by decide) ?_
                  refine gs_ld (o := 15 + a) (k := 8) C hn (by decide) (by unfold sW; omega) dX5_pass_573 ?_
                  refine gs_aldP (j := (s_off z.1 (15 + a) (s_more z.1 (15 + a)) (15 + a) 8).toNatClampNeg) C hn hla.1 hla.2 dX5_pass_574 ?_
                  refine gg_iconst (v := 5) C dX5_pass_575 (by decide) ?_
                  refine gg_dup2 C dX5_pass_576 rfl rfl ?_
                  refine gs_ld (o := 15 + ((s_off z.1 (15 + a) (s_more z.1 (15 + a)) (15 + a) 8).toNatClampNeg)) (k := 5) C hn (by decide) (by unfold sW; omega) dX5_pass_577 ?_
                  refine gg_iload C dX5_pass_578 rfl ?_
                  refine gg_iadd C dX5_pass_580 ?_
                  refine gs_st (o := 15 + ((s_off z.1 (15 + a) (s_more z.1 (15 + a)) (15 + a) 8).toNatClampNeg)) (k := 5) C hn (by decide) (by unfold sW; omega) dX5_pass_581 ?_
                  refine gg_iinc (v := nI (k + 1)) C dX5_pass_582 rfl (nI_inc _) (by decide) ?_
                  refine gg_goto C dX5_pass_585 418 (by decide) ?_
                  refine gs_r (r2 := s_run1 z.1 (15 + a)) (by unfold s_run1; rw [if_pos c512]; unfold s_in; rw [if_neg c557]; rfl) ?_
                  refine gg_lv [(0, .ref (A 1)), (2, .int u), (3, .ref q), (4, .int (nI (k + 1)))] ⟨rfl, rfl, rfl, rfl, trivial⟩ ?_
                  have ihk := iho (k + 1) hk (by omega)
                  rw [es] at ihk
                  exact ihk
              · change ¬ 0 < s_more z.1 (15 + a) at c512
                refine gg_goto C dX5_pass_515 582 (by decide) ?_
                refine gg_iinc (v := nI (k + 1)) C dX5_pass_582 rfl (nI_inc _) (by decide) ?_
                refine gg_goto C dX5_pass_585 418 (by decide) ?_
                refine gs_r (r2 := s_run1 z.1 (15 + a)) (by unfold s_run1; rw [if_neg c512]) ?_
                refine gg_lv [(0, .ref (A 1)), (2, .int u), (3, .ref q), (4, .int (nI (k + 1)))] ⟨rfl, rfl, rfl, rfl, trivial⟩ ?_
                have ihk := iho (k + 1) hk (by omega)
                rw [es] at ihk
                exact ihk
            · have hj := lp_body rfl q9 hj9 (by omega)
              have hb := s_top_in (r := z.1) (dn := z.2) (n := n) j hj9
              refine gg_aload_n C dX5_pass_444 3 rfl rfl ?_
              refine gg_iload C dX5_pass_445 rfl ?_
              refine gs_zald C hn rfl hj dX5_pass_447 ?_
              refine gg_if_ne C dX5_pass_448 481 (by decide) (fun c448 => ?_) (fun c448 => ?_)
              · refine gg_iinc (v := nI (j + 1)) C dX5_pass_481 rfl (nI_inc _) (by decide) ?_
                refine gg_goto C dX5_pass_484 434 (by decide) ?_
                refine gg_lv [(0, .ref (A 1)), (2, .int u), (3, .ref q), (4, .int (nI k)), (5, .int (fd (s_topS z.1 z.2) (-1) (j + 1))), (6, .int (nI (j + 1)))] ⟨rfl, rfl, rfl, rfl, (congrArg (fun z => some (Value.int z)) (by rw [fd_s]; generalize fd (s_topS z.1 z.2) (-1) j = b9; unfold s_topS; rw [if_neg c448])), rfl, trivial⟩ ?_
                exact ih (j + 1) hj (by omega)
              · refine gg_iload C dX5_pass_451 rfl ?_
                refine gg_if_lt C dX5_pass_453 477 (by decide) (fun c453 => ?_) (fun c453 => ?_)
                · refine gg_iload C dX5_pass_477 rfl ?_
                  refine gg_istore C dX5_pass_479 (by decide) ?_
                  refine gg_iinc (v := nI (j + 1)) C dX5_pass_481 rfl (nI_inc _) (by decide) ?_
                  refine gg_goto C dX5_pass_484 434 (by decide) ?_
                  refine gg_lv [(0, .ref (A 1)), (2, .int u), (3, .ref q), (4, .int (nI k)), (5, .int (fd (s_topS z.1 z.2) (-1) (j + 1))), (6, .int (nI (j + 1)))] ⟨rfl, rfl, rfl, rfl, (congrArg (fun z => some (Value.int z)) (by rw [fd_s]; generalize fd (s_topS z.1 z.2) (-1) j = b9 at c453 ⊢; unfold s_topS; rw [if_pos c448, if_pos c453])), rfl, trivial⟩ ?_
                  exact ih (j + 1) hj (by omega)
                · have hbn : isN n (fd (s_topS z.1 z.2) (-1) j) := by
                    rcases hb with y | y
                    · rw [y] at c453; exact absurd (by decide) c453
                    · exact y
                  have hba := isN_at hbn (by omega)
                  refine gg_aload_n C dX5_pass_456 0 rfl rfl ?_
                  refine gs_pon C hn q_f_X5_20 dX5_pass_457 ?_
                  refine gg_iload C dX5_pass_460 rfl ?_
                  refine gs_aldP (j := j) C hn rfl hj dX5_pass_462 ?_
                  refine gg_iconst (v := 2) C dX5_pass_463 (by decide) ?_
                  refine gs_ld (o := 15 + j) (k := 2) C hn (by decide) (by unfold sW; omega) dX5_pass_464 ?_
                  refine gg_aload_n C dX5_pass_465 0 rfl rfl ?_
                  refine gs_pon C hn q_f_X5_20 dX5_pass_466 ?_
                  refine gg_iload C dX5_pass_469 rfl ?_
                  refine gs_aldP (j := (fd (s_topS z.1 z.2) (-1) j).toNatClampNeg) C hn hba.1 hba.2 dX5_pass_471 ?_
                  refine gg_iconst (v := 2) C dX5_pass_472 (by decide) ?_
                  refine gs_ld (o := 15 + ((fd (s_topS z.1 z.2) (-1) j).toNatClampNeg)) (k := 2) C hn (by decide) (by unfold sW; omega) dX5_pass_473 ?_
                  refine gg_icmp_le C dX5_pass_474 481 (by decide) (fun c474 => ?_) (fun c474 => ?_)
                  · refine gg_iinc (v := nI (j + 1)) C dX5_pass_481 rfl (nI_inc _) (by decide) ?_
                    refine gg_goto C dX5_pass_484 434 (by decide) ?_
                    refine gg_lv [(0, .ref (A 1)), (2, .int u), (3, .ref q), (4, .int (nI k)), (5, .int (fd (s_topS z.1 z.2) (-1) (j + 1))), (6, .int (nI (j + 1)))] ⟨rfl, rfl, rfl, rfl, (congrArg (fun z => some (Value.int z)) (by rw [fd_s]; generalize fd (s_topS z.1 z.2) (-1) j = b9 at c453 c474 ⊢; unfold s_topS; rw [if_pos c448, if_neg c453, if_neg (Int32.not_lt.mpr c474)])), rfl, trivial⟩ ?_
                    exact ih (j + 1) hj (by omega)
                  · refine gg_iload C dX5_pass_477 rfl ?_
                    refine gg_istore C dX5_pass_479 (by decide) ?_
                    refine gg_iinc (v := nI (j + 1)) C dX5_pass_481 rfl (nI_inc _) (by decide) ?_
                    refine gg_goto C dX5_pass_484 434 (by decide) ?_
                    refine gg_lv [(0, .ref (A 1)), (2, .int u), (3, .ref q), (4, .int (nI k)), (5, .int (fd (s_topS z.1 z.2) (-1) (j + 1))), (6, .int (nI (j + 1)))] ⟨rfl, rfl, rfl, rfl, (congrArg (fun z => some (Value.int z)) (by rw [fd_s]; generalize fd (s_topS z.1 z.2) (-1) j = b9 at c453 c474 ⊢; unfold s_topS; rw [if_pos c448, if_neg c453, if_pos (Int32.not_le.mp c474)])), rfl, trivial⟩ ?_
                    exact ih (j + 1) hj (by omega)
        refine gg_iconst (v := 0) C dX5_pass_431 (by decide) ?_
        refine gg_istore C dX5_pass_432 (by decide) ?_
        refine gg_lv [(0, .ref (A 1)), (2, .int u), (3, .ref q), (4, .int (nI k)), (5, .int (fd (s_topS z.1 z.2) (-1) 0)), (6, .int (nI 0))] ⟨rfl, rfl, rfl, rfl, rfl, rfl, trivial⟩ ?_
        exact hi (n + 1) 0 (Nat.zero_le _) (by omega)
  refine gg_astore_n C dX5_pass_414 3 rfl (by decide) ?_
  refine gg_iconst (v := 0) C dX5_pass_415 (by decide) ?_
  refine gg_istore C dX5_pass_416 (by decide) ?_
  refine gs_r (r2 := (s_run n r 0).1) rfl ?_
  refine gg_lv [(0, .ref (A 1)), (2, .int u), (3, .ref q), (4, .int (nI 0))] ⟨rfl, rfl, rfl, rfl, trivial⟩ ?_
  exact ho (n + 1) 0 (Nat.zero_le _) (by omega)
theorem ps_rot {g : gW} {p : Program} {l : Launch} {e : Env} {s : State} {m : MethodId} {below : List Frame} {meth : Method} {c : Code} {A : Ad} {n f : Nat} {r : Hp} {Q : State → Prop} {u : Int32} {t : Nat} (ht : t < 2 ^ 31) (C : CG g p s m ([.ref (A 1)] : List Value).toArray meth c cX5_pass 9 RX5) (hn : n ≤ 10) (e6 : r 1 6 = nI t) (K : GW g p l e (rK 3 1 10) s m ([.ref (A 1)] : List Value).toArray below meth c 9 ([] ++ (sx g A n f (if t % 10 = 9 then fd s_rot r n else r) ++ [])) (FF (SF A n f) s.heap.size) [(0, .ref (A 1)), (2, .int u)] 1 10 Q 640 []) : GW g p l e (rK 3 1 10) s m ([.ref (A 1)] : List Value).toArray below meth c 9 ([] ++ (sx g A n f r ++ [])) (FF (SF A n f) s.heap.size) [(0, .ref (A 1)), (2, .int u)] 1 10 Q 588 [] := by
  have hm : r 1 6 - r 1 6 / 10 * 10 = nI (t % 10) := by rw [e6]; exact day_mod ht
  refine gg_aload_n C dX5_pass_588 0 rfl rfl ?_
  refine gs_day C hn q_f_X5_27 dX5_pass_589 ?_
  refine gg_bipush (v := 10) C dX5_pass_592 (by decide) ?_
  refine gg_irem C dX5_pass_594 (by decide) ?_
  refine gg_bipush (v := 9) C dX5_pass_595 (by decide) ?_
  refine gg_icmp_ne C dX5_pass_597 640 (by decide) (fun c597 => ?_) (fun c597 => ?_)
  · have h9 : ¬ t % 10 = 9 := fun z => c597 (by rw [hm, z]; rfl)
    rw [if_neg h9] at K
    refine gg_lv [(0, .ref (A 1)), (2, .int u)] ⟨rfl, rfl, trivial⟩ ?_
    exact K
  · have h9 : t % 10 = 9 := by
      rw [hm] at c597
      exact (nI_eq (a := t % 10) (b := 9) (by omega) (by omega)).mp c597
    rw [if_pos h9] at K
    have hl : ∀ (fu j : Nat), j ≤ n → n < fu + j → GW g p l e (rK 3 1 10) s m ([.ref (A 1)] : List Value).toArray below meth c 9 ([] ++ (sx g A n f (fd s_rot r j) ++ [])) (FF (SF A n f) s.heap.size) [(0, .ref (A 1)), (2, .int u), (4, .ref (A 13)), (5, .int (nI n)), (6, .int (nI j))] 1 10 Q 614 [] := by
      intro fu
      induction fu with
      | zero => intro j h1 h2; omega
      | succ fu ih =>
        intro j hj9 hfu
        refine gg_iload C dX5_pass_614 rfl ?_
        refine gg_iload C dX5_pass_616 rfl ?_
        refine gg_icmp_ge C dX5_pass_618 640 (by decide) (fun q9 => ?_) (fun q9 => ?_)
        · have hjn := lp_exit rfl q9 hj9 (by omega)
          subst hjn
          refine gg_lv [(0, .ref (A 1)), (2, .int u)] ⟨rfl, rfl, trivial⟩ ?_
          exact K
        · have hj := lp_body rfl q9 hj9 (by omega)
          refine gg_aload C dX5_pass_621 rfl ?_
          refine gg_iload C dX5_pass_623 rfl ?_
          refine gs_aldP (j := j) C hn rfl hj dX5_pass_625 ?_
          refine gg_astore C dX5_pass_626 (by decide) ?_
          refine gg_aload C dX5_pass_628 rfl ?_
          refine gg_bipush (v := 7) C dX5_pass_630 (by decide) ?_
          refine gg_iconst (v := 0) C dX5_pass_632 (by decide) ?_
          refine gs_st (o := 15 + j) (k := 7) C hn (by decide) (by unfold sW; omega) dX5_pass_633 ?_
          refine gg_iinc (v := nI (j + 1)) C dX5_pass_634 rfl (nI_inc _) (by decide) ?_
          refine gg_goto C dX5_pass_637 614 (by decide) ?_
          refine gg_lv [(0, .ref (A 1)), (2, .int u), (4, .ref (A 13)), (5, .int (nI n)), (6, .int (nI (j + 1)))] ⟨rfl, rfl, rfl, rfl, rfl, trivial⟩ ?_
          refine gs_r (r2 := fd s_rot r (j + 1)) (by rw [fd_s]; rfl) ?_
          exact ih (j + 1) hj (by omega)
    refine gg_aload_n C dX5_pass_600 0 rfl rfl ?_
    refine gs_pon C hn q_f_X5_20 dX5_pass_601 ?_
    refine gg_astore C dX5_pass_604 (by decide) ?_
    refine gg_aload C dX5_pass_606 rfl ?_
    refine gs_lenP C hn dX5_pass_608 ?_
    refine gg_istore C dX5_pass_609 (by decide) ?_
    refine gg_iconst (v := 0) C dX5_pass_611 (by decide) ?_
    refine gg_istore C dX5_pass_612 (by decide) ?_
    refine gg_lv [(0, .ref (A 1)), (2, .int u), (4, .ref (A 13)), (5, .int (nI n)), (6, .int (nI 0))] ⟨rfl, rfl, rfl, rfl, rfl, trivial⟩ ?_
    exact hl (n + 1) 0 (Nat.zero_le _) (by omega)
theorem s_t_up {r : Hp} {o k : Nat} {v : Int32} (ho : 15 ≤ o) : hp_up r o k v 1 6 = r 1 6 := congrFun (hp_ne (by omega)) 6
theorem s_t_flock {n j : Nat} {r : Hp} : s_flock n r j 1 6 = r 1 6 := by
  unfold s_flock
  split
  · rfl
  · unfold s_drink
    have h1 : s_go r n (26 + j) 1 6 = r 1 6 := by unfold s_go; exact s_t_up (by omega)
    have h3 : ∀ (r : Hp) (a : Nat) (v : Int32), s_dr3 r (26 + j) (15 + a) v 1 6 = r 1 6 := fun r a v => by unfold s_dr3; rw [s_t_up (by omega), s_t_up (by omega)]
    have h4 : ∀ (r : Hp) (v : Int32), s_dr4 r (26 + j) v 1 6 = r 1 6 := fun r v => by unfold s_dr4; split <;> exact s_t_up (by omega)
    have h5 : ∀ (r : Hp) (a : Nat), s_dr5 r (26 + j) (15 + a) 1 6 = r 1 6 := fun r a => by
      unfold s_dr5
      split
      · exact s_t_up (by omega)
      · rfl
    show s_dr5 (s_dr4 (s_dr3 _ _ (15 + _) _) _ _) _ (15 + _) 1 6 = _
    rw [h5, h4, h3, h1]
theorem s_t_run1 {q : Nat} {r : Hp} : s_run1 r (15 + q) 1 6 = r 1 6 := by
  unfold s_run1
  split
  · unfold s_in
    split
    · unfold s_off; rw [s_t_up (by omega), s_t_up (by omega)]
    · rw [s_t_up (by omega)]; unfold s_off; rw [s_t_up (by omega), s_t_up (by omega)]
  · rfl
theorem s_t_run {n : Nat} {r : Hp} : ∀ k, (s_run n r k).1 1 6 = r 1 6
  | 0 => rfl
  | k + 1 => by
    rw [s_run_s]
    exact s_t_run1.trans (s_t_run k)
theorem s_h4_t {n f w t : Nat} {r : Hp} (hn : n ≤ 10) (H : OKS n f r) (e6 : r 1 6 = nI t) (hT : TPS n (s_h3 n f w r)) : s_h4 n f w r 1 6 = nI t := by
  unfold s_h4
  rw [s_t_run, ← e6]
  unfold s_h3 s_h2 s_h1
  rw [fd_keep (P := fun h : Hp => h 1 6) n (fun x i hi => by unfold s_sun s_leak s_dry; rw [s_t_up (by omega), s_t_up (by omega)]), fd_keep (P := fun h : Hp => h 1 6) f (fun x i hi => s_t_flock), fd_keep (P := fun h : Hp => h 1 6) n (fun x i hi => by unfold s_mist; exact s_t_up (by omega))]
theorem gt_X5_pass {g : gW} {l : Launch} {A : Ad} {n f t : Nat} {r : Hp} (hn : n ≤ 10) (hf : f ≤ 10) (ht : t < 2 ^ 31) (H : OKS n f r) (e6 : r 1 6 = nI t) (hT : TPS n (s_h3 n f (3 + t % 10) r)) : GT g l yX5_pass cX5_pass 9 (some FieldType.int) 3 1 10 [.ref (A 1)] (fun _ => True) (sx g A n f r) (SF A n f) (fun v L2 N => v = some (.int (s_dayU n f t r)) ∧ L2 = sx g A n f (s_day n f t r) ∧ N = []) := by
  refine GT.of (lv0 := [(0, .ref (A 1))]) mf_X5_pass.1.2.2.2 (Nat.le_of_ble_eq_true rfl) rfl ?_
  intro p e s m below meth c C hE hr hD0 hP0
  refine gg_ls ([] ++ (sx g A n f r ++ [])) (by rw [List.nil_append, List.append_nil]) ?_
  have hm : r 1 6 - r 1 6 / 10 * 10 = nI (t % 10) := by rw [e6]; exact day_mod ht
  have hw : 3 ≤ 3 + t % 10 ∧ 3 + t % 10 < 13 := by omega
  have H1 : OKS n f (s_h1 n (3 + t % 10) r) := H.h1 hn n (Nat.le_refl n)
  have H2 : OKS n f (s_h2 n f (3 + t % 10) r) := H1.h2 hn f (Nat.le_refl f)
  have H3 : OKS n f (s_h3 n f (3 + t % 10) r) := H2.h3 hn n (Nat.le_refl n)
  have g1 : s_h1 n (3 + t % 10) r 1 6 = nI t := by
    rw [← e6]; unfold s_h1
    exact fd_keep (P := fun h : Hp => h 1 6) n (fun x i hi => by unfold s_mist; exact congrFun (hp_ne (by omega)) 6)
  have g4 : s_h4 n f (3 + t % 10) r 1 6 = nI t := s_h4_t hn H e6 hT
  refine gg_aload_n C dX5_pass_0 0 rfl rfl ?_
  refine gs_wea C hn q_f_X5_15 dX5_pass_1 ?_
  refine gg_aload_n C dX5_pass_4 0 rfl rfl ?_
  refine gs_day C hn q_f_X5_27 dX5_pass_5 ?_
  refine gg_bipush (v := 10) C dX5_pass_8 (by decide) ?_
  refine gg_irem C dX5_pass_10 (by decide) ?_
  refine gs_aldW (j := (t % 10)) C hn hm (by omega) dX5_pass_11 ?_
  refine gg_astore_n C dX5_pass_12 1 rfl (by decide) ?_
  refine gg_lv [(0, .ref (A 1)), (1, .ref (A (3 + (t % 10))))] ⟨rfl, rfl, trivial⟩ ?_
  refine ps_mist hw C hn ?_
  refine ps_flock C hn hf H1 ?_
  refine ps_sun hw C hn ?_
  refine ps_run C hn H3 hT (fun q h => Or.inr h) ?_
  refine ps_rot ht C hn g4 ?_
  refine gs_r (r2 := s_h5 n f t r) rfl ?_
  refine gg_lv [(0, .ref (A 1)), (2, .int (s_dayU n f t r))] ⟨rfl, rfl, trivial⟩ ?_
  refine gg_aload_n C dX5_pass_640 0 rfl rfl ?_
  refine gg_dup C dX5_pass_641 rfl ?_
  refine gs_day C hn q_f_X5_27 dX5_pass_642 ?_
  refine gg_iconst (v := 1) C dX5_pass_645 (by decide) ?_
  refine gg_iadd C dX5_pass_646 ?_
  refine gs_putd C hn q_f_X5_27 dX5_pass_647 ?_
  refine gg_iload_n C dX5_pass_650 2 rfl rfl ?_
  exact gg_iret C (sx g A n f (s_day n f t r)) [] rfl ⟨rfl, rfl, rfl⟩ hr dX5_pass_651
