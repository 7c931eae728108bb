/-! THE SIM IS MADE -/
def KN (U : State) : Prop := va_Nw (.methodLinkNest RL 11 yX5_init "DewPondLaw") U
theorem KN_blind : EB KN := fun _ U _ _ h => va_Nw.same rfl (u := U) rfl h
theorem EM.kn {s : State} {F : Nat → Prop} (h : KN s) : EM s F KN := fun _ hW _ => va_Nw.warmM hW h
def r00 : Hp := fun o k => if o = 1 ∧ k = 7 then 100 else 0
section GGN
variable {g : gW} {p : Program} {l : Launch} {e : Env} {R : Room} {s : State} {m : MethodId} {args : Array Value} {below : List Frame} {meth : Method} {c : Code} {cc : ByteArray} {nL : Nat} {own : String} {L : va_W} {F : Nat → Prop} {lv : List (Nat × Value)} {cells slots : Nat} {Q : State → Prop} {pc : Nat} {st : List Value}
theorem gg_oinit (C : CG g p s m args meth c cc nL own) {idx a : Nat} (hlink : Cond.methodLink own idx objectInit ∈ TT) (hd : decode cc pc = .ok (.invokespecial idx, 3)) (hfr : 1 ≤ R.frames) (hlo : (st.map fun v => v.category).sum + 12 ≤ R.locals) (k : GW g p l e R s m args below meth c nL L F lv cells slots Q (pc + 3) st) : GW g p l e R s m args below meth c nL L F lv cells slots Q pc (.ref a :: st) := by
  intro H locs ls hP hD hS hl
  have ht := C.2.2.2.2.1
  exact W.objInit C.1 C.2.1 C.2.2.2.1 (ht _ hlink) (ht _ q_i_J_oinit) (ht _ q_c_J_oinit) rfl (hl.1.trans C.2.2.1.symm) rfl hd hfr (by show 2 * 0 + _ + 12 ≤ _; omega) (W.eq (g2 := F0 m (pc + 3) ls st) rfl (k H locs ls hP hD hS hl))
theorem gg_new (C : CG g p s m args meth c cc nL own) (hF : ∀ q, s.heap.size ≤ q → F q) {cn : String} {T : u_T} {Nf ci idx : Nat} (hc : vwCl[ci]? = some (cn, T, Nf)) (hin : ∀ w ∈ u_ws cn T Nf, w ∈ TT) (ty0 : Nat → FieldType) (hty : ∀ k, k < Nf → parseFieldDescriptor (T k).2.2.1 = some (ty0 k)) (hlink : Cond.classLink own idx cn ∈ TT) (hinst : Cond.instantiable cn Nf ∈ TT) (hini : Cond.initialized cn ∈ TT) {fs : List Value} (hfs : ∀ j, j < Nf → defaultValue (ty0 j) = vp_V fs j) (hr : cells + 1 ≤ R.cells ∧ slots + Nf ≤ R.slots) (hd : decode cc pc = .ok (.new idx, 3)) (kk : ∀ q, GW g p l e R s m args below meth c nL (L ++ [(q, .inr (ci, fs))]) F lv (cells + 1) (slots + Nf) Q (pc + 3) (.ref q :: st)) : GW g p l e R s m args below meth c nL L F lv cells slots Q pc st := by
  intro H locs ls hP hD hS hl
  have ht := C.2.2.2.2.1
  exact va_new C.1 C.2.1 ht hin ty0 hty C.2.2.2.1 (ht _ hlink) (ht _ hinst) (ht _ hini) C.2.2.2.2.2.1 hP hD hS hF hc hfs hr.1 hr.2 hd (fun q H1 hP1 hD1 hS1 => kk q H1 locs ls hP1 hD1 hS1 hl)
theorem gg_callN (C : CG g p s m args meth c cc nL own) {y : MethodName} {cY : ByteArray} {nLY k mc ms n idx o : Nat} {As rest : List Value} {A B : va_W} {G : Nat → Prop} {E : State → Prop} {P2 : Option Value → va_W → va_W → Prop} {host : String} (hF : MFb y cY nLY none n) (hyn : y.name = "<init>") (hin : Cond.instanceMethod y ∈ TT) (hM : GT g l y cY nLY none k mc ms (.ref o :: As) E L G P2) (hEb : EB E) (hE : EM s F E) (hGL : ∀ x ∈ L, G x.1) (hG : va_D F (A ++ (L ++ B)) → ∀ q, FF G s.heap.size q → F q) (hap : va_D F (A ++ (L ++ B)) → ∀ x, x ∈ A ∨ x ∈ B → ¬ G x.1) (hlink : va_Nw (.methodLinkNest own idx y host) s)
    (hAs : As.length = n) (hst : st = As.reverse ++ .ref o :: rest) (hcat : (rest.map fun v => v.category).sum ≤ 8) (hk : k + 1 ≤ R.frames ∧ 8 + (nLY + 11) + 28 * k ≤ R.locals) (hr : cells + mc ≤ R.cells ∧ slots + ms ≤ R.slots) (hd : decode cc pc = .ok (.invokespecial idx, 3))
    (kk : ∀ v L2 N, P2 v L2 N → GW g p l e R s m args below meth c nL (A ++ (L2 ++ (B ++ N))) F lv (cells + mc) (slots + ms) Q (pc + 3) (v.toList ++ rest)) (hv : ∀ v L2 N, P2 v L2 N → v = none) : GW g p l e R s m args below meth c nL (A ++ (L ++ B)) F lv cells slots Q pc st := by
  intro H locs ls hP hD hS hl
  have ht := C.2.2.2.2.1
  obtain ⟨f1, f2, ⟨f3, f4, f5⟩, -⟩ := hF
  exact gg_after (hG hD) (fun x hx => hap hD x (List.mem_append.mp hx)) hP hD hS hl (va_runIN (Ts := TT) (own := own) (As := As) (rest := rest) ⟨C.1, C.2.1, C.2.2.1, C.2.2.2.1, ht⟩ (hM H.size) ⟨va_cnB n ht (ws_good (own := own) (idx := idx) f1) rfl rfl rfl hlink (ht _ f2) ⟨f3, f4, f5⟩ hk, hyn, ht _ hin⟩ ⟨PG_blind hEb, PG_now (y := y) (As := .ref o :: As) C hE hGL hP hD hS⟩ rfl hAs hl.1 hst (lv_room hcat) hd hr) kk
end GGN
def ad0 (a q q2 q3 : Nat) (rr : Nat → Nat) : Ad := fun o => if o = 1 then a else if o = 2 then q else if o = 13 then q2 else if o = 25 then q3 else rr (o - 3)
theorem sx_00 {g : gW} {a q q2 q3 : Nat} {rr : Nat → Nat} : sx g (ad0 a q q2 q3 rr) 0 0 r00 = [(a, .inr (5, [.int 0, .int 100, .ref q, .ref q2, .ref q3]))] ++ (mx g q rr 10 3 (fun _ _ => 0) ++ [cR g q2 0 (fun _ => none), cR g q3 0 (fun _ => none)]) := by
  have e1 : rfn 10 (fun j => ad0 a q q2 q3 rr (3 + j)) = fun i => if i < 10 then some (rr i) else none := by
    funext j
    show (if j < 10 then some (ad0 a q q2 q3 rr (3 + j)) else none) = _
    by_cases h : j < 10
    · rw [if_pos h, if_pos h]
      unfold ad0
      rw [if_neg (by omega), if_neg (by omega), if_neg (by omega), if_neg (by omega), Nat.add_sub_cancel_left]
    · rw [if_neg h, if_neg h]
  have e2 : ∀ f : Nat → Nat, rfn 0 f = fun _ => none := fun f => by
    funext j
    exact if_neg (Nat.not_lt_zero j)
  have e3 : sx g (ad0 a q q2 q3 rr) 0 0 r00 = [(a, .inr (5, [.int 0, .int 100, .ref q, .ref q2, .ref q3]))] ++ ((q, .inl (gA g 4, 10, .inr (.inr (.inr (.inr (rfn 10 (fun j => ad0 a q q2 q3 rr (3 + j)))))))) :: ((List.range 10).map (fun i => (rr i, (.inl (gA g 0, 3, .inl (r00 (3 + i))) : va_E))) ++ [cR g q2 0 (rfn 0 (fun j => ad0 a q q2 q3 rr (15 + j))), cR g q3 0 (rfn 0 (fun j => ad0 a q q2 q3 rr (26 + j)))])) := rfl
  have e4 : ∀ i, r00 (3 + i) = fun _ => 0 := fun i => by
    funext k
    exact if_neg (by omega)
  rw [e3, e1, e2, e2]
  simp only [e4]
  rfl
set_option maxRecDepth 100000 in
theorem gt_X5_init {g : gW} {l : Launch} {a : Nat} : GT g l yX5_init cX5_init 1 none 1 13 40 [.ref a] (fun _ => True) [(a, .inr (5, [.int 0, .int 0, .null, .null, .null]))] (fun q => q = a) (fun v L2 N => v = none ∧ ∃ A : Ad, A 1 = a ∧ L2 ++ N = sx g A 0 0 r00) := by
  refine GT.of (lv0 := [(0, .ref a)]) mf_X5_init.2.2.2 (Nat.le_of_ble_eq_true rfl) rfl ?_
  intro p e s m below meth c C hE hr hD0 hP0
  refine gg_aload_n C dX5_init_0 0 rfl rfl ?_
  refine gg_oinit C q_m_X5_1 dX5_init_1 (Nat.le_of_ble_eq_true rfl) (Nat.le_of_ble_eq_true rfl) ?_
  refine gg_aload_n C dX5_init_4 0 rfl rfl ?_
  refine gg_bipush (v := 100) C dX5_init_5 (by decide) ?_
  refine gg_put (T := TX5) (N := 5) C 0 rfl rfl inX5 tyX5 tyX5_ok nmX5 1 (by decide) q_f_X5_7 rfl rfl rfl (Nat.le_of_ble_eq_true rfl) dX5_init_7 ?_
  refine gg_aload_n C dX5_init_10 0 rfl rfl ?_
  refine gg_bipush (v := 10) C dX5_init_11 (by decide) ?_
  refine gg_iconst (v := 3) C dX5_init_13 (by decide) ?_
  refine gg_mna (N := 10) (K := 3) C (fun q h => Or.inr h) rfl rfl (by omega) (by omega) q_k_X5_13 ⟨Nat.le_of_ble_eq_true rfl, Nat.le_of_ble_eq_true rfl⟩ dX5_init_14 (fun q rr => ?_)
  refine gg_put (T := TX5) (N := 5) C 0 rfl rfl inX5 tyX5 tyX5_ok nmX5 2 (by decide) q_f_X5_15 rfl rfl rfl (Nat.le_of_ble_eq_true rfl) dX5_init_18 ?_
  refine gg_aload_n C dX5_init_21 0 rfl rfl ?_
  refine gg_iconst (v := 0) C dX5_init_22 (by decide) ?_
  refine gg_newA (N := 0) C (fun q h => Or.inr h) rfl (by omega) q_k_X5_18 ⟨Nat.le_of_ble_eq_true rfl, Nat.le_of_ble_eq_true rfl⟩ dX5_init_23 (fun q2 => ?_)
  refine gg_put (T := TX5) (N := 5) C 0 rfl rfl inX5 tyX5 tyX5_ok nmX5 3 (by decide) q_f_X5_20 rfl rfl rfl (Nat.le_of_ble_eq_true rfl) dX5_init_26 ?_
  refine gg_aload_n C dX5_init_29 0 rfl rfl ?_
  refine gg_iconst (v := 0) C dX5_init_30 (by decide) ?_
  refine gg_newA (N := 0) C (fun q h => Or.inr h) rfl (by omega) q_k_X5_18 ⟨Nat.le_of_ble_eq_true rfl, Nat.le_of_ble_eq_true rfl⟩ dX5_init_31 (fun q3 => ?_)
  refine gg_put (T := TX5) (N := 5) C 0 rfl rfl inX5 tyX5 tyX5_ok nmX5 4 (by decide) q_f_X5_23 rfl rfl rfl (Nat.le_of_ble_eq_true rfl) dX5_init_34 ?_
  refine gg_wide 13 40 (Nat.le_of_ble_eq_true rfl) (Nat.le_of_ble_eq_true rfl) ?_
  exact gg_vret C (sx g (ad0 a q q2 q3 rr) 0 0 r00) [] (by rw [List.append_nil, sx_00]; rfl) ⟨rfl, _, rfl, List.append_nil _⟩ hr dX5_init_37
