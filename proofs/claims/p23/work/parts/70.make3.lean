/-! a Downs is made -/
/-- contents that a heap can't tell apart -/
def eqE (a b : va_E) : Prop := a = b ∨ ∃ (cA : ClassId) (n : Nat) (f f2 : Nat → Option Nat), a = .inl (cA, n, .inr (.inr (.inr (.inr f)))) ∧ b = .inl (cA, n, .inr (.inr (.inr (.inr f2)))) ∧ ∀ j, j < n → f j = f2 j
theorem arrV_refs {cA : ClassId} {n : Nat} {f f2 : Nat → Option Nat} (h : ∀ k, k < n → f k = f2 k) : arrV cA n (fun j => va_rf (f j)) = arrV cA n (fun j => va_rf (f2 j)) := by
  unfold arrV
  congr 1
  apply Array.ext
  · simp
  · intro i h1 h2
    simp at h1
    simp [h i h1]
theorem vl_eqE {g : gW} {N : Nat} {c c2 : Nat → va_E} {H : Heap} (h : ∀ o, o < N → eqE (c o) (c2 o)) (hP : va_P (gD g) vwCl (vl g N c) H) : va_P (gD g) vwCl (vl g N c2) H := by
  intro k q hq
  have hl : k < N := by
    have := (List.getElem?_eq_some_iff.mp hq).1
    rw [vl_len] at this
    exact this
  rw [vl_get hl] at hq
  cases hq
  have h1 := hP k _ (vl_get hl)
  rcases h k hl with e | ⟨cA, n, f, f2, e1, e2, e3⟩
  · rw [← e]; exact h1
  · rw [e1] at h1
    rw [e2]
    have h1 : H[gB g + k]? = some (vp_cell cA (n, .inr (.inr (.inr (.inr f))))) := h1
    show H[gB g + k]? = some (vp_cell cA (n, .inr (.inr (.inr (.inr f2)))))
    rw [h1, vp_cell_q, vp_cell_q, arrV_refs e3]
def fR (g : gW) (b i : Nat) : Nat → Option Nat := fun j => if j < i then some (gB g + (b + j)) else none
theorem fR_0 {g : gW} {b : Nat} : fR g b 0 = fun _ => none := by
  funext j
  unfold fR
  rw [if_neg (by omega)]
theorem fR_s {g : gW} {b i : Nat} : va_up (fR g b i) i (some (gB g + (b + i))) = fR g b (i + 1) := by
  funext j
  unfold va_up fR
  by_cases h : j = i
  · subst h
    rw [if_pos rfl, if_pos (by omega)]
  · rw [if_neg h]
    by_cases h2 : j < i
    · rw [if_pos h2, if_pos (by omega)]
    · rw [if_neg h2, if_neg (by omega)]
abbrev eQ (g : gW) (t n b i : Nat) : va_E := .inl (gA g t, n, .inr (.inr (.inr (.inr (fR g b i)))))
theorem eQ_0 {g : gW} {t n b : Nat} : (.inl (gA g t, n, .inr (.inr (.inr (.inr (fun _ => none))))) : va_E) = eQ g t n b 0 := by
  show _ = (Sum.inl (gA g t, n, .inr (.inr (.inr (.inr (fR g b 0))))) : va_E)
  rw [fR_0]
theorem eQ_full {g : gW} {t n b : Nat} : eqE (eQ g t n b n) (.inl (gA g t, n, .inr (.inr (.inr (.inr (rfs (fun j => gB g + (b + j)))))))) :=
  Or.inr ⟨_, _, _, _, rfl, rfl, fun j hj => if_pos hj⟩
/-- a new Downs' numbers -/
def dz (d o : Nat) : Nat → Int32 := fun k => if o = d then (if k = 7 then 100 else 0) else if d + 14 ≤ o ∧ o < d + 24 ∧ k = 8 then -1 else 0
theorem dz_d {d : Nat} : dz d d = fun k => if k = 7 then 100 else 0 := by
  funext k
  unfold dz
  rw [if_pos rfl]
theorem dz_p {d o : Nat} (h1 : d + 14 ≤ o) (h2 : o < d + 24) : dz d o = fun k => if k = 8 then -1 else 0 := by
  funext k
  unfold dz
  rw [if_neg (by omega)]
  by_cases e : k = 8
  · rw [if_pos ⟨h1, h2, e⟩, if_pos e]
  · rw [if_neg (fun z => e z.2.2), if_neg e]
theorem dz_0 {d o : Nat} (h1 : o ≠ d) (h2 : o < d + 14 ∨ d + 24 ≤ o) : dz d o = fun _ => 0 := by
  funext k
  unfold dz
  rw [if_neg h1, if_neg (by omega)]
def dC (g : gW) (d R : Nat) (cp : Nat → va_E) : Nat → va_E := fun o => if o < d then cp o else dn g (dz d o) d R o
theorem vv_vretE {g : gW} {p : Program} {l : Launch} {e : Env} {R : Room} {s : State} {m : MethodId} {args : Array Value} {below : List Frame} {meth : Method} {c : Code} {cc : ByteArray} {nL N0 N : Nat} {own : String} {cp : Nat → va_E} {lv : List (Nat × Value)} {cells slots : Nat} {pc : Nat} {N2 : Nat} {cp2 : Nat → va_E} (C : CV g p s m args meth c cc nL own N0) (hr : meth.sig.returnType = none) (hN : N2 = N) (hc : ∀ o, o < N → eqE (cp o) (cp2 o)) (hd : decode cc pc = .ok (.return_, 1)) : VW g p l e R s m args below meth c nL N cp lv cells slots (MQ below (QC g N2 cp2) args s cells slots (AG g)) pc [] := by
  intro H locs ls hP hS hl
  subst hN
  exact W.vret C.1 C.2.1 hr (fun t ht _ => ⟨rfl, by rw [ht]; exact vl_eqE hc hP, hS.F ht⟩) hS.2.2 hd C.2.2.2.2.2.2.1
abbrev eD (a0 a1 a2 a3 : Value) (k : Int32) : va_E := .inr (0, [a0, a1, a2, a3, .int 0, .int 0, .int 0, .int k])
set_option maxRecDepth 100000 in
set_option maxHeartbeats 4000000 in
theorem cc_X0_init {g : gW} {l : Launch} {d k : Nat} {cp0 : Nat → va_E} (hk : k ≤ 7) (h0 : cp0 d = eD .null .null .null .null 0) : CC g l yX0_init cX0_init 3 2 (24 + k) (160 + 6 * k) [.ref (gB g + d), .int (nI k)] (d + 1) cp0 (d + 25 + k) (dC g d k cp0) := by
  refine CC.of (lv0 := [(0, .ref (gB g + d)), (1, .int (nI k))]) mf_X0_init.2.2.2 rfl (Nat.le_of_ble_eq_true rfl) rfl ?_
  intro p e s m below meth c C hin hr
  obtain ⟨⟨kc1, kc2, kc3⟩, kc4, kc5, kc6⟩ := C.2.2.2.2.2.2.2.2
  -- the last loop: flocks
  have L3 : ∀ (q i : Nat) (cp : Nat → va_E), i + q = k → cp d = eD (.ref (gB g + (d + 1))) (.ref (gB g + (d + 12))) (.ref (gB g + (d + 13))) (.ref (gB g + (d + 24))) 100 → cp (d + 1) = eQ g 1 10 (d + 2) 10 → (∀ j, j < 10 → cp (d + 2 + j) = eW) → cp (d + 12) = eQ g 2 10 (d + 14) 10 → cp (d + 13) = .inl (gA g 0, 10, .inl (fun _ => 0)) → (∀ j, j < 10 → cp (d + 14 + j) = eP1) → cp (d + 24) = eQ g 3 k (d + 25) i → (∀ j, j < i → cp (d + 25 + j) = eF) → (∀ o, o < d → cp o = cp0 o) →
      VW g p l e (rK 2 (24 + k) (160 + 6 * k)) s m ([.ref (gB g + d), .int (nI k)] : List Value).toArray below meth c 3 (d + 25 + i) cp [(2, .int (nI i)), (0, .ref (gB g + d)), (1, .int (nI k))] (24 + i) (160 + k + 5 * i) (MQ below (QC g (d + 25 + k) (dC g d k cp0)) ([.ref (gB g + d), .int (nI k)] : List Value).toArray s (24 + k) (160 + 6 * k) (AG g)) 110 [] := by
    intro q
    induction q with
    | zero =>
      intro i cp hi a1 a2 a3 a4 a5 a6 a7 a8 a9
      have hik : i = k := by omega
      subst hik
      refine vv_iload_n C dX0_init_110 2 rfl rfl ?_
      refine vv_aload_n C dX0_init_111 0 rfl rfl ?_
      refine vv_get (T := TX0) (Nf := 8) C (show d < d + 25 + i by omega) a1 rfl inX0 3 (by decide) q_f_X0_41 rfl dX0_init_112 ?_
      refine vv_alen (v := nI i) C (show d + 24 < d + 25 + i by omega) a7 (t0 := 3) rfl rfl dX0_init_115 ?_
      refine vv_icmp_ge C dX0_init_116 138 (by decide) (fun _ => ?_) (fun z => absurd (Int32.le_refl _) z)
      rw [show 160 + i + 5 * i = 160 + 6 * i by omega]
      refine vv_vretE C hr rfl (fun o ho => ?_) dX0_init_138
      unfold dC
      by_cases e0 : o < d
      · rw [if_pos e0]; exact Or.inl (a9 o e0)
      rw [if_neg e0]
      unfold dn
      by_cases e1 : o = d
      · subst e1
        rw [if_pos rfl, a1, dz_d]
        exact Or.inl rfl
      rw [if_neg e1]
      by_cases e2 : o = d + 1
      · subst e2
        rw [if_pos rfl, a2]
        exact eQ_full
      rw [if_neg e2]
      by_cases e3 : o < d + 12
      · rw [if_pos e3]
        obtain ⟨j, hj, rfl⟩ : ∃ j, j < 10 ∧ o = d + 2 + j := ⟨o - (d + 2), by omega, by omega⟩
        rw [a3 j hj, dz_0 e1 (by omega)]
        exact Or.inl rfl
      rw [if_neg e3]
      by_cases e4 : o = d + 12
      · subst e4
        rw [if_pos rfl, a4]
        exact eQ_full
      rw [if_neg e4]
      by_cases e5 : o = d + 13
      · subst e5
        rw [if_pos rfl, a5, dz_0 e1 (by omega)]
        exact Or.inl rfl
      rw [if_neg e5]
      by_cases e6 : o < d + 24
      · rw [if_pos e6]
        obtain ⟨j, hj, rfl⟩ : ∃ j, j < 10 ∧ o = d + 14 + j := ⟨o - (d + 14), by omega, by omega⟩
        rw [a6 j hj, dz_p (by omega) (by omega)]
        exact Or.inl rfl
      rw [if_neg e6]
      by_cases e7 : o = d + 24
      · subst e7
        rw [if_pos rfl, a7]
        exact eQ_full
      rw [if_neg e7]
      obtain ⟨j, hj, rfl⟩ : ∃ j, j < i ∧ o = d + 25 + j := ⟨o - (d + 25), by omega, by omega⟩
      rw [a8 j hj, dz_0 e1 (by omega)]
      exact Or.inl rfl
    | succ q ih =>
      intro i cp hi a1 a2 a3 a4 a5 a6 a7 a8 a9
      refine vv_iload_n C dX0_init_110 2 rfl rfl ?_
      refine vv_aload_n C dX0_init_111 0 rfl rfl ?_
      refine vv_get (T := TX0) (Nf := 8) C (show d < d + 25 + i by omega) a1 rfl inX0 3 (by decide) q_f_X0_41 rfl dX0_init_112 ?_
      refine vv_alen (v := nI k) C (show d + 24 < d + 25 + i by omega) a7 (t0 := 3) rfl rfl dX0_init_115 ?_
      refine vv_icmp_ge C dX0_init_116 138 (by decide) (fun z => absurd ((nI_leI (by omega) (by omega)).mp z) (by omega)) (fun _ => ?_)
      refine vv_aload_n C dX0_init_119 0 rfl rfl ?_
      refine vv_get (T := TX0) (Nf := 8) C (show d < d + 25 + i by omega) a1 rfl inX0 3 (by decide) q_f_X0_41 rfl dX0_init_120 ?_
      refine vv_iload_n C dX0_init_123 2 rfl rfl ?_
      refine vv_new (T := TX1) (Nf := 5) (ci := 1) (fs := [.int 0, .int 0, .int 0, .int 0, .int 0]) C rfl inX1 tyX1 tyX1_ok q_k_X0_39 q_a_X1 q_n_X1 (by decide +kernel) (by omega) ⟨by show 24 + i + 1 ≤ 24 + k; omega, by show 160 + k + 5 * i + 5 ≤ 160 + 6 * k; omega⟩ dX0_init_124 ?_
      refine vv_dup C dX0_init_127 rfl ?_
      refine vv_callN (As := []) C mf_X1_init rfl q_i_X1_init cc_X1_init kc3 (by omega) rfl rfl (Nat.le_of_ble_eq_true rfl) ⟨(Nat.le_of_ble_eq_true rfl), (Nat.le_of_ble_eq_true rfl)⟩ ⟨by show 24 + i + 1 + 0 ≤ 24 + k; omega, by show 160 + k + 5 * i + 5 + 0 ≤ 160 + 6 * k; omega⟩ dX0_init_128 ?_
      refine vv_astq (o := d + 24) (t0 := 3) (f := fR g (d + 25) i) (n := k) C (by omega) (by rw [cu_ne (by omega)]; exact a7) rfl (by omega) cu_eq (r := (RX1, TX1, 5)) rfl rfl (by omega) (by omega) dX0_init_131 ?_
      refine vv_iinc (v := nI (i + 1)) C dX0_init_132 rfl (nI_inc i) (by omega) ?_
      refine vv_goto C dX0_init_135 110 (by decide) ?_
      rw [fR_s]
      refine ih (i + 1) _ (by omega) ?_ ?_ (fun j hj => ?_) ?_ ?_ (fun j hj => ?_) ?_ (fun j hj => ?_) (fun o ho => ?_)
      · rw [cu_ne (by omega), cu_ne (by omega)]; exact a1
      · rw [cu_ne (by omega), cu_ne (by omega)]; exact a2
      · rw [cu_ne (by omega), cu_ne (by omega)]; exact a3 j hj
      · rw [cu_ne (by omega), cu_ne (by omega)]; exact a4
      · rw [cu_ne (by omega), cu_ne (by omega)]; exact a5
      · rw [cu_ne (by omega), cu_ne (by omega)]; exact a6 j hj
      · rw [cu_eq]
      · rw [cu_ne (by omega)]
        by_cases e : j = i
        · subst e; rw [cu_eq]
        · rw [cu_ne (by omega)]; exact a8 j (by omega)
      · rw [cu_ne (by omega), cu_ne (by omega)]; exact a9 o ho
  -- the middle loop: ponds
  have L2 : ∀ (q i : Nat) (cp : Nat → va_E), i + q = 10 → cp d = eD (.ref (gB g + (d + 1))) (.ref (gB g + (d + 12))) (.ref (gB g + (d + 13))) .null 100 → cp (d + 1) = eQ g 1 10 (d + 2) 10 → (∀ j, j < 10 → cp (d + 2 + j) = eW) → cp (d + 12) = eQ g 2 10 (d + 14) i → cp (d + 13) = .inl (gA g 0, 10, .inl (fun _ => 0)) → (∀ j, j < i → cp (d + 14 + j) = eP1) → (∀ o, o < d → cp o = cp0 o) →
      VW g p l e (rK 2 (24 + k) (160 + 6 * k)) s m ([.ref (gB g + d), .int (nI k)] : List Value).toArray below meth c 3 (d + 14 + i) cp [(2, .int (nI i)), (0, .ref (gB g + d)), (1, .int (nI k))] (13 + i) (60 + 10 * i) (MQ below (QC g (d + 25 + k) (dC g d k cp0)) ([.ref (gB g + d), .int (nI k)] : List Value).toArray s (24 + k) (160 + 6 * k) (AG g)) 68 [] := by
    intro q
    induction q with
    | zero =>
      intro i cp hi a1 a2 a3 a4 a5 a6 a9
      have hi10 : i = 10 := by omega
      subst hi10
      refine vv_iload_n C dX0_init_68 2 rfl rfl ?_
      refine vv_aload_n C dX0_init_69 0 rfl rfl ?_
      refine vv_get (T := TX0) (Nf := 8) C (show d < d + 14 + 10 by omega) a1 rfl inX0 1 (by decide) q_f_X0_24 rfl dX0_init_70 ?_
      refine vv_alen (v := nI 10) C (show d + 12 < d + 14 + 10 by omega) a4 (t0 := 2) rfl rfl dX0_init_73 ?_
      refine vv_icmp_ge C dX0_init_74 96 (by decide) (fun _ => ?_) (fun z => absurd (Int32.le_refl _) z)
      refine vv_aload_n C dX0_init_96 0 rfl rfl ?_
      refine vv_iconst (v := 0) C dX0_init_97 (by decide) ?_
      refine vv_iload_n C dX0_init_98 1 rfl rfl ?_
      refine vv_mmax C q_m_X0_33 (Nat.le_of_ble_eq_true rfl) (Nat.le_of_ble_eq_true rfl) (by show 13 + 10 ≤ 24 + k; omega) (by show 60 + 10 * 10 ≤ 160 + 6 * k; omega) dX0_init_99 ?_
      refine vv_newq (t0 := 3) (k := k) C rfl kc6 q_k_X0_39 (mx0 (by omega)) (by omega) (by omega) ⟨by show 13 + 10 + 1 ≤ 24 + k; omega, by show 60 + 10 * 10 + k ≤ 160 + 6 * k; omega⟩ dX0_init_102 ?_
      refine vv_putF (T := TX0) (Nf := 8) (fs := [.ref (gB g + (d + 1)), .ref (gB g + (d + 12)), .ref (gB g + (d + 13)), .null, .int 0, .int 0, .int 0, .int 100]) C hin (show d < d + 14 + 10 + 1 by omega) (by rw [cu_ne (by omega)]; exact a1) rfl inX0 tyX0 tyX0_ok nmX0 3 (by decide) q_f_X0_41 rfl rfl rfl rfl (Nat.le_of_ble_eq_true rfl) dX0_init_105 ?_
      refine vv_iconst (v := nI 0) C dX0_init_108 (by decide) ?_
      refine vv_istore_n C dX0_init_109 2 rfl (by omega) ?_
      refine vv_lv [(2, .int (nI 0)), (0, .ref (gB g + d)), (1, .int (nI k))] ⟨rfl, rfl, rfl, trivial⟩ ?_
      have h3 := L3 k 0
      rw [show 160 + k + 5 * 0 = 60 + 10 * 10 + k by omega] at h3
      refine h3 _ (by omega) ?_ ?_ (fun j hj => ?_) ?_ ?_ (fun j hj => ?_) ?_ (fun j hj => absurd hj (by omega)) (fun o ho => ?_)
      · rw [cu_eq]; rfl
      · rw [cu_ne (by omega), cu_ne (by omega)]; exact a2
      · rw [cu_ne (by omega), cu_ne (by omega)]; exact a3 j hj
      · rw [cu_ne (by omega), cu_ne (by omega)]; exact a4
      · rw [cu_ne (by omega), cu_ne (by omega)]; exact a5
      · rw [cu_ne (by omega), cu_ne (by omega)]; exact a6 j hj
      · rw [cu_ne (by omega), cu_eq]; exact eQ_0
      · rw [cu_ne (by omega), cu_ne (by omega)]; exact a9 o ho
    | succ q ih =>
      intro i cp hi a1 a2 a3 a4 a5 a6 a9
      refine vv_iload_n C dX0_init_68 2 rfl rfl ?_
      refine vv_aload_n C dX0_init_69 0 rfl rfl ?_
      refine vv_get (T := TX0) (Nf := 8) C (show d < d + 14 + i by omega) a1 rfl inX0 1 (by decide) q_f_X0_24 rfl dX0_init_70 ?_
      refine vv_alen (v := nI 10) C (show d + 12 < d + 14 + i by omega) a4 (t0 := 2) rfl rfl dX0_init_73 ?_
      refine vv_icmp_ge C dX0_init_74 96 (by decide) (fun z => absurd ((nI_leI (by omega) (by omega)).mp z) (by omega)) (fun _ => ?_)
      refine vv_aload_n C dX0_init_77 0 rfl rfl ?_
      refine vv_get (T := TX0) (Nf := 8) C (show d < d + 14 + i by omega) a1 rfl inX0 1 (by decide) q_f_X0_24 rfl dX0_init_78 ?_
      refine vv_iload_n C dX0_init_81 2 rfl rfl ?_
      refine vv_new (T := TX2) (Nf := 10) (ci := 2) (fs := [.int 0, .int 0, .int 0, .int 0, .int 0, .int 0, .int 0, .int 0, .int 0, .int 0]) C rfl inX2 tyX2 tyX2_ok q_k_X0_22 q_a_X2 q_n_X2 (by decide +kernel) (by omega) ⟨by show 13 + i + 1 ≤ 24 + k; omega, by show 60 + 10 * i + 10 ≤ 160 + 6 * k; omega⟩ dX0_init_82 ?_
      refine vv_dup C dX0_init_85 rfl ?_
      refine vv_callN (As := []) C mf_X2_init rfl q_i_X2_init (cc_X2_init (by omega) cu_eq) kc2 (by omega) rfl rfl (Nat.le_of_ble_eq_true rfl) ⟨(Nat.le_of_ble_eq_true rfl), (Nat.le_of_ble_eq_true rfl)⟩ ⟨by show 13 + i + 1 + 0 ≤ 24 + k; omega, by show 60 + 10 * i + 10 + 0 ≤ 160 + 6 * k; omega⟩ dX0_init_86 ?_
      refine vv_astq (o := d + 12) (t0 := 2) (f := fR g (d + 14) i) (n := 10) C (by omega) (by rw [cu_ne (by omega), cu_ne (by omega)]; exact a4) rfl (by omega) cu_eq (r := (RX2, TX2, 10)) rfl rfl (by omega) (by omega) dX0_init_89 ?_
      refine vv_iinc (v := nI (i + 1)) C dX0_init_90 rfl (nI_inc i) (by omega) ?_
      refine vv_goto C dX0_init_93 68 (by decide) ?_
      rw [fR_s]
      refine ih (i + 1) _ (by omega) ?_ ?_ (fun j hj => ?_) ?_ ?_ (fun j hj => ?_) (fun o ho => ?_)
      · rw [cu_ne (by omega), cu_ne (by omega), cu_ne (by omega)]; exact a1
      · rw [cu_ne (by omega), cu_ne (by omega), cu_ne (by omega)]; exact a2
      · rw [cu_ne (by omega), cu_ne (by omega), cu_ne (by omega)]; exact a3 j hj
      · rw [cu_eq]
      · rw [cu_ne (by omega), cu_ne (by omega), cu_ne (by omega)]; exact a5
      · rw [cu_ne (by omega)]
        by_cases e : j = i
        · subst e; rw [cu_eq]
        · rw [cu_ne (by omega), cu_ne (by omega)]; exact a6 j (by omega)
      · rw [cu_ne (by omega), cu_ne (by omega), cu_ne (by omega)]; exact a9 o ho
  -- the first loop: weather
  have L1 : ∀ (q i : Nat) (cp : Nat → va_E), i + q = 10 → cp d = eD (.ref (gB g + (d + 1))) .null .null .null 100 → cp (d + 1) = eQ g 1 10 (d + 2) i → (∀ j, j < i → cp (d + 2 + j) = eW) → (∀ o, o < d → cp o = cp0 o) →
      VW g p l e (rK 2 (24 + k) (160 + 6 * k)) s m ([.ref (gB g + d), .int (nI k)] : List Value).toArray below meth c 3 (d + 2 + i) cp [(2, .int (nI i)), (0, .ref (gB g + d)), (1, .int (nI k))] (1 + i) (10 + 3 * i) (MQ below (QC g (d + 25 + k) (dC g d k cp0)) ([.ref (gB g + d), .int (nI k)] : List Value).toArray s (24 + k) (160 + 6 * k) (AG g)) 21 [] := by
    intro q
    induction q with
    | zero =>
      intro i cp hi a1 a2 a3 a9
      have hi10 : i = 10 := by omega
      subst hi10
      refine vv_iload_n C dX0_init_21 2 rfl rfl ?_
      refine vv_aload_n C dX0_init_22 0 rfl rfl ?_
      refine vv_get (T := TX0) (Nf := 8) C (show d < d + 2 + 10 by omega) a1 rfl inX0 0 (by decide) q_f_X0_17 rfl dX0_init_23 ?_
      refine vv_alen (v := nI 10) C (show d + 1 < d + 2 + 10 by omega) a2 (t0 := 1) rfl rfl dX0_init_26 ?_
      refine vv_icmp_ge C dX0_init_27 49 (by decide) (fun _ => ?_) (fun z => absurd (Int32.le_refl _) z)
      refine vv_aload_n C dX0_init_49 0 rfl rfl ?_
      refine vv_bipush (v := nI 10) C dX0_init_50 (by decide) ?_
      refine vv_newq (t0 := 2) (k := 10) C rfl kc5 q_k_X0_22 rfl (by omega) (by omega) ⟨by show 1 + 10 + 1 ≤ 24 + k; omega, by show 10 + 3 * 10 + 10 ≤ 160 + 6 * k; omega⟩ dX0_init_52 ?_
      refine vv_putF (T := TX0) (Nf := 8) (fs := [.ref (gB g + (d + 1)), .null, .null, .null, .int 0, .int 0, .int 0, .int 100]) C hin (show d < d + 2 + 10 + 1 by omega) (by rw [cu_ne (by omega)]; exact a1) rfl inX0 tyX0 tyX0_ok nmX0 1 (by decide) q_f_X0_24 rfl rfl rfl rfl (Nat.le_of_ble_eq_true rfl) dX0_init_55 ?_
      refine vv_aload_n C dX0_init_58 0 rfl rfl ?_
      refine vv_bipush (v := nI 10) C dX0_init_59 (by decide) ?_
      refine vv_newi (k := 10) C rfl (by omega) (by omega) ⟨by show 1 + 10 + 1 + 1 ≤ 24 + k; omega, by show 10 + 3 * 10 + 10 + 10 ≤ 160 + 6 * k; omega⟩ dX0_init_61 ?_
      refine vv_putF (T := TX0) (Nf := 8) (fs := [.ref (gB g + (d + 1)), .ref (gB g + (d + 12)), .null, .null, .int 0, .int 0, .int 0, .int 100]) C hin (show d < d + 2 + 10 + 1 + 1 by omega) (by rw [cu_ne (by omega), cu_eq]; rfl) rfl inX0 tyX0 tyX0_ok nmX0 2 (by decide) q_f_X0_28 rfl rfl rfl rfl (Nat.le_of_ble_eq_true rfl) dX0_init_63 ?_
      refine vv_iconst (v := nI 0) C dX0_init_66 (by decide) ?_
      refine vv_istore_n C dX0_init_67 2 rfl (by omega) ?_
      refine vv_lv [(2, .int (nI 0)), (0, .ref (gB g + d)), (1, .int (nI k))] ⟨rfl, rfl, rfl, trivial⟩ ?_
      refine L2 10 0 _ (by omega) ?_ ?_ (fun j hj => ?_) ?_ ?_ (fun j hj => absurd hj (by omega)) (fun o ho => ?_)
      · rw [cu_eq]; rfl
      · rw [cu_ne (by omega), cu_ne (by omega), cu_ne (by omega), cu_ne (by omega)]; exact a2
      · rw [cu_ne (by omega), cu_ne (by omega), cu_ne (by omega), cu_ne (by omega)]; exact a3 j hj
      · rw [cu_ne (by omega), cu_ne (by omega), cu_ne (by omega), cu_eq]; exact eQ_0
      · rw [cu_ne (by omega), cu_eq]
      · rw [cu_ne (by omega), cu_ne (by omega), cu_ne (by omega), cu_ne (by omega)]; exact a9 o ho
    | succ q ih =>
      intro i cp hi a1 a2 a3 a9
      refine vv_iload_n C dX0_init_21 2 rfl rfl ?_
      refine vv_aload_n C dX0_init_22 0 rfl rfl ?_
      refine vv_get (T := TX0) (Nf := 8) C (show d < d + 2 + i by omega) a1 rfl inX0 0 (by decide) q_f_X0_17 rfl dX0_init_23 ?_
      refine vv_alen (v := nI 10) C (show d + 1 < d + 2 + i by omega) a2 (t0 := 1) rfl rfl dX0_init_26 ?_
      refine vv_icmp_ge C dX0_init_27 49 (by decide) (fun z => absurd ((nI_leI (by omega) (by omega)).mp z) (by omega)) (fun _ => ?_)
      refine vv_aload_n C dX0_init_30 0 rfl rfl ?_
      refine vv_get (T := TX0) (Nf := 8) C (show d < d + 2 + i by omega) a1 rfl inX0 0 (by decide) q_f_X0_17 rfl dX0_init_31 ?_
      refine vv_iload_n C dX0_init_34 2 rfl rfl ?_
      refine vv_new (T := TX3) (Nf := 3) (ci := 3) (fs := [.int 0, .int 0, .int 0]) C rfl inX3 tyX3 tyX3_ok q_k_X0_15 q_a_X3 q_n_X3 (by decide +kernel) (by omega) ⟨by show 1 + i + 1 ≤ 24 + k; omega, by show 10 + 3 * i + 3 ≤ 160 + 6 * k; omega⟩ dX0_init_35 ?_
      refine vv_dup C dX0_init_38 rfl ?_
      refine vv_callN (As := []) C mf_X3_init rfl q_i_X3_init cc_X3_init kc1 (by omega) rfl rfl (Nat.le_of_ble_eq_true rfl) ⟨(Nat.le_of_ble_eq_true rfl), (Nat.le_of_ble_eq_true rfl)⟩ ⟨by show 1 + i + 1 + 0 ≤ 24 + k; omega, by show 10 + 3 * i + 3 + 0 ≤ 160 + 6 * k; omega⟩ dX0_init_39 ?_
      refine vv_astq (o := d + 1) (t0 := 1) (f := fR g (d + 2) i) (n := 10) C (by omega) (by rw [cu_ne (by omega)]; exact a2) rfl (by omega) cu_eq (r := (RX3, TX3, 3)) rfl rfl (by omega) (by omega) dX0_init_42 ?_
      refine vv_iinc (v := nI (i + 1)) C dX0_init_43 rfl (nI_inc i) (by omega) ?_
      refine vv_goto C dX0_init_46 21 (by decide) ?_
      rw [fR_s]
      refine ih (i + 1) _ (by omega) ?_ ?_ (fun j hj => ?_) (fun o ho => ?_)
      · rw [cu_ne (by omega), cu_ne (by omega)]; exact a1
      · rw [cu_eq]
      · rw [cu_ne (by omega)]
        by_cases e : j = i
        · subst e; rw [cu_eq]
        · rw [cu_ne (by omega)]; exact a3 j (by omega)
      · rw [cu_ne (by omega), cu_ne (by omega)]; exact a9 o ho
  refine vv_aload_n C dX0_init_0 0 rfl rfl ?_
  refine vv_oinit C q_m_X0_3 dX0_init_1 (Nat.le_of_ble_eq_true rfl) (Nat.le_of_ble_eq_true rfl) ?_
  refine vv_aload_n C dX0_init_4 0 rfl rfl ?_
  refine vv_bipush (v := 100) C dX0_init_5 (by decide) ?_
  refine vv_put (T := TX0) (Nf := 8) C (show d < d + 1 by omega) h0 rfl inX0 tyX0 tyX0_ok nmX0 7 (by decide) q_f_X0_9 rfl rfl rfl (Nat.le_of_ble_eq_true rfl) dX0_init_7 ?_
  refine vv_aload_n C dX0_init_10 0 rfl rfl ?_
  refine vv_bipush (v := nI 10) C dX0_init_11 (by decide) ?_
  refine vv_newq (t0 := 1) (k := 10) C rfl kc4 q_k_X0_15 rfl (by omega) (by omega) ⟨by show 0 + 1 ≤ 24 + k; omega, by show 0 + 10 ≤ 160 + 6 * k; omega⟩ dX0_init_13 ?_
  refine vv_putF (T := TX0) (Nf := 8) (fs := [.null, .null, .null, .null, .int 0, .int 0, .int 0, .int 100]) C hin (show d < d + 1 + 1 by omega) (by rw [cu_ne (by omega), cu_eq]; rfl) rfl inX0 tyX0 tyX0_ok nmX0 0 (by decide) q_f_X0_17 rfl rfl rfl rfl (Nat.le_of_ble_eq_true rfl) dX0_init_16 ?_
  refine vv_iconst (v := nI 0) C dX0_init_19 (by decide) ?_
  refine vv_istore_n C dX0_init_20 2 rfl (by omega) ?_
  refine vv_lv [(2, .int (nI 0)), (0, .ref (gB g + d)), (1, .int (nI k))] ⟨rfl, rfl, rfl, trivial⟩ ?_
  refine L1 10 0 _ (by omega) ?_ ?_ (fun j hj => absurd hj (by omega)) (fun o ho => ?_)
  · rw [cu_eq]; rfl
  · rw [cu_ne (by omega), cu_eq]; exact eQ_0
  · rw [cu_ne (by omega), cu_ne (by omega), cu_ne (by omega)]
