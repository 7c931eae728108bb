/-! two doubles that are alike one number: no difference that the law sees -/
theorem nan_val {r : UInt64} (h : isNaN64 r = true) : FP.Core.val64 r = .nan := by
  apply Classical.byContradiction
  intro z
  have h1 := (FP.Core.ne_nan r).mp z
  rw [isNaN64_iff] at h
  have e : r.toNat &&& 0x7fffffffffffffff = r.toNat % 2 ^ 63 := Nat.and_two_pow_sub_one_eq_mod r.toNat 63
  rw [e] at h
  have e2 : (0x7ff0000000000000 : Nat) = 9218868437227405312 := rfl
  omega
theorem cmp_nan {r : UInt64} (h : FP.Core.val64 r = .nan) : ¬ Op.cmpValue (FP.dcmp r r) .l = 0 := by
  have e : FP.dcmp r r = none := (FP.Core.dcmp_none r r).mpr (Or.inl h)
  rw [e]
  decide
theorem full_cmp {r1 r2 : UInt64} (h : (r1 = FP.dconst0 ∧ r2 = FP.dconst0) ∨ ∃ z, alike64 r1 z = true ∧ alike64 r2 z = true) : Op.cmpValue (FP.dcmp r1 r2) .l = 0 ∨ (¬ Op.cmpValue (FP.dcmp r1 r1) .l = 0 ∧ ¬ Op.cmpValue (FP.dcmp r2 r2) .l = 0) := by
  have same : ∀ z : UInt64, Op.cmpValue (FP.dcmp z z) .l = 0 ∨ (¬ Op.cmpValue (FP.dcmp z z) .l = 0 ∧ ¬ Op.cmpValue (FP.dcmp z z) .l = 0) := by
    intro z
    by_cases c : FP.Core.val64 z = .nan
    · exact Or.inr ⟨cmp_nan c, cmp_nan c⟩
    · left
      have e : FP.dcmp z z = some .eq := FP.Core.dcmp_self c
      rw [e]
      rfl
  rcases h with ⟨e1, e2⟩ | ⟨z, a1, a2⟩
  · subst e1; subst e2
    exact same _
  · simp only [alike64, Bool.or_eq_true, decide_eq_true_eq, Bool.and_eq_true] at a1 a2
    rcases a1 with e1 | ⟨n1, nz⟩
    · rcases a2 with e2 | ⟨n2, nz⟩
      · subst e1; subst e2
        exact same _
      · subst e1
        exact Or.inr ⟨cmp_nan (nan_val nz), cmp_nan (nan_val n2)⟩
    · rcases a2 with e2 | ⟨n2, -⟩
      · subst e2
        exact Or.inr ⟨cmp_nan (nan_val n1), cmp_nan (nan_val nz)⟩
      · exact Or.inr ⟨cmp_nan (nan_val n1), cmp_nan (nan_val n2)⟩
theorem lg_self (x : Int64) : lg_cmp x x = 0 := by
  unfold lg_cmp
  rw [if_neg (by show ¬ x < x; exact Int64.lt_irrefl), if_pos rfl]
section GLD
variable {g : gW} {p : Program} {l : Launch} {e : Env} {R : Room} {s : State} {m : MethodId} {args : Array Value} {below : List Frame} {meth : Method} {c : Code} {cc : ByteArray} {nL : Nat} {own : String} {X : va_W} {h : Hp} {lv : List (Nat × Value)} {cells slots : Nat} {Q : State → Prop} {pc : Nat} {st : List Value}
/-- a call that answers a double -/
theorem lx_callD {d0 : Drawn} (hd0 : s.drawn.sameBut d0 lw_cs) (C : CL g p (s.setDrawn d0) m args meth c cc nL own) {y : MethodName} {cY : ByteArray} {nLY k o n idx ci : Nat} {As rest : List Value} {P : UInt64 → Prop} {h2 : Hp} (hF : MFv y cY nLY (some .double) n) (hM : DT g l y cY nLY k (.ref (gB g + o) :: As) h P h2) (hlink : Cond.methodLink own idx y ∈ TT)
    (ho : o < 71) {q : vw_C} (hq : vwCl[ci]? = some q) (hqc : q.1 = y.cls) (hce : ∃ fs, ce g (h o) o = .inr (ci, fs)) (hAs : As.length = n) (hst : st = As.reverse ++ .ref (gB g + o) :: rest) (hcat : (rest.map fun v => v.category).sum ≤ 8) (hk : k + 1 ≤ R.frames ∧ 8 + (nLY + 11) + 28 * k ≤ R.locals) (hr : cells + 0 ≤ R.cells ∧ slots + 0 ≤ R.slots) (hd : decode cc pc = .ok (.invokevirtual idx, 3))
    (kk : ∀ (r : UInt64) (d1 : Drawn), s.drawn.sameBut d1 lw_cs → P r → WW g p l e R (s.setDrawn d1) m args below meth c nL X h2 lv (cells + 0) (slots + 0) Q (pc + 3) (.double r :: rest)) : WW g p l e R (s.setDrawn d0) m args below meth c nL X h lv cells slots Q pc st := by
  intro H locs ls hP hD hS hl
  have ht := C.2.2.2.2.1
  obtain ⟨⟨f1, f2, ⟨f3, f4, f5⟩, -⟩, f6, f7⟩ := hF
  have hcell := lx_recv C hP ho hq hce
  rw [hqc] at hcell
  have hr := va_runV_D (Ts := TT) (own := own) (C := y.cls) (As := As) (rest := rest) (g := F0 m pc ls st) ⟨C.1, C.2.1, C.2.2.1, C.2.2.2.1, ht⟩ (hM H.size) ⟨callB_of n ht (ws_good (own := own) (idx := idx) f1) rfl rfl rfl (ht _ f2) (ht _ hlink) ⟨f3, f4, f5⟩ hk, ht _ f6, ht _ f7⟩ ⟨PW_blind g _ h _, hcell, lx_PW (As := .ref (gB g + o) :: As) C hP⟩ rfl hAs hl.1 hst (lv_room hcat) hd hr (p := p) (e := e) (below := below) (meth := meth) (locs := locs)
  intro T hT X0
  obtain ⟨v9, st₀, t, T', L, d', hd', h0, X', hL, e1, e2, ⟨r, hp9, hv, hp, hz, hk2⟩, st9⟩ := hr T hT X0
  cases hv
  rw [h0] at hz hk2
  have hA : ∀ q, AA g H.size q → AA g (s.setDrawn d0).heap.size q := fun q hq => AA_mono hS.1 hq
  obtain ⟨t2, a1, b1⟩ := kk r d' (hd0.trans hd') hp9 T'.heap (locs ++ L) ls (by rw [e1]; exact wl_join hP hD hp hk2) (wl_D h2 hD)
    ⟨Nat.le_trans hS.1 (by rw [e1]; exact hz), fun q h1 h2 => by rw [e1, hk2 q (Nat.lt_of_lt_of_le h1 hS.1) (fun z => h2 (hA q z))]; exact hS.2.1 q h1 h2, fun q hq => by
      rcases List.mem_append.mp hq with h3 | h3
      · exact hS.2.2 q h3
      · exact hA _ (hL q h3)⟩ hl T' rfl X'
  exact ⟨t2, st9 t2 a1, b1⟩
end GLD
