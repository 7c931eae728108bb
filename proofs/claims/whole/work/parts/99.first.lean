/-! the picture that the law's start makes -/
def h00 : Hp := fun o k => if o < 64 then (if o = 0 then 0 else if o < 32 then dz 1 o k else dz 32 o k) else if o = 69 ∧ k = 1 then 100 else 0
theorem h00_lo {o : Nat} (h0 : o ≠ 0) (h1 : o < 32) : h00 o = dz 1 o := by
  funext k
  unfold h00
  rw [if_pos (by omega), if_neg h0, if_pos h1]
theorem h00_mi {o : Nat} (h0 : 32 ≤ o) (h1 : o < 64) : h00 o = dz 32 o := by
  funext k
  unfold h00
  rw [if_pos h1, if_neg (by omega), if_neg (by omega)]
theorem h00_hi {o : Nat} (h1 : 64 ≤ o) : h00 o = fun k => if o = 69 ∧ k = 1 then 100 else 0 := by
  funext k
  unfold h00
  rw [if_neg (by omega)]
theorem h00_0 {o k : Nat} (h1 : 64 ≤ o) (h2 : o ≠ 69) : h00 o k = 0 := by rw [h00_hi h1]; exact if_neg (fun z => h2 z.1)
theorem top_00 : TOP 0 0 0 100 h00 := by
  have e1 : h00 1 = fun k => if k = 7 then 100 else 0 := (h00_lo (by omega) (by omega)).trans dz_d
  have ew : ∀ j k, j < 10 → h00 (1 + 2 + j) k = 0 := fun j k hj => by rw [h00_lo (by omega) (by omega), dz_0 (by omega) (by omega)]
  have R : REL 1 0 0 h00 h00 := by
    refine ⟨fun j k hj => absurd hj (by omega), fun j k hj => absurd hj (by omega), fun j k hj => absurd hj (by omega), fun j k hj hk => ?_, ?_⟩
    · rw [ew j k hj, h00_0 (by omega) (by omega)]
    · rw [e1, h00_hi (by omega)]
      rfl
  have I : INV 1 0 0 (cB 5400) h00 := ⟨fun j hj => absurd hj (by omega), fun j k hj hk => ⟨0, by omega, ew j k hj⟩, fun j hj => absurd hj (by omega), fun j hj => absurd hj (by omega), fun j hj => absurd hj (by omega)⟩
  have O : ORD 1 0 h00 := ORD_ix.mpr ⟨fun i j _ hj => absurd hj (by omega), fun q hq => absurd hq (by omega), fun r hr => absurd hr (by omega)⟩
  refine ⟨⟨R, I, fun j hj => absurd hj (by omega), O⟩, ⟨?_, by omega, ?_, by omega, fun j hj => absurd hj (by omega), fun j hj => absurd hj (by omega), fun j hj => absurd hj (by omega), fun j hj => absurd hj (by omega), fun j hj => absurd hj (by omega)⟩, ⟨?_, by omega, ?_, by omega, fun j hj => absurd hj (by omega), fun j hj => absurd hj (by omega)⟩, by omega, ?_, by omega, ?_, ?_, fun j h1 h2 => ?_⟩
  · rw [e1]; rfl
  · rw [e1]; rfl
  · exact h00_0 (by omega) (by omega)
  · exact h00_0 (by omega) (by omega)
  · rw [e1]; rfl
  · rw [e1]; rfl
  · rw [h00_hi (by omega)]; rfl
  · rw [h00_lo (by omega) (by omega), dz_p (by omega) (by omega), h00_0 (by omega) (by omega), h00_0 (by omega) (by omega), h00_0 (by omega) (by omega), h00_0 (by omega) (by omega)]
    exact ⟨⟨rfl, rfl, rfl, rfl, rfl⟩, rfl, rfl, rfl, rfl⟩
theorem KC.dr {s : State} (h : KC s) (d : Drawn) : KC (s.setDrawn d) := by
  obtain ⟨⟨q4, q5, q6⟩, q7, q8, q9⟩ := h
  refine ⟨⟨va_Nw.same rfl (u := s) rfl q4, va_Nw.same rfl (u := s) rfl q5, va_Nw.same rfl (u := s) rfl q6⟩, va_AO.moved (u := s) (U := s.setDrawn d) (Vm.Alike.refl s.vm) q7, va_AO.moved (u := s) (U := s.setDrawn d) (Vm.Alike.refl s.vm) q8, va_AO.moved (u := s) (U := s.setDrawn d) (Vm.Alike.refl s.vm) q9⟩
theorem q_ac_long : ∃ i : Nat, tables_1[i]? = some (Cond.arrayClass .long) := ⟨888, by decide +kernel⟩
section GST
variable {g : gW} {p : Program} {l : Launch} {e : Env} {R : Room} {s : State} {m : MethodId} {args : Array Value} {below : List Frame} {meth : Method} {c : Code} {cc : ByteArray} {nL N0 N : Nat} {own : String} {cp : Nat → va_E} {lv : List (Nat × Value)} {cells slots : Nat} {Q : State → Prop} {pc : Nat} {st : List Value}
theorem vv_istore (C : CV g p s m args meth c cc nL own N0) {i : Nat} {x : Int32} (hd : decode cc pc = .ok (.istore i, 2)) (hn : i < nL) (k : VW g p l e R s m args below meth c nL N cp ((i, .int x) :: rm lv i) cells slots Q (pc + 2) st) : VW g p l e R s m args below meth c nL N cp lv cells slots Q pc (.int x :: st) := by
  intro H locs ls hP hS hl
  exact lv_istore C.1 C.2.1 hd hl hn rfl (fun ls2 h2 => k H locs ls2 hP hS (rm_has h2))
theorem vv_newl (C : CV g p s m args meth c cc nL own N0) (harr : (Cond.arrayClass .long).before args s = true) {n : Int32} {k : Nat} (hn : n = nI k) (hk : k ≤ 100) (hz : N0 + cells = N) (hr : cells + 1 ≤ R.cells ∧ slots + k ≤ R.slots) (hd : decode cc pc = .ok (.newarray .long, 2)) (kk : VW g p l e R s m args below meth c nL (N + 1) (cu cp N (.inl (gA g 4, k, .inr (.inl (fun _ => 0))))) lv (cells + 1) (slots + k) Q (pc + 2) (.ref (gB g + N) :: st)) : VW g p l e R s m args below meth c nL N cp lv cells slots Q pc (.int n :: st) := by
  intro H locs ls hP hS hl
  subst hn
  refine va_newa (D := gD g) (atype := .long) C.1 C.2.1 harr (ty := .long) rfl C.2.2.2.2.2.1 hP vl_D hS (fun q hq => by show gB g ≤ q; rw [C.2.2.2.2.2.2.2.1] at hq; omega) (N' := k) (a0 := (k, .inr (.inl (fun _ => 0)))) (fun _ => rfl) (nI_pos (by omega)) (nI_clamp (by omega)) (by show k * 8 ≤ _; omega) hr.1 hr.2 hd (fun q cA H1 hK1 hP1 hD1 hS1 => ?_)
  refine vv_size (fun hsz => ?_)
  have e := vl_new hP1 hD1 (by rw [C.2.2.2.2.2.2.2.1] at hsz; omega)
  have ec : cA = gA g 4 := va_RA_long (hK1.2 6 _ rfl).2 (va_RA_in (k := 4) C.2.2.2.2.2.1 rfl)
  subst e
  rw [ec, vl_push] at hP1
  exact kk H1 locs ls hP1 hS1 hl
/-- the world stands -/
theorem vv_world {h : Hp} (hB : s.heap.size = gB g) (hc : ∀ o, o < 71 → cp o = ce g (h o) o) (k : WW g p l e R s m args below meth c nL [] h lv cells slots Q pc st) : VW g p l e R s m args below meth c nL 71 cp lv cells slots Q pc st := by
  intro H locs ls hP hS hl
  have ew : vl g 71 cp = wl g [] h := by
    rw [vl_congr hc]
    unfold vl wl
    rw [List.append_nil]
  rw [ew] at hP
  exact k H locs ls hP (wl_D0 (fun q hq => Or.inl hq)) ⟨hS.1, fun q h1 h2 => hS.2.1 q h1 (fun z => h2 (Or.inr (by have z : gB g ≤ q := z; omega))), fun q hq => Or.inr (by have z : gB g ≤ q.base := hS.2.2 q hq; omega)⟩ hl
end GST
