/-! what the downs ahead hold behind becomeLike -/
theorem fd_at {α β : Type} {step : α → Nat → α} {a : α} {P : α → β} {j : Nat} (hk : ∀ x i, i ≠ j → P (step x i) = P x) : ∀ n, j < n → P (fd step a n) = P (step (fd step a j) j)
  | 0, h => absurd h (Nat.not_lt_zero _)
  | n + 1, h => by
    by_cases e : n = j
    · subst e; rfl
    · exact (hk _ n e).trans (fd_at hk n (by omega))
theorem p_copy_at {h : Hp} {o o2 k : Nat} (e : o2 ≠ o) (hk : k < 10) : p_copy h o o2 o k = h o2 k := by
  have : k = 0 ∨ k = 1 ∨ k = 2 ∨ k = 3 ∨ k = 4 ∨ k = 5 ∨ k = 6 ∨ k = 7 ∨ k = 8 ∨ k = 9 := by omega
  rcases this with rfl | rfl | rfl | rfl | rfl | rfl | rfl | rfl | rfl | rfl <;> simp [p_copy, cpk, hp_up, upd, e]
theorem f_copy_at {h : Hp} {o o2 k : Nat} (e : o2 ≠ o) (hk : k < 5) : f_copy h o o2 o k = h o2 k := by
  have : k = 0 ∨ k = 1 ∨ k = 2 ∨ k = 3 ∨ k = 4 := by omega
  rcases this with rfl | rfl | rfl | rfl | rfl <;> simp [f_copy, cpk, hp_up, upd, e]
theorem w_copy_at {h : Hp} {o o2 k : Nat} (e : o2 ≠ o) (hk : k < 3) : w_copy h o o2 o k = h o2 k := by
  have : k = 0 ∨ k = 1 ∨ k = 2 := by omega
  rcases this with rfl | rfl | rfl <;> simp [w_copy, cpk, hp_up, upd, e]
theorem like_P {n f j k : Nat} {h : Hp} (hj : j < n) (hn : n ≤ 10) (hk : k < 10) : d_like n f h (32 + 14 + j) k = h (1 + 14 + j) k := by
  have e1 : d_like n f h (32 + 14 + j) = bl_4 n h (32 + 14 + j) := fd_keep (P := fun x : Hp => x (32 + 14 + j)) f (fun x i hi => f_copy_ne (by omega))
  have e2 : bl_3 n h (32 + 14 + j) = bl_p (fd bl_p (bl_2 h) j) j (32 + 14 + j) := fd_at (P := fun x : Hp => x (32 + 14 + j)) (fun x i hi => by show bl_p x i _ = x _; unfold bl_p; rw [hp_ne (by omega), p_copy_ne (by omega)]) n hj
  have e3 : fd bl_p (bl_2 h) j (1 + 14 + j) = h (1 + 14 + j) := bl_3r (by omega)
  rw [e1]
  unfold bl_4
  rw [hp_ne (by omega), e2]
  unfold bl_p
  rw [hp_ne (by omega), p_copy_at (by omega) hk]
  exact congrFun e3 k
theorem like_B {n f r : Nat} {h : Hp} (hr : r < n) (hn : n ≤ 10) : d_like n f h (32 + 13) r = h (1 + 13) r := by
  have e1 : d_like n f h (32 + 13) = bl_4 n h (32 + 13) := fd_keep (P := fun x : Hp => x (32 + 13)) f (fun x i hi => f_copy_ne (by omega))
  have e2 : bl_3 n h (32 + 13) r = bl_p (fd bl_p (bl_2 h) r) r (32 + 13) r := fd_at (P := fun x : Hp => x (32 + 13) r) (fun x i hi => by show bl_p x i _ _ = x _ _; unfold bl_p; rw [hp_off (Or.inr (by omega)), p_copy_ne (by omega)]) n hr
  have e3 : p_copy (fd bl_p (bl_2 h) r) (32 + 14 + r) (1 + 14 + r) (1 + 13) = h (1 + 13) := (p_copy_ne (by omega)).trans (bl_3r (by omega))
  rw [e1]
  unfold bl_4
  rw [hp_ne (by omega), e2]
  unfold bl_p
  rw [hp_eq]
  simp only [upd, if_true]
  exact congrFun e3 r
theorem like_F {n f j k : Nat} {h : Hp} (hj : j < f) (hf : f ≤ 6) (hk : k < 5) : d_like n f h (32 + 25 + j) k = h (1 + 25 + j) k := by
  have e2 : d_like n f h (32 + 25 + j) = bl_f (fd bl_f (bl_4 n h) j) j (32 + 25 + j) := fd_at (P := fun x : Hp => x (32 + 25 + j)) (fun x i hi => f_copy_ne (by omega)) f hj
  have e3 : fd bl_f (bl_4 n h) j (1 + 25 + j) = h (1 + 25 + j) := bl_5r (by omega)
  rw [e2]
  unfold bl_f
  rw [f_copy_at (by omega) hk]
  exact congrFun e3 k
theorem like_W {n f j k : Nat} {h : Hp} (hj : j < 10) (hk : k < 3) : d_like n f h (32 + 2 + j) k = h (1 + 2 + j) k := by
  have e1 : d_like n f h (32 + 2 + j) = bl_4 n h (32 + 2 + j) := fd_keep (P := fun x : Hp => x (32 + 2 + j)) f (fun x i hi => f_copy_ne (by omega))
  have e2 : bl_3 n h (32 + 2 + j) = bl_2 h (32 + 2 + j) := fd_keep (P := fun x : Hp => x (32 + 2 + j)) n (fun x i hi => by show bl_p x i _ = x _; unfold bl_p; rw [hp_ne (by omega), p_copy_ne (by omega)])
  have e3 : bl_1 h (32 + 2 + j) = bl_w (fd bl_w (bl_0 h) j) j (32 + 2 + j) := fd_at (P := fun x : Hp => x (32 + 2 + j)) (fun x i hi => w_copy_ne (by omega)) 10 hj
  have e4 : fd bl_w (bl_0 h) j (1 + 2 + j) = h (1 + 2 + j) := bl_1r (by omega)
  rw [e1]
  unfold bl_4
  rw [hp_ne (by omega), e2]
  unfold bl_2
  rw [hp_ne (by omega), e3]
  unfold bl_w
  rw [w_copy_at (by omega) hk]
  exact congrFun e4 k
theorem like_d {n f k : Nat} {h : Hp} (hk : k = 6 ∨ k = 7) : d_like n f h 32 k = h 1 k := by
  have e1 : d_like n f h 32 = bl_4 n h 32 := fd_keep (P := fun x : Hp => x 32) f (fun x i hi => f_copy_ne (by omega))
  have e2 : bl_3 n h 32 = bl_2 h 32 := fd_keep (P := fun x : Hp => x 32) n (fun x i hi => by show bl_p x i _ = x _; unfold bl_p; rw [hp_ne (by omega), p_copy_ne (by omega)])
  have e3 : bl_1 h 32 = bl_0 h 32 := fd_keep (P := fun x : Hp => x 32) 10 (fun x i hi => w_copy_ne (by omega))
  rw [e1]
  unfold bl_4
  rw [hp_off (Or.inr (by omega)), e2]
  unfold bl_2
  rw [hp_off (Or.inr (by omega)), e3]
  rcases hk with rfl | rfl <;> simp [bl_0, hp_up, upd]
theorem like_n {n f : Nat} {h : Hp} (hn : h 1 4 = nI n) : d_like n f h 32 4 = nI n := by
  have e1 : d_like n f h 32 = bl_4 n h 32 := fd_keep (P := fun x : Hp => x 32) f (fun x i hi => f_copy_ne (by omega))
  rw [e1]
  unfold bl_4
  rw [hp_off (Or.inr (by omega))]
  exact bl_3n hn
theorem like_lo {n f a : Nat} {h : Hp} (ha : a < 32) : d_like n f h a = h a := bl_5r ha
theorem OK.like {n f : Nat} {h : Hp} (H : OK 1 n f h) : OK 32 n f (d_like n f h) := by
  obtain ⟨a1, a2, a3, a4, a5, a6, a7, a8, a9⟩ := H
  have hf6 : f ≤ 6 := a4
  refine ⟨like_n a1, a2, bl_5n a3 hf6, Nat.le_trans hf6 (by show 6 ≤ 7; omega), fun j hj => ?_, fun j hj => ?_, fun r hr => ?_, fun j hj => ?_, fun j hj => ?_⟩
  · rw [like_P hj a2 (by omega)]; exact a5 j hj
  · rw [like_F hj hf6 (by omega)]; exact a6 j hj
  · rw [like_B hr a2]; exact a7 r hr
  · rw [like_P hj a2 (by omega)]; exact a8 j hj
  · rw [like_F hj hf6 (by omega)]; exact a9 j hj
/-! a call that may throw, and returns -/
section GWX2
variable {g : gW} {p : Program} {l : Launch} {e : Env} {R : Room} {s : State} {m : MethodId} {args : Array Value} {below : List Frame} {meth : Method} {c : Code} {cc : ByteArray} {nL : Nat} {own : String} {X : va_W} {h : Hp} {lv : List (Nat × Value)} {cells slots : Nat} {Q : State → Prop} {pc : Nat} {st : List Value}
theorem ww_callVr (C : CX g p s m args meth c cc nL own) (hE : EXs g s) {y : MethodName} {cY : ByteArray} {nLY k o n idx ci : Nat} {rt : Option FieldType} {As rest : List Value} {v : Option Value} {h2 : Hp} {r : (Option Value × Hp) ⊕ String} (hr9 : r = .inl (v, h2)) (hF : MFv y cY nLY rt n) (hd : decode cc pc = .ok (.invokevirtual idx, 3)) (hM : XT g l y cY nLY rt k (.ref (gB g + o) :: As) h r) (hlink : Cond.methodLink own idx y ∈ TT)
    (ho : o < 64) {q : vw_C} (hq : vwCl[ci]? = some q) (hqc : q.1 = y.cls) (hce : ∃ fs, ce g (h o) o = .inr (ci, fs)) (hAs : As.length = n) (hst : st = As.reverse ++ .ref (gB g + o) :: rest) (hcat : (rest.map fun v => v.category).sum ≤ 8) (hk : k + 1 ≤ R.frames ∧ 8 + (nLY + 11) + 28 * k ≤ R.locals) (hr : cells + 1 ≤ R.cells ∧ slots + 6 ≤ R.slots)
    (kk : WW g p l e R s m args below meth c nL X h2 lv (cells + 1) (slots + 6) Q (pc + 3) (v.toList ++ rest)) : WW g p l e R s m args below meth c nL X h lv cells slots Q pc st := by
  intro H locs ls hP hD hS hl
  have ht := C.2.2.2.2.1
  obtain ⟨⟨f1, f2, ⟨f3, f4, f5⟩, -⟩, f6, f7⟩ := hF
  obtain ⟨fs, hce⟩ := hce
  subst hr9
  have hcell : ∃ cellB : Cell, H[gB g + o]? = some cellB ∧ cellB.vm.isStatics = false ∧ s.vm.findClass y.cls = some cellB.cls := by
    have := va_recv C.2.2.2.2.2.1 hP hq (show (wl g X h)[o]? = some (gB g + o, .inr (ci, fs)) by rw [wl_get ho, hce])
    rw [hqc] at this
    exact this
  have hRun := vx_runV (Ts := TT) (own := own) (C := y.cls) (As := As) (rest := rest) (g := F0 m pc ls st) ⟨C.1, C.2.1, C.2.2.1, C.2.2.2.1, ht⟩ (hM H.size) ⟨callB_of n ht (ws_good (own := own) (idx := idx) f1) rfl rfl rfl (ht _ f2) (ht _ hlink) ⟨f3, f4, f5⟩ hk, ht _ f6, ht _ f7⟩ ⟨PX_blind g _ h _, hcell, PX_now (As := .ref (gB g + o) :: As) C hE hP hS⟩ rfl hAs hl.1 hst (lv_room hcat) hd hr (p := p) (e := e) (below := below) (meth := meth) (locs := locs)
  refine ww_after (a := (.ref (gB g + o) :: As).toArray) C hP hD hS hl (fun T hT X0 => ?_) kk
  rcases hRun T hT X0 with ⟨v9, st₀, t, T', L, h0, X', hL, e1, e2, ⟨v2, h2', hc2, hq9⟩, hgo⟩ | ⟨q9, st₀, t, T', L, E9, ce9, h0, X', hL, e1, e2, ⟨hx1, -⟩, -⟩
  · cases hc2
    exact ⟨v9, st₀, t, T', L, h0, X', hL, e1, e2, hq9, hgo⟩
  · cases hx1
end GWX2
