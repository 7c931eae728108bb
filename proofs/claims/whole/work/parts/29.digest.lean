section GWL
variable {g : gW} {p : Program} {l : Launch} {e : Env} {R : Room} {s : State} {m : MethodId} {args : Array Value} {below : List Frame} {meth : Method} {c : Code} {cc : ByteArray} {nL : Nat} {own : String} {X : va_W} {h : Hp} {lv : List (Nat × Value)} {cells slots : Nat} {Q : State → Prop} {pc : Nat} {st : List Value}
theorem rm2_has {ls2 : Array Slot} {nL i : Nat} {v : Value} {lv : List (Nat × Value)} (h2 : lv_has ls2 nL ((i, v) :: lv.filter (fun q => !(q.1 == i) && (!(q.1 == i + 1) && !(q.1 + 1 == i && q.2.category == 2))))) : lv_has ls2 nL ((i, v) :: rm (rm lv (i + 1)) i) := by
  refine ⟨h2.1, h2.2.1, fun q hq => h2.2.2 q ?_⟩
  rcases List.mem_cons.mp hq with h3 | h3
  · exact h3 ▸ List.mem_cons_self
  · have h4 := List.mem_filter.mp (rm_sub i _ q h3)
    have h5 := List.mem_filter.mp (rm_sub (i + 1) _ q h4.1)
    refine List.mem_cons_of_mem _ (List.mem_filter.mpr ⟨h5.1, ?_⟩)
    have e1 := h4.2
    have e2 := h5.2
    simp only [Bool.and_eq_true, Bool.not_eq_true'] at e1 e2 ⊢
    exact ⟨e1.1, e2.1, e1.2⟩
theorem ww_lstore_n (C : CX g p s m args meth c cc nL own) {k0 : Fin 4} {x : Int64} (hd : decode cc pc = .ok (.lstore_n k0, 1)) (i : Nat) (hi : (k0 : Nat) = i) (hn : i + 1 < nL) (k : WW g p l e R s m args below meth c nL X h ((i, .long x) :: rm (rm lv (i + 1)) i) cells slots Q (pc + 1) st) : WW g p l e R s m args below meth c nL X h lv cells slots Q pc (.long x :: st) := by
  intro H locs ls hP hD hS hl
  exact lv_lstore_n C.1 C.2.1 hd hi hl hn rfl (fun ls2 h2 => k H locs ls2 hP hD hS (rm2_has h2))
end GWL
/-- one number more in the checksum -/
def dgS (s : Int64) (v : Int32) : Int64 := s * 31 + v.toInt64
def dg_1 (n f : Nat) (h : Hp) : Nat → Int64 := fd (fun s k => dgS s (x_countV n f h k)) 587
def dg_2 (n f : Nat) (h : Hp) : Nat → Int64 := fd (fun s j => dgS s (w_num h (1 + 2 + j))) (dg_1 n f h 8)
def dg_P (n f : Nat) (h : Hp) (j : Nat) (s : Int64) : Nat → Int64 := fd (fun s k => dgS s (x_pondV n f h (nI j) k)) s
def dg_3 (n f : Nat) (h : Hp) : Nat → Int64 := fd (fun s j => dg_P n f h j s 12) (dg_2 n f h 10)
def dg_F (h : Hp) (j : Nat) (s : Int64) : Nat → Int64 := fd (fun s k => dgS s (x_flockV h (nI j) k)) s
def dg_4 (n f : Nat) (h : Hp) : Nat → Int64 := fd (fun s j => dg_F h j s 6) (dg_3 n f h n)
def x_digest (n f : Nat) (h : Hp) : Int64 := dg_4 n f h f
theorem fd_0 {α : Type} {step : α → Nat → α} {a : α} : fd step a 0 = a := rfl
theorem fd_s {α : Type} {step : α → Nat → α} {a : α} {n : Nat} : fd step a (n + 1) = step (fd step a n) n := rfl
theorem dg_1_0 {n f : Nat} {h : Hp} : dg_1 n f h 0 = 587 := by unfold dg_1; exact fd_0
theorem dg_2_0 {n f : Nat} {h : Hp} : dg_2 n f h 0 = dg_1 n f h 8 := by unfold dg_2; exact fd_0
theorem dg_3_0 {n f : Nat} {h : Hp} : dg_3 n f h 0 = dg_2 n f h 10 := by unfold dg_3; exact fd_0
theorem dg_4_0 {n f : Nat} {h : Hp} : dg_4 n f h 0 = dg_3 n f h n := by unfold dg_4; exact fd_0
theorem dg_P_0 {n f j : Nat} {h : Hp} {s : Int64} : dg_P n f h j s 0 = s := by unfold dg_P; exact fd_0
theorem dg_F_0 {j : Nat} {h : Hp} {s : Int64} : dg_F h j s 0 = s := by unfold dg_F; exact fd_0
theorem dg_1_s {n f j : Nat} {h : Hp} : dg_1 n f h (j + 1) = dg_1 n f h j * 31 + (x_countV n f h j).toInt64 := by unfold dg_1; rw [fd_s]; unfold dgS; exact Eq.refl _
theorem dg_2_s {n f j : Nat} {h : Hp} : dg_2 n f h (j + 1) = dg_2 n f h j * 31 + (w_num h (1 + 2 + j)).toInt64 := by unfold dg_2; rw [fd_s]; unfold dgS; exact Eq.refl _
theorem dg_P_s {n f i j : Nat} {h : Hp} {s : Int64} : dg_P n f h i s (j + 1) = dg_P n f h i s j * 31 + (x_pondV n f h (nI i) j).toInt64 := by unfold dg_P; rw [fd_s]; unfold dgS; exact Eq.refl _
theorem dg_F_s {i j : Nat} {h : Hp} {s : Int64} : dg_F h i s (j + 1) = dg_F h i s j * 31 + (x_flockV h (nI i) j).toInt64 := by unfold dg_F; rw [fd_s]; unfold dgS; exact Eq.refl _
theorem dg_3_s {n f j : Nat} {h : Hp} : dg_3 n f h (j + 1) = dg_P n f h j (dg_3 n f h j) 12 := by unfold dg_3; rw [fd_s]
theorem dg_4_s {n f j : Nat} {h : Hp} : dg_4 n f h (j + 1) = dg_F h j (dg_4 n f h j) 6 := by unfold dg_4; rw [fd_s]
