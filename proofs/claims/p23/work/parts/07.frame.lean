/-! THE WORLD OF THE CLASS: its 64 cells lie one behind another from gB g on. h o k: the number in slot k of the object o (o counts from gB g). References never change: they are in the picture ce. X: further cells. -/
abbrev gW : Type := (Nat → ClassId) × (Nat → Nat → Nat) × (Nat → ClassId) × Nat
abbrev gD (g : gW) : va_G := (g.1, g.2.1)
abbrev gA (g : gW) : Nat → ClassId := g.2.2.1
abbrev gB (g : gW) : Nat := g.2.2.2
abbrev Hp : Type := Nat → Nat → Int32
def hp_up (h : Hp) (o k : Nat) (v : Int32) : Hp := fun a => if a = o then upd (h o) k v else h a
abbrev gT (g : gW) : List (ClassId × FieldType) := [(gA g 0, .int), (gA g 1, .object RX3), (gA g 2, .object RX2), (gA g 3, .object RX1), (gA g 4, .array .int), (gA g 5, .boolean)]
def rfs (f : Nat → Nat) : Nat → Option Nat := fun j => some (f j)
def dn (g : gW) (r : Nat → Int32) (d R o : Nat) : va_E :=
  if o = d then .inr (0, [.ref (gB g + (d + 1)), .ref (gB g + (d + 12)), .ref (gB g + (d + 13)), .ref (gB g + (d + 24)), .int (r 4), .int (r 5), .int (r 6), .int (r 7)])
  else if o = d + 1 then .inl (gA g 1, 10, .inr (.inr (.inr (.inr (rfs (fun j => gB g + (d + 2 + j)))))))
  else if o < d + 12 then .inr (3, [.int (r 0), .int (r 1), .int (r 2)])
  else if o = d + 12 then .inl (gA g 2, 10, .inr (.inr (.inr (.inr (rfs (fun j => gB g + (d + 14 + j)))))))
  else if o = d + 13 then .inl (gA g 0, 10, .inl r)
  else if o < d + 24 then .inr (2, [.int (r 0), .int (r 1), .int (r 2), .int (r 3), .int (r 4), .int (r 5), .int (r 6), .int (r 7), .int (r 8), .int (r 9)])
  else if o = d + 24 then .inl (gA g 3, R, .inr (.inr (.inr (.inr (rfs (fun j => gB g + (d + 25 + j)))))))
  else .inr (1, [.int (r 0), .int (r 1), .int (r 2), .int (r 3), .int (r 4)])
def ce (g : gW) (r : Nat → Int32) (o : Nat) : va_E :=
  if o = 0 then .inr (4, [.ref (gB g + 1), .ref (gB g + 32)])
  else if o < 32 then dn g r 1 6 o
  else dn g r 32 7 o
def wl (g : gW) (X : va_W) (h : Hp) : va_W := (List.range 64).map (fun o => (gB g + o, ce g (h o) o)) ++ X
theorem wl_get {g : gW} {X : va_W} {h : Hp} {o : Nat} (ho : o < 64) : (wl g X h)[o]? = some (gB g + o, ce g (h o) o) := by
  unfold wl
  rw [List.getElem?_append_left (by simpa using ho)]
  simp [ho]
theorem wl_set {g : gW} {X : va_W} {h : Hp} {o : Nat} (ho : o < 64) (k : Nat) (v : Int32) : (wl g X h).set o (gB g + o, ce g (upd (h o) k v) o) = wl g X (hp_up h o k v) := by
  unfold wl
  apply List.ext_getElem?
  intro j
  by_cases hj : j = o
  · subst hj
    rw [List.getElem?_set_self (by simp; omega), List.getElem?_append_left (by simpa using ho)]
    simp [ho, hp_up]
  · rw [List.getElem?_set_ne (Ne.symm hj)]
    by_cases hl : j < 64
    · rw [List.getElem?_append_left (by simpa using hl), List.getElem?_append_left (by simpa using hl)]
      simp [hl, hp_up, hj]
    · rw [List.getElem?_append_right (by simp; omega), List.getElem?_append_right (by simp; omega)]
      simp
def isD (d : Nat) : Prop := d = 1 ∨ d = 32
def rmD (d : Nat) : Nat := if d = 1 then 6 else 7
def isP (o : Nat) : Prop := ∃ d j, isD d ∧ j < 10 ∧ o = d + 14 + j
def isF (o : Nat) : Prop := ∃ d j, isD d ∧ j < rmD d ∧ o = d + 25 + j
def isWt (o : Nat) : Prop := ∃ d j, isD d ∧ j < 10 ∧ o = d + 2 + j
theorem isD_lt {d : Nat} (h : isD d) : d < 64 := by rcases h with rfl | rfl <;> omega
theorem isP_lt {o : Nat} (h : isP o) : o < 64 := by obtain ⟨d, j, rfl | rfl, hj, rfl⟩ := h <;> omega
theorem isF_lt {o : Nat} (h : isF o) : o < 64 := by obtain ⟨d, j, rfl | rfl, hj, rfl⟩ := h <;> simp [rmD] at hj <;> omega
theorem isWt_lt {o : Nat} (h : isWt o) : o < 64 := by obtain ⟨d, j, rfl | rfl, hj, rfl⟩ := h <;> omega
theorem isP_of {d j : Nat} (h : isD d) (hj : j < 10) : isP (d + 14 + j) := ⟨d, j, h, hj, rfl⟩
theorem isF_of {d j : Nat} (h : isD d) (hj : j < rmD d) : isF (d + 25 + j) := ⟨d, j, h, hj, rfl⟩
theorem isWt_of {d j : Nat} (h : isD d) (hj : j < 10) : isWt (d + 2 + j) := ⟨d, j, h, hj, rfl⟩
theorem ce_D {g : gW} {r : Nat → Int32} {d : Nat} (h : isD d) : ce g r d = .inr (0, [.ref (gB g + (d + 1)), .ref (gB g + (d + 12)), .ref (gB g + (d + 13)), .ref (gB g + (d + 24)), .int (r 4), .int (r 5), .int (r 6), .int (r 7)]) := by
  rcases h with rfl | rfl <;> rfl
theorem ce_Wa {g : gW} {r : Nat → Int32} {d : Nat} (h : isD d) : ce g r (d + 1) = .inl (gA g 1, 10, .inr (.inr (.inr (.inr (rfs (fun j => gB g + (d + 2 + j))))))) := by
  rcases h with rfl | rfl <;> rfl
theorem ce_Pa {g : gW} {r : Nat → Int32} {d : Nat} (h : isD d) : ce g r (d + 12) = .inl (gA g 2, 10, .inr (.inr (.inr (.inr (rfs (fun j => gB g + (d + 14 + j))))))) := by
  rcases h with rfl | rfl <;> rfl
theorem ce_Ba {g : gW} {r : Nat → Int32} {d : Nat} (h : isD d) : ce g r (d + 13) = .inl (gA g 0, 10, .inl r) := by
  rcases h with rfl | rfl <;> rfl
theorem ce_Fa {g : gW} {r : Nat → Int32} {d : Nat} (h : isD d) : ce g r (d + 24) = .inl (gA g 3, rmD d, .inr (.inr (.inr (.inr (rfs (fun j => gB g + (d + 25 + j))))))) := by
  rcases h with rfl | rfl <;> rfl
theorem dn_P {g : gW} {r : Nat → Int32} {d R j : Nat} (hj : j < 10) : dn g r d R (d + 14 + j) = .inr (2, [.int (r 0), .int (r 1), .int (r 2), .int (r 3), .int (r 4), .int (r 5), .int (r 6), .int (r 7), .int (r 8), .int (r 9)]) := by
  unfold dn
  rw [if_neg (by omega), if_neg (by omega), if_neg (by omega), if_neg (by omega), if_neg (by omega), if_pos (by omega)]
theorem dn_F {g : gW} {r : Nat → Int32} {d R j : Nat} : dn g r d R (d + 25 + j) = .inr (1, [.int (r 0), .int (r 1), .int (r 2), .int (r 3), .int (r 4)]) := by
  unfold dn
  rw [if_neg (by omega), if_neg (by omega), if_neg (by omega), if_neg (by omega), if_neg (by omega), if_neg (by omega), if_neg (by omega)]
theorem dn_W {g : gW} {r : Nat → Int32} {d R j : Nat} (hj : j < 10) : dn g r d R (d + 2 + j) = .inr (3, [.int (r 0), .int (r 1), .int (r 2)]) := by
  unfold dn
  rw [if_neg (by omega), if_neg (by omega), if_pos (by omega)]
theorem ce_P {g : gW} {r : Nat → Int32} {o : Nat} (h : isP o) : ce g r o = .inr (2, [.int (r 0), .int (r 1), .int (r 2), .int (r 3), .int (r 4), .int (r 5), .int (r 6), .int (r 7), .int (r 8), .int (r 9)]) := by
  obtain ⟨d, j, rfl | rfl, hj, rfl⟩ := h <;> unfold ce
  · rw [if_neg (by omega), if_pos (by omega)]; exact dn_P hj
  · rw [if_neg (by omega), if_neg (by omega)]; exact dn_P hj
theorem ce_F {g : gW} {r : Nat → Int32} {o : Nat} (h : isF o) : ce g r o = .inr (1, [.int (r 0), .int (r 1), .int (r 2), .int (r 3), .int (r 4)]) := by
  obtain ⟨d, j, rfl | rfl, hj, rfl⟩ := h <;> simp [rmD] at hj <;> unfold ce
  · rw [if_neg (by omega), if_pos (by omega)]; exact dn_F
  · rw [if_neg (by omega), if_neg (by omega)]; exact dn_F
theorem ce_W {g : gW} {r : Nat → Int32} {o : Nat} (h : isWt o) : ce g r o = .inr (3, [.int (r 0), .int (r 1), .int (r 2)]) := by
  obtain ⟨d, j, rfl | rfl, hj, rfl⟩ := h <;> unfold ce
  · rw [if_neg (by omega), if_pos (by omega)]; exact dn_W hj
  · rw [if_neg (by omega), if_neg (by omega)]; exact dn_W hj
/-- which cells a method may change: the world's, and those that it makes -/
def AA (g : gW) (sz : Nat) : Nat → Prop := fun q => (gB g ≤ q ∧ q < gB g + 64) ∨ sz ≤ q
/-- a method's surroundings -/
def CX (g : gW) (p : Program) (s : State) (m : MethodId) (args : Array Value) (meth : Method) (c : Code) (cc : ByteArray) (nL : Nat) (own : String) : Prop :=
  p.tables.exec = Jvm.exec ∧ c.code = cc ∧ c.maxLocals = nL ∧ s.vm.findClass own = some m.cls ∧ (∀ w ∈ TT, w.before args s = true) ∧ va_K (gD g) vwCl (gT g) s ∧ meth.locks = false ∧ gB g + 64 ≤ s.heap.size
def lk : List (Nat × Value) → Nat → Option Value
  | [], _ => none
  | (j, v) :: t, i => cond (Nat.beq j i) (some v) (lk t i)
def c2 : Value → Bool
  | .long _ => true
  | .double _ => true
  | _ => false
/-- the locals that stay when i is stored -/
def rm : List (Nat × Value) → Nat → List (Nat × Value)
  | [], _ => []
  | (j, v) :: t, i => cond (Nat.beq j i) (rm t i) (cond (Nat.beq (j + 1) i) (cond (c2 v) (rm t i) ((j, v) :: rm t i)) ((j, v) :: rm t i))
theorem lk_mem : ∀ {l : List (Nat × Value)} {i : Nat} {v : Value}, lk l i = some v → (i, v) ∈ l
  | [], _, _, h => by cases h
  | (j, w) :: t, i, v, h => by
    unfold lk at h
    cases hb : Nat.beq j i with
    | true =>
      rw [hb] at h
      have : j = i := Nat.eq_of_beq_eq_true hb
      cases h; subst this; exact List.mem_cons_self
    | false =>
      rw [hb] at h
      exact List.mem_cons_of_mem _ (lk_mem h)
theorem lk_at {ls : Array Slot} {nL : Nat} {l : List (Nat × Value)} (h : lv_has ls nL l) {i : Nat} {v : Value} (hk : lk l i = some v) : ls[i]? = some (.val v) := h.2.2 (i, v) (lk_mem hk)
theorem c2_cat {v : Value} : (v.category == 2) = c2 v := by cases v <;> rfl
theorem rm_sub (i : Nat) : ∀ (l : List (Nat × Value)) (q : Nat × Value), q ∈ rm l i → q ∈ l.filter (fun q => !(q.1 == i) && !(q.1 + 1 == i && q.2.category == 2))
  | [], q, h => by cases h
  | (j, v) :: t, q, h => by
    unfold rm at h
    have ih := rm_sub i t q
    have keep : ∀ {b : Prop}, q ∈ t.filter (fun q => !(q.1 == i) && !(q.1 + 1 == i && q.2.category == 2)) → q ∈ ((j, v) :: t).filter (fun q => !(q.1 == i) && !(q.1 + 1 == i && q.2.category == 2)) := fun {_} h2 => by
      rw [List.mem_filter] at h2 ⊢
      exact ⟨List.mem_cons_of_mem _ h2.1, h2.2⟩
    have new : Nat.beq j i = false → (Nat.beq (j + 1) i = false ∨ c2 v = false) → q = (j, v) → q ∈ ((j, v) :: t).filter (fun q => !(q.1 == i) && !(q.1 + 1 == i && q.2.category == 2)) := by
      intro h1 h2 h3
      subst h3
      rw [List.mem_filter]
      refine ⟨List.mem_cons_self, ?_⟩
      have h1' : (j == i) = false := beq_eq_false_iff_ne.mpr (Nat.ne_of_beq_eq_false h1)
      have e : (v.category == 2) = c2 v := c2_cat
      show (!(j == i) && !((j + 1 == i) && (v.category == 2))) = true
      rw [h1', e]
      rcases h2 with h2 | h2
      · have h2' : (j + 1 == i) = false := beq_eq_false_iff_ne.mpr (Nat.ne_of_beq_eq_false h2)
        rw [h2']; rfl
      · rw [h2, Bool.and_false]; rfl
    cases h1 : Nat.beq j i with
    | true => rw [h1] at h; exact keep (b := True) (ih h)
    | false =>
      rw [h1] at h
      cases h2 : Nat.beq (j + 1) i with
      | false =>
        rw [h2] at h
        rcases List.mem_cons.mp h with h3 | h3
        · exact new h1 (Or.inl h2) h3
        · exact keep (b := True) (ih h3)
      | true =>
        rw [h2] at h
        cases h4 : c2 v with
        | true => rw [h4] at h; exact keep (b := True) (ih h)
        | false =>
          rw [h4] at h
          rcases List.mem_cons.mp h with h3 | h3
          · exact new h1 (Or.inr h4) h3
          · exact keep (b := True) (ih h3)
/-- all of the second list's values stand in the first -/
def hasA (l : List (Nat × Value)) : List (Nat × Value) → Prop
  | [] => True
  | (i, v) :: t => lk l i = some v ∧ hasA l t
theorem hasA_sub {ls : Array Slot} {nL : Nat} {l : List (Nat × Value)} (h : lv_has ls nL l) : ∀ {l' : List (Nat × Value)}, hasA l l' → lv_has ls nL l'
  | [], _ => ⟨h.1, h.2.1, fun q hq => by cases hq⟩
  | (i, v) :: t, hh => ⟨h.1, h.2.1, fun q hq => by
      rcases List.mem_cons.mp hq with h2 | h2
      · subst h2; exact lk_at h hh.1
      · exact (hasA_sub h hh.2).2.2 q h2⟩
