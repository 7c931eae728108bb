def hp_row (h : Hp) (o : Nat) (r : Nat → Int32) : Hp := fun a => if a = o then r else h a
theorem hp_row_eq {h : Hp} {o : Nat} {r : Nat → Int32} : hp_row h o r o = r := if_pos rfl
theorem hp_row_ne {h : Hp} {o a : Nat} {r : Nat → Int32} (e : a ≠ o) : hp_row h o r a = h a := if_neg e
