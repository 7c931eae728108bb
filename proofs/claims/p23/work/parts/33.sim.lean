/-! THE LAW'S SIM: its cells at the addresses A o (o as in a Downs at 1: 1 itself, 2 the weather, 3.. its rows, 13 the ponds, 15.. their rows, 25 the flocks, 26.. their rows), with the numbers r. -/
abbrev Ad : Type := Nat → Nat
/-- references in the first N places -/
def rfn (N : Nat) (f : Nat → Nat) : Nat → Option Nat := fun j => if j < N then some (f j) else none
def sc (g : gW) (A : Ad) (n f : Nat) (r : Nat → Int32) (o : Nat) : va_E :=
  if o = 1 then .inr (5, [.int (r 6), .int (r 7), .ref (A 2), .ref (A 13), .ref (A 25)])
  else if o = 2 then .inl (gA g 4, 10, .inr (.inr (.inr (.inr (rfn 10 (fun j => A (3 + j)))))))
  else if o < 13 then .inl (gA g 0, 3, .inl r)
  else if o = 13 then .inl (gA g 4, n, .inr (.inr (.inr (.inr (rfn n (fun j => A (15 + j)))))))
  else if o < 25 then .inl (gA g 0, 10, .inl r)
  else if o = 25 then .inl (gA g 4, f, .inr (.inr (.inr (.inr (rfn f (fun j => A (26 + j)))))))
  else .inl (gA g 0, 5, .inl r)
def sO (n i : Nat) : Nat := if i < 12 then i + 1 else if i = 12 then 13 else if i < 13 + n then i + 2 else i - (13 + n) + 25
def sJ (n o : Nat) : Nat := if o < 13 then o - 1 else if o = 13 then 12 else if o < 25 then o - 2 else o - 25 + (13 + n)
def vO (n f o : Nat) : Prop := (1 ≤ o ∧ o ≤ 13) ∨ (15 ≤ o ∧ o < 15 + n) ∨ (25 ≤ o ∧ o < 26 + f)
theorem sJ_lt {n f o : Nat} (hn : n ≤ 10) (ho : vO n f o) : sJ n o < 14 + n + f := by
  unfold sJ
  unfold vO at ho
  split
  · omega
  · split
    · omega
    · split <;> omega
theorem sO_J {n f o : Nat} (hn : n ≤ 10) (ho : vO n f o) : sO n (sJ n o) = o := by
  unfold sJ sO
  unfold vO at ho
  by_cases h1 : o < 13
  · rw [if_pos h1, if_pos (by omega)]; omega
  · rw [if_neg h1]
    by_cases h2 : o = 13
    · rw [if_pos h2, if_neg (by omega), if_pos rfl]; omega
    · rw [if_neg h2]
      by_cases h3 : o < 25
      · rw [if_pos h3, if_neg (by omega), if_neg (by omega), if_pos (by omega)]; omega
      · rw [if_neg h3, if_neg (by omega), if_neg (by omega), if_neg (by omega)]; omega
theorem sJ_O {n i : Nat} (hn : n ≤ 10) : sJ n (sO n i) = i := by
  unfold sO
  by_cases h1 : i < 12
  · rw [if_pos h1]; unfold sJ; rw [if_pos (by omega)]; omega
  · rw [if_neg h1]
    by_cases h2 : i = 12
    · rw [if_pos h2]; unfold sJ; rw [if_neg (by omega), if_pos rfl]; omega
    · rw [if_neg h2]
      by_cases h3 : i < 13 + n
      · rw [if_pos h3]; unfold sJ; rw [if_neg (by omega), if_neg (by omega), if_pos (by omega)]; omega
      · rw [if_neg h3]; unfold sJ; rw [if_neg (by omega), if_neg (by omega), if_neg (by omega)]; omega
theorem vO_O {n f i : Nat} (hi : i < 14 + n + f) : vO n f (sO n i) := by
  unfold sO vO
  split
  · omega
  · split
    · omega
    · split <;> omega
def sx (g : gW) (A : Ad) (n f : Nat) (r : Hp) : va_W := (List.range (14 + n + f)).map (fun i => (A (sO n i), sc g A n f (r (sO n i)) (sO n i)))
theorem sx_len {g : gW} {A : Ad} {n f : Nat} {r : Hp} : (sx g A n f r).length = 14 + n + f := by simp [sx]
theorem sx_get {g : gW} {A : Ad} {n f o : Nat} {r : Hp} (hn : n ≤ 10) (ho : vO n f o) : (sx g A n f r)[sJ n o]? = some (A o, sc g A n f (r o) o) := by
  unfold sx
  rw [List.getElem?_map, List.getElem?_range (sJ_lt hn ho), Option.map_some, sO_J hn ho]
theorem sx_set {g : gW} {A : Ad} {n f o : Nat} {r : Hp} (hn : n ≤ 10) (ho : vO n f o) (k : Nat) (v : Int32) : (sx g A n f r).set (sJ n o) (A o, sc g A n f (upd (r o) k v) o) = sx g A n f (hp_up r o k v) := by
  unfold sx
  apply List.ext_getElem?
  intro j
  by_cases hj : j = sJ n o
  · subst hj
    rw [List.getElem?_set_self (by simpa using sJ_lt hn ho), List.getElem?_map, List.getElem?_range (sJ_lt hn ho), Option.map_some, sO_J hn ho, hp_eq]
  · rw [List.getElem?_set_ne (Ne.symm hj)]
    by_cases hl : j < 14 + n + f
    · rw [List.getElem?_map, List.getElem?_map, List.getElem?_range hl, Option.map_some, Option.map_some, hp_ne (fun z => hj (by rw [← z, sJ_O hn]))]
    · rw [List.getElem?_eq_none (by simp; omega), List.getElem?_eq_none (by simp; omega)]
theorem sl_get {g : gW} {A : Ad} {n f o : Nat} {r : Hp} {P0 Y : va_W} (hn : n ≤ 10) (ho : vO n f o) : (P0 ++ (sx g A n f r ++ Y))[P0.length + sJ n o]? = some (A o, sc g A n f (r o) o) := by
  rw [List.getElem?_append_right (by omega), Nat.add_sub_cancel_left, List.getElem?_append_left (by rw [sx_len]; exact sJ_lt hn ho)]
  exact sx_get hn ho
theorem sl_set {g : gW} {A : Ad} {n f o : Nat} {r : Hp} {P0 Y : va_W} (hn : n ≤ 10) (ho : vO n f o) (k : Nat) (v : Int32) : (P0 ++ (sx g A n f r ++ Y)).set (P0.length + sJ n o) (A o, sc g A n f (upd (r o) k v) o) = P0 ++ (sx g A n f (hp_up r o k v) ++ Y) := by
  rw [List.set_append_right _ _ (by omega), Nat.add_sub_cancel_left, List.set_append_left _ _ (by rw [sx_len]; exact sJ_lt hn ho), sx_set hn ho]
theorem sl_Y {g : gW} {A : Ad} {n f i : Nat} {r : Hp} {P0 Y : va_W} {q : Nat × va_E} (h : Y[i]? = some q) : (P0 ++ (sx g A n f r ++ Y))[P0.length + (14 + n + f + i)]? = some q := by
  rw [List.getElem?_append_right (by omega), Nat.add_sub_cancel_left, List.getElem?_append_right (by rw [sx_len]; omega), sx_len, Nat.add_sub_cancel_left]
  exact h
theorem sl_setY {g : gW} {A : Ad} {n f i : Nat} {r : Hp} {P0 Y : va_W} {q : Nat × va_E} : (P0 ++ (sx g A n f r ++ Y)).set (P0.length + (14 + n + f + i)) q = P0 ++ (sx g A n f r ++ Y.set i q) := by
  rw [List.set_append_right _ _ (by omega), Nat.add_sub_cancel_left, List.set_append_right _ _ (by rw [sx_len]; omega), sx_len, Nat.add_sub_cancel_left]
theorem sl_add {g : gW} {A : Ad} {n f : Nat} {r : Hp} {P0 Y : va_W} {q : Nat × va_E} : (P0 ++ (sx g A n f r ++ Y)) ++ [q] = P0 ++ (sx g A n f r ++ (Y ++ [q])) := by
  rw [List.append_assoc, List.append_assoc]
/-- a row's width -/
def sW (n f o k : Nat) : Prop := (3 ≤ o ∧ o < 13 ∧ k < 3) ∨ (15 ≤ o ∧ o < 15 + n ∧ k < 10) ∨ (26 ≤ o ∧ o < 26 + f ∧ k < 5)
theorem sW_v {n f o k : Nat} (h : sW n f o k) : vO n f o := by unfold sW at h; unfold vO; omega
theorem sc_W {g : gW} {A : Ad} {n f o k : Nat} (hn : n ≤ 10) (h : sW n f o k) : ∃ w, k < w ∧ w < 2 ^ 31 ∧ ∀ r : Nat → Int32, sc g A n f r o = .inl (gA g 0, w, .inl r) := by
  unfold sW at h
  rcases h with h | h | h
  · refine ⟨3, h.2.2, by omega, fun r => ?_⟩
    unfold sc
    rw [if_neg (by omega), if_neg (by omega), if_pos (by omega)]
  · refine ⟨10, h.2.2, by omega, fun r => ?_⟩
    unfold sc
    rw [if_neg (by omega), if_neg (by omega), if_neg (by omega), if_neg (by omega), if_pos (by omega)]
  · refine ⟨5, h.2.2, by omega, fun r => ?_⟩
    unfold sc
    rw [if_neg (by omega), if_neg (by omega), if_neg (by omega), if_neg (by omega), if_neg (by omega), if_neg (by omega)]
section GSX
variable {g : gW} {p : Program} {l : Launch} {e : Env} {R : Room} {s : State} {m : MethodId} {args : Array Value} {below : List Frame} {meth : Method} {c : Code} {cc : ByteArray} {nL : Nat} {own : String} {A : Ad} {n f : Nat} {r : Hp} {P0 Y : va_W} {F : Nat → Prop} {lv : List (Nat × Value)} {cells slots : Nat} {Q : State → Prop} {pc : Nat} {st : List Value}
theorem gs_day (C : CG g p s m args meth c cc nL own) {idx : Nat} (hn : n ≤ 10) (hlink : Cond.fieldLink own idx (TX5 0).1 (TX5 0).2.1 (TX5 0).2.2.1 ∈ TT) (hd : decode cc pc = .ok (.getfield idx, 3)) (kk : GW g p l e R s m args below meth c nL (P0 ++ (sx g A n f r ++ Y)) F lv cells slots Q (pc + 3) (.int (r 1 6) :: st)) : GW g p l e R s m args below meth c nL (P0 ++ (sx g A n f r ++ Y)) F lv cells slots Q pc (.ref (A 1) :: st) :=
  gg_get (T := TX5) (N := 5) C _ (sl_get hn (o := 1) (Or.inl ⟨by omega, by omega⟩)) rfl inX5 0 (by decide) hlink rfl hd kk
theorem gs_clay (C : CG g p s m args meth c cc nL own) {idx : Nat} (hn : n ≤ 10) (hlink : Cond.fieldLink own idx (TX5 1).1 (TX5 1).2.1 (TX5 1).2.2.1 ∈ TT) (hd : decode cc pc = .ok (.getfield idx, 3)) (kk : GW g p l e R s m args below meth c nL (P0 ++ (sx g A n f r ++ Y)) F lv cells slots Q (pc + 3) (.int (r 1 7) :: st)) : GW g p l e R s m args below meth c nL (P0 ++ (sx g A n f r ++ Y)) F lv cells slots Q pc (.ref (A 1) :: st) :=
  gg_get (T := TX5) (N := 5) C _ (sl_get hn (o := 1) (Or.inl ⟨by omega, by omega⟩)) rfl inX5 1 (by decide) hlink rfl hd kk
theorem gs_wea (C : CG g p s m args meth c cc nL own) {idx : Nat} (hn : n ≤ 10) (hlink : Cond.fieldLink own idx (TX5 2).1 (TX5 2).2.1 (TX5 2).2.2.1 ∈ TT) (hd : decode cc pc = .ok (.getfield idx, 3)) (kk : GW g p l e R s m args below meth c nL (P0 ++ (sx g A n f r ++ Y)) F lv cells slots Q (pc + 3) (.ref (A 2) :: st)) : GW g p l e R s m args below meth c nL (P0 ++ (sx g A n f r ++ Y)) F lv cells slots Q pc (.ref (A 1) :: st) :=
  gg_get (T := TX5) (N := 5) C _ (sl_get hn (o := 1) (Or.inl ⟨by omega, by omega⟩)) rfl inX5 2 (by decide) hlink rfl hd kk
theorem gs_pon (C : CG g p s m args meth c cc nL own) {idx : Nat} (hn : n ≤ 10) (hlink : Cond.fieldLink own idx (TX5 3).1 (TX5 3).2.1 (TX5 3).2.2.1 ∈ TT) (hd : decode cc pc = .ok (.getfield idx, 3)) (kk : GW g p l e R s m args below meth c nL (P0 ++ (sx g A n f r ++ Y)) F lv cells slots Q (pc + 3) (.ref (A 13) :: st)) : GW g p l e R s m args below meth c nL (P0 ++ (sx g A n f r ++ Y)) F lv cells slots Q pc (.ref (A 1) :: st) :=
  gg_get (T := TX5) (N := 5) C _ (sl_get hn (o := 1) (Or.inl ⟨by omega, by omega⟩)) rfl inX5 3 (by decide) hlink rfl hd kk
theorem gs_flo (C : CG g p s m args meth c cc nL own) {idx : Nat} (hn : n ≤ 10) (hlink : Cond.fieldLink own idx (TX5 4).1 (TX5 4).2.1 (TX5 4).2.2.1 ∈ TT) (hd : decode cc pc = .ok (.getfield idx, 3)) (kk : GW g p l e R s m args below meth c nL (P0 ++ (sx g A n f r ++ Y)) F lv cells slots Q (pc + 3) (.ref (A 25) :: st)) : GW g p l e R s m args below meth c nL (P0 ++ (sx g A n f r ++ Y)) F lv cells slots Q pc (.ref (A 1) :: st) :=
  gg_get (T := TX5) (N := 5) C _ (sl_get hn (o := 1) (Or.inl ⟨by omega, by omega⟩)) rfl inX5 4 (by decide) hlink rfl hd kk
theorem gs_putd (C : CG g p s m args meth c cc nL own) {idx : Nat} {v : Int32} (hn : n ≤ 10) (hlink : Cond.fieldLink own idx (TX5 0).1 (TX5 0).2.1 (TX5 0).2.2.1 ∈ TT) (hd : decode cc pc = .ok (.putfield idx, 3)) (kk : GW g p l e R s m args below meth c nL (P0 ++ (sx g A n f (hp_up r 1 6 v) ++ Y)) F lv cells slots Q (pc + 3) st) : GW g p l e R s m args below meth c nL (P0 ++ (sx g A n f r ++ Y)) F lv cells slots Q pc (.int v :: .ref (A 1) :: st) :=
  gg_put (T := TX5) (N := 5) C _ (sl_get hn (o := 1) (Or.inl ⟨by omega, by omega⟩)) rfl inX5 tyX5 tyX5_ok nmX5 0 (by decide) hlink rfl rfl rfl (Nat.le_of_ble_eq_true rfl) hd (gg_ls _ (sl_set hn (o := 1) (Or.inl ⟨by omega, by omega⟩) 6 v) kk)
theorem gs_putc (C : CG g p s m args meth c cc nL own) {idx : Nat} {v : Int32} (hn : n ≤ 10) (hlink : Cond.fieldLink own idx (TX5 1).1 (TX5 1).2.1 (TX5 1).2.2.1 ∈ TT) (hd : decode cc pc = .ok (.putfield idx, 3)) (kk : GW g p l e R s m args below meth c nL (P0 ++ (sx g A n f (hp_up r 1 7 v) ++ Y)) F lv cells slots Q (pc + 3) st) : GW g p l e R s m args below meth c nL (P0 ++ (sx g A n f r ++ Y)) F lv cells slots Q pc (.int v :: .ref (A 1) :: st) :=
  gg_put (T := TX5) (N := 5) C _ (sl_get hn (o := 1) (Or.inl ⟨by omega, by omega⟩)) rfl inX5 tyX5 tyX5_ok nmX5 1 (by decide) hlink rfl rfl rfl (Nat.le_of_ble_eq_true rfl) hd (gg_ls _ (sl_set hn (o := 1) (Or.inl ⟨by omega, by omega⟩) 7 v) kk)
theorem gs_aldW (C : CG g p s m args meth c cc nL own) {j : Nat} {x : Int32} (hn : n ≤ 10) (hx : x = nI j) (hj : j < 10) (hd : decode cc pc = .ok (.aaload, 1)) (kk : GW g p l e R s m args below meth c nL (P0 ++ (sx g A n f r ++ Y)) F lv cells slots Q (pc + 1) (.ref (A (3 + j)) :: st)) : GW g p l e R s m args below meth c nL (P0 ++ (sx g A n f r ++ Y)) F lv cells slots Q pc (.int x :: .ref (A 2) :: st) :=
  gg_aald C _ (sl_get hn (o := 2) (Or.inl ⟨by omega, by omega⟩)) hx hj (by omega) (if_pos hj) hd kk
theorem gs_aldP (C : CG g p s m args meth c cc nL own) {j : Nat} {x : Int32} (hn : n ≤ 10) (hx : x = nI j) (hj : j < n) (hd : decode cc pc = .ok (.aaload, 1)) (kk : GW g p l e R s m args below meth c nL (P0 ++ (sx g A n f r ++ Y)) F lv cells slots Q (pc + 1) (.ref (A (15 + j)) :: st)) : GW g p l e R s m args below meth c nL (P0 ++ (sx g A n f r ++ Y)) F lv cells slots Q pc (.int x :: .ref (A 13) :: st) :=
  gg_aald C _ (sl_get hn (o := 13) (Or.inl ⟨by omega, by omega⟩)) hx hj (by omega) (if_pos hj) hd kk
theorem gs_aldF (C : CG g p s m args meth c cc nL own) {j : Nat} {x : Int32} (hn : n ≤ 10) (hf : f ≤ 10) (hx : x = nI j) (hj : j < f) (hd : decode cc pc = .ok (.aaload, 1)) (kk : GW g p l e R s m args below meth c nL (P0 ++ (sx g A n f r ++ Y)) F lv cells slots Q (pc + 1) (.ref (A (26 + j)) :: st)) : GW g p l e R s m args below meth c nL (P0 ++ (sx g A n f r ++ Y)) F lv cells slots Q pc (.int x :: .ref (A 25) :: st) :=
  gg_aald C _ (sl_get hn (o := 25) (Or.inr (Or.inr ⟨by omega, by omega⟩))) hx hj (by omega) (if_pos hj) hd kk
theorem gs_lenP (C : CG g p s m args meth c cc nL own) (hn : n ≤ 10) (hd : decode cc pc = .ok (.arraylength, 1)) (kk : GW g p l e R s m args below meth c nL (P0 ++ (sx g A n f r ++ Y)) F lv cells slots Q (pc + 1) (.int (nI n) :: st)) : GW g p l e R s m args below meth c nL (P0 ++ (sx g A n f r ++ Y)) F lv cells slots Q pc (.ref (A 13) :: st) :=
  gg_alen (t := 4) C _ (sl_get hn (o := 13) (Or.inl ⟨by omega, by omega⟩)) rfl rfl hd kk
theorem gs_lenF (C : CG g p s m args meth c cc nL own) (hn : n ≤ 10) (hd : decode cc pc = .ok (.arraylength, 1)) (kk : GW g p l e R s m args below meth c nL (P0 ++ (sx g A n f r ++ Y)) F lv cells slots Q (pc + 1) (.int (nI f) :: st)) : GW g p l e R s m args below meth c nL (P0 ++ (sx g A n f r ++ Y)) F lv cells slots Q pc (.ref (A 25) :: st) :=
  gg_alen (t := 4) C _ (sl_get hn (o := 25) (Or.inr (Or.inr ⟨by omega, by omega⟩))) rfl rfl hd kk
theorem gs_ld (C : CG g p s m args meth c cc nL own) {o k : Nat} {x : Int32} (hn : n ≤ 10) (hx : x = nI k) (hw : sW n f o k) (hd : decode cc pc = .ok (.iaload, 1)) (kk : GW g p l e R s m args below meth c nL (P0 ++ (sx g A n f r ++ Y)) F lv cells slots Q (pc + 1) (.int (r o k) :: st)) : GW g p l e R s m args below meth c nL (P0 ++ (sx g A n f r ++ Y)) F lv cells slots Q pc (.int x :: .ref (A o) :: st) := by
  obtain ⟨w, h1, h2, h3⟩ := sc_W (g := g) (A := A) hn hw
  exact gg_iald (n := w) (f := r o) C _ (by rw [sl_get hn (sW_v hw), h3]) hx h1 h2 hd kk
theorem gs_st (C : CG g p s m args meth c cc nL own) {o k : Nat} {x v : Int32} (hn : n ≤ 10) (hx : x = nI k) (hw : sW n f o k) (hd : decode cc pc = .ok (.iastore, 1)) (kk : GW g p l e R s m args below meth c nL (P0 ++ (sx g A n f (hp_up r o k v) ++ Y)) F lv cells slots Q (pc + 1) st) : GW g p l e R s m args below meth c nL (P0 ++ (sx g A n f r ++ Y)) F lv cells slots Q pc (.int v :: .int x :: .ref (A o) :: st) := by
  obtain ⟨w, h1, h2, h3⟩ := sc_W (g := g) (A := A) hn hw
  refine gg_iast (n := w) (f := r o) C (P0.length + sJ n o) (by rw [sl_get hn (sW_v hw), h3]) hx h1 h2 hd (gg_ls _ ?_ kk)
  rw [← sl_set hn (sW_v hw) k v, h3]
/-- the number of a row's slot, and its place, folded -/
theorem gs_r {r2 : Hp} (he : r = r2) (k : GW g p l e R s m args below meth c nL (P0 ++ (sx g A n f r2 ++ Y)) F lv cells slots Q pc st) : GW g p l e R s m args below meth c nL (P0 ++ (sx g A n f r ++ Y)) F lv cells slots Q pc st := by subst he; exact k
end GSX
