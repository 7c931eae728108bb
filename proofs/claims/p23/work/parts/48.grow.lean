/-! THE SIM GROWS: a pond, a day's weather, a flock put in: the same cells, named anew -/
def adP (A : Ad) (n q q2 : Nat) : Ad := fun o => if o = 13 then q2 else if o = 15 + n then q else A o
def adW (A : Ad) (j q : Nat) : Ad := fun o => if o = 3 + j then q else A o
def adF (A : Ad) (f q q2 : Nat) : Ad := fun o => if o = 25 then q2 else if o = 26 + f then q else A o
theorem rfn_congr {N : Nat} {f1 f2 : Nat → Nat} (h : ∀ j, j < N → f1 j = f2 j) : rfn N f1 = rfn N f2 := by
  funext j
  unfold rfn
  by_cases e : j < N
  · rw [if_pos e, if_pos e, h j e]
  · rw [if_neg e, if_neg e]
theorem scA_eq {g : gW} {A A' : Ad} {n n' f f' o : Nat} {x : Nat → Int32} (h1 : o ≠ 1) (h2 : o = 2 → ∀ j, j < 10 → A' (3 + j) = A (3 + j)) (h13 : o = 13 → n' = n ∧ ∀ j, j < n → A' (15 + j) = A (15 + j)) (h25 : o = 25 → f' = f ∧ ∀ j, j < f → A' (26 + j) = A (26 + j)) : sc g A' n' f' x o = sc g A n f x o := by
  unfold sc
  rw [if_neg h1, if_neg h1]
  by_cases e2 : o = 2
  · rw [if_pos e2, if_pos e2, rfn_congr (h2 e2)]
  · rw [if_neg e2, if_neg e2]
    by_cases e3 : o < 13
    · rw [if_pos e3, if_pos e3]
    · rw [if_neg e3, if_neg e3]
      by_cases e13 : o = 13
      · obtain ⟨rfl, h⟩ := h13 e13
        rw [if_pos e13, if_pos e13, rfn_congr h]
      · rw [if_neg e13, if_neg e13]
        by_cases e4 : o < 25
        · rw [if_pos e4, if_pos e4]
        · rw [if_neg e4, if_neg e4]
          by_cases e25 : o = 25
          · obtain ⟨rfl, h⟩ := h25 e25
            rw [if_pos e25, if_pos e25, rfn_congr h]
          · rw [if_neg e25, if_neg e25]
theorem sx_at? {g : gW} {A : Ad} {n f i : Nat} {r : Hp} (hi : i < 14 + n + f) : (sx g A n f r)[i]? = some (A (sO n i), sc g A n f (r (sO n i)) (sO n i)) := by
  unfold sx
  rw [List.getElem?_map, List.getElem?_range hi]
  rfl
theorem sO_inj {n i j : Nat} (hn : n ≤ 10) (h : sO n i = sO n j) : i = j := by rw [← sJ_O (i := i) hn, h, sJ_O hn]
section GSG
variable {g : gW} {p : Program} {l : Launch} {e : Env} {R : Room} {s : State} {m : MethodId} {args : Array Value} {below : List Frame} {meth : Method} {c : Code} {nL : Nat} {A : Ad} {n f : Nat} {r : Hp} {P0 L : va_W} {F : Nat → Prop} {lv : List (Nat × Value)} {cells slots : Nat} {Q : State → Prop} {pc : Nat} {st : List Value}
/-- a new Sim out of old cells: pid tells for each id where its cell lay, counted behind P0 -/
theorem gr_of {A' : Ad} {n' f' : Nat} {r' : Hp} (hn' : n' ≤ 10) (pid : Nat → Nat) (h0 : ∀ i, i < P0.length → L[i]? = P0[i]?) (h1 : ∀ o, vO n' f' o → L[P0.length + pid o]? = some (A' o, sc g A' n' f' (r' o) o)) (h2 : ∀ o o', vO n' f' o → vO n' f' o' → pid o = pid o' → o = o')
    (k : GW g p l e R s m args below meth c nL (P0 ++ (sx g A' n' f' r' ++ [])) F lv cells slots Q pc st) : GW g p l e R s m args below meth c nL L F lv cells slots Q pc st := by
  have hlen : (P0 ++ (sx g A' n' f' r' ++ [])).length = P0.length + (14 + n' + f') := by rw [List.append_nil, List.length_append, sx_len]
  refine gg_pl (fun i => if i < P0.length then i else P0.length + pid (sO n' (i - P0.length))) (fun i x hx => ?_) (fun i j hi hj e => ?_) k
  · have hi := (List.getElem?_eq_some_iff.mp hx).1
    rw [hlen] at hi
    rw [List.append_nil] at hx
    show L[if i < P0.length then i else P0.length + pid (sO n' (i - P0.length))]? = some x
    by_cases h : i < P0.length
    · rw [if_pos h, h0 i h]
      rw [List.getElem?_append_left h] at hx
      exact hx
    · rw [if_neg h]
      rw [List.getElem?_append_right (by omega), sx_at? (by omega)] at hx
      rw [h1 _ (vO_O (by omega))]
      exact hx
  · rw [hlen] at hi hj
    have e : (if i < P0.length then i else P0.length + pid (sO n' (i - P0.length))) = (if j < P0.length then j else P0.length + pid (sO n' (j - P0.length))) := e
    by_cases h3 : i < P0.length
    · by_cases h4 : j < P0.length
      · rw [if_pos h3, if_pos h4] at e; exact e
      · rw [if_pos h3, if_neg h4] at e; omega
    · by_cases h4 : j < P0.length
      · rw [if_neg h3, if_pos h4] at e; omega
      · rw [if_neg h3, if_neg h4] at e
        have h5 := h2 _ _ (vO_O (show i - P0.length < 14 + n' + f' by omega)) (vO_O (show j - P0.length < 14 + n' + f' by omega)) (by omega)
        have := sO_inj hn' h5
        omega
theorem sJ_inj {n f o o' : Nat} (hn : n ≤ 10) (h : vO n f o) (h' : vO n f o') (e : sJ n o = sJ n o') : o = o' := by rw [← sO_J hn h, e, sO_J hn h']
theorem gr_P {q q2 : Nat} {fb : Nat → Int32} (hn : n < 10)
    (k : GW g p l e R s m args below meth c nL (P0 ++ (sx g (adP A n q q2) (n + 1) 0 (hp_row r (15 + n) fb) ++ [])) F lv cells slots Q pc st) :
    GW g p l e R s m args below meth c nL ((P0 ++ (sx g A n 0 r ++ [cI g q 10 fb, cR g q2 (n + 1) (fun i => if i < n then some (A (15 + i)) else if i = n then some q else none)])).set (P0.length + sJ n 1) (A 1, .inr (5, [.int (r 1 6), .int (r 1 7), .ref (A 2), .ref q2, .ref (A 25)]))) F lv cells slots Q pc st := by
  have hJ1 : sJ n 1 = 0 := rfl
  refine gr_of (by omega) (fun o => if o = 13 then 15 + n else if o = 15 + n then 14 + n else sJ n o) (fun i hi => ?_) (fun o hv => ?_) (fun o o' hv hv' e => ?_) k
  · rw [List.getElem?_set_ne (by omega), List.getElem?_append_left hi]
  · show (_ : va_W)[P0.length + if o = 13 then 15 + n else if o = 15 + n then 14 + n else sJ n o]? = _
    by_cases e13 : o = 13
    · subst e13
      rw [if_pos rfl, List.getElem?_set_ne (by omega), show 15 + n = 14 + n + 0 + 1 by omega, sl_Y (i := 1) rfl]
      have ef : (fun i => if i < n then some (A (15 + i)) else if i = n then some q else none) = rfn (n + 1) (fun j => adP A n q q2 (15 + j)) := by
        funext i
        show (if i < n then some (A (15 + i)) else if i = n then some q else none) = if i < n + 1 then some (if 15 + i = 13 then q2 else if 15 + i = 15 + n then q else A (15 + i)) else none
        by_cases h1 : i < n
        · rw [if_pos h1, if_pos (by omega), if_neg (by omega), if_neg (by omega)]
        · rw [if_neg h1]
          by_cases h2 : i = n
          · rw [if_pos h2, if_pos (by omega), if_neg (by omega), if_pos (by omega)]
          · rw [if_neg h2, if_neg (by omega)]
      rw [ef]
      rfl
    · rw [if_neg e13]
      by_cases e15 : o = 15 + n
      · subst e15
        rw [if_pos rfl, List.getElem?_set_ne (by omega), show 14 + n = 14 + n + 0 + 0 by omega, sl_Y (i := 0) rfl]
        have ea : adP A n q q2 (15 + n) = q := by unfold adP; rw [if_neg (by omega), if_pos rfl]
        have es : ∀ x, sc g (adP A n q q2) (n + 1) 0 x (15 + n) = .inl (gA g 0, 10, .inl x) := fun x => by
          unfold sc
          rw [if_neg (by omega), if_neg (by omega), if_neg (by omega), if_neg (by omega), if_pos (by omega)]
        rw [ea, hp_row_eq, es]
      · rw [if_neg e15]
        have hv2 : vO n 0 o := by unfold vO at hv ⊢; omega
        have ea : adP A n q q2 o = A o := by unfold adP; rw [if_neg e13, if_neg e15]
        rw [ea, hp_row_ne e15]
        by_cases e1 : o = 1
        · subst e1
          rw [List.getElem?_set_self (by rw [List.length_append, List.length_append, sx_len]; omega)]
          have a2 : adP A n q q2 2 = A 2 := by unfold adP; rw [if_neg (by omega), if_neg (by omega)]
          have a25 : adP A n q q2 25 = A 25 := by unfold adP; rw [if_neg (by omega), if_neg (by omega)]
          show _ = some (A 1, (.inr (5, [.int (r 1 6), .int (r 1 7), .ref (adP A n q q2 2), .ref (adP A n q q2 13), .ref (adP A n q q2 25)]) : va_E))
          rw [a2, a25]
          rfl
        · rw [List.getElem?_set_ne (by
            intro z
            exact e1 (sJ_inj (n := n) (f := 0) (by omega) hv2 (Or.inl ⟨by omega, by omega⟩) (by omega))), sl_get (by omega) hv2]
          rw [scA_eq (A' := adP A n q q2) (n' := n + 1) (f' := 0) (A := A) (n := n) (f := 0) e1 (fun _ j hj => by unfold adP; rw [if_neg (by omega), if_neg (by omega)]) (fun z => absurd z e13) (fun _ => ⟨rfl, fun j hj => by omega⟩)]
  · have e : (if o = 13 then 15 + n else if o = 15 + n then 14 + n else sJ n o) = (if o' = 13 then 15 + n else if o' = 15 + n then 14 + n else sJ n o') := e
    have hl : ∀ x, vO (n + 1) 0 x → x ≠ 13 → x ≠ 15 + n → vO n 0 x ∧ sJ n x < 14 + n := fun x hx h1 h2 => by
      have h3 : vO n 0 x := by unfold vO at hx ⊢; omega
      exact ⟨h3, by have := sJ_lt (by omega) h3; omega⟩
    by_cases a1 : o = 13
    · by_cases b1 : o' = 13
      · omega
      · rw [if_pos a1, if_neg b1] at e
        by_cases b2 : o' = 15 + n
        · rw [if_pos b2] at e; omega
        · rw [if_neg b2] at e; have := (hl o' hv' b1 b2).2; omega
    · rw [if_neg a1] at e
      by_cases a2 : o = 15 + n
      · rw [if_pos a2] at e
        by_cases b1 : o' = 13
        · rw [if_pos b1] at e; omega
        · rw [if_neg b1] at e
          by_cases b2 : o' = 15 + n
          · omega
          · rw [if_neg b2] at e; have := (hl o' hv' b1 b2).2; omega
      · rw [if_neg a2] at e
        have h3 := hl o hv a1 a2
        by_cases b1 : o' = 13
        · rw [if_pos b1] at e; omega
        · rw [if_neg b1] at e
          by_cases b2 : o' = 15 + n
          · rw [if_pos b2] at e; omega
          · rw [if_neg b2] at e
            exact sJ_inj (by omega) h3.1 (hl o' hv' b1 b2).1 e
theorem gr_W {j q : Nat} {fw : Nat → Int32} (hn : n ≤ 10) (hj : j < 10)
    (k : GW g p l e R s m args below meth c nL (P0 ++ (sx g (adW A j q) n f (hp_row r (3 + j) fw) ++ [])) F lv cells slots Q pc st) :
    GW g p l e R s m args below meth c nL ((P0 ++ (sx g A n f r ++ [cI g q 3 fw])).set (P0.length + sJ n 2) (cR g (A 2) 10 (va_up (rfn 10 (fun i => A (3 + i))) j (some q)))) F lv cells slots Q pc st := by
  have hJ2 : sJ n 2 = 1 := rfl
  refine gr_of hn (fun o => if o = 3 + j then 14 + n + f else sJ n o) (fun i hi => ?_) (fun o hv => ?_) (fun o o' hv hv' e => ?_) k
  · rw [List.getElem?_set_ne (by omega), List.getElem?_append_left hi]
  · show (_ : va_W)[P0.length + if o = 3 + j then 14 + n + f else sJ n o]? = _
    by_cases e3 : o = 3 + j
    · subst e3
      rw [if_pos rfl, List.getElem?_set_ne (by omega), show 14 + n + f = 14 + n + f + 0 by omega, sl_Y (i := 0) rfl]
      have ea : adW A j q (3 + j) = q := by unfold adW; rw [if_pos rfl]
      have es : ∀ x, sc g (adW A j q) n f x (3 + j) = .inl (gA g 0, 3, .inl x) := fun x => by
        unfold sc
        rw [if_neg (by omega), if_neg (by omega), if_pos (by omega)]
      rw [ea, hp_row_eq, es]
    · rw [if_neg e3]
      have ea : adW A j q o = A o := by unfold adW; rw [if_neg e3]
      rw [ea, hp_row_ne e3]
      by_cases e2 : o = 2
      · subst e2
        rw [List.getElem?_set_self (by rw [List.length_append, List.length_append, sx_len]; omega)]
        have eu : va_up (rfn 10 (fun i => A (3 + i))) j (some q) = rfn 10 (fun i => adW A j q (3 + i)) := by
          funext i
          show (if i = j then some q else if i < 10 then some (A (3 + i)) else none) = if i < 10 then some (if 3 + i = 3 + j then q else A (3 + i)) else none
          by_cases h1 : i = j
          · rw [if_pos h1, if_pos (by omega), if_pos (by omega)]
          · rw [if_neg h1]
            by_cases h2 : i < 10
            · rw [if_pos h2, if_pos h2, if_neg (by omega)]
            · rw [if_neg h2, if_neg h2]
        rw [eu]
        rfl
      · rw [List.getElem?_set_ne (by
          intro z
          exact e2 (sJ_inj (n := n) (f := f) hn hv (Or.inl ⟨by omega, by omega⟩) (by omega))), sl_get hn hv]
        by_cases e1 : o = 1
        · subst e1
          have a2 : adW A j q 2 = A 2 := by unfold adW; rw [if_neg (by omega)]
          have a13 : adW A j q 13 = A 13 := by unfold adW; rw [if_neg (by omega)]
          have a25 : adW A j q 25 = A 25 := by unfold adW; rw [if_neg (by omega)]
          show _ = some (A 1, (.inr (5, [.int (r 1 6), .int (r 1 7), .ref (adW A j q 2), .ref (adW A j q 13), .ref (adW A j q 25)]) : va_E))
          rw [a2, a13, a25]
          rfl
        · rw [scA_eq (A' := adW A j q) (A := A) e1 (fun z => absurd z e2) (fun _ => ⟨rfl, fun i hi => by unfold adW; rw [if_neg (by omega)]⟩) (fun _ => ⟨rfl, fun i hi => by unfold adW; rw [if_neg (by omega)]⟩)]
  · have e : (if o = 3 + j then 14 + n + f else sJ n o) = (if o' = 3 + j then 14 + n + f else sJ n o') := e
    by_cases a1 : o = 3 + j
    · by_cases b1 : o' = 3 + j
      · omega
      · rw [if_pos a1, if_neg b1] at e; have := sJ_lt hn hv'; omega
    · rw [if_neg a1] at e
      by_cases b1 : o' = 3 + j
      · rw [if_pos b1] at e; have := sJ_lt hn hv; omega
      · rw [if_neg b1] at e; exact sJ_inj hn hv hv' e
theorem gr_F {q q2 : Nat} {fb : Nat → Int32} (hn : n ≤ 10)
    (k : GW g p l e R s m args below meth c nL (P0 ++ (sx g (adF A f q q2) n (f + 1) (hp_row r (26 + f) fb) ++ [])) F lv cells slots Q pc st) :
    GW g p l e R s m args below meth c nL ((P0 ++ (sx g A n f r ++ [cI g q 5 fb, cR g q2 (f + 1) (fun i => if i < f then some (A (26 + i)) else if i = f then some q else none)])).set (P0.length + sJ n 1) (A 1, .inr (5, [.int (r 1 6), .int (r 1 7), .ref (A 2), .ref (A 13), .ref q2]))) F lv cells slots Q pc st := by
  have hJ1 : sJ n 1 = 0 := rfl
  refine gr_of hn (fun o => if o = 25 then 14 + n + f + 1 else if o = 26 + f then 14 + n + f else sJ n o) (fun i hi => ?_) (fun o hv => ?_) (fun o o' hv hv' e => ?_) k
  · rw [List.getElem?_set_ne (by omega), List.getElem?_append_left hi]
  · show (_ : va_W)[P0.length + if o = 25 then 14 + n + f + 1 else if o = 26 + f then 14 + n + f else sJ n o]? = _
    by_cases e13 : o = 25
    · subst e13
      rw [if_pos rfl, List.getElem?_set_ne (by omega), sl_Y (i := 1) rfl]
      have ef : (fun i => if i < f then some (A (26 + i)) else if i = f then some q else none) = rfn (f + 1) (fun j => adF A f q q2 (26 + j)) := by
        funext i
        show (if i < f then some (A (26 + i)) else if i = f then some q else none) = if i < f + 1 then some (if 26 + i = 25 then q2 else if 26 + i = 26 + f then q else A (26 + i)) else none
        by_cases h1 : i < f
        · rw [if_pos h1, if_pos (by omega), if_neg (by omega), if_neg (by omega)]
        · rw [if_neg h1]
          by_cases h2 : i = f
          · rw [if_pos h2, if_pos (by omega), if_neg (by omega), if_pos (by omega)]
          · rw [if_neg h2, if_neg (by omega)]
      rw [ef]
      rfl
    · rw [if_neg e13]
      by_cases e15 : o = 26 + f
      · subst e15
        rw [if_pos rfl, List.getElem?_set_ne (by omega), show 14 + n + f = 14 + n + f + 0 by omega, sl_Y (i := 0) rfl]
        have ea : adF A f q q2 (26 + f) = q := by unfold adF; rw [if_neg (by omega), if_pos rfl]
        have es : ∀ x, sc g (adF A f q q2) n (f + 1) x (26 + f) = .inl (gA g 0, 5, .inl x) := fun x => by
          unfold sc
          rw [if_neg (by omega), if_neg (by omega), if_neg (by omega), if_neg (by omega), if_neg (by omega), if_neg (by omega)]
        rw [ea, hp_row_eq, es]
      · rw [if_neg e15]
        have hv2 : vO n f o := by unfold vO at hv ⊢; omega
        have ea : adF A f q q2 o = A o := by unfold adF; rw [if_neg e13, if_neg e15]
        rw [ea, hp_row_ne e15]
        by_cases e1 : o = 1
        · subst e1
          rw [List.getElem?_set_self (by rw [List.length_append, List.length_append, sx_len]; omega)]
          have a2 : adF A f q q2 2 = A 2 := by unfold adF; rw [if_neg (by omega), if_neg (by omega)]
          have a25 : adF A f q q2 13 = A 13 := by unfold adF; rw [if_neg (by omega), if_neg (by omega)]
          show _ = some (A 1, (.inr (5, [.int (r 1 6), .int (r 1 7), .ref (adF A f q q2 2), .ref (adF A f q q2 13), .ref (adF A f q q2 25)]) : va_E))
          rw [a2, a25]
          rfl
        · rw [List.getElem?_set_ne (by
            intro z
            exact e1 (sJ_inj (n := n) (f := f) (by omega) hv2 (Or.inl ⟨by omega, by omega⟩) (by omega))), sl_get (by omega) hv2]
          rw [scA_eq (A' := adF A f q q2) (n' := n) (f' := f + 1) (A := A) (n := n) (f := f) e1 (fun _ j hj => by unfold adF; rw [if_neg (by omega), if_neg (by omega)]) (fun _ => ⟨rfl, fun j hj => by unfold adF; rw [if_neg (by omega), if_neg (by omega)]⟩) (fun z => absurd z e13)]
  · have e : (if o = 25 then 14 + n + f + 1 else if o = 26 + f then 14 + n + f else sJ n o) = (if o' = 25 then 14 + n + f + 1 else if o' = 26 + f then 14 + n + f else sJ n o') := e
    have hl : ∀ x, vO n (f + 1) x → x ≠ 25 → x ≠ 26 + f → vO n f x ∧ sJ n x < 14 + n + f := fun x hx h1 h2 => by
      have h3 : vO n f x := by unfold vO at hx ⊢; omega
      exact ⟨h3, sJ_lt hn h3⟩
    by_cases a1 : o = 25
    · by_cases b1 : o' = 25
      · omega
      · rw [if_pos a1, if_neg b1] at e
        by_cases b2 : o' = 26 + f
        · rw [if_pos b2] at e; omega
        · rw [if_neg b2] at e; have := (hl o' hv' b1 b2).2; omega
    · rw [if_neg a1] at e
      by_cases a2 : o = 26 + f
      · rw [if_pos a2] at e
        by_cases b1 : o' = 25
        · rw [if_pos b1] at e; omega
        · rw [if_neg b1] at e
          by_cases b2 : o' = 26 + f
          · omega
          · rw [if_neg b2] at e; have := (hl o' hv' b1 b2).2; omega
      · rw [if_neg a2] at e
        have h3 := hl o hv a1 a2
        by_cases b1 : o' = 25
        · rw [if_pos b1] at e; omega
        · rw [if_neg b1] at e
          by_cases b2 : o' = 26 + f
          · rw [if_pos b2] at e; omega
          · rw [if_neg b2] at e
            exact sJ_inj (by omega) h3.1 (hl o' hv' b1 b2).1 e
end GSG
