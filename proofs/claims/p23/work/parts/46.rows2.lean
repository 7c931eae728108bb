/-! new int[n][k]; rows of references written -/
theorem tsAA : "[" ++ (FieldType.array .int).toString = "[[I" := by decide +kernel
def mx (g : gW) (q : Nat) (rr : Nat → Nat) (N K : Nat) (fm : Nat → Nat → Int32) : va_W := (q, .inl (gA g 4, N, .inr (.inr (.inr (.inr (fun i => if i < N then some (rr i) else none)))))) :: (List.range N).map (fun i => (rr i, .inl (gA g 0, K, .inl (fm i))))
theorem mx_len {g : gW} {q : Nat} {rr : Nat → Nat} {N K : Nat} {fm : Nat → Nat → Int32} : (mx g q rr N K fm).length = 1 + N := by simp [mx]; omega
theorem mx_row {g : gW} {q : Nat} {rr : Nat → Nat} {N K i : Nat} {fm : Nat → Nat → Int32} (hi : i < N) : (mx g q rr N K fm)[1 + i]? = some (cI g (rr i) K (fm i)) := by
  unfold mx
  rw [Nat.add_comm, List.getElem?_cons_succ, List.getElem?_map, List.getElem?_range hi]
  rfl
theorem mx_set {g : gW} {q : Nat} {rr : Nat → Nat} {N K i j : Nat} {fm : Nat → Nat → Int32} {v : Int32} (hi : i < N) : (mx g q rr N K fm).set (1 + i) (cI g (rr i) K (upd (fm i) j v)) = mx g q rr N K (fun a => if a = i then upd (fm i) j v else fm a) := by
  unfold mx
  rw [Nat.add_comm, List.set_cons_succ]
  congr 1
  apply List.ext_getElem?
  intro a
  by_cases ha : a = i
  · subst ha
    rw [List.getElem?_set_self (by simpa using hi), List.getElem?_map, List.getElem?_range hi, Option.map_some]
    simp
  · rw [List.getElem?_set_ne (Ne.symm ha)]
    by_cases hl : a < N
    · rw [List.getElem?_map, List.getElem?_map, List.getElem?_range hl, Option.map_some, Option.map_some]
      simp [ha]
    · rw [List.getElem?_eq_none (by simp; omega), List.getElem?_eq_none (by simp; omega)]
/-- other cells out of the same, each from its own place -/
theorem gg_pl_D {F : Nat → Prop} {L L2 : va_W} (pl : Nat → Nat) (h1 : ∀ i q, L2[i]? = some q → L[pl i]? = some q) (h2 : ∀ i j, i < L2.length → j < L2.length → pl i = pl j → i = j) (hD : va_D F L) : va_D F L2 :=
  ⟨fun i j p q hi hj e => h2 i j (List.getElem?_eq_some_iff.mp hi).1 (List.getElem?_eq_some_iff.mp hj).1 (hD.1 _ _ p q (h1 i p hi) (h1 j q hj) e), fun k q hk => hD.2 _ q (h1 k q hk)⟩
section GGM
variable {g : gW} {p : Program} {l : Launch} {e : Env} {R : Room} {s : State} {m : MethodId} {args : Array Value} {below : List Frame} {meth : Method} {c : Code} {cc : ByteArray} {nL : Nat} {own : String} {L : va_W} {F : Nat → Prop} {lv : List (Nat × Value)} {cells slots : Nat} {Q : State → Prop} {pc : Nat} {st : List Value}
theorem gg_pl {L2 : va_W} (pl : Nat → Nat) (h1 : ∀ i q, L2[i]? = some q → L[pl i]? = some q) (h2 : ∀ i j, i < L2.length → j < L2.length → pl i = pl j → i = j) (k : GW g p l e R s m args below meth c nL L2 F lv cells slots Q pc st) : GW g p l e R s m args below meth c nL L F lv cells slots Q pc st :=
  fun H locs ls hP hD hS hl => k H locs ls (fun i q hi => hP _ q (h1 i q hi)) (gg_pl_D pl h1 h2 hD) hS hl
theorem gA_arr (C : CG g p s m args meth c cc nL own) {tys : List (ClassId × FieldType)} {cA : ClassId} {k : Nat} (hK : va_K (gD g) vwCl tys s) (hk : tys[k]? = some (cA, .array .int)) : cA = gA g 4 :=
  Option.some.inj ((nmA (hK.2 k _ hk).2).symm.trans (nmA (C.2.2.2.2.2.1.2 4 (gA g 4, .array .int) rfl).2))
theorem gg_mna (C : CG g p s m args meth c cc nL own) (hF : ∀ q, s.heap.size ≤ q → F q) {idx N K : Nat} {a b : Int32} (ha : a = nI N) (hb : b = nI K) (hN : N ≤ 100) (hK : K ≤ 100) (hlink : Cond.classLink own idx "[[I" ∈ TT) (hr : cells + (1 + N) ≤ R.cells ∧ slots + (N + N * K) ≤ R.slots) (hd : decode cc pc = .ok (.multianewarray idx 2, 4)) (kk : ∀ (q : Nat) (rr : Nat → Nat), GW g p l e R s m args below meth c nL (L ++ mx g q rr N K (fun _ _ => 0)) F lv (cells + 1 + N) (slots + N + N * K) Q (pc + 4) (.ref q :: st)) : GW g p l e R s m args below meth c nL L F lv cells slots Q pc (.int b :: .int a :: st) := by
  intro H locs ls hP hD hS hl
  subst ha
  subst hb
  have e0 : va_pl [] (fun _ => (.inr (0, []) : va_E)) = [] := rfl
  have hlk : (Cond.classLink own idx ("[" ++ (FieldType.array .int).toString)).before args s = true := by rw [tsAA]; exact C.2.2.2.2.1 _ hlink
  have hcy : s.vm.findClass (FieldType.array .int).toString = some (gA g 0) := by rw [tsA]; exact va_nm_int (C.2.2.2.2.2.1.2 0 (gA g 0, .int) rfl).2
  refine va_mna (X := L) (L := []) (f := fun _ => .inr (0, [])) (ty := .int) (cy := gA g 0) (N' := N) (K' := K) (z := (K, .inl (fun _ => 0))) C.1 C.2.1 C.2.2.2.1 hlk C.2.2.2.2.2.2.2 (C.2.2.2.2.1 _ q_ac_int) hcy C.2.2.2.2.2.1 (by rw [e0, List.append_nil]; exact hP) (by rw [e0, List.append_nil]; exact hD) hS hF (nI_nn (by omega)) (nI_nn (by omega)) (nI_clamp (by omega)) (nI_clamp (by omega)) (by omega) (by show K * 4 ≤ _; omega) (by omega) rfl rfl hr.1 hr.2 (fun c => ?_) hd (fun q rr cA H1 hinj hnot hK1 hP1 hD1 hS1 => ?_)
  · show ({ cls := c, slots := Array.replicate K (.int 0), vm := .none } : Cell) = _
    rw [arrV_new]
    rfl
  · have e := gA_arr C hK1 (k := 6) (cA := cA) rfl
    subst e
    have el : (L ++ [(q, (.inl (gA g 4, N, .inr (.inr (.inr (.inr (fun i => if i < N then some (rr i) else none))))) : va_E))]) ++ va_pl ([] ++ (List.range N).map rr) (vr_up (fun _ => .inr (0, [])) ((List.range N).map rr) (.inl (gA g 0, (K, .inl (fun _ => 0))))) = L ++ mx g q rr N K (fun _ _ => 0) := by
      rw [List.append_assoc]
      congr 1
      unfold mx va_pl
      rw [List.nil_append, List.map_map]
      show _ :: _ = _ :: _
      congr 1
      apply List.map_congr_left
      intro i hi
      show (rr i, vr_up _ _ _ (rr i)) = _
      rw [vr_up_in (List.mem_map.mpr ⟨i, hi, rfl⟩)]
    rw [el] at hP1 hD1
    exact kk q rr H1 locs ls hP1 hD1 hS1 hl
end GGM
section GSM
variable {g : gW} {p : Program} {l : Launch} {e : Env} {R : Room} {s : State} {m : MethodId} {args : Array Value} {below : List Frame} {meth : Method} {c : Code} {cc : ByteArray} {nL : Nat} {own : String} {A : Ad} {n f : Nat} {r : Hp} {P0 Y : va_W} {F : Nat → Prop} {lv : List (Nat × Value)} {cells slots : Nat} {Q : State → Prop} {pc : Nat} {st : List Value}
theorem gs_aast (C : CG g p s m args meth c cc nL own) (i : Nat) {o k q N j : Nat} {x : Int32} {φ : Nat → Option Nat} (hn : n ≤ 10) (hY : Y[i]? = some (cR g q N φ)) (hw : sW n f o k) (hx : x = nI j) (hj : j < N) (hN : N < 2 ^ 31) (hd : decode cc pc = .ok (.aastore, 1)) (kk : GW g p l e R s m args below meth c nL (P0 ++ (sx g A n f r ++ Y.set i (cR g q N (va_up φ j (some (A o)))))) F lv cells slots Q (pc + 1) st) : GW g p l e R s m args below meth c nL (P0 ++ (sx g A n f r ++ Y)) F lv cells slots Q pc (.ref (A o) :: .int x :: .ref q :: st) := by
  obtain ⟨w, h1, h2, h3⟩ := sc_W (g := g) (A := A) hn hw
  exact gg_aast (n2 := w) (r := r o) C (P0.length + (14 + n + f + i)) (P0.length + sJ n o) (sl_Y hY) (by rw [sl_get hn (sW_v hw), h3]) hx hj hN hd (gg_ls _ sl_setY kk)
theorem gs_aastY (C : CG g p s m args meth c cc nL own) (i i2 : Nat) {q q2 N w j : Nat} {x : Int32} {φ : Nat → Option Nat} {fr : Nat → Int32} (hY : Y[i]? = some (cR g q N φ)) (hY2 : Y[i2]? = some (cI g q2 w fr)) (hx : x = nI j) (hj : j < N) (hN : N < 2 ^ 31) (hd : decode cc pc = .ok (.aastore, 1)) (kk : GW g p l e R s m args below meth c nL (P0 ++ (sx g A n f r ++ Y.set i (cR g q N (va_up φ j (some q2))))) F lv cells slots Q (pc + 1) st) : GW g p l e R s m args below meth c nL (P0 ++ (sx g A n f r ++ Y)) F lv cells slots Q pc (.ref q2 :: .int x :: .ref q :: st) :=
  gg_aast C (P0.length + (14 + n + f + i)) (P0.length + (14 + n + f + i2)) (sl_Y hY) (sl_Y hY2) hx hj hN hd (gg_ls _ sl_setY kk)
theorem gs_ystI (C : CG g p s m args meth c cc nL own) (i : Nat) {q N j : Nat} {x v : Int32} {φ : Nat → Int32} (hY : Y[i]? = some (cI g q N φ)) (hx : x = nI j) (hj : j < N) (hN : N < 2 ^ 31) (hd : decode cc pc = .ok (.iastore, 1)) (kk : GW g p l e R s m args below meth c nL (P0 ++ (sx g A n f r ++ Y.set i (cI g q N (upd φ j v)))) F lv cells slots Q (pc + 1) st) : GW g p l e R s m args below meth c nL (P0 ++ (sx g A n f r ++ Y)) F lv cells slots Q pc (.int v :: .int x :: .ref q :: st) :=
  gg_iast C (P0.length + (14 + n + f + i)) (sl_Y hY) hx hj hN hd (gg_ls _ sl_setY kk)
theorem gs_yldI (C : CG g p s m args meth c cc nL own) (i : Nat) {q N j : Nat} {x : Int32} {φ : Nat → Int32} (hY : Y[i]? = some (cI g q N φ)) (hx : x = nI j) (hj : j < N) (hN : N < 2 ^ 31) (hd : decode cc pc = .ok (.iaload, 1)) (kk : GW g p l e R s m args below meth c nL (P0 ++ (sx g A n f r ++ Y)) F lv cells slots Q (pc + 1) (.int (φ j) :: st)) : GW g p l e R s m args below meth c nL (P0 ++ (sx g A n f r ++ Y)) F lv cells slots Q pc (.int x :: .ref q :: st) :=
  gg_iald C (P0.length + (14 + n + f + i)) (sl_Y hY) hx hj hN hd kk
theorem gs_yaldR (C : CG g p s m args meth c cc nL own) (i : Nat) {q N j b : Nat} {x : Int32} {φ : Nat → Option Nat} (hY : Y[i]? = some (cR g q N φ)) (hx : x = nI j) (hj : j < N) (hN : N < 2 ^ 31) (hf : φ j = some b) (hd : decode cc pc = .ok (.aaload, 1)) (kk : GW g p l e R s m args below meth c nL (P0 ++ (sx g A n f r ++ Y)) F lv cells slots Q (pc + 1) (.ref b :: st)) : GW g p l e R s m args below meth c nL (P0 ++ (sx g A n f r ++ Y)) F lv cells slots Q pc (.int x :: .ref q :: st) :=
  gg_aald C (P0.length + (14 + n + f + i)) (sl_Y hY) hx hj hN hf hd kk
end GSM
theorem va_up_lt {A : Nat → Nat} {j : Nat} : va_up (fun i => if i < j then some (A i) else none) j (some (A j)) = fun i => if i < j + 1 then some (A i) else none := by
  funext i
  unfold va_up
  by_cases e : i = j
  · subst e; rw [if_pos rfl, if_pos (by omega)]
  · rw [if_neg e]
    show (if i < j then some (A i) else none) = _
    by_cases h : i < j
    · rw [if_pos h, if_pos (by omega)]
    · rw [if_neg h, if_neg (by omega)]
