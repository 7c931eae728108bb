/-! CONTRACTS over any list of cells: from the cells L (apart, within F or new) and what E says of the state, the method returns v and leaves L2 in their place and N beside, as P2 says. -/
def FF (F : Nat → Prop) (sz : Nat) : Nat → Prop := fun q => F q ∨ sz ≤ q
def PG (g : gW) (L : va_W) (F : Nat → Prop) (E : State → Prop) (sz : Nat) : State → Prop := fun U => U.heap.size = sz ∧ va_P (gD g) vwCl L U.heap ∧ va_D (FF F sz) L ∧ va_K (gD g) vwCl (gT g) U ∧ KX U ∧ E U
def QG (g : gW) (F : Nat → Prop) (sz : Nat) (P2 : Option Value → va_W → va_W → Prop) : Array Value → State → Outcome → State → Prop := fun _ st oc t => ∃ v L2 N, P2 v L2 N ∧ oc = .returned v ∧ va_P (gD g) vwCl (L2 ++ N) t.heap ∧ va_D (FF F sz) (L2 ++ N) ∧ va_F (FF F sz) st t
def GT (g : gW) (l : Launch) (y : MethodName) (cc : ByteArray) (nL : Nat) (rt : Option FieldType) (k mc ms : Nat) (As : List Value) (E : State → Prop) (L : va_W) (F : Nat → Prop) (P2 : Option Value → va_W → va_W → Prop) : Prop :=
  ∀ sz : Nat, Met l y (ws_ y cc nL rt) (rK k mc ms) (va_Pc As (PG g L F E sz)) (QG g F sz P2) mc ms (FF F sz)
/-- what a caller's frame doesn't change -/
def EB (E : State → Prop) : Prop := ∀ (a : Array Value) (U : State) gg mk, E U → E (U.calling gg mk a)
def EM (s : State) (F : Nat → Prop) (E : State → Prop) : Prop := ∀ U : State, s.WarmedH U.vm → (∀ a : Nat, a < s.heap.size → ¬ F a → U.heap[a]? = s.heap[a]?) → E U
theorem EB.tt : EB (fun _ => True) := fun _ _ _ _ _ => trivial
theorem EM.tt {s : State} {F : Nat → Prop} : EM s F (fun _ => True) := fun _ _ _ => trivial
theorem KX.blind {a : Array Value} {U : State} {gg mk} (h : KX U) : KX (U.calling gg mk a) := ovA_moved (u := U) (U := U.calling gg mk a) (Vm.Alike.refl U.vm) h
theorem PG_blind {g : gW} {As : List Value} {L : va_W} {F : Nat → Prop} {E : State → Prop} {sz : Nat} (hE : EB E) : FrameBlind (va_Pc As (PG g L F E sz)) := by
  intro a U gg mk q
  obtain ⟨q0, q1, q2, q3, q4, q5, q6⟩ := q
  exact ⟨q0, q1, q2, q3, va_K.moved (u := U) (U := U.calling gg mk a) (Vm.Alike.refl U.vm) q4, q5.blind, hE a U gg mk q6⟩
theorem EXs_blind {g : gW} : EB (EXs g) := by
  intro a U gg mk q
  obtain ⟨q2, q3, q4, q5⟩ := q
  refine ⟨fun w hw => ?_, fun z hz => ?_, vx_Zq.moved (u := U) (U := U.calling gg mk a) (Vm.Alike.refl U.vm) q4, vx_Zq.moved (u := U) (U := U.calling gg mk a) (Vm.Alike.refl U.vm) q5⟩
  · have h1 := q2 w hw
    have ht : w.onTables = true := by
      simp only [NBl, List.mem_cons, List.not_mem_nil, or_false] at hw
      rcases hw with rfl | rfl | rfl | rfl | rfl | rfl <;> rfl
    exact va_Nw.same ht (u := U) rfl h1
  · obtain ⟨x, hx⟩ := q3 z hz
    exact ⟨x, vk_R.same (u := U) rfl hx⟩
/-- the script: below the world -/
def XS (g : gW) (b N : Nat) (xs : Nat → Int32) (U : State) : Prop := va_X b N xs U U.heap ∧ b < gB g ∧ b < U.heap.size
theorem XS_blind {g : gW} {b N : Nat} {xs : Nat → Int32} : EB (XS g b N xs) := by
  intro a U gg mk q
  exact ⟨va_X.moved (u := U) (U := U.calling gg mk a) (Vm.Alike.refl U.vm) q.1, q.2.1, q.2.2⟩
theorem EB.and {E1 E2 : State → Prop} (h1 : EB E1) (h2 : EB E2) : EB (fun U => E1 U ∧ E2 U) := fun a U gg mk q => ⟨h1 a U gg mk q.1, h2 a U gg mk q.2⟩
theorem EM.and {s : State} {F : Nat → Prop} {E1 E2 : State → Prop} (h1 : EM s F E1) (h2 : EM s F E2) : EM s F (fun U => E1 U ∧ E2 U) := fun U hW hq => ⟨h1 U hW hq, h2 U hW hq⟩
theorem EM.exs {g : gW} {s : State} {F : Nat → Prop} (h : EXs g s) (hF : ∀ q, q < s.heap.size → F q → AG g q) : EM s F (EXs g) := fun U hW hq => h.warm hW (fun a h2 h3 => hq a h2 (fun z => h3 (hF a h2 z)))
theorem EM.xs {g : gW} {s : State} {F : Nat → Prop} {b N : Nat} {xs : Nat → Int32} (h : XS g b N xs s) (hF : ∀ q, q < s.heap.size → F q → AG g q) : EM s F (XS g b N xs) := by
  intro U hW hq
  have e : U.heap[b]? = s.heap[b]? := hq b h.2.2 (fun z => Nat.lt_irrefl _ (Nat.lt_of_lt_of_le h.2.1 (hF b h.2.2 z)))
  refine ⟨va_X.moved hW.alike (h.1.kept e), h.2.1, ?_⟩
  obtain ⟨scr, h1, -⟩ := h.1
  rw [h1] at e
  exact (Array.getElem?_eq_some_iff.mp e).1
/-! apartness, in one list of addresses -/
theorem va_D_of {F : Nat → Prop} {L : va_W} (h1 : (L.map Prod.fst).Nodup) (h2 : ∀ x ∈ L, F x.1) : va_D F L := by
  refine ⟨fun i j p q hi hj e => ?_, fun k q hk => h2 q (List.mem_of_getElem? hk)⟩
  have h := List.pairwise_iff_getElem.mp h1
  obtain ⟨li, ei⟩ := List.getElem?_eq_some_iff.mp hi
  obtain ⟨lj, ej⟩ := List.getElem?_eq_some_iff.mp hj
  rcases Nat.lt_trichotomy i j with z | z | z
  · exact (h i j (by simpa using li) (by simpa using lj) z (by simp only [List.getElem_map, ei, ej]; exact e)).elim
  · exact z
  · exact (h j i (by simpa using lj) (by simpa using li) z (by simp only [List.getElem_map, ei, ej]; exact e.symm)).elim
theorem va_D.nd {F : Nat → Prop} {L : va_W} (h : va_D F L) : (L.map Prod.fst).Nodup := by
  refine List.pairwise_iff_getElem.mpr (fun i j hi hj hij e => ?_)
  simp only [List.length_map] at hi hj
  simp only [List.getElem_map] at e
  have := h.1 i j _ _ (List.getElem?_eq_getElem hi) (List.getElem?_eq_getElem hj) e
  omega
theorem va_D.mem {F : Nat → Prop} {L : va_W} (h : va_D F L) : ∀ x ∈ L, F x.1 := by
  intro x hx
  obtain ⟨k, hk⟩ := List.getElem?_of_mem hx
  exact h.2 k x hk
theorem va_P_of {D : va_G} {cl : List vw_C} {L : va_W} {H : Heap} (h : ∀ x ∈ L, va_at D cl x H) : va_P D cl L H := fun _ q hk => h q (List.mem_of_getElem? hk)
theorem va_P.mem {D : va_G} {cl : List vw_C} {L : va_W} {H : Heap} (h : va_P D cl L H) : ∀ x ∈ L, va_at D cl x H := by
  intro x hx
  obtain ⟨k, hk⟩ := List.getElem?_of_mem hx
  exact h k x hk
/-- the caller's cells A, B around the callee's, when it has come back -/
theorem join_P {D : va_G} {cl : List vw_C} {A B L L2 N : va_W} {H H1 : Heap} {G : Nat → Prop} (hP : va_P D cl (A ++ (L ++ B)) H) (hP1 : va_P D cl (L2 ++ N) H1) (hap : ∀ x ∈ A ++ B, ¬ G x.1) (hk : ∀ q : Nat, q < H.size → ¬ FF G H.size q → H1[q]? = H[q]?) : va_P D cl (A ++ (L2 ++ (B ++ N))) H1 := by
  refine va_P_of (fun x hx => ?_)
  have old : ∀ x, x ∈ A ∨ x ∈ B → va_at D cl x H1 := by
    intro x hx
    have h1 : va_at D cl x H := hP.mem x (by simp only [List.mem_append]; rcases hx with h | h; exact Or.inl h; exact Or.inr (Or.inr h))
    refine h1.kept (hk _ h1.lt (fun z => ?_))
    rcases z with z | z
    · exact hap x (List.mem_append.mpr hx) z
    · exact absurd h1.lt (by omega)
  simp only [List.mem_append] at hx
  rcases hx with h | h | h | h
  · exact old x (Or.inl h)
  · exact hP1.mem x (List.mem_append_left _ h)
  · exact old x (Or.inr h)
  · exact hP1.mem x (List.mem_append_right _ h)
theorem join_D {D : va_G} {cl : List vw_C} {A B L L2 N : va_W} {H : Heap} {G Fc : Nat → Prop} (hP : va_P D cl (A ++ (L ++ B)) H) (hD : va_D Fc (A ++ (L ++ B))) (hD1 : va_D (FF G H.size) (L2 ++ N)) (hap : ∀ x ∈ A ++ B, ¬ G x.1) (hF : ∀ q, FF G H.size q → Fc q) : va_D Fc (A ++ (L2 ++ (B ++ N))) := by
  have old : ∀ x, x ∈ A ∨ x ∈ B → x ∈ A ++ (L ++ B) := by
    intro x hx
    simp only [List.mem_append]
    rcases hx with h | h
    · exact Or.inl h
    · exact Or.inr (Or.inr h)
  refine va_D_of ?_ (fun x hx => ?_)
  · have hperm : ((L2 ++ N).map Prod.fst ++ (A ++ B).map Prod.fst).Perm ((A ++ (L2 ++ (B ++ N))).map Prod.fst) := List.perm_iff_count.mpr (fun a => by simp only [List.map_append, List.count_append]; omega)
    refine hperm.nodup (List.nodup_append.mpr ⟨hD1.nd, ?_, fun a ha b hb e => ?_⟩)
    · refine List.Nodup.sublist ?_ hD.nd
      rw [List.map_append, List.map_append, List.map_append]
      exact List.Sublist.append_left (List.sublist_append_right _ _) _
    · subst e
      obtain ⟨x, hx, rfl⟩ := List.mem_map.mp ha
      obtain ⟨y, hy, e⟩ := List.mem_map.mp hb
      have h1 := hD1.mem x hx
      rw [← e] at h1
      rcases h1 with h1 | h1
      · exact hap y hy h1
      · have h2 : va_at D cl y H := hP.mem y (old y (List.mem_append.mp hy))
        exact absurd h2.lt (by omega)
  · simp only [List.mem_append] at hx
    rcases hx with h | h | h | h
    · exact hD.mem x (old x (Or.inl h))
    · exact hF _ (hD1.mem x (List.mem_append_left _ h))
    · exact hD.mem x (old x (Or.inr h))
    · exact hF _ (hD1.mem x (List.mem_append_right _ h))
section GGC
variable {g : gW} {p : Program} {l : Launch} {e : Env} {R : Room} {s : State} {m : MethodId} {args : Array Value} {below : List Frame} {meth : Method} {c : Code} {cc : ByteArray} {nL : Nat} {own : String} {L : va_W} {F : Nat → Prop} {lv : List (Nat × Value)} {cells slots : Nat} {Q : State → Prop} {pc : Nat} {st : List Value}
theorem gg_sub {L2 : va_W} (hs : L2.Sublist L) (k : GW g p l e R s m args below meth c nL L2 F lv cells slots Q pc st) : GW g p l e R s m args below meth c nL L F lv cells slots Q pc st :=
  gg_mem (fun x hx => hs.subset hx) (fun hD => va_D_of (List.Nodup.sublist (hs.map _) hD.nd) (fun x hx => hD.mem x (hs.subset hx))) k
theorem GT.of {y : MethodName} {rt : Option FieldType} {k mc ms : Nat} {As : List Value} {E : State → Prop} {P2 : Option Value → va_W → va_W → Prop} {lv0 : List (Nat × Value)} (hy : plainFor y = true) (hn : (lg_sl As).length ≤ nL) (hl0 : lv_args 0 As = lv0)
    (body : ∀ (p : Program) (e : Env) (s : State) (m : MethodId) (below : List Frame) (meth : Method) (c : Code), CG g p s m As.toArray meth c cc nL y.cls → E s → meth.sig.returnType = rt → va_D (FF F s.heap.size) L → va_P (gD g) vwCl L s.heap →
      GW g p l e (rK k mc ms) s m As.toArray below meth c nL L (FF F s.heap.size) lv0 0 0 (MQ below (QG g F s.heap.size P2) As.toArray s mc ms (FF F s.heap.size)) 0 []) : GT g l y cc nL rt k mc ms As E L F P2 := by
  intro sz
  refine va_MetF (cc := cc) (maxL := nL) (ret := rt) (ws' := TT) hy rfl ?_
  intro p e s m args below meth c s₁ B hml hv
  obtain ⟨rfl, hsz, hP, hD, hK, hX, hE⟩ := hv
  subst hsz
  have hts := atoms_spec (ws := ws_ y cc nL rt) B.pre
  have hown : s.vm.findClass y.cls = some m.cls := findClass_of_methodNamed B.named
  have hl := lv_entry As (n := nL) hn
  rw [lg_entry_eq]
  rw [hl0] at hl
  exact body p e s m below meth c ⟨B.exec, B.bytes, hml, hown, fun w hw => hts w (List.mem_cons_of_mem _ hw), hK, B.notSynchronized, hX⟩ hE B.returns hD hP s.heap [] _ hP hD va_S.rf hl
/-- the ends -/
theorem QG_now {v : Option Value} {P2 : Option Value → va_W → va_W → Prop} {L2 N : va_W} (hL : L = L2 ++ N) (hp : P2 v L2 N) {H : Heap} {locs : List Loc} (hP : va_P (gD g) vwCl L H) (hD : va_D (FF F s.heap.size) L) (hS : va_S (FF F s.heap.size) s.heap H locs) : ∀ t : State, t.heap = H → s.WarmedH t.vm → QG g F s.heap.size P2 args s (.returned v) t :=
  fun t ht _ => ⟨v, L2, N, hp, rfl, by rw [ht, ← hL]; exact hP, by rw [← hL]; exact hD, hS.F ht⟩
theorem gg_iret (C : CG g p s m args meth c cc nL own) {r : Int32} {P2 : Option Value → va_W → va_W → Prop} (L2 N : va_W) (hL : L = L2 ++ N) (hp : P2 (some (.int r)) L2 N) (hr : meth.sig.returnType = some .int) (hd : decode cc pc = .ok (.ireturn, 1)) : GW g p l e R s m args below meth c nL L (FF F s.heap.size) lv cells slots (MQ below (QG g F s.heap.size P2) args s cells slots (FF F s.heap.size)) pc [.int r] :=
  fun H locs ls hP hD hS hl => W.iret C.1 C.2.1 hr (QG_now hL hp hP hD hS) hS.2.2 hd C.2.2.2.2.2.2.1
theorem gg_zret (C : CG g p s m args meth c cc nL own) {r : Int32} {P2 : Option Value → va_W → va_W → Prop} (L2 N : va_W) (hL : L = L2 ++ N) (hp : P2 (some (.int r)) L2 N) (hz : r = 0 ∨ r = 1) (hr : meth.sig.returnType = some .boolean) (hd : decode cc pc = .ok (.ireturn, 1)) : GW g p l e R s m args below meth c nL L (FF F s.heap.size) lv cells slots (MQ below (QG g F s.heap.size P2) args s cells slots (FF F s.heap.size)) pc [.int r] :=
  fun H locs ls hP hD hS hl => W.zret C.1 C.2.1 hr (by rcases hz with rfl | rfl <;> rfl) (QG_now hL hp hP hD hS) hS.2.2 hd C.2.2.2.2.2.2.1
theorem gg_vret (C : CG g p s m args meth c cc nL own) {P2 : Option Value → va_W → va_W → Prop} (L2 N : va_W) (hL : L = L2 ++ N) (hp : P2 none L2 N) (hr : meth.sig.returnType = none) (hd : decode cc pc = .ok (.return_, 1)) : GW g p l e R s m args below meth c nL L (FF F s.heap.size) lv cells slots (MQ below (QG g F s.heap.size P2) args s cells slots (FF F s.heap.size)) pc [] :=
  fun H locs ls hP hD hS hl => W.vret C.1 C.2.1 hr (QG_now hL hp hP hD hS) hS.2.2 hd C.2.2.2.2.2.2.1
theorem gg_aret (C : CG g p s m args meth c cc nL own) {a : Nat} {P2 : Option Value → va_W → va_W → Prop} (L2 N : va_W) (hL : L = L2 ++ N) (hp : P2 (some (.ref a)) L2 N) {ty : FieldType} (hr : meth.sig.returnType = some ty) (hty : (∃ n, ty = .object n) ∨ ∃ t, ty = .array t) (hd : decode cc pc = .ok (.areturn, 1)) : GW g p l e R s m args below meth c nL L (FF F s.heap.size) lv cells slots (MQ below (QG g F s.heap.size P2) args s cells slots (FF F s.heap.size)) pc [.ref a] :=
  fun H locs ls hP hD hS hl => W.aret C.1 C.2.1 hr hty (Or.inr ⟨a, rfl⟩) (QG_now hL hp hP hD hS) hS.2.2 hd C.2.2.2.2.2.2.1
/-- behind a call -/
theorem gg_after {mc ms : Nat} {A B : va_W} {G : Nat → Prop} {P2 : Option Value → va_W → va_W → Prop} {rest st0 : List Value} {a : Array Value} {H : Heap} {locs : List Loc} {ls : Array Slot} (hG : ∀ q, FF G s.heap.size q → F q) (hap : ∀ x ∈ A ++ B, ¬ G x.1) (hP : va_P (gD g) vwCl (A ++ (L ++ B)) H) (hD : va_D F (A ++ (L ++ B))) (hS : va_S F s.heap H locs) (hl : lv_has ls nL lv)
    (hr : va_Run p l e R s m args below meth c H locs cells slots mc ms (F0 m pc ls st0) rest (QG g G H.size P2 a) (FF G H.size))
    (kk : ∀ v L2 N, P2 v L2 N → GW g p l e R s m args below meth c nL (A ++ (L2 ++ (B ++ N))) F lv (cells + mc) (slots + ms) Q (pc + 3) (v.toList ++ rest)) : W p l e R s m args below meth c H locs cells slots Q (F0 m pc ls st0) := by
  intro T hT X0
  obtain ⟨v9, st₀, t, T', Lc, h0, X', hL, e1, e2, ⟨v, L2, N, hp2, hv, hp, hd1, hz, hk⟩, st9⟩ := hr T hT X0
  cases hv
  rw [h0] at hz hk
  have hF : ∀ q, FF G H.size q → F q := fun q hq => hG q (hq.elim Or.inl (fun z => Or.inr (Nat.le_trans hS.1 z)))
  have hP1 := join_P (A := A) (B := B) hP hp hap hk
  have hD1 := join_D (A := A) (B := B) hP hD hd1 hap hF
  obtain ⟨t2, a1, b1⟩ := kk v9 L2 N hp2 T'.heap (locs ++ Lc) ls (by rw [e1]; exact hP1) hD1
    ⟨Nat.le_trans hS.1 (by rw [e1]; exact hz), fun q h1 h2 => by rw [e1, hk q (Nat.lt_of_lt_of_le h1 hS.1) (fun z => h2 (hF q z))]; exact hS.2.1 q h1 h2, fun q hq => by
      rcases List.mem_append.mp hq with h3 | h3
      · exact hS.2.2 q h3
      · exact hF _ (hL q h3)⟩ hl T' rfl X'
  exact ⟨t2, st9 t2 a1, b1⟩
theorem PG_now {y : MethodName} {As : List Value} {A B : va_W} {G : Nat → Prop} {E : State → Prop} (C : CG g p s m args meth c cc nL own) (hE : EM s F E) (hG : ∀ x ∈ L, G x.1) {H : Heap} {locs : List Loc} (hP : va_P (gD g) vwCl (A ++ (L ++ B)) H) (hD : va_D F (A ++ (L ++ B))) (hS : va_S F s.heap H locs) : ∀ U : State, U.heap = H → s.WarmedH U.vm → va_Pc As (PG g L G E H.size) As.toArray U := by
  intro U hU hW
  refine ⟨rfl, by rw [hU], ?_, ?_, va_K.moved hW.alike C.2.2.2.2.2.1, C.2.2.2.2.2.2.2.moved hW, hE U hW (fun a h1 h2 => by rw [hU]; exact hS.2.1 a h1 h2)⟩
  · rw [hU]
    exact va_P_of (fun x hx => hP.mem x (List.mem_append_right _ (List.mem_append_left _ hx)))
  · refine va_D_of ?_ (fun x hx => Or.inl (hG x hx))
    refine List.Nodup.sublist ?_ hD.nd
    rw [List.map_append, List.map_append]
    exact (List.sublist_append_left _ _).trans (List.sublist_append_right _ _)
theorem gg_callS (C : CG g p s m args meth c cc nL own) {y : MethodName} {cY : ByteArray} {nLY k mc ms n idx : Nat} {rt : Option FieldType} {As rest : List Value} {A B : va_W} {G : Nat → Prop} {E : State → Prop} {P2 : Option Value → va_W → va_W → Prop} (hF : MFs y cY nLY rt n) (hM : GT g l y cY nLY rt k mc ms As E L G P2) (hEb : EB E) (hE : EM s F E) (hGL : ∀ x ∈ L, G x.1) (hG : va_D F (A ++ (L ++ B)) → ∀ q, FF G s.heap.size q → F q) (hap : va_D F (A ++ (L ++ B)) → ∀ x, x ∈ A ∨ x ∈ B → ¬ G x.1) (hlink : Cond.methodLink own idx y ∈ TT)
    (hAs : As.length = n) (hst : st = As.reverse ++ rest) (hcat : (rest.map fun v => v.category).sum ≤ 8) (hk : k + 1 ≤ R.frames ∧ 8 + (nLY + 11) + 28 * k ≤ R.locals) (hr : cells + mc ≤ R.cells ∧ slots + ms ≤ R.slots) (hd : decode cc pc = .ok (.invokestatic idx, 3))
    (kk : ∀ v L2 N, P2 v L2 N → GW g p l e R s m args below meth c nL (A ++ (L2 ++ (B ++ N))) F lv (cells + mc) (slots + ms) Q (pc + 3) (v.toList ++ rest)) : GW g p l e R s m args below meth c nL (A ++ (L ++ B)) F lv cells slots Q pc st := by
  intro H locs ls hP hD hS hl
  have ht := C.2.2.2.2.1
  obtain ⟨⟨f1, f2, ⟨f3, f4, f5⟩, -⟩, f6⟩ := hF
  exact gg_after (hG hD) (fun x hx => hap hD x (List.mem_append.mp hx)) hP hD hS hl (va_runS (Ts := TT) (own := own) (As := As) (rest := rest) ⟨C.1, C.2.1, C.2.2.1, C.2.2.2.1, ht⟩ (hM H.size) ⟨callB_of n ht (ws_good (own := own) (idx := idx) f1) rfl rfl rfl (ht _ f2) (ht _ hlink) ⟨f3, f4, f5⟩ hk, ht _ f6⟩ ⟨PG_blind hEb, PG_now (y := y) C hE hGL hP hD hS⟩ rfl hAs hl.1 hst (lv_room hcat) hd hr) kk
theorem gg_callV (C : CG g p s m args meth c cc nL own) {y : MethodName} {cY : ByteArray} {nLY k mc ms n idx ci o : Nat} {rt : Option FieldType} {As rest : List Value} {A B : va_W} {G : Nat → Prop} {E : State → Prop} {P2 : Option Value → va_W → va_W → Prop} (hF : MFv y cY nLY rt n) (hM : GT g l y cY nLY rt k mc ms (.ref o :: As) E L G P2) (hEb : EB E) (hE : EM s F E) (hGL : ∀ x ∈ L, G x.1) (hG : va_D F (A ++ (L ++ B)) → ∀ q, FF G s.heap.size q → F q) (hap : va_D F (A ++ (L ++ B)) → ∀ x, x ∈ A ∨ x ∈ B → ¬ G x.1) (hlink : Cond.methodLink own idx y ∈ TT)
    {q : vw_C} (hq : vwCl[ci]? = some q) (hqc : q.1 = y.cls) {fs : List Value} (i : Nat) (hce : L[i]? = some (o, .inr (ci, fs))) (hAs : As.length = n) (hst : st = As.reverse ++ .ref o :: rest) (hcat : (rest.map fun v => v.category).sum ≤ 8) (hk : k + 1 ≤ R.frames ∧ 8 + (nLY + 11) + 28 * k ≤ R.locals) (hr : cells + mc ≤ R.cells ∧ slots + ms ≤ R.slots) (hd : decode cc pc = .ok (.invokevirtual idx, 3))
    (kk : ∀ v L2 N, P2 v L2 N → GW g p l e R s m args below meth c nL (A ++ (L2 ++ (B ++ N))) F lv (cells + mc) (slots + ms) Q (pc + 3) (v.toList ++ rest)) : GW g p l e R s m args below meth c nL (A ++ (L ++ B)) F lv cells slots Q pc st := by
  intro H locs ls hP hD hS hl
  have ht := C.2.2.2.2.1
  obtain ⟨⟨f1, f2, ⟨f3, f4, f5⟩, -⟩, f6, f7⟩ := hF
  have hcell : ∃ cellB : Cell, H[o]? = some cellB ∧ cellB.vm.isStatics = false ∧ s.vm.findClass y.cls = some cellB.cls := by
    have hmem : (o, (.inr (ci, fs) : va_E)) ∈ A ++ (L ++ B) := List.mem_append_right _ (List.mem_append_left _ (List.mem_of_getElem? hce))
    obtain ⟨j, hj⟩ := List.getElem?_of_mem hmem
    have := va_recv C.2.2.2.2.2.1 hP hq hj
    rw [hqc] at this
    exact this
  exact gg_after (hG hD) (fun x hx => hap hD x (List.mem_append.mp hx)) hP hD hS hl (va_runV (Ts := TT) (own := own) (C := y.cls) (As := As) (rest := rest) ⟨C.1, C.2.1, C.2.2.1, C.2.2.2.1, ht⟩ (hM H.size) ⟨callB_of n ht (ws_good (own := own) (idx := idx) f1) rfl rfl rfl (ht _ f2) (ht _ hlink) ⟨f3, f4, f5⟩ hk, ht _ f6, ht _ f7⟩ ⟨PG_blind hEb, hcell, PG_now (y := y) C hE hGL hP hD hS⟩ rfl hAs hl.1 hst (lv_room hcat) hd hr) kk
/-- the script, read -/
theorem gg_slen (C : CG g p s m args meth c cc nL own) {b N : Nat} {xs : Nat → Int32} (hX : va_X b N xs s s.heap) (hb : b < s.heap.size) (hbF : ¬ F b) (hd : decode cc pc = .ok (.arraylength, 1)) (kk : GW g p l e R s m args below meth c nL L F lv cells slots Q (pc + 1) (.int (Int32.ofNat N) :: st)) : GW g p l e R s m args below meth c nL L F lv cells slots Q pc (.ref b :: st) :=
  fun H locs ls hP hD hS hl => va_slen C.1 C.2.1 hX hb hbF hS hd (kk H locs ls hP hD hS hl)
theorem gg_sld (C : CG g p s m args meth c cc nL own) {b N j : Nat} {xs : Nat → Int32} {x : Int32} (hX : va_X b N xs s s.heap) (hb : b < s.heap.size) (hbF : ¬ F b) (hx : x = nI j) (hj : j < N) (hN : N < 2 ^ 31) (hd : decode cc pc = .ok (.iaload, 1)) (kk : GW g p l e R s m args below meth c nL L F lv cells slots Q (pc + 1) (.int (xs j) :: st)) : GW g p l e R s m args below meth c nL L F lv cells slots Q pc (.int x :: .ref b :: st) := by
  intro H locs ls hP hD hS hl
  subst hx
  have ej : (nI j).toNatClampNeg = j := nI_clamp (by omega)
  refine va_sld C.1 C.2.1 hX hb hbF hS (vp_in_nI hj hN) hd ?_
  rw [ej]
  exact kk H locs ls hP hD hS hl
end GGC
/-- the law's Sim as a callee's world -/
def SF (A : Ad) (n f : Nat) : Nat → Prop := fun q => ∃ o, vO n f o ∧ q = A o
theorem sx_mem {g : gW} {A : Ad} {n f : Nat} {r : Hp} : ∀ x ∈ sx g A n f r, SF A n f x.1 := by
  intro x hx
  unfold sx at hx
  obtain ⟨i, hi, rfl⟩ := List.mem_map.mp hx
  exact ⟨sO n i, vO_O (List.mem_range.mp hi), rfl⟩
theorem sx_at {g : gW} {A : Ad} {n f o : Nat} {r : Hp} (hn : n ≤ 10) (ho : vO n f o) : (A o, sc g A n f (r o) o) ∈ sx g A n f r := List.mem_of_getElem? (sx_get hn ho)
theorem sx_hG {g : gW} {A : Ad} {n f sz : Nat} {r : Hp} {P0 Y : va_W} {F : Nat → Prop} (hn : n ≤ 10) (hF : ∀ q, sz ≤ q → F q) (hD : va_D F (P0 ++ (sx g A n f r ++ Y))) : ∀ q, FF (SF A n f) sz q → F q := by
  intro q hq
  rcases hq with ⟨o, ho, rfl⟩ | hq
  · exact hD.mem _ (List.mem_append_right _ (List.mem_append_left _ (sx_at hn ho)))
  · exact hF q hq
theorem sx_hap {g : gW} {A : Ad} {n f : Nat} {r : Hp} {P0 Y : va_W} {F : Nat → Prop} (hn : n ≤ 10) (hD : va_D F (P0 ++ (sx g A n f r ++ Y))) : ∀ x, x ∈ P0 ∨ x ∈ Y → ¬ SF A n f x.1 := by
  rintro x hx ⟨o, ho, e⟩
  have hd := hD.nd
  rw [List.map_append, List.map_append] at hd
  have hm : A o ∈ (sx g A n f r).map Prod.fst := List.mem_map.mpr ⟨_, sx_at hn ho, rfl⟩
  obtain ⟨-, h2, h3⟩ := List.nodup_append.mp hd
  rcases hx with h | h
  · exact h3 x.1 (List.mem_map.mpr ⟨x, h, rfl⟩) (A o) (List.mem_append_left _ hm) e
  · exact (List.nodup_append.mp h2).2.2 (A o) hm x.1 (List.mem_map.mpr ⟨x, h, rfl⟩) e.symm
