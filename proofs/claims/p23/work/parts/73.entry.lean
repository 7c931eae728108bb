/-! what the entry gives: classes, rows, texts, statics -/
theorem raw_word {b : Nat} {s : State} {w : Cond} (hts : ∀ w ∈ lw_tbl, w.before #[Value.ref b] s = true) {i : Nat} (hw : tables_1[i]? = some w) : w.before #[Value.ref b] s = true := hts w (List.mem_append_right _ (List.mem_of_getElem? hw))
theorem en_arr {args : Array Value} {s : State} {ty : FieldType} (hnb : ∀ C, ty ≠ .object C) (h : (Cond.arrayClass ty).before args s = true) : ∃ cA, ArrOfT s cA ty ∧ va_RA s cA ty := by
  obtain ⟨cA, kA, comp, h1, h2, h3⟩ := Cond.arrayClass_spec h
  refine ⟨cA, fun n z => ⟨(fun k h => by cases h), kA, h2, comp, h3⟩, ?_⟩
  cases ty with
  | object C => exact absurd rfl (hnb C)
  | _ => exact h1
theorem en_obj {args : Array Value} {s : State} {C : String} (h : (Cond.arrayOver (.object C)).before args s = true) : ∃ cA, ArrOfT s cA (.object C) ∧ va_RA s cA (.object C) := by
  obtain ⟨comp, cA, kA, h1, h2, h3, h4, h5⟩ := Cond.arrayOver_spec h
  exact ⟨cA, fun n z => ⟨(fun k h => by cases h), kA, h3, comp, h4⟩, kA, comp, h3, h4, h1, h5⟩
theorem en_aarr {args : Array Value} {s : State} (h : (Cond.arrayOver (.array .int)).before args s = true) : ∃ cA, ArrOfT s cA (.array .int) ∧ va_RA s cA (.array .int) := by
  obtain ⟨comp, cA, kA, h1, h2, h3, h4, h5⟩ := arrayOverA_spec h
  exact ⟨cA, fun n z => ⟨(fun k h => by cases h), kA, h3, comp, h4⟩, h5⟩
set_option maxRecDepth 100000 in
set_option maxHeartbeats 4000000 in
theorem en_K {b : Nat} {s : State} (hts : ∀ w ∈ lw_tbl, w.before #[Value.ref b] s = true) : ∃ g : gW, gB g = s.heap.size ∧ va_K (gD g) vwCl (gT g) s := by
  have ht : ∀ w ∈ TT, w.before #[Value.ref b] s = true := fun w hw => hts w (List.mem_filter.mp hw).1
  obtain ⟨c0, i0, k0⟩ := u_known (C := RX0) (T := TX0) (N := 8) (n := 8) ht inX0 (ht _ q_a_X0)
  obtain ⟨c1, i1, k1⟩ := u_known (C := RX1) (T := TX1) (N := 5) (n := 5) ht inX1 (ht _ q_a_X1)
  obtain ⟨c2, i2, k2⟩ := u_known (C := RX2) (T := TX2) (N := 10) (n := 10) ht inX2 (ht _ q_a_X2)
  obtain ⟨c3, i3, k3⟩ := u_known (C := RX3) (T := TX3) (N := 3) (n := 3) ht inX3 (ht _ q_a_X3)
  obtain ⟨c4, i4, k4⟩ := u_known (C := RX4) (T := TX4) (N := 2) (n := 2) ht inX4 (ht _ q_a_X4)
  obtain ⟨c5, i5, k5⟩ := u_known (C := RX5) (T := TX5) (N := 5) (n := 5) ht inX5 (ht _ q_a_X5)
  obtain ⟨a0, r0⟩ := en_arr (ty := .int) (fun _ h => by cases h) (ht _ q_ac_int)
  obtain ⟨a1, r1⟩ := en_obj (raw_word hts (i := 29) (w := .arrayOver (.object RX3)) (by decide +kernel))
  obtain ⟨a2, r2⟩ := en_obj (raw_word hts (i := 52) (w := .arrayOver (.object RX2)) (by decide +kernel))
  obtain ⟨a3, r3⟩ := en_obj (raw_word hts (i := 111) (w := .arrayOver (.object RX1)) (by decide +kernel))
  obtain ⟨a4, r4⟩ := en_aarr (raw_word hts (i := 513) (w := .arrayOver (.array .int)) (by decide +kernel))
  obtain ⟨a5, r5⟩ := en_arr (ty := .boolean) (fun _ h => by cases h) (raw_word hts (i := 494) (w := .arrayClass .boolean) (by decide +kernel))
  refine ⟨(fun k => if k = 0 then c0 else if k = 1 then c1 else if k = 2 then c2 else if k = 3 then c3 else if k = 4 then c4 else c5, fun k => if k = 0 then i0 else if k = 1 then i1 else if k = 2 then i2 else if k = 3 then i3 else if k = 4 then i4 else i5, fun k => if k = 0 then a0 else if k = 1 then a1 else if k = 2 then a2 else if k = 3 then a3 else if k = 4 then a4 else a5, s.heap.size), rfl, fun k q hq => ?_, fun k q hq => ?_⟩
  · match k, hq with
    | 0, hq => cases hq; exact k0
    | 1, hq => cases hq; exact k1
    | 2, hq => cases hq; exact k2
    | 3, hq => cases hq; exact k3
    | 4, hq => cases hq; exact k4
    | 5, hq => cases hq; exact k5
    | k + 6, hq => cases hq
  · match k, hq with
    | 0, hq => cases hq; exact r0
    | 1, hq => cases hq; exact r1
    | 2, hq => cases hq; exact r2
    | 3, hq => cases hq; exact r3
    | 4, hq => cases hq; exact r4
    | 5, hq => cases hq; exact r5
    | k + 6, hq => cases hq
theorem en_KX {b : Nat} {s : State} (hts : ∀ w ∈ lw_tbl, w.before #[Value.ref b] s = true) : KX s := raw_word (b := b) hts (i := 513) (w := .arrayOver (.array .int)) (by decide +kernel)
theorem en_KN {b : Nat} {s : State} (hts : ∀ w ∈ lw_tbl, w.before #[Value.ref b] s = true) : KN s := va_Nw.of rfl (raw_word hts (i := 508) (w := .methodLinkNest RL 11 yX5_init "DewPondLaw") (by decide +kernel))
theorem en_KC {b : Nat} {s : State} (hts : ∀ w ∈ lw_tbl, w.before #[Value.ref b] s = true) : KC s :=
  ⟨⟨va_Nw.of rfl (raw_word hts (i := 31) (w := .methodLinkNest RX0 21 yX3_init "DewPond") (by decide +kernel)), va_Nw.of rfl (raw_word hts (i := 54) (w := .methodLinkNest RX0 32 yX2_init "DewPond") (by decide +kernel)), va_Nw.of rfl (raw_word hts (i := 113) (w := .methodLinkNest RX0 45 yX1_init "DewPond") (by decide +kernel))⟩,
    va_AO.of (raw_word hts (i := 29) (w := .arrayOver (.object RX3)) (by decide +kernel)), va_AO.of (raw_word hts (i := 52) (w := .arrayOver (.object RX2)) (by decide +kernel)), va_AO.of (raw_word hts (i := 111) (w := .arrayOver (.object RX1)) (by decide +kernel))⟩
theorem en_str {b : Nat} {s : State} (hts : ∀ w ∈ lw_tbl, w.before #[Value.ref b] s = true) (hg : (Jvm.Cond.and given_1 narrow_1).before #[Value.ref b] s = true) {own tx : String} {k i : Nat} (hw : tables_1[i]? = some (.stringRef own k tx)) (hx : Cond.exactly (.string own k) "java/lang/String" ∈ flatC (Jvm.Cond.and given_1 narrow_1)) : ∃ a, vk_R own k tx a s := by
  obtain ⟨a, c, cA, kA, q1, -⟩ := Cond.exactly_spec (args := #[Value.ref b]) (first := s) (o := none) (s := s) (idx := []) (t := .string own k) (cls := "java/lang/String") (flat_of_before _ hg _ hx)
  exact ⟨a, vk_R.of (raw_word hts hw) q1⟩
set_option maxRecDepth 100000 in
set_option maxHeartbeats 4000000 in
theorem en_EXs {b : Nat} {s : State} {g : gW} (hB : gB g = s.heap.size) (hts : ∀ w ∈ lw_tbl, w.before #[Value.ref b] s = true) (hg : (Jvm.Cond.and given_1 narrow_1).before #[Value.ref b] s = true) : EXs g s := by
  have hA : ∀ a : Nat, a < s.heap.size → ¬ AG g a := fun a ha z => by
    have z : gB g ≤ a := z
    omega
  refine ⟨fun w hw => ?_, fun q hq => ?_, vx_Zqof (raw_word hts (i := 213) (by decide +kernel)) (raw_word hts (i := 8) (by decide +kernel)) (flat_of_before _ hg (.isRef (.static Bundle.tN "UNASSIGNED_STACK" Bundle.steD)) (by decide +kernel)) hA, vx_Zqof (raw_word hts (i := 215) (by decide +kernel)) (raw_word hts (i := 8) (by decide +kernel)) (flat_of_before _ hg (.isRef (.static Bundle.tN "SUPPRESSED_SENTINEL" Bundle.listD)) (by decide +kernel)) hA⟩
  · simp only [NBl, List.mem_cons, List.not_mem_nil, or_false] at hw
    rcases hw with rfl | rfl | rfl | rfl | rfl | rfl
    · exact va_Nw.of rfl (raw_word hts (i := 188) (by decide +kernel))
    · exact va_Nw.of rfl (raw_word hts (i := 298) (by decide +kernel))
    · exact va_Nw.of rfl (raw_word hts (i := 458) (by decide +kernel))
    · exact va_Nw.of rfl (raw_word hts (i := 190) (by decide +kernel))
    · exact va_Nw.of rfl (raw_word hts (i := 192) (by decide +kernel))
    · exact va_Nw.of rfl (raw_word hts (i := 194) (by decide +kernel))
  · simp only [SLl, List.mem_cons, List.not_mem_nil, or_false] at hq
    rcases hq with rfl | rfl | rfl | rfl | rfl | rfl | rfl | rfl | rfl | rfl | rfl | rfl | rfl | rfl | rfl | rfl | rfl | rfl | rfl | rfl | rfl
    · exact en_str hts hg (i := 416) (by decide +kernel) (by decide +kernel)
    · exact en_str hts hg (i := 327) (by decide +kernel) (by decide +kernel)
    · exact en_str hts hg (i := 227) (by decide +kernel) (by decide +kernel)
    · exact en_str hts hg (i := 276) (by decide +kernel) (by decide +kernel)
    · exact en_str hts hg (i := 286) (by decide +kernel) (by decide +kernel)
    · exact en_str hts hg (i := 288) (by decide +kernel) (by decide +kernel)
    · exact en_str hts hg (i := 539) (by decide +kernel) (by decide +kernel)
    · exact en_str hts hg (i := 540) (by decide +kernel) (by decide +kernel)
    · exact en_str hts hg (i := 545) (by decide +kernel) (by decide +kernel)
    · exact en_str hts hg (i := 550) (by decide +kernel) (by decide +kernel)
    · exact en_str hts hg (i := 558) (by decide +kernel) (by decide +kernel)
    · exact en_str hts hg (i := 594) (by decide +kernel) (by decide +kernel)
    · exact en_str hts hg (i := 600) (by decide +kernel) (by decide +kernel)
    · exact en_str hts hg (i := 565) (by decide +kernel) (by decide +kernel)
    · exact en_str hts hg (i := 573) (by decide +kernel) (by decide +kernel)
    · exact en_str hts hg (i := 622) (by decide +kernel) (by decide +kernel)
    · exact en_str hts hg (i := 582) (by decide +kernel) (by decide +kernel)
    · exact en_str hts hg (i := 465) (by decide +kernel) (by decide +kernel)
    · exact en_str hts hg (i := 616) (by decide +kernel) (by decide +kernel)
    · exact en_str hts hg (i := 305) (by decide +kernel) (by decide +kernel)
    · exact en_str hts hg (i := 447) (by decide +kernel) (by decide +kernel)
