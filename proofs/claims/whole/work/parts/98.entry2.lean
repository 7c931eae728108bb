theorem en_str {b : Nat} {s : State} (hts : ∀ w ∈ lw_tbl, w.before #[Value.ref b] s = true) (hg : (Jvm.Cond.and given_1 narrow_1).before #[Value.ref b] s = true) {own tx : String} {k i : Nat} (hw : tables_1[i]? = some (.stringRef own k tx)) (hx : Cond.exactly (.string own k) "java/lang/String" ∈ flatC (Jvm.Cond.and given_1 narrow_1)) : ∃ a, vk_R own k tx a s := by
  obtain ⟨a, c, cA, kA, q1, -⟩ := Cond.exactly_spec (args := #[Value.ref b]) (first := s) (o := none) (s := s) (idx := []) (t := .string own k) (cls := "java/lang/String") (flat_of_before _ hg _ hx)
  exact ⟨a, vk_R.of (raw_word hts hw) q1⟩
set_option maxRecDepth 100000 in
set_option maxHeartbeats 4000000 in
theorem en_EXs {b : Nat} {s : State} {g : gW} (hB : gB g = s.heap.size) (hts : ∀ w ∈ lw_tbl, w.before #[Value.ref b] s = true) (hg : (Jvm.Cond.and given_1 narrow_1).before #[Value.ref b] s = true) : EXs g s := by
  have hA : ∀ a : Nat, a < s.heap.size → ¬ AG g a := fun a ha z => by
    have z : gB g ≤ a := z
    omega
  refine ⟨fun w hw => ?_, fun q hq => ?_, vx_Zqof (raw_word hts (i := 248) (by decide +kernel)) (raw_word hts (i := 8) (by decide +kernel)) (flat_of_before _ hg (.isRef (.static Bundle.tN "UNASSIGNED_STACK" Bundle.steD)) (by decide +kernel)) hA, vx_Zqof (raw_word hts (i := 250) (by decide +kernel)) (raw_word hts (i := 8) (by decide +kernel)) (flat_of_before _ hg (.isRef (.static Bundle.tN "SUPPRESSED_SENTINEL" Bundle.listD)) (by decide +kernel)) hA⟩
  · simp only [NBl, List.mem_cons, List.not_mem_nil, or_false] at hw
    rcases hw with rfl | rfl | rfl | rfl | rfl | rfl
    · exact va_Nw.of rfl (raw_word hts (i := 223) (by decide +kernel))
    · exact va_Nw.of rfl (raw_word hts (i := 349) (by decide +kernel))
    · exact va_Nw.of rfl (raw_word hts (i := 370) (by decide +kernel))
    · exact va_Nw.of rfl (raw_word hts (i := 225) (by decide +kernel))
    · exact va_Nw.of rfl (raw_word hts (i := 227) (by decide +kernel))
    · exact va_Nw.of rfl (raw_word hts (i := 229) (by decide +kernel))
  · simp only [SLl, List.mem_cons, List.not_mem_nil, or_false] at hq
    rcases hq with rfl | rfl | rfl | rfl | rfl | rfl | rfl | rfl | rfl | rfl | rfl | rfl | rfl | rfl | rfl | rfl | rfl | rfl | rfl | rfl | rfl
    · exact en_str hts hg (i := 262) (by decide +kernel) (by decide +kernel)
    · exact en_str hts hg (i := 294) (by decide +kernel) (by decide +kernel)
    · exact en_str hts hg (i := 308) (by decide +kernel) (by decide +kernel)
    · exact en_str hts hg (i := 323) (by decide +kernel) (by decide +kernel)
    · exact en_str hts hg (i := 332) (by decide +kernel) (by decide +kernel)
    · exact en_str hts hg (i := 334) (by decide +kernel) (by decide +kernel)
    · exact en_str hts hg (i := 356) (by decide +kernel) (by decide +kernel)
    · exact en_str hts hg (i := 363) (by decide +kernel) (by decide +kernel)
    · exact en_str hts hg (i := 377) (by decide +kernel) (by decide +kernel)
    · exact en_str hts hg (i := 388) (by decide +kernel) (by decide +kernel)
    · exact en_str hts hg (i := 397) (by decide +kernel) (by decide +kernel)
    · exact en_str hts hg (i := 405) (by decide +kernel) (by decide +kernel)
    · exact en_str hts hg (i := 412) (by decide +kernel) (by decide +kernel)
    · exact en_str hts hg (i := 436) (by decide +kernel) (by decide +kernel)
    · exact en_str hts hg (i := 449) (by decide +kernel) (by decide +kernel)
    · exact en_str hts hg (i := 457) (by decide +kernel) (by decide +kernel)
    · exact en_str hts hg (i := 465) (by decide +kernel) (by decide +kernel)
    · exact en_str hts hg (i := 470) (by decide +kernel) (by decide +kernel)
    · exact en_str hts hg (i := 482) (by decide +kernel) (by decide +kernel)
    · exact en_str hts hg (i := 508) (by decide +kernel) (by decide +kernel)
    · exact en_str hts hg (i := 622) (by decide +kernel) (by decide +kernel)
