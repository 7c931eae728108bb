/-- the same write at a day's weather on both sides, the reference after the class -/
theorem SIM.wt {d n f j k v : Nat} {c m : Hp} (hn : n ≤ 10) (S : SIM d n f c m) (hj : j < 10) (hk : k < 3) (hv : v ≤ 9) : SIM d n f (hp_up c (d + 2 + j) k (nI v)) (hp_up m 66 (3 * j + k) (nI v)) := by
  obtain ⟨⟨r1, r2, r3, r4, r5⟩, ⟨i1, i2, i3, i4, i5⟩, L, O⟩ := S
  have K : KEEP d n c (hp_up c (d + 2 + j) k (nI v)) := KEEP.up (by omega) (fun i _ => Or.inl (by omega))
  refine ⟨⟨fun i q hi hq => ?_, fun i q hi hq => ?_, fun i q hi hq => ?_, fun i q hi hq => ?_, ?_⟩, ⟨i1.other (fun i _ => Or.inl (by omega)), fun i q hi hq => ?_, fun i hi => ?_, fun i hi => ?_, fun i hi => ?_⟩, L.keep K, O.keep K⟩
  · rw [hp_ne (by omega), hp_ne (by omega)]; exact r1 i q hi hq
  · rw [hp_ne (by omega), hp_ne (by omega)]; exact r2 i q hi hq
  · rw [hp_ne (by omega), hp_ne (by omega)]; exact r3 i q hi hq
  · by_cases e : i = j ∧ q = k
    · obtain ⟨rfl, rfl⟩ := e
      rw [hp_eq, hp_eq]
      unfold upd
      rw [if_pos rfl, if_pos rfl]
    · rw [hp_off (by omega), hp_off (Or.inr (by omega))]; exact r4 i q hi hq
  · rw [hp_ne (by omega), hp_ne (by omega)]; exact r5
  · by_cases e : i = j ∧ q = k
    · obtain ⟨rfl, rfl⟩ := e
      refine ⟨v, hv, ?_⟩
      rw [hp_eq]
      unfold upd
      rw [if_pos rfl]
    · rw [hp_off (by omega)]; exact i2 i q hi hq
  · rw [hp_ne (by omega)]; exact i3 i hi
  · rw [hp_ne (by omega)]; exact i4 i hi
  · rw [hp_ne (by omega)]; exact i5 i hi
