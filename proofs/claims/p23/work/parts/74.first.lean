/-! the picture that the law's start makes -/
def h00 : Hp := fun o k => if o < 64 then (if o = 0 then 0 else if o < 32 then dz 1 o k else dz 32 o k) else if o = 69 ∧ k = 1 then 100 else 0
theorem h00_lo {o : Nat} (h0 : o ≠ 0) (h1 : o < 32) : h00 o = dz 1 o := by
  funext k
  unfold h00
  rw [if_pos (by omega), if_neg h0, if_pos h1]
theorem h00_mi {o : Nat} (h0 : 32 ≤ o) (h1 : o < 64) : h00 o = dz 32 o := by
  funext k
  unfold h00
  rw [if_pos h1, if_neg (by omega), if_neg (by omega)]
theorem h00_hi {o : Nat} (h1 : 64 ≤ o) : h00 o = fun k => if o = 69 ∧ k = 1 then 100 else 0 := by
  funext k
  unfold h00
  rw [if_neg (by omega)]
theorem h00_0 {o k : Nat} (h1 : 64 ≤ o) (h2 : o ≠ 69) : h00 o k = 0 := by rw [h00_hi h1]; exact if_neg (fun z => h2 z.1)
theorem top_00 : TOP 0 0 0 100 h00 := by
  have e1 : h00 1 = fun k => if k = 7 then 100 else 0 := (h00_lo (by omega) (by omega)).trans dz_d
  have ew : ∀ j k, j < 10 → h00 (1 + 2 + j) k = 0 := fun j k hj => by rw [h00_lo (by omega) (by omega), dz_0 (by omega) (by omega)]
  have R : REL 1 0 0 h00 h00 := by
    refine ⟨fun j k hj => absurd hj (by omega), fun j k hj => absurd hj (by omega), fun j k hj => absurd hj (by omega), fun j k hj hk => ?_, ?_⟩
    · rw [ew j k hj, h00_0 (by omega) (by omega)]
    · rw [e1, h00_hi (by omega)]
      rfl
  have I : INV 1 0 0 (cB 5400) h00 := ⟨fun j hj => absurd hj (by omega), fun j k hj hk => ⟨0, by omega, ew j k hj⟩, fun j hj => absurd hj (by omega), fun j hj => absurd hj (by omega), fun j hj => absurd hj (by omega)⟩
  have O : ORD 1 0 h00 := ORD_ix.mpr ⟨fun i j _ hj => absurd hj (by omega), fun q hq => absurd hq (by omega), fun r hr => absurd hr (by omega)⟩
  refine ⟨⟨R, I, fun j hj => absurd hj (by omega), O⟩, ⟨?_, by omega, ?_, by omega, fun j hj => absurd hj (by omega), fun j hj => absurd hj (by omega), fun j hj => absurd hj (by omega), fun j hj => absurd hj (by omega), fun j hj => absurd hj (by omega)⟩, ⟨?_, by omega, ?_, by omega, fun j hj => absurd hj (by omega), fun j hj => absurd hj (by omega)⟩, by omega, ?_, by omega, ?_, ?_, fun j h1 h2 => ?_⟩
  · rw [e1]; rfl
  · rw [e1]; rfl
  · exact h00_0 (by omega) (by omega)
  · exact h00_0 (by omega) (by omega)
  · rw [e1]; rfl
  · rw [e1]; rfl
  · rw [h00_hi (by omega)]; rfl
  · rw [h00_lo (by omega) (by omega), dz_p (by omega) (by omega), h00_0 (by omega) (by omega), h00_0 (by omega) (by omega), h00_0 (by omega) (by omega), h00_0 (by omega) (by omega)]
    exact ⟨⟨rfl, rfl, rfl, rfl, rfl⟩, rfl, rfl, rfl, rfl⟩
