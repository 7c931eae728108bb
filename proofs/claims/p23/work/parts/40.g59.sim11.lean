/-! what lies above a Downs stays -/
theorem top_flock {d n f j : Nat} {h : Hp} (H : OK d n f h) (hj : j < f) : ∀ a, d + 32 ≤ a → d_flock d n h j a = h a := by
  intro a ha
  have hf7 : f ≤ 7 := Nat.le_trans H.2.2.2.1 rm7
  unfold d_flock
  split
  · rfl
  · have H1 := H.go hj
    obtain ⟨q, -, hq, e, -⟩ := to_in H1 hj
    rw [e]
    unfold d_drinkH
    rw [p_tread_ne (by omega), f_drink_ne (by omega), p_give_ne (by omega)]
    unfold d_go
    split
    · rfl
    · split
      · rfl
      · exact hp_ne (by omega)
theorem top_runS {d n f r : Nat} {h : Hp} (H : OK d n f h) (hr : r < n) : ∀ a, d + 32 ≤ a → d_runS d h r a = h a := by
  intro a ha
  obtain ⟨q, hqn, hq, e, -⟩ := ro_in H hr
  unfold d_runS
  rw [e]
  have H1 := H.spill hq
  split
  · exact p_spill_ne (by omega)
  · rename_i h8
    rcases H1.2.2.2.2.1 q hqn with z | ⟨q2, hq2, z⟩
    · exact absurd z h8
    · have := H.2.1
      rw [z, nI_clamp (by omega), hp_ne (by omega), p_spill_ne (by omega)]
theorem top_h2 {d n f : Nat} {h : Hp} (H : OK d n f h) (a : Nat) (ha : d + 32 ≤ a) : ∀ k, k ≤ f → fd (d_flock d n) h k a = h a
  | 0, _ => by rw [fd_0]
  | k + 1, hk => by rw [fd_s]; exact (top_flock (H.h2 (by omega)) (by omega) a ha).trans (top_h2 H a ha k (by omega))
theorem top_h4 {d n f : Nat} {h : Hp} (H : OK d n f h) (a : Nat) (ha : d + 32 ≤ a) : ∀ k, k ≤ n → fd (d_runS d) h k a = h a
  | 0, _ => by rw [fd_0]
  | k + 1, hk => by rw [fd_s]; exact (top_runS (H.h4 (by omega)) (by omega) a ha).trans (top_h4 H a ha k (by omega))
theorem top_h1 {d w k a : Nat} {h : Hp} (ha : d + 32 ≤ a) (hk : k ≤ 10) : fd (d_mist d w) h k a = h a := fd_keep (P := fun x : Hp => x a) k (fun x i hi => by show d_mist d w x i a = x a; unfold d_mist; rw [p_rain_ne (by omega), p_mist_ne (by omega)])
theorem top_h3 {d w k a : Nat} {h : Hp} (ha : d + 32 ≤ a) (hk : k ≤ 10) : fd (d_sun d w) h k a = h a := fd_keep (P := fun x : Hp => x a) k (fun x i hi => by show d_sun d w x i a = x a; unfold d_sun; rw [p_leak_ne (by omega), p_dry_ne (by omega)])
theorem top_h5 {d k a : Nat} {h : Hp} (ha : d + 32 ≤ a) (hk : k ≤ 10) : fd (d_rot d) h k a = h a := fd_keep (P := fun x : Hp => x a) k (fun x i hi => hp_ne (by omega))
theorem top_day {d n f t a : Nat} {h : Hp} (H : OK d n f h) (ha : d + 32 ≤ a) : d_day d n f t h a = h a := by
  have hn := H.2.1
  have e4 : d_h4 d n f (d + 2 + t % 10) h a = h a := by
    unfold d_h4 d_h3 d_h1
    rw [top_h4 (((H.h1 (Nat.le_refl n)).h2 (Nat.le_refl f)).h3 (Nat.le_refl n)) a ha n (Nat.le_refl n), top_h3 ha hn, top_h2 (H.h1 (Nat.le_refl n)) a ha f (Nat.le_refl f), top_h1 ha hn]
  unfold d_day
  rw [hp_ne (by omega)]
  unfold d_h5
  split
  · rw [top_h5 ha hn, e4]
  · exact e4
theorem top_days {d n f t a : Nat} {h : Hp} (H : OK d n f h) (ht : h d 6 = nI t) (ha : d + 32 ≤ a) (k : Nat) : d_days d n f t h k a = h a := by
  induction k with
  | zero => unfold d_days; rw [fd_0]
  | succ k ih =>
    have e : d_days d n f t h (k + 1) = d_day d n f (t + k) (d_days d n f t h k) := by unfold d_days; rw [fd_s]
    rw [e, top_day (days_ok H ht k).1 ha, ih]
/-! the trial downs stand like the downs -/
theorem REL.mcongr {d n f : Nat} {c m m' : Hp} (h : REL d n f c m) (hm : ∀ o, 65 ≤ o → m' o = m o) : REL d n f c m' := by
  obtain ⟨r1, r2, r3, r4, r5⟩ := h
  refine ⟨fun j k hj hk => ?_, fun j k hj hk => ?_, fun j k hj hk => ?_, fun j k hj hk => ?_, ?_⟩
  · rw [hm _ (by omega)]; exact r1 j k hj hk
  · rw [hm _ (by omega)]; exact r2 j k hj hk
  · rw [hm _ (by omega)]; exact r3 j k hj hk
  · rw [hm _ (by omega)]; exact r4 j k hj hk
  · rw [hm _ (by omega)]; exact r5
theorem SIM.mcongr {d n f : Nat} {c m m' : Hp} (h : SIM d n f c m) (hm : ∀ o, 65 ≤ o → m' o = m o) : SIM d n f c m' := ⟨h.1.mcongr hm, h.2⟩
theorem SIM.like {n f : Nat} {c m : Hp} (hn : n ≤ 10) (hf : f ≤ 6) (S : SIM 1 n f c m) : SIM 32 n f (d_like n f c) m := by
  obtain ⟨⟨r1, r2, r3, r4, r5⟩, ⟨i1, i2, i3, i4, i5⟩, L, O⟩ := S
  have eP : ∀ j k, j < n → k < 10 → d_like n f c (32 + 14 + j) k = c (1 + 14 + j) k := fun j k hj hk => like_P hj hn hk
  have ebL : bL 32 n (d_like n f c) = bL 1 n c := by
    unfold bL
    apply List.map_congr_left
    intro r hr
    rw [like_B (List.mem_range.mp hr) hn]
  have eh : ∀ j, j < n → hgt 32 (d_like n f c) j = hgt 1 c j := fun j hj => by unfold hgt; rw [eP j 2 hj (by omega)]
  refine ⟨⟨fun j k hj hk => ?_, fun j k hj hk => ?_, fun j k hj hk => ?_, fun j k hj hk => ?_, ?_⟩, ⟨fun j hj => ?_, fun j k hj hk => ?_, fun j hj => ?_, fun j hj => ?_, fun j hj => ?_⟩, fun j hj => ?_, ?_⟩
  · rw [eP j k hj (by omega)]; exact r1 j k hj hk
  · rw [eP j (5 + k) hj (by omega)]; exact r2 j k hj hk
  · rw [like_F hj hf hk]; exact r3 j k hj hk
  · rw [like_W hj hk]; exact r4 j k hj hk
  · rw [like_d (Or.inl rfl)]; exact r5
  · obtain ⟨ht, sz, dp, w, li, g1, g2, g3, g4, g5, k1, k2, k3, k4, k5⟩ := i1 j hj
    exact ⟨ht, sz, dp, w, li, g1, g2, g3, g4, g5, by rw [eP j 2 hj (by omega)]; exact k1, by rw [eP j 3 hj (by omega)]; exact k2, by rw [eP j 4 hj (by omega)]; exact k3, by rw [eP j 5 hj (by omega)]; exact k4, by rw [eP j 6 hj (by omega)]; exact k5⟩
  · rw [like_W hj hk]; exact i2 j k hj hk
  · rw [eP j 0 hj (by omega), eP j 1 hj (by omega)]; exact i3 j hj
  · rw [like_F hj hf (by omega), like_F hj hf (by omega), like_F hj hf (by omega)]; exact i4 j hj
  · rw [eP j 7 hj (by omega)]; exact i5 j hj
  · rw [eP j 8 hj (by omega), eP j 2 hj (by omega)]
    rcases L j hj with z | ⟨t, h1, h2, h3⟩
    · exact Or.inl z
    · exact Or.inr ⟨t, h1, h2, by rw [eP t 2 h1 (by omega)]; exact h3⟩
  · unfold ORD
    rw [ebL]
    refine ⟨O.1.imp_of_mem (fun {a b} ha hb hab => ?_), O.2⟩
    unfold hlt at hab ⊢
    rw [eh a (O.2.2 a ha), eh b (O.2.2 b hb)]
    exact hab
