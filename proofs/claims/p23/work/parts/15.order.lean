/-! a Downs stays in order -/
theorem hp_off {h : Hp} {o k a b : Nat} {v : Int32} (e : a ≠ o ∨ b ≠ k) : hp_up h o k v a b = h a b := by
  by_cases ha : a = o
  · subst ha
    have hb : b ≠ k := e.elim (fun z => absurd rfl z) id
    simp [hp_up, upd, hb]
  · simp [hp_up, ha]
theorem OK.p {d n f q : Nat} {h h' : Hp} (H : OK d n f h) (hq : q < 10) (hne : ∀ a, a ≠ d + 14 + q → h' a = h a) (h8 : h' (d + 14 + q) 8 = h (d + 14 + q) 8) (h7 : q < n → h' (d + 14 + q) 7 = 0 ∨ h' (d + 14 + q) 7 = 1) : OK d n f h' := by
  obtain ⟨a1, a2, a3, a4, a5, a6, a7, a8, a9⟩ := H
  refine ⟨by rw [hne d (by omega)]; exact a1, a2, by rw [hne d (by omega)]; exact a3, a4, fun j hj => ?_, fun j hj => by rw [hne _ (by omega)]; exact a6 j hj, fun r hr => by rw [hne _ (by omega)]; exact a7 r hr, fun j hj => ?_, fun j hj => by rw [hne _ (by omega)]; exact a9 j hj⟩
  · by_cases e : j = q
    · subst e; rw [h8]; exact a5 j hj
    · rw [hne _ (by omega)]; exact a5 j hj
  · by_cases e : j = q
    · subst e; exact h7 hj
    · rw [hne _ (by omega)]; exact a8 j hj
theorem OK.f {d n f q : Nat} {h h' : Hp} (H : OK d n f h) (hq : q < rmD d) (hne : ∀ a, a ≠ d + 25 + q → h' a = h a) (h1 : q < f → isN n (h' (d + 25 + q) 1)) (h3 : q < f → h' (d + 25 + q) 3 = 0 ∨ h' (d + 25 + q) 3 = 1) : OK d n f h' := by
  obtain ⟨a1, a2, a3, a4, a5, a6, a7, a8, a9⟩ := H
  refine ⟨by rw [hne d (by omega)]; exact a1, a2, by rw [hne d (by omega)]; exact a3, a4, fun j hj => by rw [hne _ (by omega)]; exact a5 j hj, fun j hj => ?_, fun r hr => by rw [hne _ (by omega)]; exact a7 r hr, fun j hj => by rw [hne _ (by omega)]; exact a8 j hj, fun j hj => ?_⟩
  · by_cases e : j = q
    · subst e; exact h1 hj
    · rw [hne _ (by omega)]; exact a6 j hj
  · by_cases e : j = q
    · subst e; exact h3 hj
    · rw [hne _ (by omega)]; exact a9 j hj
theorem rm7 {d : Nat} : rmD d ≤ 7 := by unfold rmD; split <;> omega
theorem OK.mist {d n f q : Nat} {h : Hp} {x : Int32} (H : OK d n f h) (hq : q < 10) : OK d n f (p_mist h (d + 14 + q) x) :=
  H.p hq (fun _ e => p_mist_ne e) (by simp [p_mist, hp_up, upd]) (fun hqn => by have := H.2.2.2.2.2.2.2.1 q hqn; simpa [p_mist, hp_up, upd] using this)
theorem OK.rain {d n f q : Nat} {h : Hp} {x : Int32} (H : OK d n f h) (hq : q < 10) : OK d n f (p_rain h (d + 14 + q) x) :=
  H.p hq (fun _ e => p_rain_ne e) (by simp [p_rain, hp_up, upd]) (fun hqn => by have := H.2.2.2.2.2.2.2.1 q hqn; simpa [p_rain, hp_up, upd] using this)
theorem OK.dry {d n f q : Nat} {h : Hp} {x : Int32} (H : OK d n f h) (hq : q < 10) : OK d n f (p_dry h (d + 14 + q) x) :=
  H.p hq (fun _ e => p_dry_ne e) (by simp [p_dry, hp_up, upd]) (fun hqn => by have := H.2.2.2.2.2.2.2.1 q hqn; simpa [p_dry, hp_up, upd] using this)
theorem OK.leak {d n f q : Nat} {h : Hp} (H : OK d n f h) (hq : q < 10) : OK d n f (p_leak h (d + 14 + q)) :=
  H.p hq (fun _ e => p_leak_ne e) (by simp [p_leak, hp_up, upd]) (fun hqn => by have := H.2.2.2.2.2.2.2.1 q hqn; simpa [p_leak, hp_up, upd] using this)
theorem OK.give {d n f q : Nat} {h : Hp} {x : Int32} (H : OK d n f h) (hq : q < 10) : OK d n f (p_give h (d + 14 + q) x) :=
  H.p hq (fun _ e => p_give_ne e) (by simp [p_give, hp_up, upd]) (fun hqn => by have := H.2.2.2.2.2.2.2.1 q hqn; simpa [p_give, hp_up, upd] using this)
theorem OK.tread {d n f q : Nat} {h : Hp} {x : Int32} (H : OK d n f h) (hq : q < 10) : OK d n f (p_tread h (d + 14 + q) x) :=
  H.p hq (fun _ e => p_tread_ne e) (by unfold p_tread; split <;> simp [hp_up, upd]) (fun hqn => by have := H.2.2.2.2.2.2.2.1 q hqn; unfold p_tread; split <;> simpa [hp_up, upd] using this)
theorem OK.spill {d n f q : Nat} {h : Hp} (H : OK d n f h) (hq : q < 10) : OK d n f (p_spill h (d + 14 + q)) :=
  H.p hq (fun _ e => p_spill_ne e) (by simp [p_spill, hp_up, upd]) (fun hqn => by have := H.2.2.2.2.2.2.2.1 q hqn; simpa [p_spill, hp_up, upd] using this)
theorem OK.water {d n f q : Nat} {h : Hp} {x : Int32} (H : OK d n f h) (hq : q < 10) : OK d n f (hp_up h (d + 14 + q) 5 x) :=
  H.p hq (fun _ e => hp_ne e) (by simp [hp_up, upd]) (fun hqn => by have := H.2.2.2.2.2.2.2.1 q hqn; simpa [hp_up, upd] using this)
theorem OK.straw {d n f q : Nat} {h : Hp} {x : Int32} (H : OK d n f h) (hq : q < 10) (hx : x = 0 ∨ x = 1) : OK d n f (hp_up h (d + 14 + q) 7 x) :=
  H.p hq (fun _ e => hp_ne e) (by simp [hp_up, upd]) (fun _ => by simpa [hp_up, upd] using hx)
theorem OK.line {d n f q : Nat} {h : Hp} {x : Int32} (H : OK d n f h) (hq : q < 10) : OK d n f (p_line h (d + 14 + q) x) :=
  H.p hq (fun _ e => p_line_ne e) (by simp [p_line, hp_up, upd]) (fun hqn => by have := H.2.2.2.2.2.2.2.1 q hqn; simpa [p_line, hp_up, upd] using this)
theorem OK.drink {d n f q : Nat} {h : Hp} {x : Int32} (H : OK d n f h) (hq : q < rmD d) : OK d n f (f_drink h (d + 25 + q) x) :=
  H.f hq (fun _ e => f_drink_ne e) (fun hqf => by have := H.2.2.2.2.2.1 q hqf; unfold f_drink f_drinkA; split <;> simpa [hp_up, upd] using this) (fun hqf => by have := H.2.2.2.2.2.2.2.2 q hqf; unfold f_drink f_drinkA; split <;> simpa [hp_up, upd] using this)
theorem OK.move {d n f q : Nat} {h : Hp} {x : Int32} (H : OK d n f h) (hq : q < rmD d) (hx : isN n x) : OK d n f (hp_up h (d + 25 + q) 1 x) :=
  H.f hq (fun _ e => hp_ne e) (fun _ => by simpa [hp_up, upd] using hx) (fun hqf => by have := H.2.2.2.2.2.2.2.2 q hqf; simpa [hp_up, upd] using this)
theorem OK.dslot {d n f k : Nat} {h : Hp} {x : Int32} (H : OK d n f h) (hk : k = 6 ∨ k = 7) : OK d n f (hp_up h d k x) := by
  obtain ⟨a1, a2, a3, a4, a5, a6, a7, a8, a9⟩ := H
  refine ⟨by rw [hp_off (Or.inr (by omega))]; exact a1, a2, by rw [hp_off (Or.inr (by omega))]; exact a3, a4, fun j hj => by rw [hp_ne (by omega)]; exact a5 j hj, fun j hj => by rw [hp_ne (by omega)]; exact a6 j hj, fun r hr => by rw [hp_ne (by omega)]; exact a7 r hr, fun j hj => by rw [hp_ne (by omega)]; exact a8 j hj, fun j hj => by rw [hp_ne (by omega)]; exact a9 j hj⟩
theorem near_in {h : Hp} {d n f fo here : Nat} (H : OK d n f h) (hx : isN n (h fo 1)) : ∀ k, k ≤ n → isN n (fd (d_nearS h d fo here) (2147483647, h fo 1) k).2
  | 0, _ => hx
  | k + 1, hk => by
    have ih := near_in (here := here) H hx k (by omega)
    show isN n (d_nearS h d fo here _ k).2
    unfold d_nearS
    split
    · exact ih
    · split
      · exact ih
      · exact ⟨k, by omega, rfl⟩
theorem d_near_in {h : Hp} {d n f fo : Nat} (H : OK d n f h) (hx : isN n (h fo 1)) : isN n (d_near h d n fo) := by
  unfold d_near
  split
  · exact near_in H hx n (Nat.le_refl n)
  · exact hx
theorem OK.go {d n f j : Nat} {h : Hp} (H : OK d n f h) (hj : j < f) : OK d n f (d_go d n (d + 25 + j) h) := by
  have h7 : j < rmD d := Nat.lt_of_lt_of_le hj H.2.2.2.1
  unfold d_go
  split
  · exact H
  · split
    · exact H
    · exact H.move h7 (d_near_in H (H.2.2.2.2.2.1 j hj))
theorem to_in {d n f j : Nat} {h : Hp} (H : OK d n f h) (hj : j < f) : ∃ q, q < n ∧ q < 10 ∧ d_to d (d + 25 + j) h = d + 14 + q ∧ h (d + 25 + j) 1 = nI q := by
  obtain ⟨q, hq, e⟩ := H.2.2.2.2.2.1 j hj
  refine ⟨q, hq, Nat.lt_of_lt_of_le hq H.2.1, ?_, e⟩
  have := H.2.1
  unfold d_to
  rw [e, nI_clamp (by omega)]
theorem OK.flock {d n f j : Nat} {h : Hp} (H : OK d n f h) (hj : j < f) : OK d n f (d_flock d n h j) := by
  have h7 : j < rmD d := Nat.lt_of_lt_of_le hj H.2.2.2.1
  unfold d_flock
  split
  · exact H
  · have H1 := H.go hj
    obtain ⟨q, -, hq, e, -⟩ := to_in H1 hj
    rw [e]
    exact ((H1.give hq).drink h7).tread hq
theorem ro_in {d n f r : Nat} {h : Hp} (H : OK d n f h) (hr : r < n) : ∃ q, q < n ∧ q < 10 ∧ d_ro d h r = d + 14 + q ∧ h (d + 13) r = nI q := by
  obtain ⟨q, hq, e⟩ := H.2.2.2.2.2.2.1 r hr
  have := H.2.1
  refine ⟨q, hq, Nat.lt_of_lt_of_le hq H.2.1, ?_, e⟩
  unfold d_ro
  rw [e, nI_clamp (by omega)]
theorem OK.runS {d n f r : Nat} {h : Hp} (H : OK d n f h) (hr : r < n) : OK d n f (d_runS d h r) := by
  obtain ⟨q, hqn, hq, e, -⟩ := ro_in H hr
  unfold d_runS
  rw [e]
  have H1 := H.spill hq
  split
  · exact H1
  · rename_i h8
    rcases H1.2.2.2.2.1 q hqn with z | ⟨q2, hq2, z⟩
    · exact absurd z h8
    · have := H.2.1
      rw [z, nI_clamp (by omega)]
      exact H1.water (by omega)
theorem OK.mistS {d n f w j : Nat} {h : Hp} (H : OK d n f h) (hj : j < 10) : OK d n f (d_mist d w h j) := (H.mist hj).rain hj
theorem OK.sunS {d n f w j : Nat} {h : Hp} (H : OK d n f h) (hj : j < 10) : OK d n f (d_sun d w h j) := (H.dry hj).leak hj
theorem OK.rotS {d n f j : Nat} {h : Hp} (H : OK d n f h) (hj : j < 10) : OK d n f (d_rot d h j) := H.straw hj (Or.inl rfl)
theorem OK.h1 {d n f w k : Nat} {h : Hp} (H : OK d n f h) (hk : k ≤ n) : OK d n f (fd (d_mist d w) h k) := fd_inv k H (fun x i hi hx => hx.mistS (by have := hx.2.1; omega))
theorem OK.h2 {d n f k : Nat} {h : Hp} (H : OK d n f h) (hk : k ≤ f) : OK d n f (fd (d_flock d n) h k) := fd_inv k H (fun x i hi hx => hx.flock (by omega))
theorem OK.h3 {d n f w k : Nat} {h : Hp} (H : OK d n f h) (hk : k ≤ n) : OK d n f (fd (d_sun d w) h k) := fd_inv k H (fun x i hi hx => hx.sunS (by have := hx.2.1; omega))
theorem OK.h4 {d n f k : Nat} {h : Hp} (H : OK d n f h) (hk : k ≤ n) : OK d n f (fd (d_runS d) h k) := fd_inv k H (fun x i hi hx => hx.runS (by omega))
theorem OK.h5 {d n f k : Nat} {h : Hp} (H : OK d n f h) (hk : k ≤ n) : OK d n f (fd (d_rot d) h k) := fd_inv k H (fun x i hi hx => hx.rotS (by have := hx.2.1; omega))
theorem OK.day {d n f t : Nat} {h : Hp} (H : OK d n f h) : OK d n f (d_day d n f t h) := by
  have H4 : OK d n f (d_h4 d n f (d + 2 + t % 10) h) := (((H.h1 (Nat.le_refl n)).h2 (Nat.le_refl f)).h3 (Nat.le_refl n)).h4 (Nat.le_refl n)
  unfold d_day
  refine OK.dslot ?_ (Or.inl rfl)
  unfold d_h5
  split
  · exact H4.h5 (Nat.le_refl n)
  · exact H4
/-- the row of the Downs itself stays until the day's end -/
theorem row_flock {d n f j : Nat} {h : Hp} (H : OK d n f h) (hj : j < f) : ∀ a, a < d + 14 → d_flock d n h j a = h a := by
  intro a ha
  unfold d_flock
  split
  · rfl
  · have H1 := H.go hj
    obtain ⟨q, -, hq, e, -⟩ := to_in H1 hj
    rw [e]
    unfold d_drinkH
    rw [p_tread_ne (by omega), f_drink_ne (by omega), p_give_ne (by omega)]
    unfold d_go
    split
    · rfl
    · split
      · rfl
      · exact hp_ne (by omega)
theorem row_runS {d n f r : Nat} {h : Hp} (H : OK d n f h) (hr : r < n) : ∀ a, a < d + 14 → d_runS d h r a = h a := by
  intro a ha
  obtain ⟨q, hqn, hq, e, -⟩ := ro_in H hr
  unfold d_runS
  rw [e]
  split
  · exact p_spill_ne (by omega)
  · rw [hp_ne (by omega), p_spill_ne (by omega)]
theorem row_h2 {d n f : Nat} {h : Hp} (H : OK d n f h) (a : Nat) (ha : a < d + 14) : ∀ k, k ≤ f → fd (d_flock d n) h k a = h a
  | 0, _ => rfl
  | k + 1, hk => (row_flock (H.h2 (by omega)) (by omega) a ha).trans (row_h2 H a ha k (by omega))
theorem row_h4 {d n f : Nat} {h : Hp} (H : OK d n f h) (a : Nat) (ha : a < d + 14) : ∀ k, k ≤ n → fd (d_runS d) h k a = h a
  | 0, _ => rfl
  | k + 1, hk => (row_runS (H.h4 (by omega)) (by omega) a ha).trans (row_h4 H a ha k (by omega))
theorem row_h1 {d w k a : Nat} {h : Hp} (ha : a < d + 14) : fd (d_mist d w) h k a = h a := fd_keep (P := fun x : Hp => x a) k (fun x i hi => by show d_mist d w x i a = x a; unfold d_mist; rw [p_rain_ne (by omega), p_mist_ne (by omega)])
theorem row_h3 {d w k a : Nat} {h : Hp} (ha : a < d + 14) : fd (d_sun d w) h k a = h a := fd_keep (P := fun x : Hp => x a) k (fun x i hi => by show d_sun d w x i a = x a; unfold d_sun; rw [p_leak_ne (by omega), p_dry_ne (by omega)])
theorem row_h5 {d k a : Nat} {h : Hp} (ha : a < d + 14) : fd (d_rot d) h k a = h a := fd_keep (P := fun x : Hp => x a) k (fun x i hi => hp_ne (by omega))
theorem row_day {d n f t a : Nat} {h : Hp} (H : OK d n f h) (ha : a < d + 14) : d_h5 d n f t h a = h a := by
  have e4 : d_h4 d n f (d + 2 + t % 10) h a = h a := by
    unfold d_h4 d_h3 d_h1
    rw [row_h4 (((H.h1 (Nat.le_refl n)).h2 (Nat.le_refl f)).h3 (Nat.le_refl n)) a ha n (Nat.le_refl n), row_h3 ha, row_h2 (H.h1 (Nat.le_refl n)) a ha f (Nat.le_refl f), row_h1 ha]
  unfold d_h5
  split
  · rw [row_h5 ha, e4]
  · exact e4
theorem day_t {d n f t : Nat} {h : Hp} (H : OK d n f h) (ht : h d 6 = nI t) : d_day d n f t h d 6 = nI (t + 1) := by
  unfold d_day
  rw [hp_eq]
  simp only [upd, if_true]
  rw [row_day H (by omega), ht]
  exact nI_1 t
