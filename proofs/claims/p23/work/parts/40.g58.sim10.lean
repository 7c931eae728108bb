theorem keep_mist {d n w j : Nat} {c : Hp} : KEEP d n c (d_mist d w c j) := by
  unfold d_mist p_rain p_mist
  exact (KEEP.up (by omega) (fun i _ => Or.inr (Or.inl rfl))).trans (KEEP.up (by omega) (fun i _ => Or.inr (Or.inl rfl)))
theorem keep_sun {d n w j : Nat} {c : Hp} : KEEP d n c (d_sun d w c j) := by
  unfold d_sun p_leak p_dry
  exact (KEEP.up (by omega) (fun i _ => Or.inr (Or.inl rfl))).trans (KEEP.up (by omega) (fun i _ => Or.inr (Or.inl rfl)))
theorem keep_rot {d n j : Nat} {c : Hp} : KEEP d n c (d_rot d c j) := by
  unfold d_rot
  exact KEEP.up (by omega) (fun i _ => Or.inr (Or.inr (Or.inr (Or.inl rfl))))
theorem keep_run {d n q : Nat} {c : Hp} : KEEP d n c (d_run1 d c q) := ⟨run1_13, fun j k _ hk => run1_k (by omega) (by omega)⟩
theorem keep_go {d n j : Nat} {c : Hp} (hn : n ≤ 10) : KEEP d n c (d_go d n (d + 25 + j) c) := by
  unfold d_go
  split
  · exact KEEP.refl
  · split
    · exact KEEP.refl
    · exact KEEP.up (by omega) (fun i hi => Or.inl (by omega))
theorem keep_drink {d n j x : Nat} {c : Hp} (hn : n ≤ 10) : KEEP d n c (d_drinkH (d + 25 + j) (d + 14 + x) c) := by
  have k1 : KEEP d n c (p_give c (d + 14 + x) (f_need c (d + 25 + j))) := by
    unfold p_give
    exact KEEP.up (by omega) (fun i _ => Or.inr (Or.inl rfl))
  have k2 : ∀ (h : Hp) (v : Int32), KEEP d n h (f_drink h (d + 25 + j) v) := by
    intro h v
    unfold f_drink f_drinkA
    split
    · exact (KEEP.up (by omega) (fun i hi => Or.inl (by omega))).trans (KEEP.up (by omega) (fun i hi => Or.inl (by omega)))
    · exact (KEEP.up (by omega) (fun i hi => Or.inl (by omega))).trans (KEEP.up (by omega) (fun i hi => Or.inl (by omega)))
  have k3 : ∀ (h : Hp) (v : Int32), KEEP d n h (p_tread h (d + 14 + x) v) := by
    intro h v
    unfold p_tread
    split
    · exact KEEP.up (by omega) (fun i _ => Or.inr (Or.inr (Or.inl rfl)))
    · exact KEEP.refl
  unfold d_drinkH
  exact (k1.trans (k2 _ _)).trans (k3 _ _)
theorem keep_flock {d n j : Nat} {c : Hp} (hn : n ≤ 10) : KEEP d n c (d_flock d n c j) := by
  unfold d_flock
  split
  · exact KEEP.refl
  · unfold d_to
    exact (keep_go hn).trans (keep_drink hn)
theorem keep_h3 {d n f w : Nat} {c : Hp} (hn : n ≤ 10) : KEEP d n c (d_h3 d n f w c) := by
  unfold d_h3 d_h1
  exact ((keep_fd n (fun _ _ _ => keep_mist)).trans (keep_fd f (fun _ _ _ => keep_flock hn))).trans (keep_fd n (fun _ _ _ => keep_sun))
theorem keep_h4 {d n f w : Nat} {c : Hp} (hn : n ≤ 10) : KEEP d n c (d_h4 d n f w c) := by
  unfold d_h4
  exact (keep_h3 hn).trans (keep_fd n (fun _ _ _ => keep_run))
theorem INV.dn {d n f k : Nat} {B : Nat → Nat} {c : Hp} {v : Int32} (I : INV d n f B c) : INV d n f B (hp_up c d k v) := by
  obtain ⟨i1, i2, i3, i4, i5⟩ := I
  refine ⟨i1.other (fun i hi => Or.inl (by omega)), i2.other (fun i hi => by omega), fun i hi => ?_, fun i hi => ?_, fun i hi => ?_⟩
  · rw [hp_ne (by omega)]; exact i3 i hi
  · rw [hp_ne (by omega)]; exact i4 i hi
  · rw [hp_ne (by omega)]; exact i5 i hi
/-- both sides stand alike at a day's start -/
def SIM (d n f : Nat) (c m : Hp) : Prop := REL d n f c m ∧ INV d n f (cB 5400) c ∧ LBd d n c ∧ ORD d n c
theorem sim_h5 {d n f t : Nat} {c m : Hp} (hn : n ≤ 10) (hf : f ≤ 7) (S : SIM d n f c m) : SIM d n f (d_h5 d n f t c) (m_h5 n f (t % 10) m) := by
  obtain ⟨R, I, L, O⟩ := S
  have hw : t % 10 < 10 := Nat.mod_lt _ (by omega)
  obtain ⟨r3, i3, -⟩ := sim_h3 (W := 5400) hn hf hw (by omega) R I
  have k3 : KEEP d n c (d_h3 d n f (d + 2 + t % 10) c) := keep_h3 hn
  obtain ⟨r4, l4, i4⟩ := sim_over (W := 5940) hn (by omega) (by omega) r3 i3 (L.keep k3) (O.keep k3)
  have k4 : KEEP d n c (d_h4 d n f (d + 2 + t % 10) c) := keep_h4 hn
  have S4 : SIM d n f (d_h4 d n f (d + 2 + t % 10) c) (m_h4 n f (t % 10) m) := ⟨r4, i4, l4, O.keep k4⟩
  unfold d_h5 m_h5
  by_cases e : nI (t % 10) = 9
  · rw [if_pos e, if_pos e]
    refine sim_fd (P := fun _ c m => SIM d n f c m) n (fun j c m hj H => ?_) S4
    obtain ⟨R, I, L, O⟩ := H
    obtain ⟨x1, x2, x3⟩ := sim_rot hn hj R I.1 I.2.1
    refine ⟨x1, ⟨x2, x3, fun i hi => ?_, fun i hi => ?_, fun i hi => ?_⟩, L.keep keep_rot, O.keep keep_rot⟩
    · obtain ⟨x, y, a1, a2, a3, a4⟩ := I.2.2.1 i hi
      unfold d_rot
      exact ⟨x, y, a1, a2, by rw [hp_off (Or.inr (by omega))]; exact a3, by rw [hp_off (Or.inr (by omega))]; exact a4⟩
    · obtain ⟨s, q, th, a1, a2, a3, b1, b2, b3⟩ := I.2.2.2.1 i hi
      unfold d_rot
      exact ⟨s, q, th, a1, a2, a3, by rw [hp_off (Or.inl (by omega))]; exact b1, by rw [hp_off (Or.inl (by omega))]; exact b2, by rw [hp_off (Or.inl (by omega))]; exact b3⟩
    · unfold d_rot
      by_cases e9 : i = j
      · subst e9
        left
        rw [hp_eq]
        unfold upd
        rw [if_pos rfl]
      · rw [hp_off (Or.inl (by omega))]
        exact I.2.2.2.2 i hi
  · rw [if_neg e, if_neg e]
    exact S4
/-- A DAY: alike on both sides -/
theorem sim_day {d n f t : Nat} {c m : Hp} (hn : n ≤ 10) (hf : f ≤ 7) (S : SIM d n f c m) : SIM d n f (d_day d n f t c) (m_day n f t m) ∧ d_dayU d n f t c = m_dayU n f t m := by
  obtain ⟨R, I, L, O⟩ := sim_h5 (t := t) hn hf S
  have hw : t % 10 < 10 := Nat.mod_lt _ (by omega)
  have k : ∀ v, KEEP d n (d_h5 d n f t c) (hp_up (d_h5 d n f t c) d 6 v) := fun v => KEEP.up (by omega) (fun i _ => Or.inl (by omega))
  refine ⟨?_, (sim_h3 (W := 5400) hn hf hw (by omega) S.1 S.2.1).2.2⟩
  unfold d_day m_day
  rw [← R.2.2.2.2]
  exact ⟨R.day, I.dn, L.keep (k _), O.keep (k _)⟩
theorem sim_days {d n f t : Nat} {c m : Hp} (hn : n ≤ 10) (hf : f ≤ 7) (S : SIM d n f c m) (k : Nat) : SIM d n f (d_days d n f t c k) (m_days n f t m k) ∧ d_daysU d n f t c k = m_daysU n f t m k := by
  induction k with
  | zero =>
    unfold d_days m_days d_daysU m_daysU
    rw [fd_0, fd_0, fd_0, fd_0]
    exact ⟨S, rfl⟩
  | succ k ih =>
    obtain ⟨s1, e1⟩ := sim_day (t := t + k) hn hf ih.1
    have a1 : d_days d n f t c (k + 1) = d_day d n f (t + k) (d_days d n f t c k) := by unfold d_days; rw [fd_s]
    have a2 : m_days n f t m (k + 1) = m_day n f (t + k) (m_days n f t m k) := by unfold m_days; rw [fd_s]
    have a3 : d_daysU d n f t c (k + 1) = d_daysU d n f t c k + d_dayU d n f (t + k) (d_days d n f t c k) := by unfold d_daysU; rw [fd_s]
    have a4 : m_daysU n f t m (k + 1) = m_daysU n f t m k + m_dayU n f (t + k) (m_days n f t m k) := by unfold m_daysU; rw [fd_s]
    rw [a1, a2, a3, a4, e1, ih.2]
    exact ⟨s1, rfl⟩
