/-! ponds that are not dug yet stay as they are through days -/
theorem mid_flock {d n f j : Nat} {h : Hp} (H : OK d n f h) (hj : j < f) : ∀ a, d + 14 + n ≤ a → a < d + 24 → d_flock d n h j a = h a := by
  intro a ha ha2
  unfold d_flock
  split
  · rfl
  · have H1 := H.go hj
    obtain ⟨q, hqn, hq, e, -⟩ := to_in H1 hj
    rw [e]
    unfold d_drinkH
    rw [p_tread_ne (by omega), f_drink_ne (by omega), p_give_ne (by omega)]
    unfold d_go
    split
    · rfl
    · split
      · rfl
      · exact hp_ne (by omega)
theorem mid_runS {d n f r : Nat} {h : Hp} (H : OK d n f h) (hr : r < n) : ∀ a, d + 14 + n ≤ a → d_runS d h r a = h a := by
  intro a ha
  obtain ⟨q, hqn, hq, e, -⟩ := ro_in H hr
  unfold d_runS
  rw [e]
  have H1 := H.spill hq
  split
  · exact p_spill_ne (by omega)
  · rename_i h8
    rcases H1.2.2.2.2.1 q hqn with z | ⟨q2, hq2, z⟩
    · exact absurd z h8
    · have := H.2.1
      rw [z, nI_clamp (by omega), hp_ne (by omega), p_spill_ne (by omega)]
theorem mid_h2 {d n f : Nat} {h : Hp} (H : OK d n f h) (a : Nat) (ha : d + 14 + n ≤ a) (ha2 : a < d + 24) : ∀ k, k ≤ f → fd (d_flock d n) h k a = h a
  | 0, _ => by rw [fd_0]
  | k + 1, hk => by rw [fd_s]; exact (mid_flock (H.h2 (by omega)) (by omega) a ha ha2).trans (mid_h2 H a ha ha2 k (by omega))
theorem mid_h4 {d n f : Nat} {h : Hp} (H : OK d n f h) (a : Nat) (ha : d + 14 + n ≤ a) : ∀ k, k ≤ n → fd (d_runS d) h k a = h a
  | 0, _ => by rw [fd_0]
  | k + 1, hk => by rw [fd_s]; exact (mid_runS (H.h4 (by omega)) (by omega) a ha).trans (mid_h4 H a ha k (by omega))
theorem mid_h1 {d w k a : Nat} {h : Hp} (ha : d + 14 + k ≤ a) : fd (d_mist d w) h k a = h a := fd_keep (P := fun x : Hp => x a) k (fun x i hi => by show d_mist d w x i a = x a; unfold d_mist; rw [p_rain_ne (by omega), p_mist_ne (by omega)])
theorem mid_h3 {d w k a : Nat} {h : Hp} (ha : d + 14 + k ≤ a) : fd (d_sun d w) h k a = h a := fd_keep (P := fun x : Hp => x a) k (fun x i hi => by show d_sun d w x i a = x a; unfold d_sun; rw [p_leak_ne (by omega), p_dry_ne (by omega)])
theorem mid_h5 {d k a : Nat} {h : Hp} (ha : d + 14 + k ≤ a) : fd (d_rot d) h k a = h a := fd_keep (P := fun x : Hp => x a) k (fun x i hi => hp_ne (by omega))
theorem mid_day {d n f t a : Nat} {h : Hp} (H : OK d n f h) (ha : d + 14 + n ≤ a) (ha2 : a < d + 24) : d_day d n f t h a = h a := by
  have e4 : d_h4 d n f (d + 2 + t % 10) h a = h a := by
    unfold d_h4 d_h3 d_h1
    rw [mid_h4 (((H.h1 (Nat.le_refl n)).h2 (Nat.le_refl f)).h3 (Nat.le_refl n)) a ha n (Nat.le_refl n), mid_h3 ha, mid_h2 (H.h1 (Nat.le_refl n)) a ha ha2 f (Nat.le_refl f), mid_h1 ha]
  unfold d_day
  rw [hp_ne (by omega)]
  unfold d_h5
  split
  · rw [mid_h5 ha, e4]
  · exact e4
theorem mid_days {d n f t a : Nat} {h : Hp} (H : OK d n f h) (ht : h d 6 = nI t) (ha : d + 14 + n ≤ a) (ha2 : a < d + 24) (k : Nat) : d_days d n f t h k a = h a := by
  induction k with
  | zero => unfold d_days; rw [fd_0]
  | succ k ih =>
    have e : d_days d n f t h (k + 1) = d_day d n f (t + k) (d_days d n f t h k) := by unfold d_days; rw [fd_s]
    rw [e, mid_day (days_ok H ht k).1 ha ha2, ih]
theorem d7_days {d n f t : Nat} {h : Hp} (H : OK d n f h) (ht : h d 6 = nI t) (k : Nat) : d_days d n f t h k d 7 = h d 7 := by
  induction k with
  | zero => unfold d_days; rw [fd_0]
  | succ k ih =>
    have e : d_days d n f t h (k + 1) = d_day d n f (t + k) (d_days d n f t h k) := by unfold d_days; rw [fd_s]
    rw [e]
    unfold d_day
    rw [hp_off (Or.inr (by omega)), row_day (days_ok H ht k).1 (by omega), ih]
/-- the reference: of the table no row from n on is written -/
def mF (n : Nat) (h h' : Hp) : Prop := ∀ a, 5 * n ≤ a → h' 67 a = h 67 a
theorem mF.refl {n : Nat} {h : Hp} : mF n h h := fun _ _ => rfl
theorem mF.trans {n : Nat} {a b c : Hp} (h1 : mF n a b) (h2 : mF n b c) : mF n a c := fun q hq => (h2 q hq).trans (h1 q hq)
theorem mF_set {n k : Nat} {h : Hp} {x v : Int32} (hn : n ≤ 10) (hx : isN n x) (hk : k < 5) : mF n h (m_set h x (nI k) v) := by
  obtain ⟨a, ha, rfl⟩ := hx
  intro b hb
  rw [m_set_at (by omega), if_neg (by omega)]
theorem mF_setFl {n : Nat} {h : Hp} {x y v : Int32} : mF n h (m_setFl h x y v) := fun b _ => by rw [m_setFl_ne (by omega)]
theorem mF_change {n : Nat} {h : Hp} {x b : Int32} (hn : n ≤ 10) (hx : isN n x) : mF n h (m_change h x b) := mF_set (k := 0) hn hx (by omega)
theorem mF_roam {n : Nat} {h : Hp} {x : Int32} : mF n h (m_roam h n x) := by
  unfold m_roam
  split
  · exact mF.refl
  · split
    · exact mF.refl
    · split
      · split
        · exact mF.refl
        · exact mF_setFl
      · exact mF.refl
theorem mF_dr4 {n : Nat} {z : Hp} {x : Int32} (hn : n ≤ 10) (hp : isN n (m_fl z x 1)) : mF n z (m_dr4 z x) := by
  have k3 : mF n z (m_dr3 z x) := ((mF_set (k := 0) hn hp (by omega)).trans mF_setFl).trans mF_setFl
  unfold m_dr4
  split
  · exact k3.trans (mF_set (k := 1) hn hp (by omega))
  · exact k3
theorem mF_flock {n f j : Nat} {h : Hp} (H : OM n f h) (hj : j < f) : mF n h (m_flock n h j) := by
  have := H.2.2.2.1
  have hx : isN 7 (nI j) := ⟨j, by omega, rfl⟩
  unfold m_flock
  split
  · exact mF.refl
  · have k1 : mK n f h (m_roam h n (nI j)) := mK_roam hx
    exact mF_roam.trans (mF_dr4 H.2.1 (m_fl_in (H.mK k1) hj))
theorem mF_ro1 {n f j : Nat} {ht : Int32} {h : Hp} (H : OM n f h) (hj : j < n) : mF n h (m_ro1 ht h j) := by
  have hn := H.2.1
  have hx : isN n (nI j) := ⟨j, by omega, rfl⟩
  have hx10 : isN 10 (nI j) := ⟨j, by omega, rfl⟩
  have k2 : mK n f h (m_ro2 h j) := (mK_change hx10).trans (mK_set (k := 4) hx10 (by omega) (by omega))
  have f2 : mF n h (m_ro2 h j) := (mF_change hn hx).trans (mF_set (k := 4) hn hx (by omega))
  unfold m_ro1
  split
  · exact mF.refl
  · split
    · split
      · exact f2
      · rename_i c
        exact f2.trans (mF_change hn ((m_po_in (H.mK k2) hj).resolve_left c))
    · exact mF.refl
theorem mF_fd {n f : Nat} {h : Hp} {step : Hp → Nat → Hp} : ∀ k, (∀ z i, i < k → OM n f z → mK n f z (step z i) ∧ mF n z (step z i)) → OM n f h → mF n h (fd step h k)
  | 0, _, _ => by rw [fd_0]; exact mF.refl
  | k + 1, hs, H => by
    have ih := mF_fd k (fun z i hi => hs z i (by omega)) H
    have ik := mK_fd k (fun z i hi Hz => (hs z i (by omega) Hz).1) H
    rw [fd_s]
    exact ih.trans (hs _ k (by omega) (H.mK ik)).2
theorem mF_roK {n f : Nat} : ∀ (k : Nat) (z : Hp), OM n f z → mF n z (m_roK n k z)
  | 0, _, _ => mF.refl
  | k + 1, z, H => by
    have k1 : mK n f z (m_roH n (nI k) z) := mK_fd n (fun y i hi Hy => mK_ro1 Hy hi) H
    have f1 : mF n z (m_roH n (nI k) z) := mF_fd n (fun y i hi Hy => ⟨mK_ro1 Hy hi, mF_ro1 Hy hi⟩) H
    exact f1.trans (mF_roK k _ (H.mK k1))
theorem mF_d1 {n w j : Nat} {h : Hp} (hn : n ≤ 10) (hj : j < n) : mF n h (m_d1 w h j) := (mF_change hn ⟨j, hj, rfl⟩).trans (mF_change hn ⟨j, hj, rfl⟩)
theorem mF_d3 {n w j : Nat} {h : Hp} (hn : n ≤ 10) (hj : j < n) : mF n h (m_d3 w h j) := (mF_change hn ⟨j, hj, rfl⟩).trans (mF_change hn ⟨j, hj, rfl⟩)
theorem mF_rot {n j : Nat} {h : Hp} (hn : n ≤ 10) (hj : j < n) : mF n h (m_rot h j) := mF_set (k := 2) hn ⟨j, hj, rfl⟩ (by omega)
theorem mF_h5 {n f w : Nat} {h : Hp} (H : OM n f h) : mF n h (m_h5 n f w h) := by
  have hn := H.2.1
  have k1 : mK n f h (m_h1 n w h) := mK_fd n (fun z i hi Hz => mK_d1 (by omega)) H
  have f1 : mF n h (m_h1 n w h) := mF_fd n (fun z i hi Hz => ⟨mK_d1 (by omega), mF_d1 hn hi⟩) H
  have k2 : mK n f (m_h1 n w h) (fd (m_flock n) (m_h1 n w h) f) := mK_fd f (fun z i hi Hz => mK_flock Hz hi) (H.mK k1)
  have f2 : mF n (m_h1 n w h) (fd (m_flock n) (m_h1 n w h) f) := mF_fd f (fun z i hi Hz => ⟨mK_flock Hz hi, mF_flock Hz hi⟩) (H.mK k1)
  have k12 := k1.trans k2
  have k3 : mK n f h (m_h3 n f w h) := k12.trans (mK_fd n (fun z i hi Hz => mK_d3 (by omega)) (H.mK k12))
  have f3 : mF n h (m_h3 n f w h) := (f1.trans f2).trans (mF_fd n (fun z i hi Hz => ⟨mK_d3 (by omega), mF_d3 hn hi⟩) (H.mK k12))
  have k4 : mK n f h (m_h4 n f w h) := k3.trans (mK_roK 301 _ (H.mK k3))
  have f4 : mF n h (m_h4 n f w h) := f3.trans (mF_roK 301 _ (H.mK k3))
  unfold m_h5
  split
  · exact f4.trans (mF_fd n (fun z i hi Hz => ⟨mK_rot (by omega), mF_rot hn hi⟩) (H.mK k4))
  · exact f4
theorem mF_days {n f t : Nat} {h : Hp} (H : OM n f h) (ht : h 69 0 = nI t) (k : Nat) : mF n h (m_days n f t h k) ∧ (∀ a, a ≠ 67 → a ≠ 68 → a ≠ 69 → m_days n f t h k a = h a) ∧ m_days n f t h k 69 1 = h 69 1 := by
  induction k with
  | zero => unfold m_days; rw [fd_0]; exact ⟨mF.refl, fun _ _ _ _ => rfl, rfl⟩
  | succ k ih =>
    have e : m_days n f t h (k + 1) = m_day n f (t + k) (m_days n f t h k) := by unfold m_days; rw [fd_s]
    have Hk := (mdays_ok H ht k).1
    rw [e]
    unfold m_day
    refine ⟨fun a ha => ?_, fun a h1 h2 h3 => ?_, ?_⟩
    · rw [hp_ne (by omega)]; exact ((mF_h5 Hk) a ha).trans (ih.1 a ha)
    · rw [hp_ne h3, (mK_h5 Hk).1 a h1 h2]; exact ih.2.1 a h1 h2 h3
    · rw [hp_off (Or.inr (by omega)), (mK_h5 Hk).1 69 (by omega) (by omega)]; exact ih.2.2
