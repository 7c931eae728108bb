theorem OK.lo {n f : Nat} {h h' : Hp} (H : OK 1 n f h) (hl : ∀ a, a < 32 → h' a = h a) : OK 1 n f h' := by
  obtain ⟨a1, a2, a3, a4, a5, a6, a7, a8, a9⟩ := H
  have a4' : f ≤ 6 := a4
  refine ⟨by rw [hl _ (by omega)]; exact a1, a2, by rw [hl _ (by omega)]; exact a3, a4, fun j hj => by rw [hl _ (by omega)]; exact a5 j hj, fun j hj => by rw [hl _ (by omega)]; exact a6 j hj, fun r hr => by rw [hl _ (by omega)]; exact a7 r hr, fun j hj => by rw [hl _ (by omega)]; exact a8 j hj, fun j hj => by rw [hl _ (by omega)]; exact a9 j hj⟩
theorem day_lo {n f t a : Nat} {h : Hp} (H : OK 32 n f h) (ha : a < 32) : d_day 32 n f t h a = h a := by
  unfold d_day
  rw [hp_ne (by omega)]
  exact row_day H (by omega)
theorem days_lo {n f t a : Nat} {h : Hp} (H : OK 32 n f h) (ht : h 32 6 = nI t) (ha : a < 32) : ∀ k, d_days 32 n f t h k a = h a
  | 0 => rfl
  | k + 1 => (day_lo (days_ok H ht k).1 ha).trans (days_lo H ht ha k)
theorem mkF_ne {d f a : Nat} {h : Hp} {x y : Int32} (h1 : a ≠ d) (h2 : a ≠ d + 25 + f) : d_mkF d f h x y a = h a := by unfold d_mkF; rw [hp_ne h1, f_start_ne h2]
theorem OK.mkF {d n f : Nat} {h : Hp} {x y : Int32} (H : OK d n f h) (hlt : f < rmD d) (hx : isN n x) : OK d n (f + 1) (d_mkF d f h x y) := by
  obtain ⟨a1, a2, a3, a4, a5, a6, a7, a8, a9⟩ := H
  have e5 : d_mkF d f h x y d 5 = nI (f + 1) := by
    unfold d_mkF
    rw [hp_eq]
    simp only [upd, if_true]
    rw [f_start_ne (by omega), a3]
    exact nI_1 f
  have e4 : d_mkF d f h x y d 4 = h d 4 := by
    unfold d_mkF
    rw [hp_off (Or.inr (by omega)), f_start_ne (by omega)]
  have eo : ∀ k, d_mkF d f h x y (d + 25 + f) k = f_start h (d + 25 + f) x y (d + 25 + f) k := fun k => by unfold d_mkF; rw [hp_ne (by omega)]
  refine ⟨e4.trans a1, a2, e5, by omega, fun j hj => by rw [mkF_ne (by omega) (by omega)]; exact a5 j hj, fun j hj => ?_, fun r hr => by rw [mkF_ne (by omega) (by omega)]; exact a7 r hr, fun j hj => by rw [mkF_ne (by omega) (by omega)]; exact a8 j hj, fun j hj => ?_⟩
  · by_cases e : j = f
    · subst e; rw [eo]; simpa [f_start, hp_up, upd] using hx
    · rw [mkF_ne (by omega) (by omega)]; exact a6 j (by omega)
  · by_cases e : j = f
    · subst e; rw [eo]; left; simp [f_start, hp_up, upd]
    · rw [mkF_ne (by omega) (by omega)]; exact a9 j (by omega)
theorem mkF_6 {d f : Nat} {h : Hp} {x y : Int32} : d_mkF d f h x y d 6 = h d 6 := by
  unfold d_mkF
  rw [hp_off (Or.inr (by omega)), f_start_ne (by omega)]
/-- from the day i on, k days more: has the flock o no thirst behind each -/
def x_ck (n f t o : Nat) (L : Hp) : Nat → Nat → Int32 × Hp
  | 0, i => (1, d_days 32 n f t L i)
  | k + 1, i => if d_days 32 n f t L (i + 1) o 2 ≤ 0 then x_ck n f t o L k (i + 1) else (0, d_days 32 n f t L (i + 1))
theorem ck_go {n f t o k i : Nat} {L : Hp} (c : d_days 32 n f t L (i + 1) o 2 ≤ 0) : x_ck n f t o L (k + 1) i = x_ck n f t o L k (i + 1) := if_pos c
theorem ck_no {n f t o k i : Nat} {L : Hp} (c : ¬ d_days 32 n f t L (i + 1) o 2 ≤ 0) : x_ck n f t o L (k + 1) i = (0, d_days 32 n f t L (i + 1)) := if_neg c
theorem ck_days {n f t o : Nat} {L : Hp} : ∀ k i, ∃ j, (x_ck n f t o L k i).2 = d_days 32 n f t L j
  | 0, i => ⟨i, rfl⟩
  | k + 1, i => by
    by_cases c : d_days 32 n f t L (i + 1) o 2 ≤ 0
    · rw [ck_go c]; exact ck_days k (i + 1)
    · rw [ck_no c]; exact ⟨i + 1, rfl⟩
def x_kL (n f : Nat) (h : Hp) (p s : Int32) : Hp := d_mkF 32 f (d_like n f h) p s
def x_can (n f t : Nat) (h : Hp) (p s : Int32) (k : Nat) : Int32 × Hp := x_ck n (f + 1) t (32 + 25 + f) (x_kL n f h p s) k 0
theorem kL_ok {n f : Nat} {h : Hp} {p s : Int32} (H : OK 1 n f h) (hp : isN n p) : OK 32 n (f + 1) (x_kL n f h p s) := H.like.mkF (Nat.lt_succ_of_le H.2.2.2.1) hp
theorem kL_t {n f t : Nat} {h : Hp} {p s : Int32} (ht : h 1 6 = nI t) : x_kL n f h p s 32 6 = nI t := by unfold x_kL; rw [mkF_6, like_d (Or.inl rfl)]; exact ht
theorem can_lo {n f t k a : Nat} {h : Hp} {p s : Int32} (H : OK 1 n f h) (ht : h 1 6 = nI t) (hp : isN n p) (ha : a < 32) : (x_can n f t h p s k).2 a = h a := by
  obtain ⟨j, e⟩ := ck_days (n := n) (f := f + 1) (t := t) (o := 32 + 25 + f) (L := x_kL n f h p s) k 0
  unfold x_can
  rw [e, days_lo (kL_ok H hp) (kL_t ht) ha]
  unfold x_kL
  rw [mkF_ne (by omega) (by omega)]
  exact like_lo ha
def x_keepL (n f t : Nat) (p : Int32) (k : Nat) : Nat → Hp → RS
  | 0, z => rI 0 z
  | s + 1, z => if (x_can n f t z p (nI (s + 1)) k).1 = 0 then x_keepL n f t p k s (x_can n f t z p (nI (s + 1)) k).2 else rI (nI (s + 1)) (x_can n f t z p (nI (s + 1)) k).2
theorem keepL_no {n f t k s : Nat} {p : Int32} {z : Hp} (c : (x_can n f t z p (nI (s + 1)) k).1 = 0) : x_keepL n f t p k (s + 1) z = x_keepL n f t p k s (x_can n f t z p (nI (s + 1)) k).2 := if_pos c
theorem keepL_yes {n f t k s : Nat} {p : Int32} {z : Hp} (c : ¬ (x_can n f t z p (nI (s + 1)) k).1 = 0) : x_keepL n f t p k (s + 1) z = rI (nI (s + 1)) (x_can n f t z p (nI (s + 1)) k).2 := if_neg c
def x_keep (n f t : Nat) (h : Hp) (p k : Int32) : RS := if ¬ p < 0 ∧ p < nI n then (if bI (1 ≤ k ∧ k ≤ 50) = 0 then .inr E_A else x_keepL n f t p k.toNatClampNeg 80 h) else .inr E_I
def x_wL (n f : Nat) (h : Hp) (p : Int32) : Hp := if p = -1 then d_like n f h else p_line (d_like n f h) (32 + 14 + p.toNatClampNeg) (d_like n f h 32 7)
def x_wH (n f t : Nat) (h : Hp) (k : Nat) (p : Int32) : Hp := d_days 32 n f t (x_wL n f h p) k
def x_wV (n f t : Nat) (h : Hp) (k : Nat) (p : Int32) : Int32 := d_all (x_wH n f t h k p) 32 n
theorem wL_ok {n f : Nat} {h : Hp} {p : Int32} (H : OK 1 n f h) (hp : p = -1 ∨ isN n p) : OK 32 n f (x_wL n f h p) := by
  unfold x_wL
  split
  · exact H.like
  · rename_i c
    obtain ⟨q, hq, rfl⟩ := hp.resolve_left c
    have := H.2.1
    rw [nI_clamp (by omega)]
    exact H.like.line (by omega)
theorem wL_t {n f t : Nat} {h : Hp} {p : Int32} (ht : h 1 6 = nI t) : x_wL n f h p 32 6 = nI t := by
  unfold x_wL
  split
  · rw [like_d (Or.inl rfl)]; exact ht
  · rw [p_line_ne (by omega), like_d (Or.inl rfl)]; exact ht
theorem wH_lo {n f t k a : Nat} {h : Hp} {p : Int32} (H : OK 1 n f h) (ht : h 1 6 = nI t) (hp : p = -1 ∨ isN n p) (ha : a < 32) : x_wH n f t h k p a = h a := by
  unfold x_wH
  rw [days_lo (wL_ok H hp) (wL_t ht) ha]
  unfold x_wL
  split
  · exact like_lo ha
  · rw [p_line_ne (by omega)]; exact like_lo ha
/-- the advice: the best pond yet, its water, the numbers -/
def x_advS (n f t k : Nat) (z : Int32 × Int32 × Hp) (j : Nat) : Int32 × Int32 × Hp :=
  if bI (z.2.2 (1 + 14 + j) 5 ≤ p_holds z.2.2 (1 + 14 + j) / 4) = 0 then z
  else if x_wV n f t z.2.2 k (nI j) ≤ z.2.1 then (z.1, z.2.1, x_wH n f t z.2.2 k (nI j)) else (nI j, x_wV n f t z.2.2 k (nI j), x_wH n f t z.2.2 k (nI j))
def x_adv (n f t : Nat) (h : Hp) (k : Nat) : Nat → Int32 × Int32 × Hp := fd (x_advS n f t k) (-1, x_wV n f t h k (-1), x_wH n f t h k (-1))
def x_advise (n f t : Nat) (h : Hp) (k : Int32) : RS := if bI (1 ≤ k ∧ k ≤ 50) = 0 then .inr E_A else rI (x_adv n f t h k.toNatClampNeg n).1 (x_adv n f t h k.toNatClampNeg n).2.2
theorem advS_a {n f t k j : Nat} {z : Int32 × Int32 × Hp} (c : bI (z.2.2 (1 + 14 + j) 5 ≤ p_holds z.2.2 (1 + 14 + j) / 4) = 0) : x_advS n f t k z j = z := if_pos c
theorem advS_b {n f t k j : Nat} {z : Int32 × Int32 × Hp} (c : ¬ bI (z.2.2 (1 + 14 + j) 5 ≤ p_holds z.2.2 (1 + 14 + j) / 4) = 0) (c2 : x_wV n f t z.2.2 k (nI j) ≤ z.2.1) : x_advS n f t k z j = (z.1, z.2.1, x_wH n f t z.2.2 k (nI j)) := (if_neg c).trans (if_pos c2)
theorem advS_c {n f t k j : Nat} {z : Int32 × Int32 × Hp} (c : ¬ bI (z.2.2 (1 + 14 + j) 5 ≤ p_holds z.2.2 (1 + 14 + j) / 4) = 0) (c2 : ¬ x_wV n f t z.2.2 k (nI j) ≤ z.2.1) : x_advS n f t k z j = (nI j, x_wV n f t z.2.2 k (nI j), x_wH n f t z.2.2 k (nI j)) := (if_neg c).trans (if_neg c2)
theorem adv_lo {n f t k : Nat} {h : Hp} (H : OK 1 n f h) (ht : h 1 6 = nI t) : ∀ j, j ≤ n → ∀ a, a < 32 → (x_adv n f t h k j).2.2 a = h a
  | 0, _, a, ha => wH_lo H ht (Or.inl rfl) ha
  | j + 1, hj, a, ha => by
    have ih := adv_lo (k := k) H ht j (by omega)
    have H1 : OK 1 n f (x_adv n f t h k j).2.2 := H.lo ih
    have ht1 : (x_adv n f t h k j).2.2 1 6 = nI t := by rw [ih 1 (by omega)]; exact ht
    have e : x_adv n f t h k (j + 1) = x_advS n f t k (x_adv n f t h k j) j := rfl
    rw [e]
    by_cases c : bI ((x_adv n f t h k j).2.2 (1 + 14 + j) 5 ≤ p_holds (x_adv n f t h k j).2.2 (1 + 14 + j) / 4) = 0
    · rw [advS_a c]; exact ih a ha
    · by_cases c2 : x_wV n f t (x_adv n f t h k j).2.2 k (nI j) ≤ (x_adv n f t h k j).2.1
      · rw [advS_b c c2]; exact (wH_lo H1 ht1 (Or.inr ⟨j, by omega, rfl⟩) ha).trans (ih a ha)
      · rw [advS_c c c2]; exact (wH_lo H1 ht1 (Or.inr ⟨j, by omega, rfl⟩) ha).trans (ih a ha)
/-- how long the water of o lasts, behind i days, k more being looked at -/
def x_lastL (n f t o : Nat) (L : Hp) : Nat → Nat → RS
  | 0, i => rI (-1) (d_days 32 n f t L i)
  | k + 1, i => if d_days 32 n f t L (i + 1) o 5 = 0 then rI (nI (i + 1)) (d_days 32 n f t L (i + 1)) else x_lastL n f t o L k (i + 1)
theorem lastL_y {n f t o k i : Nat} {L : Hp} (c : d_days 32 n f t L (i + 1) o 5 = 0) : x_lastL n f t o L (k + 1) i = rI (nI (i + 1)) (d_days 32 n f t L (i + 1)) := if_pos c
theorem lastL_n {n f t o k i : Nat} {L : Hp} (c : ¬ d_days 32 n f t L (i + 1) o 5 = 0) : x_lastL n f t o L (k + 1) i = x_lastL n f t o L k (i + 1) := if_neg c
def x_lasts (n f t : Nat) (h : Hp) (p : Int32) : RS := if ¬ p < 0 ∧ p < nI n then (if h (pd p) 5 = 0 then rI 0 h else x_lastL n f t (32 + 14 + p.toNatClampNeg) (d_like n f h) 200 0) else .inr E_I
