/-! WHAT A DAY DOES: all of it -/
theorem fd_cong {α : Type} {s1 s2 : α → Nat → α} {a : α} : ∀ k, (∀ x i, i < k → s1 x i = s2 x i) → fd s1 a k = fd s2 a k
  | 0, _ => by rw [fd_0, fd_0]
  | k + 1, h => by rw [fd_s, fd_s, fd_cong k (fun x i hi => h x i (by omega)), h _ k (by omega)]
/-- what a day brings a pond, as a natural number -/
def gN (c : Hp) (w j : Nat) : Nat := (camI c w j).toNatClampNeg
theorem gN_at {n j wi : Nat} {B : Nat → Nat} {c : Hp} (P : PBd 1 n B c) (Wb : WBd 1 c) (hj : j < n) (hwi : wi < 10) : camI c (3 + wi) j = nI (gN c (3 + wi) j) ∧ gN c (3 + wi) j ≤ 540 := by
  obtain ⟨g, hg, e⟩ := cam_nI P Wb hj hwi
  unfold gN
  rw [e, nI_clamp (by omega)]
  exact ⟨rfl, hg⟩
/-- what a day did to one pond: c before, x behind -/
def PO1 (f t : Nat) (c x : Hp) (j : Nat) : Prop :=
  (∀ k, (k < 5 ∨ k = 8) → x (15 + j) k = c (15 + j) k) ∧ x (15 + j) 7 = (if t % 10 = 9 then 0 else c (15 + j) 7) ∧
  (∃ T li : Nat, fd (trS c (fun i => x (26 + i))) (fun _ => 0) f j = nI T ∧ T ≤ 8 * f ∧ li ≤ 100 ∧ c (15 + j) 6 = nI li ∧ x (15 + j) 6 = if c (15 + j) 7 = 0 then nI (li - T) else nI li) ∧
  (x (15 + j) 5 = nI (wN x j) ∧ wN x j ≤ hN c j) ∧ ∃ e : Nat, e ≤ 70000 ∧ x (15 + j) 9 = c (15 + j) 9 + nI e ∧ (0 < e → wN x j = hN c j)
def DAYP (n f t : Nat) (c x : Hp) (its : Nat → Nat) : Prop :=
  (∀ i, i < f → FL1 n c (x (26 + i)) i (its i)) ∧ (∀ j, j < n → PO1 f t c x j) ∧ sm (wN x) n + sm its f ≤ sm (wN c) n + sm (gN c (3 + t % 10)) n
theorem FL1.of {n i its : Nat} {c c1 : Hp} {x : Nat → Int32} (e : c1 (26 + i) = c (26 + i)) (h : FL1 n c1 x i its) : FL1 n c x i its := by
  unfold FL1 at h ⊢
  rw [e] at h
  exact h
theorem day_all {n f t q : Nat} {c : Hp} (T : TOP n f t q c) : ∃ its : Nat → Nat, d_dayU 1 n f t c = nI (sm its f) ∧ DAYP n f t c (d_day 1 n f t c) its := by
  have hn := T.2.1.2.1
  have hf := T.2.2.2.1
  obtain ⟨RE, I, L, O⟩ := T.1
  have hw : t % 10 < 10 := by omega
  obtain ⟨q1, i1⟩ := sim_h1 (W := 5400) hn hw (by omega) RE I
  have i1 : INV 1 n f (cB 5940) (d_h1 1 n (3 + t % 10) c) := i1
  have q1 : REL 1 n f (d_h1 1 n (3 + t % 10) c) (m_h1 n (t % 10) c) := q1
  obtain ⟨its, f1, f2, f3, f4, f5, f6, f7⟩ := fl_all (W := 5940) hn hf (by omega) q1 i1 f (Nat.le_refl f)
  have s2 := (sim_h2 (W := 5940) hn (show f ≤ 7 by omega) (by omega) q1 i1 f (Nat.le_refl f)).1
  obtain ⟨u1, u2⟩ := sun_all (W := 5940) hn hw (by omega) s2.1 s2.2
  obtain ⟨m1, m2⟩ := mist_all (c := c) (w := 3 + t % 10) (by omega) n
  have K3 : KEEP 1 n c (d_h3 1 n f (3 + t % 10) c) := keep_h3 hn
  have i3 : INV 1 n f (cB 5940) (d_h3 1 n f (3 + t % 10) c) := (sim_h3 (W := 5400) hn (show f ≤ 7 by omega) hw (by omega) RE I).2.1
  have e3 : d_h3 1 n f (3 + t % 10) c = fd (d_sun 1 (3 + t % 10)) (fd (d_flock 1 n) (d_h1 1 n (3 + t % 10) c) f) n := rfl
  have e1 : d_h1 1 n (3 + t % 10) c = fd (d_mist 1 (3 + t % 10)) c n := rfl
  rw [← e1] at m1 m2
  rw [← e3] at u1 u2
  have hU : d_dayU 1 n f t c = d_drunk 1 n (d_h1 1 n (3 + t % 10) c) f := rfl
  have hD : d_day 1 n f t c = hp_up (if nI (t % 10) = 9 then fd (d_rot 1) (fd (d_runS 1) (d_h3 1 n f (3 + t % 10) c) n) n else fd (d_runS 1) (d_h3 1 n f (3 + t % 10) c) n) 1 6 ((if nI (t % 10) = 9 then fd (d_rot 1) (fd (d_runS 1) (d_h3 1 n f (3 + t % 10) c) n) n else fd (d_runS 1) (d_h3 1 n f (3 + t % 10) c) n) 1 6 + 1) := rfl
  rw [hU, hD, f1]
  clear hU hD e1 e3 q1
  generalize d_h1 1 n (3 + t % 10) c = c1 at m1 m2 f2 f3 f4 f5 f6 f7 i1 s2 u1 u2 ⊢
  generalize fd (d_flock 1 n) c1 f = c2 at f2 f3 f4 f6 f7 s2 u1 u2
  have L3 := L.keep K3
  have O3 := O.keep K3
  generalize d_h3 1 n f (3 + t % 10) c = c3 at K3 L3 O3 i3 u1 u2 ⊢
  have P3 : PBd 1 n (fun _ => 70000) c3 := i3.1.mono (fun _ _ => by show 5940 ≤ 70000; omega)
  have w3 : ∀ j, j < n → c3 (15 + j) 5 = nI (wN c3 j) ∧ wN c3 j ≤ 5940 := fun j hj => wN_at i3.1 (show (5940 : Nat) < 2 ^ 31 by omega) hj
  have hs3 : sm (wN c3) n ≤ n * 5940 := sm_bd n (fun i hi => (w3 i hi).2)
  have hs3b : n * 5940 ≤ 10 * 5940 := Nat.mul_le_mul_right _ hn
  obtain ⟨r1, r2, r3, r4⟩ := run_all (S0 := sm (wN c3) n) (H := hgt 1 c3) hn (by omega) (bL 1 n c3) [] c3 (by simpa using O3.1) (fun q hq => O3.2.2 q (by simpa using hq)) P3 L3 (fun _ => rfl) (Nat.le_refl _) (fun _ => rfl) (fun j hj => by cases hj) (fun _ _ => rfl)
  rw [← class_runs] at r1 r2 r3 r4
  generalize fd (d_runS 1) c3 n = c4 at r1 r2 r3 r4 ⊢
  have rot : ∀ k, (∀ o k2, (k2 ≠ 7 ∨ ∀ j, j < k → o ≠ 15 + j) → fd (d_rot 1) c4 k o k2 = c4 o k2) ∧ ∀ j, j < k → fd (d_rot 1) c4 k (15 + j) 7 = 0 := by
    intro k
    induction k with
    | zero => exact ⟨fun o k2 _ => by rw [fd_0], fun j hj => absurd hj (Nat.not_lt_zero j)⟩
    | succ k ih =>
      rw [fd_s]
      refine ⟨fun o k2 ho => ?_, fun j hj => ?_⟩
      · show hp_up _ (15 + k) 7 0 o k2 = _
        rw [hp_off (ho.elim Or.inr (fun h => Or.inl (h k (by omega))))]
        exact ih.1 o k2 (ho.imp id (fun h j hj => h j (by omega)))
      · show hp_up _ (15 + k) 7 0 (15 + j) 7 = 0
        by_cases e : j = k
        · subst e; exact hp_upd
        · rw [hp_off (Or.inl (by omega))]; exact ih.2 j (by omega)
  have h9 : (nI (t % 10) = 9) ↔ t % 10 = 9 := nI_eq (a := t % 10) (b := 9) (by omega) (by omega)
  have d5 : (∀ o k2, (k2 ≠ 7 ∨ ∀ j, j < n → o ≠ 15 + j) → (if nI (t % 10) = 9 then fd (d_rot 1) c4 n else c4) o k2 = c4 o k2) ∧ ∀ j, j < n → (if nI (t % 10) = 9 then fd (d_rot 1) c4 n else c4) (15 + j) 7 = if t % 10 = 9 then 0 else c4 (15 + j) 7 := by
    by_cases e : t % 10 = 9
    · rw [if_pos (h9.mpr e)]
      exact ⟨(rot n).1, fun j hj => by rw [if_pos e]; exact (rot n).2 j hj⟩
    · rw [if_neg (fun y => e (h9.mp y))]
      exact ⟨fun _ _ _ => rfl, fun j hj => by rw [if_neg e]⟩
  generalize (if nI (t % 10) = 9 then fd (d_rot 1) c4 n else c4) = c5 at d5 ⊢
  have d6 : ∀ o, o ≠ 1 → hp_up c5 1 6 (c5 1 6 + 1) o = c5 o := fun o ho => hp_ne ho
  generalize hp_up c5 1 6 (c5 1 6 + 1) = c6 at d6 ⊢
  have hfl : ∀ i, i < f → c6 (26 + i) = c2 (26 + i) := fun i hi => by
    funext k
    rw [d6 _ (by omega), d5.1 _ _ (Or.inr (fun j hj => by omega)), r4 _ _ (Or.inr (fun j hj => by omega)), u2 _ _ (Or.inr (fun j hj => by omega))]
  have hc1 : ∀ i, c1 (26 + i) = c (26 + i) := fun i => m1 _ (fun j hj => by omega)
  have htr : fd (trS c1 (rwF n c1)) (fun _ => 0) f = fd (trS c (fun i => c6 (26 + i))) (fun _ => 0) f := fd_cong f (fun φ i hi => by
    unfold trS
    rw [hc1 i, ← f4 i hi]
    show _ = if c (26 + i) 2 = 10 then φ else upd φ ((c6 (26 + i)) 1).toNatClampNeg (φ ((c6 (26 + i)) 1).toNatClampNeg + c (26 + i) 0 / 10)
    rw [hfl i hi])
  have w6 : ∀ j, j < n → wN c6 j = wN c4 j := fun j hj => by
    unfold wN
    rw [d6 _ (by omega), d5.1 _ _ (Or.inl (by omega))]
  have hHold : ∀ j, j < n → hN c3 j = hN c j := fun j hj => by
    unfold hN p_holds
    rw [show c3 (15 + j) 3 = c (15 + j) 3 from K3.2 j 3 hj (by omega), show c3 (15 + j) 4 = c (15 + j) 4 from K3.2 j 4 hj (by omega)]
  have w1 : ∀ j, j < n → wN c1 j = wN c j + gN c (3 + t % 10) j := fun j hj => by
    have a1 := wN_at I.1 (show (5400 : Nat) < 2 ^ 31 by omega) hj
    have a2 : wN c j ≤ 5400 := a1.2
    have a3 := gN_at I.1 I.2.1 hj hw
    show (c1 (15 + j) 5).toNatClampNeg = _
    rw [(m2 j hj).1, a1.1, a3.1, nI_add, nI_clamp (by omega)]
  have hsum1 : sm (wN c1) n = sm (wN c) n + sm (gN c (3 + t % 10)) n := by
    rw [sm_congr n w1]
    exact sm_add n
  have hle3 : sm (wN c3) n ≤ sm (wN c2) n := sm_le n u1
  refine ⟨its, rfl, fun i hi => ?_, fun j hj => ?_, ?_⟩
  · rw [hfl i hi, f4 i hi]
    exact (f5 i hi).of (hc1 i)
  · have m7 : c1 (15 + j) 7 = c (15 + j) 7 := (m2 j hj).2 7 (by omega)
    have m6 : c1 (15 + j) 6 = c (15 + j) 6 := (m2 j hj).2 6 (by omega)
    have m9 : c1 (15 + j) 9 = c (15 + j) 9 := (m2 j hj).2 9 (by omega)
    obtain ⟨Tt, li, t1, t2, t3, t4, t5⟩ := f7 j hj
    obtain ⟨x1, e, x2, x3, x4⟩ := r3 j (by simpa using O3.2.1 j hj)
    have hwB := wN_at r2 (show (70000 : Nat) < 2 ^ 31 by omega) hj
    refine ⟨fun k hk => ?_, ?_, ⟨Tt, li, ?_, t2, t3, m6.symm.trans t4, ?_⟩, ⟨?_, ?_⟩, e, x2, ?_, fun h => ?_⟩
    · rw [d6 _ (by omega), d5.1 _ _ (Or.inl (by omega)), r4 _ _ (Or.inl ⟨by omega, by omega⟩)]
      exact K3.2 j k hj hk
    · rw [d6 _ (by omega), d5.2 j hj, r4 _ _ (Or.inl ⟨by omega, by omega⟩), u2 _ _ (Or.inl (by omega)), f6 j 7 hj (by omega) (by omega), m7]
    · rw [← htr]; exact t1
    · rw [d6 _ (by omega), d5.1 _ _ (Or.inl (by omega)), r4 _ _ (Or.inl ⟨by omega, by omega⟩), u2 _ _ (Or.inl (by omega)), ← m7]
      exact t5
    · rw [w6 j hj, d6 _ (by omega), d5.1 _ _ (Or.inl (by omega))]
      exact hwB.1
    · rw [w6 j hj, ← hHold j hj]; exact x1
    · rw [d6 _ (by omega), d5.1 _ _ (Or.inl (by omega)), x3, u2 _ _ (Or.inl (by omega)), f6 j 9 hj (by omega) (by omega), m9]
    · rw [w6 j hj, ← hHold j hj]; exact x4 h
  · rw [sm_congr n w6]
    omega
