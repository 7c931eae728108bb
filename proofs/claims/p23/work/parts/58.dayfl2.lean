/-! all flocks of a day -/
theorem flF_ne {z : Hp} {j p s w its th2 li o : Nat} (h1 : o ≠ 26 + j) (h2 : o ≠ 15 + p) : flF z j p s w its th2 li o = z o := by
  unfold flF
  split
  · rw [hp_ne h2, hp_ne h1, hp_ne h1, hp_ne h2, hp_ne h1]
  · rw [hp_ne h1, hp_ne h1, hp_ne h2, hp_ne h1]
theorem flF_p {z : Hp} {j p s w its th2 li k : Nat} (hp : p < 10) (h5 : k ≠ 5) (h6 : k ≠ 6) : flF z j p s w its th2 li (15 + p) k = z (15 + p) k := by
  unfold flF
  split
  · rw [hp_off (Or.inr h6), hp_off (Or.inl (by omega)), hp_off (Or.inl (by omega)), hp_off (Or.inr h5), hp_off (Or.inl (by omega))]
  · rw [hp_off (Or.inl (by omega)), hp_off (Or.inl (by omega)), hp_off (Or.inr h5), hp_off (Or.inl (by omega))]
theorem flF_5 {z : Hp} {j p s w its th2 li : Nat} (hp : p < 10) : flF z j p s w its th2 li (15 + p) 5 = nI (w - its) := by
  unfold flF
  split
  · rw [hp_off (Or.inr (by omega)), hp_off (Or.inl (by omega)), hp_off (Or.inl (by omega)), hp_upd]
  · rw [hp_off (Or.inl (by omega)), hp_off (Or.inl (by omega)), hp_upd]
theorem flF_6 {z : Hp} {j p s w its th2 li : Nat} (hp : p < 10) (h : z (15 + p) 6 = nI li) : flF z j p s w its th2 li (15 + p) 6 = if z (15 + p) 7 = 0 then nI (li - s / 10) else nI li := by
  unfold flF
  by_cases e : z (15 + p) 7 = 0
  · rw [if_pos e, if_pos e, hp_upd]
  · rw [if_neg e, if_neg e, hp_off (Or.inl (by omega)), hp_off (Or.inl (by omega)), hp_off (Or.inr (by omega)), hp_off (Or.inl (by omega))]
    exact h
theorem flF_f {z : Hp} {j p s w its th2 li : Nat} (hp : p < 10) : flF z j p s w its th2 li (26 + j) 0 = z (26 + j) 0 ∧ flF z j p s w its th2 li (26 + j) 1 = nI p ∧ flF z j p s w its th2 li (26 + j) 2 = nI th2 ∧ flF z j p s w its th2 li (26 + j) 3 = z (26 + j) 3 ∧ flF z j p s w its th2 li (26 + j) 4 = z (26 + j) 4 + nI its := by
  have e : ∀ k, flF z j p s w its th2 li (26 + j) k = hp_up (hp_up (hp_up (hp_up z (26 + j) 1 (nI p)) (15 + p) 5 (nI (w - its))) (26 + j) 4 (z (26 + j) 4 + nI its)) (26 + j) 2 (nI th2) (26 + j) k := fun k => by
    unfold flF
    split
    · rw [hp_off (Or.inl (by omega))]
    · rfl
  refine ⟨?_, ?_, ?_, ?_, ?_⟩
  · rw [e, hp_off (Or.inr (by omega)), hp_off (Or.inr (by omega)), hp_off (Or.inl (by omega)), hp_off (Or.inr (by omega))]
  · rw [e, hp_off (Or.inr (by omega)), hp_off (Or.inr (by omega)), hp_off (Or.inl (by omega)), hp_upd]
  · rw [e, hp_upd]
  · rw [e, hp_off (Or.inr (by omega)), hp_off (Or.inr (by omega)), hp_off (Or.inl (by omega)), hp_off (Or.inr (by omega))]
  · rw [e, hp_off (Or.inr (by omega)), hp_upd]
theorem upE {φ : Nat → Int32} {k : Nat} {v : Int32} : upd φ k v k = v := if_pos rfl
theorem upN {φ : Nat → Int32} {k i : Nat} {v : Int32} (h : i ≠ k) : upd φ k v i = φ i := if_neg h
/-- a flock's row behind its own turn -/
def rwF (n : Nat) (c : Hp) (i : Nat) : Nat → Int32 := fd (d_flock 1 n) c (i + 1) (26 + i)
/-- the treading, as the law counts it: c the rows before, x those behind -/
def trS (c : Hp) (x : Nat → Nat → Int32) (φ : Nat → Int32) (i : Nat) : Nat → Int32 := if c (26 + i) 2 = 10 then φ else upd φ (x i 1).toNatClampNeg (φ (x i 1).toNatClampNeg + c (26 + i) 0 / 10)
/-- what a day did to one flock: c before, x behind -/
def FL1 (n : Nat) (c : Hp) (x : Nat → Int32) (i its : Nat) : Prop :=
  (c (26 + i) 2 = nI 10 ∧ x = c (26 + i) ∧ its = 0) ∨ ∃ s p0 th p : Nat, (1 ≤ s ∧ s ≤ 80) ∧ p0 < n ∧ th < 10 ∧ p < n ∧ its ≤ 2 * s ∧ c (26 + i) 0 = nI s ∧ c (26 + i) 1 = nI p0 ∧ c (26 + i) 2 = nI th ∧ x 0 = nI s ∧ x 1 = nI p ∧ x 2 = nI (if its = 2 * s then th - 2 else min 10 (th + 3)) ∧ x 3 = c (26 + i) 3 ∧ x 4 = c (26 + i) 4 + nI its ∧ (p ≠ p0 → c (26 + i) 3 ≠ 0 ∧ th ≠ 0 ∧ its = 2 * s)
theorem fl_all {n f W : Nat} {c m : Hp} (hn : n ≤ 10) (hf : f ≤ 6) (hW : W ≤ 6000) (RE : REL 1 n f c m) (I : INV 1 n f (cB W) c) : ∀ k, k ≤ f → ∃ its : Nat → Nat,
    d_drunk 1 n c k = nI (sm its k) ∧ sm (wN (fd (d_flock 1 n) c k)) n + sm its k = sm (wN c) n ∧ (∀ i, k ≤ i → fd (d_flock 1 n) c k (26 + i) = c (26 + i)) ∧ (∀ i, i < k → fd (d_flock 1 n) c k (26 + i) = rwF n c i) ∧ (∀ i, i < k → FL1 n c (rwF n c i) i (its i)) ∧
    (∀ j k2, j < n → k2 ≠ 5 → k2 ≠ 6 → fd (d_flock 1 n) c k (15 + j) k2 = c (15 + j) k2) ∧ (∀ j, j < n → ∃ T li : Nat, fd (trS c (rwF n c)) (fun _ => 0) k j = nI T ∧ T ≤ 8 * k ∧ li ≤ 100 ∧ c (15 + j) 6 = nI li ∧ fd (d_flock 1 n) c k (15 + j) 6 = if c (15 + j) 7 = 0 then nI (li - T) else nI li) := by
  intro k
  induction k with
  | zero =>
    intro _
    refine ⟨fun _ => 0, ?_, ?_, fun i _ => by rw [fd_0], fun i hi => absurd hi (Nat.not_lt_zero i), fun i hi => absurd hi (Nat.not_lt_zero i), fun j k2 _ _ _ => by rw [fd_0], fun j hj => ?_⟩
    · rw [d_drunk_0]; exact nI_0.symm
    · rw [fd_0]; rfl
    · obtain ⟨ht, sz, dp, w, li, g1, g2, g3, g4, g5, k1, k2, k3, k4, k5⟩ := I.1 j hj
      have k5 : c (15 + j) 6 = nI li := k5
      refine ⟨0, li, rfl, by omega, g5, k5, ?_⟩
      rw [fd_0, Nat.sub_zero, ite_self]
      exact k5
  | succ k ih =>
    intro hk
    obtain ⟨its, h1, h2, h3, h4, h5, h6, h7⟩ := ih (by omega)
    have hkf : k < f := by omega
    have Ik := (sim_h2 (W := W) hn (show f ≤ 7 by omega) (by omega) RE I k (by omega)).1.2
    have ez : fd (d_flock 1 n) c (k + 1) = d_flock 1 n (fd (d_flock 1 n) c k) k := fd_s
    have er : rwF n c k = fd (d_flock 1 n) c (k + 1) (26 + k) := rfl
    have et : fd (trS c (rwF n c)) (fun _ => 0) (k + 1) = trS c (rwF n c) (fd (trS c (rwF n c)) (fun _ => 0) k) k := fd_s
    have eu : d_drunk 1 n c (k + 1) = d_flockU 1 n (fd (d_flock 1 n) c k) k (d_drunk 1 n c k) := d_drunk_s
    obtain ⟨s, p0, th, a1, a2, a3, b0, b1, b2⟩ := I.2.2.2.1 k hkf
    have b0 : c (26 + k) 0 = nI s := b0
    have b1 : c (26 + k) 1 = nI p0 := b1
    have b2 : c (26 + k) 2 = nI th := b2
    generalize hz : fd (d_flock 1 n) c k = z at h1 h2 h3 h4 h6 h7 Ik ez eu
    have hrow : z (26 + k) = c (26 + k) := h3 k (Nat.le_refl k)
    have ie : ∀ x, sm (fun i => if i = k then x else its i) k = sm its k := fun x => sm_congr k (fun i hi => if_neg (by omega))
    have ss : ∀ x, sm (fun i => if i = k then x else its i) (k + 1) = sm its k + x := fun x => by
      show sm _ k + (if k = k then x else its k) = _
      rw [ie, if_pos rfl]
    by_cases h10 : th = 10
    · subst h10
      obtain ⟨d1, d2⟩ := fl_lost (n := n) (j := k) (z := z) (by rw [hrow]; exact b2)
      rw [d1] at ez
      have hl : c (26 + k) 2 = 10 := b2
      refine ⟨fun i => if i = k then 0 else its i, ?_, ?_, fun i hi => ?_, fun i hi => ?_, fun i hi => ?_, fun j k2 hj e5 e6 => ?_, fun j hj => ?_⟩
      · rw [eu, d2, ss, Nat.add_zero]; exact h1
      · rw [ez, ss, Nat.add_zero]; exact h2
      · rw [ez]; exact h3 i (by omega)
      · rw [ez]
        by_cases e : i = k
        · subst e; rw [er, ez]
        · exact h4 i (by omega)
      · by_cases e : i = k
        · subst e
          exact Or.inl ⟨b2, by rw [er, ez]; exact hrow, if_pos rfl⟩
        · show FL1 n c (rwF n c i) i (if i = k then 0 else its i)
          rw [if_neg e]
          exact h5 i (by omega)
      · rw [ez]; exact h6 j k2 hj e5 e6
      · obtain ⟨T, li, t1, t2, t3, t4, t5⟩ := h7 j hj
        refine ⟨T, li, ?_, by omega, t3, t4, by rw [ez]; exact t5⟩
        rw [et]
        unfold trS
        rw [if_pos hl]
        exact t1
    · obtain ⟨p, w, li0, it, th2, q1, q2, q3, q4, q5, q6, q7, q8, q9, q10⟩ := fl_step hn hkf Ik (fun _ _ => by show W ≤ _; omega) a1 a2 a3 (by rw [hrow]; exact b0) (by rw [hrow]; exact b1) (by rw [hrow]; exact b2) h10
      rw [q9] at ez
      have hnl : ¬ c (26 + k) 2 = 10 := by rw [b2]; exact fun y => h10 ((nI_eq (a := th) (b := 10) (by omega) (by omega)).mp y)
      have hp10 : p < 10 := by omega
      obtain ⟨f0, f1, f2, f3, f4⟩ := flF_f (z := z) (j := k) (p := p) (s := s) (w := w) (its := it) (th2 := th2) (li := li0) hp10
      have hitw : it ≤ w := by omega
      refine ⟨fun i => if i = k then it else its i, ?_, ?_, fun i hi => ?_, fun i hi => ?_, fun i hi => ?_, fun j k2 hj e5 e6 => ?_, fun j hj => ?_⟩
      · rw [eu, q10, h1, ss, nI_add]
      · rw [ez, ss]
        have hs1 := sm_one (w := wN z) (w' := wN (flF z k p s w it th2 li0)) n q1 (fun i hi hne => by unfold wN; rw [flF_ne (by omega) (by omega)])
        have hw1 : wN z p = w := by unfold wN; rw [q6, nI_clamp (by have : w ≤ W := q2; omega)]
        have hw2 : wN (flF z k p s w it th2 li0) p = w - it := by unfold wN; rw [flF_5 hp10, nI_clamp (by have : w ≤ W := q2; omega)]
        rw [hw1, hw2] at hs1
        omega
      · rw [ez, flF_ne (by omega) (by omega)]; exact h3 i (by omega)
      · rw [ez]
        by_cases e : i = k
        · subst e; rw [er, ez]
        · rw [flF_ne (by omega) (by omega)]; exact h4 i (by omega)
      · by_cases e : i = k
        · subst e
          refine Or.inr ⟨s, p0, th, p, a1, a2, Nat.lt_of_le_of_ne a3 h10, q1, ?_, b0, b1, b2, ?_, ?_, ?_, ?_, ?_, ?_⟩
          · show (if i = i then it else its i) ≤ 2 * s
            rw [if_pos rfl]; omega
          · rw [er, ez, f0, hrow]; exact b0
          · rw [er, ez]; exact f1
          · rw [er, ez, f2, q5]
            show _ = nI (if (if i = i then it else its i) = 2 * s then th - 2 else min 10 (th + 3))
            rw [if_pos (show i = i from rfl)]
          · rw [er, ez, f3, hrow]
          · rw [er, ez, f4, hrow]
            show _ = c (26 + i) 4 + nI (if i = i then it else its i)
            rw [if_pos rfl]
          · intro hne
            show _ ∧ _ ∧ (if i = i then it else its i) = 2 * s
            rw [if_pos rfl, ← hrow]
            exact q8 hne
        · show FL1 n c (rwF n c i) i (if i = k then it else its i)
          rw [if_neg e]
          exact h5 i (by omega)
      · rw [ez]
        by_cases e : j = p
        · subst e; rw [flF_p hp10 e5 e6]; exact h6 j k2 hj e5 e6
        · rw [flF_ne (by omega) (by omega)]; exact h6 j k2 hj e5 e6
      · obtain ⟨T, li, t1, t2, t3, t4, t5⟩ := h7 j hj
        have e7 : z (15 + j) 7 = c (15 + j) 7 := h6 j 7 hj (by omega) (by omega)
        have hx1 : (rwF n c k 1).toNatClampNeg = p := by rw [er, ez, f1, nI_clamp (by omega)]
        have hs10 : c (26 + k) 0 / 10 = nI (s / 10) := by rw [b0, show (10 : Int32) = nI 10 from rfl, pk_div (by omega) (by omega) (by omega)]
        rw [et, ez]
        generalize fd (trS c (rwF n c)) (fun _ => 0) k = φk at t1 ⊢
        unfold trS
        rw [if_neg hnl, hx1, hs10]
        by_cases e : j = p
        · subst e
          refine ⟨T + s / 10, li, ?_, by omega, t3, t4, ?_⟩
          · rw [upE, t1, nI_add]
          · rw [flF_6 hp10 q7, e7]
            by_cases e0 : c (15 + j) 7 = 0
            · rw [if_pos e0] at t5 ⊢
              rw [if_pos e0]
              have : li0 = li - T := (nI_eq (by omega) (by omega)).mp (q7.symm.trans t5)
              rw [this]
              congr 1
              omega
            · rw [if_neg e0] at t5 ⊢
              rw [if_neg e0]
              exact q7.symm.trans t5
        · refine ⟨T, li, ?_, by omega, t3, t4, ?_⟩
          · rw [upN e]; exact t1
          · rw [flF_ne (by omega) (by omega)]; exact t5
