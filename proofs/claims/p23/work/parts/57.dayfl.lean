/-! WHAT A DAY DOES: a flock -/
def flF (z : Hp) (j p : Nat) (s w its th2 : Nat) (li : Nat) : Hp :=
  if z (15 + p) 7 = 0 then hp_up (hp_up (hp_up (hp_up (hp_up z (26 + j) 1 (nI p)) (15 + p) 5 (nI (w - its))) (26 + j) 4 (z (26 + j) 4 + nI its)) (26 + j) 2 (nI th2)) (15 + p) 6 (nI (li - s / 10))
  else hp_up (hp_up (hp_up (hp_up z (26 + j) 1 (nI p)) (15 + p) 5 (nI (w - its))) (26 + j) 4 (z (26 + j) 4 + nI its)) (26 + j) 2 (nI th2)
theorem go_eq {n f j p0 th : Nat} {B : Nat → Nat} {z : Hp} (hn : n ≤ 10) (hj : j < f) (I : INV 1 n f B z) (hp0 : p0 < n) (hth : th ≤ 10) (b1 : z (26 + j) 1 = nI p0) (b2 : z (26 + j) 2 = nI th) :
    ∃ p, p < n ∧ d_go 1 n (26 + j) z = hp_up z (26 + j) 1 (nI p) ∧ (p ≠ p0 → z (26 + j) 3 ≠ 0 ∧ th ≠ 0 ∧ ¬ z (15 + p) 5 < f_need z (26 + j)) := by
  have e0 : nI th ≤ 0 ↔ nI th = 0 := le0 (by omega)
  unfold d_go
  by_cases e1 : z (26 + j) 3 = 0
  · rw [if_pos e1]
    exact ⟨p0, hp0, (hp_same b1).symm, fun h => absurd rfl h⟩
  · rw [if_neg e1, b2]
    by_cases e2 : nI th = 0
    · rw [if_pos (e0.mpr e2)]
      exact ⟨p0, hp0, (hp_same b1).symm, fun h => absurd rfl h⟩
    · rw [if_neg (fun y => e2 (e0.mp y))]
      have hth0 : th ≠ 0 := fun h => e2 (by rw [h]; rfl)
      unfold d_near
      rw [b1, nI_clamp (by omega), show 1 + 14 + p0 = 15 + p0 from by omega]
      by_cases e3 : z (15 + p0) 5 < f_need z (26 + j)
      · rw [if_pos e3]
        rcases near_up hn I.2.2.1 hp0 (fo := 26 + j) n (Nat.le_refl n) with ⟨-, e⟩ | ⟨q, hq, e⟩
        · rw [e]
          exact ⟨p0, hp0, rfl, fun h => absurd rfl h⟩
        · rw [e]
          exact ⟨q, hq.2.1, rfl, fun _ => ⟨e1, hth0, hq.2.2.1⟩⟩
      · rw [if_neg e3]
        exact ⟨p0, hp0, rfl, fun h => absurd rfl h⟩
theorem fl_step {n f j s p0 th : Nat} {B : Nat → Nat} {z : Hp} (hn : n ≤ 10) (hj : j < f) (I : INV 1 n f B z) (hB : ∀ i, i < n → B i ≤ 2 ^ 20) (hs : 1 ≤ s ∧ s ≤ 80) (hp0 : p0 < n) (hth : th ≤ 10) (b0 : z (26 + j) 0 = nI s) (b1 : z (26 + j) 1 = nI p0) (b2 : z (26 + j) 2 = nI th) (h10 : th ≠ 10) :
    ∃ p w li its th2 : Nat, p < n ∧ w ≤ B p ∧ li ≤ 100 ∧ its = min (2 * s) w ∧ th2 = (if its = 2 * s then th - 2 else min 10 (th + 3)) ∧ z (15 + p) 5 = nI w ∧ z (15 + p) 6 = nI li ∧ (p ≠ p0 → z (26 + j) 3 ≠ 0 ∧ th ≠ 0 ∧ its = 2 * s) ∧ d_flock 1 n z j = flF z j p s w its th2 li ∧ ∀ u, d_flockU 1 n z j u = u + nI its := by
  obtain ⟨p, hp, eg, hmv⟩ := go_eq hn hj I hp0 hth b1 b2
  obtain ⟨ht, sz, dp, w, li, g1, g2, g3, g4, g5, k1, k2, k3, k4, k5⟩ := I.1 p hp
  have k4 : z (15 + p) 5 = nI w := k4
  have k5 : z (15 + p) 6 = nI li := k5
  have hBp := hB p hp
  have e2s : (2 : Int32) * nI s = nI (2 * s) := pk_mul 2 s
  have en : f_need z (26 + j) = nI (2 * s) := by unfold f_need; rw [b0]; exact e2s
  have h1 : ¬ (10 : Int32) ≤ z (26 + j) 2 := by rw [b2]; exact fun y => absurd ((nI_leI (a := 10) (b := th) (by omega) (by omega)).mp y) (by omega)
  have ed : d_flock 1 n z j = if 10 ≤ z (26 + j) 2 then z else d_drinkH (26 + j) (d_to 1 (26 + j) (d_go 1 n (26 + j) z)) (d_go 1 n (26 + j) z) := rfl
  have eu : ∀ u, d_flockU 1 n z j u = if 10 ≤ z (26 + j) 2 then u else u + mnI (f_need (d_go 1 n (26 + j) z) (26 + j)) (d_go 1 n (26 + j) z (d_to 1 (26 + j) (d_go 1 n (26 + j) z)) 5) := fun u => rfl
  have eto : d_to 1 (26 + j) (hp_up z (26 + j) 1 (nI p)) = 15 + p := by unfold d_to; rw [hp_upd, nI_clamp (by omega)]
  have q0 : hp_up z (26 + j) 1 (nI p) (26 + j) 0 = nI s := (hp_off (Or.inr (by omega))).trans b0
  have q5 : hp_up z (26 + j) 1 (nI p) (15 + p) 5 = nI w := (hp_off (Or.inl (by omega))).trans k4
  have qn : f_need (hp_up z (26 + j) 1 (nI p)) (26 + j) = nI (2 * s) := by unfold f_need; rw [q0]; exact e2s
  have ev : mnI (nI (2 * s)) (nI w) = nI (min (2 * s) w) := mnN (by omega) (by omega)
  refine ⟨p, w, li, min (2 * s) w, _, hp, g4, g5, rfl, rfl, k4, k5, fun h => ?_, ?_, fun u => ?_⟩
  · obtain ⟨m1, m2, m3⟩ := hmv h
    refine ⟨m1, m2, ?_⟩
    rw [k4, en] at m3
    have : ¬ w < 2 * s := fun y => m3 ((nI_ltI (by omega) (by omega)).mpr y)
    omega
  · rw [ed, if_neg h1, eg, eto]
    unfold d_drinkH
    rw [qn, q5, ev]
    have eg2 : p_give (hp_up z (26 + j) 1 (nI p)) (15 + p) (nI (2 * s)) = hp_up (hp_up z (26 + j) 1 (nI p)) (15 + p) 5 (nI (w - min (2 * s) w)) := by
      unfold p_give
      rw [q5, ev, pk_sub (Nat.min_le_right _ _)]
    rw [eg2]
    have ea : f_drinkA (hp_up (hp_up z (26 + j) 1 (nI p)) (15 + p) 5 (nI (w - min (2 * s) w))) (26 + j) (nI (min (2 * s) w)) = hp_up (hp_up (hp_up z (26 + j) 1 (nI p)) (15 + p) 5 (nI (w - min (2 * s) w))) (26 + j) 4 (z (26 + j) 4 + nI (min (2 * s) w)) := by
      unfold f_drinkA
      rw [hp_off (a := 26 + j) (b := 4) (Or.inl (by omega)), hp_off (a := 26 + j) (b := 4) (Or.inr (by omega))]
    have X0 : hp_up (hp_up (hp_up z (26 + j) 1 (nI p)) (15 + p) 5 (nI (w - min (2 * s) w))) (26 + j) 4 (z (26 + j) 4 + nI (min (2 * s) w)) (26 + j) 0 = nI s := by rw [hp_off (Or.inr (by omega)), hp_off (Or.inl (by omega))]; exact q0
    have X2 : hp_up (hp_up (hp_up z (26 + j) 1 (nI p)) (15 + p) 5 (nI (w - min (2 * s) w))) (26 + j) 4 (z (26 + j) 4 + nI (min (2 * s) w)) (26 + j) 2 = nI th := by rw [hp_off (Or.inr (by omega)), hp_off (Or.inl (by omega)), hp_off (Or.inr (by omega))]; exact b2
    have ef : f_drink (hp_up (hp_up z (26 + j) 1 (nI p)) (15 + p) 5 (nI (w - min (2 * s) w))) (26 + j) (nI (min (2 * s) w)) = hp_up (hp_up (hp_up (hp_up z (26 + j) 1 (nI p)) (15 + p) 5 (nI (w - min (2 * s) w))) (26 + j) 4 (z (26 + j) 4 + nI (min (2 * s) w))) (26 + j) 2 (nI (if min (2 * s) w = 2 * s then th - 2 else min 10 (th + 3))) := by
      unfold f_drink
      rw [ea]
      have en3 : f_need (hp_up (hp_up (hp_up z (26 + j) 1 (nI p)) (15 + p) 5 (nI (w - min (2 * s) w))) (26 + j) 4 (z (26 + j) 4 + nI (min (2 * s) w))) (26 + j) = nI (2 * s) := by unfold f_need; rw [X0]; exact e2s
      rw [en3, X2]
      by_cases hlt : min (2 * s) w < 2 * s
      · rw [if_pos ((nI_ltI (by omega) (by omega)).mpr hlt), if_neg (show ¬ min (2 * s) w = 2 * s by omega), show (3 : Int32) = nI 3 from rfl, nI_add, show (10 : Int32) = nI 10 from rfl, mnN (by omega) (by omega)]
      · rw [if_neg (fun y => hlt ((nI_ltI (by omega) (by omega)).mp y)), if_pos (show min (2 * s) w = 2 * s by omega), show (2 : Int32) = nI 2 from rfl, Int32.sub_eq_add_neg, offN (by omega) (by omega)]
    rw [ef]
    unfold p_tread flF
    have Y7 : hp_up (hp_up (hp_up (hp_up z (26 + j) 1 (nI p)) (15 + p) 5 (nI (w - min (2 * s) w))) (26 + j) 4 (z (26 + j) 4 + nI (min (2 * s) w))) (26 + j) 2 (nI (if min (2 * s) w = 2 * s then th - 2 else min 10 (th + 3))) (15 + p) 7 = z (15 + p) 7 := by rw [hp_off (Or.inl (by omega)), hp_off (Or.inl (by omega)), hp_off (Or.inr (by omega)), hp_off (Or.inl (by omega))]
    have Y6 : hp_up (hp_up (hp_up (hp_up z (26 + j) 1 (nI p)) (15 + p) 5 (nI (w - min (2 * s) w))) (26 + j) 4 (z (26 + j) 4 + nI (min (2 * s) w))) (26 + j) 2 (nI (if min (2 * s) w = 2 * s then th - 2 else min 10 (th + 3))) (15 + p) 6 = nI li := by rw [hp_off (Or.inl (by omega)), hp_off (Or.inl (by omega)), hp_off (Or.inr (by omega)), hp_off (Or.inl (by omega))]; exact k5
    have Y0 : hp_up (hp_up (hp_up (hp_up z (26 + j) 1 (nI p)) (15 + p) 5 (nI (w - min (2 * s) w))) (26 + j) 4 (z (26 + j) 4 + nI (min (2 * s) w))) (26 + j) 2 (nI (if min (2 * s) w = 2 * s then th - 2 else min 10 (th + 3))) (26 + j) 0 = nI s := (hp_off (Or.inr (by omega))).trans X0
    rw [Y7, Y6, Y0]
    by_cases h7 : z (15 + p) 7 = 0
    · rw [if_pos h7, if_pos h7, show (10 : Int32) = nI 10 from rfl, pk_div (by omega) (by omega) (by omega), Int32.sub_eq_add_neg, offN (by omega) (by omega)]
    · rw [if_neg h7, if_neg h7]
  · rw [eu, if_neg h1, eg, eto, qn, q5, ev]
theorem fl_lost {n j : Nat} {z : Hp} (b2 : z (26 + j) 2 = nI 10) : d_flock 1 n z j = z ∧ ∀ u, d_flockU 1 n z j u = u := by
  have h1 : (10 : Int32) ≤ z (26 + j) 2 := by rw [b2]; decide
  have ed : d_flock 1 n z j = if 10 ≤ z (26 + j) 2 then z else d_drinkH (26 + j) (d_to 1 (26 + j) (d_go 1 n (26 + j) z)) (d_go 1 n (26 + j) z) := rfl
  have eu : ∀ u, d_flockU 1 n z j u = if 10 ≤ z (26 + j) 2 then u else u + mnI (f_need (d_go 1 n (26 + j) z) (26 + j)) (d_go 1 n (26 + j) z (d_to 1 (26 + j) (d_go 1 n (26 + j) z)) 5) := fun u => rfl
  exact ⟨by rw [ed, if_pos h1], fun u => by rw [eu, if_pos h1]⟩
/-! sums of water -/
def sm (w : Nat → Nat) : Nat → Nat
  | 0 => 0
  | n + 1 => sm w n + w n
theorem sm_congr {w w' : Nat → Nat} : ∀ n, (∀ i, i < n → w i = w' i) → sm w n = sm w' n
  | 0, _ => rfl
  | n + 1, h => by
    show sm w n + w n = sm w' n + w' n
    rw [sm_congr n (fun i hi => h i (by omega)), h n (by omega)]
theorem sm_le {w w' : Nat → Nat} : ∀ n, (∀ i, i < n → w i ≤ w' i) → sm w n ≤ sm w' n
  | 0, _ => Nat.le_refl _
  | n + 1, h => by
    have h1 := sm_le n (fun i hi => h i (by omega)) (w := w) (w' := w')
    have h2 := h n (by omega)
    show sm w n + w n ≤ sm w' n + w' n
    omega
theorem sm_one {w w' : Nat → Nat} {p : Nat} : ∀ n, p < n → (∀ i, i < n → i ≠ p → w' i = w i) → sm w' n + w p = sm w n + w' p
  | 0, h, _ => absurd h (Nat.not_lt_zero p)
  | n + 1, h, he => by
    show sm w' n + w' n + w p = sm w n + w n + w' p
    by_cases e : p = n
    · subst e
      rw [sm_congr p (fun i hi => he i (by omega) (by omega)) (w := w') (w' := w)]
      omega
    · have h1 := sm_one n (show p < n by omega) (fun i hi hne => he i (by omega) hne) (w := w) (w' := w')
      have h2 := he n (by omega) (by omega)
      omega
theorem sumN_nI {g : Nat → Int32} {w : Nat → Nat} : ∀ n, (∀ i, i < n → g i = nI (w i)) → sumN g n = nI (sm w n)
  | 0, _ => by unfold sumN; rw [fd_0]; exact nI_0.symm
  | n + 1, h => by
    have h1 := sumN_nI n (fun i hi => h i (by omega)) (g := g) (w := w)
    unfold sumN at h1 ⊢
    rw [fd_s, h1, h n (by omega), nI_add]
    rfl
def wN (c : Hp) (i : Nat) : Nat := (c (15 + i) 5).toNatClampNeg
theorem wN_at {n i : Nat} {B : Nat → Nat} {c : Hp} (P : PBd 1 n B c) (hB : B i < 2 ^ 31) (hi : i < n) : c (15 + i) 5 = nI (wN c i) ∧ wN c i ≤ B i := by
  obtain ⟨ht, sz, dp, w, li, g1, g2, g3, g4, g5, k1, k2, k3, k4, k5⟩ := P i hi
  have k4 : c (15 + i) 5 = nI w := k4
  unfold wN
  rw [k4, nI_clamp (by omega)]
  exact ⟨rfl, g4⟩
