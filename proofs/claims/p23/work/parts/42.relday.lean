/-! a flock's day on both sides -/
theorem SR.drink {n f j p : Nat} {B : Nat → Nat} {c r : Hp} (hn : n ≤ 10) (R : SR n f c r) (hj : j < f) (hp : p < n) (I : INV 1 n f B c) (hB : ∀ i, i < n → B i ≤ 2 ^ 20) : SR n f (d_drinkH (26 + j) (15 + p) c) (s_drink r (26 + j) (15 + p)) := by
  obtain ⟨s, q, th, a1, a2, a3, b1, b2, b3⟩ := I.2.2.2.1 j hj
  obtain ⟨ht, sz, dp, w, li, g1, g2, g3, g4, g5, k1, k2, k3, k4, k5⟩ := I.1 p hp
  have hBp := hB p hp
  have b1 : c (26 + j) 0 = nI s := b1
  have b3 : c (26 + j) 2 = nI th := b3
  have k4 : c (15 + p) 5 = nI w := k4
  have r0 : r (26 + j) 0 = nI s := (R.fl hj (by omega)).symm.trans b1
  have r2 : r (26 + j) 2 = nI th := (R.fl hj (by omega)).symm.trans b3
  have r5 : r (15 + p) 5 = nI w := (R.p hp (by omega)).symm.trans k4
  have e2s : (2 : Int32) * nI s = nI (2 * s) := pk_mul 2 s
  have en : f_need c (26 + j) = nI (2 * s) := by unfold f_need; rw [b1]; exact e2s
  have ev : mnI (f_need c (26 + j)) (c (15 + p) 5) = nI (min (2 * s) w) := by rw [en, k4]; exact mnN (by omega) (by omega)
  have ei : s_its r (26 + j) (15 + p) = nI (min (2 * s) w) := by
    unfold s_its
    rw [r5, r0, e2s]
    by_cases h : w < 2 * s
    · rw [if_pos ((nI_ltI (by omega) (by omega)).mpr h), Nat.min_eq_right (by omega)]
    · rw [if_neg (fun y => h ((nI_ltI (by omega) (by omega)).mp y)), Nat.min_eq_left (by omega)]
  unfold d_drinkH s_drink
  rw [ev, ei]
  have R1 : SR n f (p_give c (15 + p) (f_need c (26 + j))) (hp_up r (15 + p) 5 (r (15 + p) 5 - nI (min (2 * s) w))) := by
    unfold p_give
    rw [ev, R.p hp (by omega)]
    exact R.up
  have R2 : SR n f (f_drinkA (p_give c (15 + p) (f_need c (26 + j))) (26 + j) (nI (min (2 * s) w))) (s_dr3 r (26 + j) (15 + p) (nI (min (2 * s) w))) := by
    unfold f_drinkA s_dr3
    rw [R1.fl hj (by omega)]
    exact R1.up
  have z0 : s_dr3 r (26 + j) (15 + p) (nI (min (2 * s) w)) (26 + j) 0 = nI s := by unfold s_dr3; rw [hp_off (Or.inr (by omega)), hp_off (Or.inl (by omega))]; exact r0
  have z2 : s_dr3 r (26 + j) (15 + p) (nI (min (2 * s) w)) (26 + j) 2 = nI th := by unfold s_dr3; rw [hp_off (Or.inr (by omega)), hp_off (Or.inl (by omega))]; exact r2
  unfold f_drink
  generalize f_drinkA (p_give c (15 + p) (f_need c (26 + j))) (26 + j) (nI (min (2 * s) w)) = c2 at R2 ⊢
  generalize s_dr3 r (26 + j) (15 + p) (nI (min (2 * s) w)) = r3 at R2 z0 z2 ⊢
  have y0 : c2 (26 + j) 0 = nI s := (R2.fl hj (by omega)).trans z0
  have y2 : c2 (26 + j) 2 = nI th := (R2.fl hj (by omega)).trans z2
  have R4 : SR n f (if nI (min (2 * s) w) < f_need c2 (26 + j) then hp_up c2 (26 + j) 2 (mnI 10 (c2 (26 + j) 2 + 3)) else hp_up c2 (26 + j) 2 (mxI 0 (c2 (26 + j) 2 - 2))) (s_dr4 r3 (26 + j) (nI (min (2 * s) w))) := by
    have en2 : f_need c2 (26 + j) = nI (2 * s) := by unfold f_need; rw [y0]; exact e2s
    unfold s_dr4
    rw [en2, z0, e2s, y2, z2]
    by_cases h : min (2 * s) w < 2 * s
    · rw [if_pos ((nI_ltI (by omega) (by omega)).mpr h), if_neg (fun y => absurd ((nI_eq (by omega) (by omega)).mp y) (by omega)), show (3 : Int32) = nI 3 from rfl, nI_add, show (10 : Int32) = nI 10 from rfl, mnN (by omega) (by omega), show (7 : Int32) = nI 7 from rfl]
      have e7 : (if nI 7 < nI th then nI 10 else nI (th + 3)) = nI (min 10 (th + 3)) := by
        by_cases h7 : 7 < th
        · rw [if_pos ((nI_ltI (by omega) (by omega)).mpr h7), Nat.min_eq_left (by omega)]
        · rw [if_neg (fun y => h7 ((nI_ltI (by omega) (by omega)).mp y)), Nat.min_eq_right (by omega)]
      rw [e7]
      exact R2.up
    · rw [if_neg (fun y => h ((nI_ltI (by omega) (by omega)).mp y)), if_pos ((nI_eq (by omega) (by omega)).mpr (by omega)), show (2 : Int32) = nI 2 from rfl, Int32.sub_eq_add_neg, offN (by omega) (by omega)]
      have e2 : (if nI 2 < nI th then nI th + -(nI 2) else 0) = nI (th - 2) := by
        by_cases h2 : 2 < th
        · rw [if_pos ((nI_ltI (by omega) (by omega)).mpr h2), subN (by omega)]
        · rw [if_neg (fun y => h2 ((nI_ltI (by omega) (by omega)).mp y)), show th - 2 = 0 by omega]
          exact nI_0.symm
      rw [e2]
      exact R2.up
  have hx0 : (if nI (min (2 * s) w) < f_need c2 (26 + j) then hp_up c2 (26 + j) 2 (mnI 10 (c2 (26 + j) 2 + 3)) else hp_up c2 (26 + j) 2 (mxI 0 (c2 (26 + j) 2 - 2))) (26 + j) 0 = s_dr4 r3 (26 + j) (nI (min (2 * s) w)) (26 + j) 0 := R4.fl hj (by omega)
  generalize (if nI (min (2 * s) w) < f_need c2 (26 + j) then hp_up c2 (26 + j) 2 (mnI 10 (c2 (26 + j) 2 + 3)) else hp_up c2 (26 + j) 2 (mxI 0 (c2 (26 + j) 2 - 2))) = c4 at R4 hx0 ⊢
  generalize s_dr4 r3 (26 + j) (nI (min (2 * s) w)) = r4 at R4 hx0 ⊢
  unfold p_tread s_dr5
  rw [R4.p (k := 7) hp (by omega), R4.p (k := 6) hp (by omega), hx0]
  by_cases h : r4 (15 + p) 7 = 0
  · rw [if_pos h, if_pos h]; exact R4.up
  · rw [if_neg h, if_neg h]; exact R4
theorem SR.flock {n f j : Nat} {B : Nat → Nat} {c r : Hp} (hn : n ≤ 10) (R : SR n f c r) (hj : j < f) (I : INV 1 n f B c) (hB : ∀ i, i < n → B i ≤ 2 ^ 20) : SR n f (d_flock 1 n c j) (s_flock n r j) ∧ ∀ u, d_flockU 1 n c j u = s_flockU n r j u := by
  obtain ⟨s, p0, th, a1, a2, a3, b1, b2, b3⟩ := I.2.2.2.1 j hj
  have b1 : c (26 + j) 0 = nI s := b1
  have b3 : c (26 + j) 2 = nI th := b3
  have r2 : r (26 + j) 2 = nI th := (R.fl hj (by omega)).symm.trans b3
  have ed : d_flock 1 n c j = if 10 ≤ c (26 + j) 2 then c else d_drinkH (26 + j) (d_to 1 (26 + j) (d_go 1 n (26 + j) c)) (d_go 1 n (26 + j) c) := rfl
  have eu : ∀ u, d_flockU 1 n c j u = if 10 ≤ c (26 + j) 2 then u else u + mnI (f_need (d_go 1 n (26 + j) c) (26 + j)) (d_go 1 n (26 + j) c (d_to 1 (26 + j) (d_go 1 n (26 + j) c)) 5) := fun u => rfl
  unfold s_flock s_flockU
  by_cases ht : th = 10
  · subst ht
    have h1 : (10 : Int32) ≤ c (26 + j) 2 := by rw [b3]; decide
    have h2 : r (26 + j) 2 = 10 := r2
    refine ⟨?_, fun u => ?_⟩
    · rw [ed, if_pos h1, if_pos h2]; exact R
    · rw [eu, if_pos h1, if_pos h2]
  · have h1 : ¬ (10 : Int32) ≤ c (26 + j) 2 := by rw [b3]; exact fun y => absurd ((nI_leI (a := 10) (b := th) (by omega) (by omega)).mp y) (by omega)
    have h2 : ¬ r (26 + j) 2 = 10 := by rw [r2]; exact fun y => ht ((nI_eq (a := th) (b := 10) (by omega) (by omega)).mp y)
    have Rg : SR n f (d_go 1 n (26 + j) c) (s_go r n (26 + j)) := R.go hn hj I.2.2.1 I.2.2.2.1
    have Ig : INV 1 n f B (d_go 1 n (26 + j) c) ∧ ∃ p, p < n ∧ d_go 1 n (26 + j) c (26 + j) 1 = nI p := by
      have hin : ∃ p, p < n ∧ d_go 1 n (26 + j) c = hp_up c (26 + j) 1 (nI p) := by
        have b2 : c (26 + j) 1 = nI p0 := b2
        unfold d_go
        split
        · exact ⟨p0, a2, (hp_same b2).symm⟩
        · split
          · exact ⟨p0, a2, (hp_same b2).symm⟩
          · unfold d_near
            split
            · rw [b2, nI_clamp (by omega)]
              rcases near_up hn I.2.2.1 a2 (fo := 26 + j) n (Nat.le_refl n) with ⟨-, e⟩ | ⟨q, hq, e⟩
              · have e : fd (d_nearS c 1 (26 + j) (1 + 14 + p0)) (2147483647, nI p0) n = (2147483647, nI p0) := e
                rw [e]; exact ⟨p0, a2, rfl⟩
              · have e : fd (d_nearS c 1 (26 + j) (1 + 14 + p0)) (2147483647, nI p0) n = (nI (nrD c p0 q), nI q) := e
                rw [e]; exact ⟨q, hq.2.1, rfl⟩
            · rw [b2]; exact ⟨p0, a2, rfl⟩
      obtain ⟨p, hp, e⟩ := hin
      rw [e]
      exact ⟨I.flk hn (I.2.2.2.1.pond hp), p, hp, hp_upd⟩
    obtain ⟨Ig, p, hp, ep⟩ := Ig
    have eto : d_to 1 (26 + j) (d_go 1 n (26 + j) c) = 15 + p := by unfold d_to; rw [ep, nI_clamp (by omega)]
    have epa : s_pa (s_go r n (26 + j)) (26 + j) = 15 + p := by unfold s_pa; rw [← Rg.fl hj (by omega), ep, nI_clamp (by omega)]
    refine ⟨?_, fun u => ?_⟩
    · rw [ed, if_neg h1, if_neg h2, eto, epa]
      exact Rg.drink hn hj hp Ig hB
    · rw [eu, if_neg h1, if_neg h2, eto, epa]
      unfold s_its f_need
      rw [Rg.fl hj (by omega), Rg.p hp (by omega)]
      rfl
/-! running over at one pond -/
theorem hold_eq {r : Hp} {o : Nat} : s_holds r o = p_holds r o := by
  unfold s_holds p_holds
  rw [Int32.mul_assoc, Int32.mul_comm]
theorem SR.hold {n f j : Nat} {c r : Hp} (R : SR n f c r) (hj : j < n) : p_holds c (15 + j) = s_holds r (15 + j) := by
  rw [hold_eq]
  unfold p_holds
  rw [R.p hj (by omega), R.p hj (by omega)]
theorem SR.run1 {n f q : Nat} {c r : Hp} (hn : n ≤ 10) (R : SR n f c r) (hq : q < n) (L : LBd 1 n c) : SR n f (d_run1 1 c q) (s_run1 r (15 + q)) := by
  have em : c (15 + q) 5 - p_holds c (15 + q) = s_more r (15 + q) := by unfold s_more; rw [R.p hq (by omega), R.hold hq]
  have eo : p_over c (15 + q) = mxI 0 (s_more r (15 + q)) := by unfold p_over; rw [em]
  have s8 : p_spill c (15 + q) (15 + q) 8 = c (15 + q) 8 := by unfold p_spill; rw [hp_off (Or.inr (by omega)), hp_off (Or.inr (by omega))]
  have e1 : d_run1 1 c q = if p_spill c (15 + q) (15 + q) 8 = -1 then p_spill c (15 + q) else hp_up (p_spill c (15 + q)) (1 + 14 + (p_spill c (15 + q) (15 + q) 8).toNatClampNeg) 5 (p_spill c (15 + q) (1 + 14 + (p_spill c (15 + q) (15 + q) 8).toNatClampNeg) 5 + p_over c (15 + q)) := rfl
  rw [e1, s8]
  unfold s_run1
  by_cases h0 : 0 < s_more r (15 + q)
  · have eo2 : p_over c (15 + q) = s_more r (15 + q) := by rw [eo]; unfold mxI; rw [if_pos h0]
    have Rs : SR n f (p_spill c (15 + q)) (s_off r (15 + q) (s_more r (15 + q))) := by
      unfold p_spill s_off
      rw [eo2, R.p hq (by omega)]
      have R1 : SR n f (hp_up c (15 + q) 5 (r (15 + q) 5 - s_more r (15 + q))) (hp_up r (15 + q) 5 (r (15 + q) 5 - s_more r (15 + q))) := R.up
      rw [R1.p (k := 9) hq (by omega)]
      exact R1.up
    have s8r : s_off r (15 + q) (s_more r (15 + q)) (15 + q) 8 = c (15 + q) 8 := by rw [← Rs.p hq (by omega), s8]
    rw [if_pos h0]
    unfold s_in
    rw [s8r]
    rcases L q hq with z | ⟨t, h1, h2, -⟩
    · have z : c (15 + q) 8 = -1 := z
      rw [z, if_pos rfl, if_pos (by decide)]
      exact Rs
    · have h2 : c (15 + q) 8 = nI t := h2
      rw [h2, if_neg (nI_m1 (by omega)), if_neg (nI_pos (by omega)), nI_clamp (by omega), eo2, show 1 + 14 + t = 15 + t from by omega, Rs.p h1 (by omega)]
      exact Rs.up
  · have eo2 : p_over c (15 + q) = 0 := by rw [eo]; unfold mxI; rw [if_neg h0]
    have same : p_spill c (15 + q) = c := by
      unfold p_spill
      rw [eo2, Int32.sub_zero, hp_same rfl, Int32.add_zero, hp_same rfl]
    rw [if_neg h0, same, eo2]
    split
    · exact R
    · rw [Int32.add_zero, hp_same rfl]
      exact R
/-! the order: the class keeps it, the law looks for the highest that is not done -/
/-- b is the first in the order of those below k that are not done -/
def tpOK (H : Nat → Nat) (dn : Nat → Int32) (k q : Nat) : Prop := q < k ∧ dn q = 0 ∧ ∀ i, i < k → dn i = 0 → H i ≤ H q ∧ (H i = H q → q ≤ i)
theorem top_at {n : Nat} {H : Nat → Nat} {r : Hp} {dn : Nat → Int32} (hn : n ≤ 10) (hH : ∀ i, i < n → r (15 + i) 2 = nI (H i) ∧ H i ≤ 300) : ∀ k, k ≤ n → (fd (s_topS r dn) (-1) k = -1 ∧ ∀ i, i < k → ¬ dn i = 0) ∨ ∃ q, tpOK H dn k q ∧ fd (s_topS r dn) (-1) k = nI q
  | 0, _ => Or.inl ⟨by rw [fd_0], fun i hi => absurd hi (Nat.not_lt_zero i)⟩
  | k + 1, hk => by
    have ih := top_at hn hH (dn := dn) k (by omega)
    have hkn : k < n := by omega
    obtain ⟨hk1, hk2⟩ := hH k hkn
    rw [fd_s]
    generalize fd (s_topS r dn) (-1) k = b at ih ⊢
    unfold s_topS
    by_cases e1 : dn k = 0
    · rw [if_pos e1]
      have me : tpOK H dn k k → True := fun _ => trivial
      rcases ih with ⟨h1, h2⟩ | ⟨q, h1, h2⟩
      · rw [h1, if_pos (by decide)]
        refine Or.inr ⟨k, ⟨by omega, e1, fun i hi1 hi2 => ?_⟩, rfl⟩
        by_cases e : i = k
        · subst e; exact ⟨Nat.le_refl _, fun _ => Nat.le_refl _⟩
        · exact absurd hi2 (h2 i (by omega))
      · have hqk := h1.1
        obtain ⟨hq1, hq2⟩ := hH q (by omega)
        rw [h2, if_neg (nI_pos (by omega)), nI_clamp (by omega), hk1, hq1]
        by_cases e2 : H q < H k
        · rw [if_pos ((nI_ltI (by omega) (by omega)).mpr e2)]
          refine Or.inr ⟨k, ⟨by omega, e1, fun i hi1 hi2 => ?_⟩, rfl⟩
          by_cases e : i = k
          · subst e; exact ⟨Nat.le_refl _, fun _ => Nat.le_refl _⟩
          · have := h1.2.2 i (by omega) hi2
            exact ⟨by omega, fun _ => by omega⟩
        · rw [if_neg (fun y => e2 ((nI_ltI (by omega) (by omega)).mp y))]
          refine Or.inr ⟨q, ⟨by omega, h1.2.1, fun i hi1 hi2 => ?_⟩, rfl⟩
          by_cases e : i = k
          · subst e; exact ⟨by omega, fun _ => by omega⟩
          · exact h1.2.2 i (by omega) hi2
    · rw [if_neg e1]
      rcases ih with ⟨h1, h2⟩ | ⟨q, h1, h2⟩
      · refine Or.inl ⟨h1, fun i hi => ?_⟩
        by_cases e : i = k
        · subst e; exact e1
        · exact h2 i (by omega)
      · refine Or.inr ⟨q, ⟨by have := h1.1; omega, h1.2.1, fun i hi1 hi2 => ?_⟩, h2⟩
        by_cases e : i = k
        · subst e; exact absurd hi2 e1
        · exact h1.2.2 i (by omega) hi2
theorem run1_ht {r : Hp} {q i : Nat} : s_run1 r (15 + q) (15 + i) 2 = r (15 + i) 2 := by
  unfold s_run1
  split
  · unfold s_in
    split
    · unfold s_off; rw [hp_off (Or.inr (by omega)), hp_off (Or.inr (by omega))]
    · rw [hp_off (Or.inr (by omega))]; unfold s_off; rw [hp_off (Or.inr (by omega)), hp_off (Or.inr (by omega))]
  · rfl
/-- running over on both sides, step by step -/
theorem SR.runs {n f : Nat} {c r : Hp} (hn : n ≤ 10) (R : SR n f c r) (L : LBd 1 n c) (O : ORD 1 n c) (P : ∀ j, j < n → ∃ ht : Nat, ht ≤ 300 ∧ c (15 + j) 2 = nI ht) : ∀ k, k ≤ n →
    SR n f (fd (d_runS 1) c k) (s_run n r k).1 ∧ LBd 1 n (fd (d_runS 1) c k) ∧ (∀ j, fd (d_runS 1) c k (15 + j) 2 = c (15 + j) 2) ∧ (∀ q, q < n → ((s_run n r k).2 q = 0 ↔ ∀ i, i < k → bN 1 c i ≠ q)) ∧ (k < n → s_top (s_run n r k).1 (s_run n r k).2 n = nI (bN 1 c k)) := by
  have O2 := ORD_ix.mp O
  have hH : ∀ i, i < n → c (15 + i) 2 = nI (hgt 1 c i) ∧ hgt 1 c i ≤ 300 := by
    intro i hi
    obtain ⟨ht, h1, h2⟩ := P i hi
    have e : hgt 1 c i = ht := by
      show (c (15 + i) 2).toNatClampNeg = ht
      rw [h2, nI_clamp (by omega)]
    rw [e]
    exact ⟨h2, h1⟩
  have top : ∀ k, k < n → ∀ z : sRD, SR n f (fd (d_runS 1) c k) z.1 → (∀ j, fd (d_runS 1) c k (15 + j) 2 = c (15 + j) 2) → (∀ q, q < n → (z.2 q = 0 ↔ ∀ i, i < k → bN 1 c i ≠ q)) → s_top z.1 z.2 n = nI (bN 1 c k) := by
    intro k hk z Rz Hz Dz
    have hHz : ∀ i, i < n → z.1 (15 + i) 2 = nI (hgt 1 c i) ∧ hgt 1 c i ≤ 300 := fun i hi => ⟨by rw [← Rz.p hi (by omega), Hz i]; exact (hH i hi).1, (hH i hi).2⟩
    have hbk := O2.2.2 k hk
    have hund : z.2 (bN 1 c k) = 0 := (Dz _ hbk).mpr (fun i hi e => by
      have := O2.1 i k hi hk
      rw [e] at this
      unfold hlt at this
      omega)
    rcases top_at hn hHz (dn := z.2) n (Nat.le_refl n) with ⟨-, h2⟩ | ⟨q, h1, h2⟩
    · exact absurd hund (h2 _ hbk)
    · show fd (s_topS z.1 z.2) (-1) n = _
      rw [h2]
      obtain ⟨i, hi, ei⟩ := O2.2.1 q h1.1
      have hik : ¬ i < k := fun y => (Dz q h1.1).mp h1.2.1 i y ei
      by_cases e : i = k
      · rw [← ei, e]
      · have h3 := O2.1 k i (by omega) hi
        rw [ei] at h3
        have h4 := h1.2.2 (bN 1 c k) hbk hund
        unfold hlt at h3
        omega
  intro k
  induction k with
  | zero =>
    intro _
    rw [fd_0, s_run_0]
    refine ⟨R, L, fun _ => rfl, fun q hq => ⟨fun _ i hi => absurd hi (Nat.not_lt_zero i), fun _ => rfl⟩, fun hk => ?_⟩
    exact top 0 hk (r, fun _ => 0) (by rw [fd_0]; exact R) (fun j => by rw [fd_0]) (fun q hq => ⟨fun _ i hi => absurd hi (Nat.not_lt_zero i), fun _ => rfl⟩)
  | succ k ih =>
    intro hk
    obtain ⟨Rk, Lk, Hk, Dk, Tk⟩ := ih (by omega)
    have Tk := Tk (by omega)
    have hbk := O2.2.2 k (by omega)
    have ec : fd (d_runS 1) c (k + 1) = d_run1 1 (fd (d_runS 1) c k) (bN 1 c k) := by
      rw [fd_s, d_runS_eq, runs_13]
      rfl
    have es : s_run n r (k + 1) = (s_run1 (s_run n r k).1 (15 + bN 1 c k), upd (s_run n r k).2 (bN 1 c k) 1) := by
      rw [s_run_s]
      unfold s_runS
      rw [Tk, nI_clamp (by omega)]
    have R1 : SR n f (fd (d_runS 1) c (k + 1)) (s_run n r (k + 1)).1 := by rw [ec, es]; exact Rk.run1 hn hbk Lk
    have L1 : LBd 1 n (fd (d_runS 1) c (k + 1)) := by rw [ec]; exact Lk.keep keep_run
    have H1 : ∀ j, fd (d_runS 1) c (k + 1) (15 + j) 2 = c (15 + j) 2 := fun j => by rw [ec, run1_k (by omega) (by omega), Hk]
    have D1 : ∀ q, q < n → ((s_run n r (k + 1)).2 q = 0 ↔ ∀ i, i < k + 1 → bN 1 c i ≠ q) := by
      intro q hq
      rw [es]
      show upd (s_run n r k).2 (bN 1 c k) 1 q = 0 ↔ _
      unfold upd
      by_cases e : q = bN 1 c k
      · rw [if_pos e]
        exact ⟨fun y => absurd y (by decide), fun y => absurd e.symm (y k (by omega))⟩
      · rw [if_neg e, Dk q hq]
        refine ⟨fun y i hi => ?_, fun y i hi => y i (by omega)⟩
        by_cases e2 : i = k
        · subst e2; exact fun z => e z.symm
        · exact y i (by omega)
    exact ⟨R1, L1, H1, D1, fun hk2 => top (k + 1) hk2 (s_run n r (k + 1)) R1 H1 D1⟩
/-! a day -/
theorem SR.rep {n f N : Nat} {s1 s2 : Hp → Nat → Hp} {c r : Hp} {P : Hp → Prop} (hs : ∀ i c r, i < N → SR n f c r → P c → SR n f (s1 c i) (s2 r i) ∧ P (s1 c i)) (h : SR n f c r) (hp : P c) : ∀ k, k ≤ N → SR n f (fd s1 c k) (fd s2 r k) ∧ P (fd s1 c k)
  | 0, _ => by rw [fd_0, fd_0]; exact ⟨h, hp⟩
  | k + 1, hk => by
    obtain ⟨a, b⟩ := SR.rep hs h hp k (by omega)
    rw [fd_s, fd_s]
    exact hs k _ _ (by omega) a b
theorem SR.oks {n f : Nat} {c r : Hp} (R : SR n f c r) (H : OK 1 n f c) : OKS n f r := by
  refine ⟨fun j hj => ?_, fun j hj => ?_⟩
  · rw [← R.p hj (by omega)]; exact H.2.2.2.2.1 j hj
  · rw [← R.fl hj (by omega)]; exact H.2.2.2.2.2.1 j hj
theorem sun_7 {w i j : Nat} {c : Hp} : d_sun 1 w c i (15 + j) 7 = c (15 + j) 7 := by
  unfold d_sun p_leak p_dry
  rw [hp_off (Or.inr (by omega)), hp_off (Or.inr (by omega))]
theorem SR.day {n f t : Nat} {c m r : Hp} (hn : n ≤ 10) (hf : f ≤ 6) (S : SIM 1 n f c m) (R : SR n f c r) : SR n f (d_day 1 n f t c) (s_day n f t r) ∧ d_dayU 1 n f t c = s_dayU n f t r ∧ TPS n (s_h3 n f (3 + t % 10) r) := by
  obtain ⟨RE, I, L, O⟩ := S
  have hw : t % 10 < 10 := by omega
  have R1 : SR n f (d_h1 1 n (3 + t % 10) c) (s_h1 n (3 + t % 10) r) := (SR.rep (N := n) (s1 := d_mist 1 (3 + t % 10)) (s2 := s_mist (3 + t % 10)) (P := fun _ => True) (fun i c r hi R _ => ⟨R.mist hn hi hw, trivial⟩) R trivial n (Nat.le_refl n)).1
  obtain ⟨q1, i1⟩ := sim_h1 (W := 5400) hn hw (by omega) RE I
  have i1 : INV 1 n f (cB 5940) (d_h1 1 n (3 + t % 10) c) := i1
  have R2 : ∀ k, k ≤ f → SR n f (fd (d_flock 1 n) (d_h1 1 n (3 + t % 10) c) k) (fd (s_flock n) (s_h1 n (3 + t % 10) r) k) ∧ d_drunk 1 n (d_h1 1 n (3 + t % 10) c) k = s_drunk n (s_h1 n (3 + t % 10) r) k := by
    intro k
    induction k with
    | zero => intro _; rw [fd_0, fd_0, d_drunk_0, s_drunk_0]; exact ⟨R1, rfl⟩
    | succ k ih =>
      intro hk
      obtain ⟨Rk, ek⟩ := ih (by omega)
      have ik := (sim_h2 (W := 5940) hn (show f ≤ 7 by omega) (by omega) q1 i1 k (by omega)).1.2
      obtain ⟨x1, x2⟩ := Rk.flock hn (show k < f by omega) ik (fun _ _ => by show 5940 ≤ _; omega)
      rw [fd_s, fd_s, d_drunk_s, s_drunk_s, ← ek]
      exact ⟨x1, x2 _⟩
  obtain ⟨R2f, e2⟩ := R2 f (Nat.le_refl f)
  have i2 := (sim_h2 (W := 5940) hn (show f ≤ 7 by omega) (by omega) q1 i1 f (Nat.le_refl f)).1.2
  have hs2 : ∀ i, i < n → fd (d_flock 1 n) (d_h1 1 n (3 + t % 10) c) f (15 + i) 7 = 0 ∨ fd (d_flock 1 n) (d_h1 1 n (3 + t % 10) c) f (15 + i) 7 = 1 := fun i hi => i2.2.2.2.2 i hi
  have R3 : SR n f (d_h3 1 n f (3 + t % 10) c) (s_h3 n f (3 + t % 10) r) := (SR.rep (N := n) (s1 := d_sun 1 (3 + t % 10)) (s2 := s_sun (3 + t % 10)) (P := fun c => ∀ i, i < n → c (15 + i) 7 = 0 ∨ c (15 + i) 7 = 1) (fun i c r hi R P => ⟨R.sun hn hi hw (P i hi), fun j hj => by rw [sun_7]; exact P j hj⟩) R2f hs2 n (Nat.le_refl n)).1
  have K3 : KEEP 1 n c (d_h3 1 n f (3 + t % 10) c) := keep_h3 hn
  have P3 : ∀ j, j < n → ∃ ht : Nat, ht ≤ 300 ∧ d_h3 1 n f (3 + t % 10) c (15 + j) 2 = nI ht := by
    intro j hj
    obtain ⟨ht, sz, dp, w, li, g1, g2, g3, g4, g5, k1, k2, k3, k4, k5⟩ := I.1 j hj
    exact ⟨ht, g1, (K3.2 j 2 hj (by omega)).trans k1⟩
  have RR := SR.runs hn R3 (L.keep K3) (O.keep K3) P3
  have R4 : SR n f (d_h4 1 n f (3 + t % 10) c) (s_h4 n f (3 + t % 10) r) := (RR n (Nat.le_refl n)).1
  have T3 : TPS n (s_h3 n f (3 + t % 10) r) := by
    intro k hk
    rw [(RR k (by omega)).2.2.2.2 hk]
    exact ⟨_, (ORD_ix.mp (O.keep K3)).2.2 k hk, rfl⟩
  have R5 : SR n f (d_h5 1 n f t c) (s_h5 n f t r) := by
    unfold d_h5 s_h5
    by_cases h9 : t % 10 = 9
    · rw [if_pos (show nI (t % 10) = 9 by rw [h9]; rfl), if_pos h9]
      exact (SR.rep (N := n) (s1 := d_rot 1) (s2 := s_rot) (P := fun _ => True) (fun i c r hi R _ => ⟨R.rot, trivial⟩) R4 trivial n (Nat.le_refl n)).1
    · rw [if_neg (show ¬ nI (t % 10) = 9 from fun y => h9 ((nI_eq (a := t % 10) (b := 9) (by omega) (by omega)).mp y)), if_neg h9]
      exact R4
  refine ⟨?_, e2, T3⟩
  unfold d_day s_day
  rw [R5.2.1]
  exact R5.up
