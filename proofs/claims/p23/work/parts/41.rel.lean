/-! THE CLASS AGAINST THE LAW'S SIM, in numbers: the same numbers at the same places -/
def SR (n f : Nat) (c r : Hp) : Prop := (∀ o k, sW n f o k → c o k = r o k) ∧ c 1 6 = r 1 6 ∧ c 1 7 = r 1 7
theorem hp_upd {h : Hp} {o k : Nat} {v : Int32} : hp_up h o k v o k = v := by rw [hp_eq]; unfold upd; rw [if_pos rfl]
theorem hp_up2 {h : Hp} {o k : Nat} {v w : Int32} : hp_up (hp_up h o k v) o k w = hp_up h o k w := by
  funext a b
  by_cases e : a = o ∧ b = k
  · obtain ⟨rfl, rfl⟩ := e
    rw [hp_upd, hp_upd]
  · rw [hp_off (by omega), hp_off (by omega), hp_off (by omega)]
theorem SR.up {n f o k : Nat} {c r : Hp} {v : Int32} (h : SR n f c r) : SR n f (hp_up c o k v) (hp_up r o k v) := by
  have key : ∀ a b, c a b = r a b → hp_up c o k v a b = hp_up r o k v a b := by
    intro a b e
    by_cases z : a = o ∧ b = k
    · obtain ⟨rfl, rfl⟩ := z
      rw [hp_upd, hp_upd]
    · rw [hp_off (by omega), hp_off (by omega)]
      exact e
  exact ⟨fun a b hw => key a b (h.1 a b hw), key 1 6 h.2.1, key 1 7 h.2.2⟩
theorem SR.p {n f j k : Nat} {c r : Hp} (h : SR n f c r) (hj : j < n) (hk : k < 10) : c (15 + j) k = r (15 + j) k := h.1 _ _ (Or.inr (Or.inl ⟨by omega, by omega, hk⟩))
theorem SR.fl {n f j k : Nat} {c r : Hp} (h : SR n f c r) (hj : j < f) (hk : k < 5) : c (26 + j) k = r (26 + j) k := h.1 _ _ (Or.inr (Or.inr ⟨by omega, by omega, hk⟩))
theorem SR.w {n f j k : Nat} {c r : Hp} (h : SR n f c r) (hj : j < 10) (hk : k < 3) : c (3 + j) k = r (3 + j) k := h.1 _ _ (Or.inl ⟨by omega, by omega, hk⟩)
theorem mist_eq {h : Hp} {o w : Nat} {a : Int32} (how : w ≠ o) : p_rain (p_mist h o a) o (p_mist h o a w 1) = hp_up h o 5 (h o 5 + (if h o 2 < 150 then a * h o 3 / 4 else 2 * (a * h o 3 / 4)) + h w 1 * h o 3 / 2) := by
  unfold p_rain p_mist
  rw [hp_upd, hp_off (a := o) (b := 3) (Or.inr (by omega)), hp_off (a := w) (b := 1) (Or.inl how), hp_up2]
theorem SR.mist {n f j wi : Nat} {c r : Hp} (h : SR n f c r) (hn : n ≤ 10) (hj : j < n) (hw : wi < 10) : SR n f (d_mist 1 (3 + wi) c j) (s_mist (3 + wi) r j) := by
  have e : d_mist 1 (3 + wi) c j = hp_up c (15 + j) 5 (c (15 + j) 5 + (if c (15 + j) 2 < 150 then c (3 + wi) 0 * c (15 + j) 3 / 4 else 2 * (c (3 + wi) 0 * c (15 + j) 3 / 4)) + c (3 + wi) 1 * c (15 + j) 3 / 2) := mist_eq (o := 15 + j) (by omega)
  rw [e, h.p (k := 5) hj (by omega), h.p (k := 2) hj (by omega), h.p (k := 3) hj (by omega), h.w (k := 0) hw (by omega), h.w (k := 1) hw (by omega), Int32.two_mul, Int32.add_assoc]
  exact h.up
theorem SR.leak {n f j : Nat} {c r : Hp} (h : SR n f c r) (hj : j < n) : SR n f (p_leak c (15 + j)) (s_leak r (15 + j)) := by
  unfold p_leak s_leak
  rw [h.p (k := 5) hj (by omega), h.p (k := 6) hj (by omega)]
  exact h.up
theorem SR.dry {n f j wi : Nat} {c r : Hp} (h : SR n f c r) (hj : j < n) (hw : wi < 10) (hs : c (15 + j) 7 = 0 ∨ c (15 + j) 7 = 1) : SR n f (p_dry c (15 + j) (c (3 + wi) 2)) (s_dry r (15 + j) (s_dryX (3 + wi) r (15 + j))) := by
  have hs2 := hs
  unfold p_dry s_dry s_dryX
  rw [h.p (k := 7) hj (by omega)] at hs
  rw [h.p (k := 5) hj (by omega), h.p (k := 7) hj (by omega), h.p (k := 3) hj (by omega), h.w (k := 2) hw (by omega)]
  have ex : (if r (15 + j) 7 = 0 then r (3 + wi) 2 * r (15 + j) 3 / 5 else r (3 + wi) 2 * r (15 + j) 3 / 5 / 2) = (if r (15 + j) 7 = 1 then r (3 + wi) 2 * r (15 + j) 3 / 5 / 2 else r (3 + wi) 2 * r (15 + j) 3 / 5) := by
    rcases hs with z | z
    · rw [z, if_pos rfl, if_neg (by decide)]
    · rw [z, if_neg (by decide), if_pos rfl]
  rw [ex]
  generalize (if r (15 + j) 7 = 1 then r (3 + wi) 2 * r (15 + j) 3 / 5 / 2 else r (3 + wi) 2 * r (15 + j) 3 / 5) = x
  have ev : r (15 + j) 5 - mnI (r (15 + j) 5) x = if x < r (15 + j) 5 then r (15 + j) 5 - x else 0 := by
    unfold mnI
    by_cases e : x < r (15 + j) 5
    · rw [if_pos e, if_pos e]
    · rw [if_neg e, if_neg e, Int32.sub_self]
  rw [ev]
  exact h.up
theorem SR.sun {n f j wi : Nat} {c r : Hp} (h : SR n f c r) (hn : n ≤ 10) (hj : j < n) (hw : wi < 10) (hs : c (15 + j) 7 = 0 ∨ c (15 + j) 7 = 1) : SR n f (d_sun 1 (3 + wi) c j) (s_sun (3 + wi) r j) := (h.dry hj hw hs).leak hj
theorem SR.rot {n f j : Nat} {c r : Hp} (h : SR n f c r) : SR n f (d_rot 1 c j) (s_rot r j) := h.up (o := 15 + j)
/-! where a roaming flock goes: the class looks from below, the law from above -/
theorem SR.far {n f i j : Nat} {c r : Hp} (h : SR n f c r) (hi : i < n) (hj : j < n) : s_far r (15 + i) (15 + j) = p_dist c (15 + i) (15 + j) := by
  unfold s_far p_dist
  rw [h.p (k := 0) hi (by omega), h.p (k := 0) hj (by omega), h.p (k := 1) hi (by omega), h.p (k := 1) hj (by omega)]
def nrD (c : Hp) (p q : Nat) : Nat := (p_dist c (15 + p) (15 + q)).toNatClampNeg
theorem nrD_at {n p q : Nat} {c : Hp} (X : XBd 1 n c) (hp : p < n) (hq : q < n) : p_dist c (15 + p) (15 + q) = nI (nrD c p q) ∧ nrD c p q ≤ 80 := by
  obtain ⟨e, he, h⟩ := dist_nI X hp hq
  have h2 : p_dist c (15 + p) (15 + q) = nI e := h
  unfold nrD
  rw [h2, nI_clamp (by omega)]
  exact ⟨rfl, he⟩
/-- q is the nearest of the ponds lo.. up to hi with water enough -/
def nrOK (c : Hp) (need : Int32) (p lo hi q : Nat) : Prop := lo ≤ q ∧ q < hi ∧ ¬ c (15 + q) 5 < need ∧ ∀ i, lo ≤ i → i < hi → ¬ c (15 + i) 5 < need → nrD c p q ≤ nrD c p i ∧ (nrD c p q = nrD c p i → q ≤ i)
theorem near_up {n p fo : Nat} {c : Hp} (hn : n ≤ 10) (X : XBd 1 n c) (hp : p < n) : ∀ k, k ≤ n →
    ((∀ i, i < k → c (15 + i) 5 < f_need c fo) ∧ fd (d_nearS c 1 fo (15 + p)) (2147483647, nI p) k = (2147483647, nI p)) ∨ (∃ q, nrOK c (f_need c fo) p 0 k q ∧ fd (d_nearS c 1 fo (15 + p)) (2147483647, nI p) k = (nI (nrD c p q), nI q))
  | 0, _ => Or.inl ⟨fun i hi => absurd hi (Nat.not_lt_zero i), rfl⟩
  | k + 1, hk => by
    have ih := near_up hn X hp k (by omega) (fo := fo)
    have hkn : k < n := by omega
    obtain ⟨ed, hd⟩ := nrD_at X hp hkn
    rw [fd_s]
    generalize fd (d_nearS c 1 fo (15 + p)) (2147483647, nI p) k = z at ih ⊢
    have eS : d_nearS c 1 fo (15 + p) z k = if c (15 + k) 5 < f_need c fo then z else if z.1 ≤ p_dist c (15 + p) (15 + k) then z else (p_dist c (15 + p) (15 + k), nI k) := rfl
    rw [eS, ed]
    by_cases e1 : c (15 + k) 5 < f_need c fo
    · rw [if_pos e1]
      rcases ih with ⟨h1, h2⟩ | ⟨q, h1, h2⟩
      · refine Or.inl ⟨fun i hi => ?_, h2⟩
        by_cases e : i = k
        · subst e; exact e1
        · exact h1 i (by omega)
      · refine Or.inr ⟨q, ⟨h1.1, by have := h1.2.1; omega, h1.2.2.1, fun i hi1 hi2 hi3 => ?_⟩, h2⟩
        by_cases e : i = k
        · subst e; exact absurd e1 hi3
        · exact h1.2.2.2 i hi1 (by omega) hi3
    · rw [if_neg e1]
      rcases ih with ⟨h1, h2⟩ | ⟨q, h1, h2⟩
      · rw [h2, if_neg (show ¬ (2147483647 : Int32) ≤ nI (nrD c p k) from fun y => absurd ((nI_leI (a := 2147483647) (b := nrD c p k) (by omega) (by omega)).mp y) (by omega))]
        refine Or.inr ⟨k, ⟨by omega, by omega, e1, fun i hi1 hi2 hi3 => ?_⟩, rfl⟩
        by_cases e : i = k
        · subst e; exact ⟨Nat.le_refl _, fun _ => Nat.le_refl _⟩
        · exact absurd (h1 i (by omega)) hi3
      · have hq := nrD_at X hp (show q < n by have := h1.2.1; omega)
        rw [h2]
        by_cases e2 : nrD c p q ≤ nrD c p k
        · rw [if_pos (show nI (nrD c p q) ≤ nI (nrD c p k) from (nI_leI (by omega) (by omega)).mpr e2)]
          refine Or.inr ⟨q, ⟨h1.1, by have := h1.2.1; omega, h1.2.2.1, fun i hi1 hi2 hi3 => ?_⟩, rfl⟩
          by_cases e : i = k
          · subst e; exact ⟨e2, fun _ => by have := h1.2.1; omega⟩
          · exact h1.2.2.2 i hi1 (by omega) hi3
        · rw [if_neg (show ¬ nI (nrD c p q) ≤ nI (nrD c p k) from fun y => e2 ((nI_leI (by omega) (by omega)).mp y))]
          refine Or.inr ⟨k, ⟨by omega, by omega, e1, fun i hi1 hi2 hi3 => ?_⟩, rfl⟩
          by_cases e : i = k
          · subst e; exact ⟨Nat.le_refl _, fun _ => Nat.le_refl _⟩
          · have := h1.2.2.2 i hi1 (by omega) hi3
            exact ⟨by omega, fun _ => by omega⟩
theorem near_dn {n f p o : Nat} {c r : Hp} (hn : n ≤ 10) (R : SR n f c r) (X : XBd 1 n c) (hp : p < n) (hop : r o 1 = nI p) (hwp : c (15 + p) 5 < 2 * r o 0) : ∀ (k : Nat) (b : Int32), k ≤ n →
    ((b = nI p ∧ ∀ i, k ≤ i → i < n → c (15 + i) 5 < 2 * r o 0) ∨ ∃ q, q ≠ p ∧ nrOK c (2 * r o 0) p k n q ∧ b = nI q) → ((s_toB r o (15 + p) k b = nI p ∧ ∀ i, i < n → c (15 + i) 5 < 2 * r o 0) ∨ ∃ q, nrOK c (2 * r o 0) p 0 n q ∧ s_toB r o (15 + p) k b = nI q)
  | 0, b, _, h => by
    rcases h with ⟨h1, h2⟩ | ⟨q, -, h2, h3⟩
    · exact Or.inl ⟨h1, fun i hi => h2 i (Nat.zero_le i) hi⟩
    · exact Or.inr ⟨q, h2, h3⟩
  | k + 1, b, hk, h => by
    have hkn : k < n := by omega
    show ((s_toB r o (15 + p) k (s_toS r o (15 + p) b k) = nI p ∧ _) ∨ ∃ q, nrOK c (2 * r o 0) p 0 n q ∧ s_toB r o (15 + p) k (s_toS r o (15 + p) b k) = nI q)
    refine near_dn hn R X hp hop hwp k _ (by omega) ?_
    have ew : r (15 + k) 5 = c (15 + k) 5 := (R.p hkn (by omega)).symm
    unfold s_toS
    rw [hop, ew]
    have skip : c (15 + k) 5 < 2 * r o 0 → ((b = nI p ∧ ∀ i, k ≤ i → i < n → c (15 + i) 5 < 2 * r o 0) ∨ ∃ q, q ≠ p ∧ nrOK c (2 * r o 0) p k n q ∧ b = nI q) := by
      intro e1
      rcases h with ⟨h1, h2⟩ | ⟨q, h0, h2, h3⟩
      · refine Or.inl ⟨h1, fun i hi1 hi2 => ?_⟩
        by_cases e : i = k
        · subst e; exact e1
        · exact h2 i (by omega) hi2
      · refine Or.inr ⟨q, h0, ⟨by have := h2.1; omega, h2.2.1, h2.2.2.1, fun i hi1 hi2 hi3 => ?_⟩, h3⟩
        by_cases e : i = k
        · subst e; exact absurd e1 hi3
        · exact h2.2.2.2 i (by omega) hi2 hi3
    by_cases e0 : k = p
    · subst e0
      rw [if_pos rfl]
      exact skip hwp
    · rw [if_neg (fun y => e0 ((nI_eq (by omega) (by omega)).mp y))]
      by_cases e1 : c (15 + k) 5 < 2 * r o 0
      · rw [if_pos e1]
        exact skip e1
      · rw [if_neg e1]
        rcases h with ⟨h1, h2⟩ | ⟨q, h0, h2, h3⟩
        · rw [if_pos h1]
          refine Or.inr ⟨k, e0, ⟨Nat.le_refl _, hkn, e1, fun i hi1 hi2 hi3 => ?_⟩, rfl⟩
          by_cases e : i = k
          · subst e; exact ⟨Nat.le_refl _, fun _ => Nat.le_refl _⟩
          · exact absurd (h2 i (by omega) hi2) hi3
        · have hqn : q < n := h2.2.1
          rw [if_neg (by rw [h3]; exact fun y => h0 ((nI_eq (by omega) (by omega)).mp y)), h3, nI_clamp (by omega), R.far hp hqn, R.far hp hkn]
          obtain ⟨d1, d2⟩ := nrD_at X hp hqn
          obtain ⟨d3, d4⟩ := nrD_at X hp hkn
          rw [d1, d3]
          by_cases e2 : nrD c p q < nrD c p k
          · rw [if_pos ((nI_ltI (by omega) (by omega)).mpr e2)]
            refine Or.inr ⟨q, h0, ⟨by have := h2.1; omega, hqn, h2.2.2.1, fun i hi1 hi2 hi3 => ?_⟩, rfl⟩
            by_cases e : i = k
            · subst e; exact ⟨by omega, fun _ => by omega⟩
            · exact h2.2.2.2 i (by omega) hi2 hi3
          · rw [if_neg (fun y => e2 ((nI_ltI (by omega) (by omega)).mp y))]
            refine Or.inr ⟨k, e0, ⟨Nat.le_refl _, hkn, e1, fun i hi1 hi2 hi3 => ?_⟩, rfl⟩
            by_cases e : i = k
            · subst e; exact ⟨Nat.le_refl _, fun _ => Nat.le_refl _⟩
            · have := h2.2.2.2 i (by omega) hi2 hi3
              exact ⟨by omega, fun _ => by omega⟩
theorem SR.near {n f p o : Nat} {c r : Hp} (hn : n ≤ 10) (R : SR n f c r) (X : XBd 1 n c) (hp : p < n) (hop : r o 1 = nI p) (hc : c o 0 = r o 0) (hwp : c (15 + p) 5 < 2 * r o 0) : (fd (d_nearS c 1 o (15 + p)) (2147483647, nI p) n).2 = s_toB r o (15 + p) n (nI p) := by
  have en : f_need c o = 2 * r o 0 := by unfold f_need; rw [hc]
  have h1 := near_up hn X hp (fo := o) n (Nat.le_refl n)
  have h2 := near_dn hn R X hp hop hwp n (nI p) (Nat.le_refl n) (Or.inl ⟨rfl, fun i h1 h2 => by omega⟩)
  rw [en] at h1
  rcases h1 with ⟨a1, a2⟩ | ⟨q, a1, a2⟩
  · rcases h2 with ⟨b1, b2⟩ | ⟨q2, b1, b2⟩
    · rw [a2, b1]
    · exact absurd (a1 q2 b1.2.1) b1.2.2.1
  · rcases h2 with ⟨b1, b2⟩ | ⟨q2, b1, b2⟩
    · exact absurd (b2 q a1.2.1) a1.2.2.1
    · rw [a2, b2]
      show nI q = nI q2
      have x1 := a1.2.2.2 q2 b1.1 b1.2.1 b1.2.2.1
      have x2 := b1.2.2.2 q a1.1 a1.2.1 a1.2.2.1
      have : q = q2 := by omega
      rw [this]
theorem SR.go {n f j : Nat} {c r : Hp} (hn : n ≤ 10) (R : SR n f c r) (hj : j < f) (X : XBd 1 n c) (Fb : FBd 1 n f c) : SR n f (d_go 1 n (26 + j) c) (s_go r n (26 + j)) := by
  obtain ⟨s, p, th, a1, a2, a3, b1, b2, b3⟩ := Fb j hj
  have b1 : c (26 + j) 0 = nI s := b1
  have b2 : c (26 + j) 1 = nI p := b2
  have b3 : c (26 + j) 2 = nI th := b3
  have r0 : r (26 + j) 0 = nI s := (R.fl hj (by omega)).symm.trans b1
  have r1 : r (26 + j) 1 = nI p := (R.fl hj (by omega)).symm.trans b2
  have r2 : r (26 + j) 2 = nI th := (R.fl hj (by omega)).symm.trans b3
  have r3 : c (26 + j) 3 = r (26 + j) 3 := R.fl hj (by omega)
  have stay : s_to r n (26 + j) = nI p → SR n f c (s_go r n (26 + j)) := fun e => by
    unfold s_go
    rw [e, hp_same r1]
    exact R
  have e0 : nI th ≤ 0 ↔ nI th = 0 := le0 (by omega)
  unfold d_go
  rw [r3]
  by_cases e1 : r (26 + j) 3 = 0
  · rw [if_pos e1]
    exact stay (by unfold s_to; rw [if_pos e1]; exact r1)
  · rw [if_neg e1, b3]
    by_cases e2 : nI th = 0
    · rw [if_pos (e0.mpr e2)]
      exact stay (by unfold s_to; rw [if_neg e1, if_pos (r2.trans e2)]; exact r1)
    · rw [if_neg (fun y => e2 (e0.mp y))]
      have en : f_need c (26 + j) = 2 * r (26 + j) 0 := by unfold f_need; rw [b1, r0]
      have ew : c (15 + p) 5 = r (15 + p) 5 := R.p a2 (by omega)
      unfold d_near s_go s_to
      rw [if_neg e1, if_neg (show ¬ r (26 + j) 2 = 0 by rw [r2]; exact e2), b2, r1, nI_clamp (by omega), en, show 1 + 14 + p = 15 + p from by omega, ew]
      by_cases e3 : r (15 + p) 5 < 2 * r (26 + j) 0
      · rw [if_pos e3, if_pos e3, SR.near hn R X a2 r1 (b1.trans r0.symm) (by rw [ew]; exact e3)]
        exact R.up
      · rw [if_neg e3, if_neg e3]
        exact R.up
