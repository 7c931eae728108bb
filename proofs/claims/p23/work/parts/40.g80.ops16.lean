/-! digging: the order by height takes the new pond in -/
def bN (d : Nat) (c : Hp) (r : Nat) : Nat := (c (d + 13) r).toNatClampNeg
theorem ORD_ix {d n : Nat} {c : Hp} : ORD d n c ↔ (∀ i j, i < j → j < n → hlt (hgt d c) (bN d c i) (bN d c j)) ∧ (∀ q, q < n → ∃ r, r < n ∧ bN d c r = q) ∧ ∀ r, r < n → bN d c r < n := by
  unfold ORD bL
  rw [List.pairwise_iff_getElem]
  simp only [List.length_map, List.length_range, List.getElem_map, List.getElem_range, List.mem_map, List.mem_range]
  constructor
  · rintro ⟨h1, h2, h3⟩
    refine ⟨fun i j hij hj => h1 i j (by omega) hj hij, h2, fun r hr => h3 _ ⟨r, hr, rfl⟩⟩
  · rintro ⟨h1, h2, h3⟩
    refine ⟨fun i j hi hj hij => h1 i j hij hj, h2, ?_⟩
    rintro j ⟨r, hr, rfl⟩
    exact h3 r hr
theorem ins_spec {d n : Nat} {ht : Int32} {c : Hp} (hB : ∀ r, r < n → bN d c r < n) : ∀ (k : Nat) (z : Hp), k ≤ n → (∀ a, a ≠ d + 13 → z a = c a) → (∀ r, r < k → z (d + 13) r = c (d + 13) r) → (∀ r, k < r → r ≤ n → z (d + 13) r = c (d + 13) (r - 1)) → (∀ r, k ≤ r → r < n → ¬ ht ≤ c (d + 14 + bN d c r) 2) →
    (d_ins d ht k z).2 ≤ n ∧ (∀ a, a ≠ d + 13 → (d_ins d ht k z).1 a = c a) ∧ (∀ r, r < (d_ins d ht k z).2 → (d_ins d ht k z).1 (d + 13) r = c (d + 13) r) ∧ (∀ r, (d_ins d ht k z).2 < r → r ≤ n → (d_ins d ht k z).1 (d + 13) r = c (d + 13) (r - 1)) ∧ (∀ r, (d_ins d ht k z).2 ≤ r → r < n → ¬ ht ≤ c (d + 14 + bN d c r) 2) ∧ ((d_ins d ht k z).2 = 0 ∨ ht ≤ c (d + 14 + bN d c ((d_ins d ht k z).2 - 1)) 2) := by
  intro k
  induction k with
  | zero => intro z hk h1 h2 h3 h4; exact ⟨Nat.zero_le _, h1, fun r hr => absurd hr (Nat.not_lt_zero r), h3, h4, Or.inl rfl⟩
  | succ k ih =>
    intro z hk h1 h2 h3 h4
    have e0 : z (d + 13) k = c (d + 13) k := h2 k (by omega)
    have e1 : z (d + 14 + (z (d + 13) k).toNatClampNeg) 2 = c (d + 14 + bN d c k) 2 := by
      rw [e0, h1 _ (by have := hB k (by omega); unfold bN at this; omega)]
      rfl
    by_cases cc : ht ≤ z (d + 14 + (z (d + 13) k).toNatClampNeg) 2
    · rw [ins_a cc]
      exact ⟨hk, h1, h2, h3, h4, Or.inr (by rw [e1] at cc; exact cc)⟩
    · rw [ins_b cc]
      refine ih _ (by omega) (fun a ha => ?_) (fun r hr => ?_) (fun r hr hr2 => ?_) (fun r hr hr2 => ?_)
      · rw [hp_ne ha]; exact h1 a ha
      · rw [hp_off (Or.inr (by omega))]; exact h2 r (by omega)
      · by_cases e : r = k + 1
        · subst e
          rw [hp_eq]
          unfold upd
          rw [if_pos rfl, e0]
          rfl
        · rw [hp_off (Or.inr e)]; exact h3 r (by omega) hr2
      · by_cases e : r = k
        · subst e
          rw [← e1]; exact cc
        · exact h4 r (by omega) hr2
theorem ORD_put {n : Nat} {H : Nat → Nat} {B B2 : Nat → Nat} {p : Nat} (hp : p ≤ n) (h1 : ∀ i j, i < j → j < n → hlt H (B i) (B j)) (h2 : ∀ q, q < n → ∃ r, r < n ∧ B r = q) (h3 : ∀ r, r < n → B r < n)
    (b1 : ∀ r, r < p → B2 r = B r) (b2 : B2 p = n) (b3 : ∀ r, p < r → r ≤ n → B2 r = B (r - 1)) (g1 : ∀ r, p ≤ r → r < n → H (B r) < H n) (g2 : p = 0 ∨ H n ≤ H (B (p - 1))) :
    (∀ i j, i < j → j < n + 1 → hlt H (B2 i) (B2 j)) ∧ (∀ q, q < n + 1 → ∃ r, r < n + 1 ∧ B2 r = q) ∧ ∀ r, r < n + 1 → B2 r < n + 1 := by
  have hge : ∀ r, r < p → H n ≤ H (B r) := by
    intro r hr
    rcases g2 with z | z
    · omega
    · by_cases e : r = p - 1
      · subst e; exact z
      · have := h1 r (p - 1) (by omega) (by omega)
        unfold hlt at this
        omega
  refine ⟨fun i j hij hj => ?_, fun q hq => ?_, fun r hr => ?_⟩
  · rcases Nat.lt_trichotomy j p with e | e | e
    · rw [b1 i (by omega), b1 j e]; exact h1 i j hij (by omega)
    · subst e
      rw [b1 i hij, b2]
      have a := hge i hij
      have b := h3 i (by omega)
      unfold hlt
      omega
    · rw [b3 j e (by omega)]
      rcases Nat.lt_trichotomy i p with e2 | e2 | e2
      · rw [b1 i e2]; exact h1 i (j - 1) (by omega) (by omega)
      · subst e2
        rw [b2]
        have := g1 (j - 1) (by omega) (by omega)
        unfold hlt
        omega
      · rw [b3 i e2 (by omega)]; exact h1 (i - 1) (j - 1) (by omega) (by omega)
  · by_cases e : q = n
    · exact ⟨p, by omega, by rw [b2, e]⟩
    · obtain ⟨r, hr, er⟩ := h2 q (by omega)
      by_cases e2 : r < p
      · exact ⟨r, by omega, by rw [b1 r e2]; exact er⟩
      · exact ⟨r + 1, by omega, by rw [b3 (r + 1) (by omega) (by omega)]; exact er⟩
  · rcases Nat.lt_trichotomy r p with e | e | e
    · rw [b1 r e]; have := h3 r (by omega); omega
    · subst e; rw [b2]; omega
    · rw [b3 r e (by omega)]; have := h3 (r - 1) (by omega); omega
/-- what digging leaves of the class's picture -/
theorem make_spec {n : Nat} {h : Hp} {x y sz dp : Int32} {ht : Nat} (hht : ht ≤ 300) (hn : n < 10) (h4 : h 1 4 = nI n) (O : ORD 1 n h) (hP : ∀ j, j < n → ∃ v : Nat, v ≤ 300 ∧ h (1 + 14 + j) 2 = nI v) (hR : ∀ r, r < n → isN n (h 14 r)) :
    (∀ a, a ≠ 1 → a ≠ 14 → a ≠ 15 + n → d_make 1 n h x y (nI ht) sz dp a = h a) ∧ (∀ k, d_make 1 n h x y (nI ht) sz dp 1 k = if k = 4 then nI (n + 1) else h 1 k) ∧
    (∀ k, d_make 1 n h x y (nI ht) sz dp (15 + n) k = if k = 4 then dp else if k = 3 then sz else if k = 2 then nI ht else if k = 1 then y else if k = 0 then x else h (15 + n) k) ∧ ORD 1 (n + 1) (d_make 1 n h x y (nI ht) sz dp) ∧ (∀ r, r < n + 1 → isN (n + 1) (d_make 1 n h x y (nI ht) sz dp 14 r)) := by
  obtain ⟨o1, o2, o3⟩ := ORD_ix.mp O
  generalize hc : d_new 1 n h x y (nI ht) sz dp = c
  have c1 : ∀ a, a ≠ 15 + n → c a = h a := fun a ha => by
    rw [← hc]
    unfold d_new
    rw [hp_ne (by omega), hp_ne (by omega), hp_ne (by omega), hp_ne (by omega), hp_ne (by omega)]
  have c2 : ∀ k, c (15 + n) k = if k = 4 then dp else if k = 3 then sz else if k = 2 then nI ht else if k = 1 then y else if k = 0 then x else h (15 + n) k := fun k => by
    rw [← hc]
    unfold d_new
    rw [show 1 + 14 + n = 15 + n from rfl, hp_eq, hp_eq, hp_eq, hp_eq, hp_eq]
    rfl
  have eB : bN 1 c = bN 1 h := by unfold bN; rw [c1 (1 + 13) (by omega)]
  have hgt_old : ∀ j, j < n → hgt 1 c j = hgt 1 h j := fun j hj => by unfold hgt; rw [c1 _ (by omega)]
  have hgt_new : hgt 1 c n = ht := by
    have := c2 2
    rw [if_neg (by omega), if_neg (by omega), if_pos rfl] at this
    unfold hgt
    rw [show 1 + 14 + n = 15 + n from rfl, this, nI_clamp (by omega)]
  obtain ⟨s1, s2, s3, s4, s5, s6⟩ := ins_spec (d := 1) (n := n) (ht := nI ht) (c := c) (by rw [eB]; exact o3) n c (Nat.le_refl n) (fun _ _ => rfl) (fun _ _ => rfl) (fun r h1 h2 => absurd h1 (by omega)) (fun r h1 h2 => absurd h1 (by omega))
  generalize hz : d_ins 1 (nI ht) n c = z at s1 s2 s3 s4 s5 s6
  have em : d_make 1 n h x y (nI ht) sz dp = d_end 1 n z := by unfold d_make; rw [hc, hz]
  rw [em]
  generalize hw : d_end 1 n z = w
  have w1 : ∀ a, a ≠ 1 → a ≠ 14 → w a = c a := fun a h1 h2 => by
    rw [← hw]
    unfold d_end
    rw [hp_ne h1, hp_ne (by omega)]
    exact s2 a (by omega)
  have wd : ∀ k, w 1 k = if k = 4 then nI (n + 1) else h 1 k := fun k => by
    rw [← hw]
    unfold d_end
    have e1 : ∀ q, hp_up z.1 (1 + 13) z.2 (nI n) 1 q = h 1 q := fun q => by rw [hp_ne (by omega), s2 1 (by omega), c1 1 (by omega)]
    rw [hp_eq, e1 4, h4, nI_1]
    unfold upd
    by_cases e : k = 4
    · rw [if_pos e, if_pos e]
    · rw [if_neg e, if_neg e, e1 k]
  have w14 : ∀ r, w 14 r = if r = z.2 then nI n else z.1 14 r := fun r => by
    rw [← hw]
    unfold d_end
    rw [hp_ne (by omega), show (1 : Nat) + 13 = 14 from rfl, hp_eq]
    rfl
  have bw1 : ∀ r, r < z.2 → bN 1 w r = bN 1 h r := fun r hr => by
    rw [← eB]
    unfold bN
    rw [show (1 : Nat) + 13 = 14 from rfl, w14, if_neg (by omega)]
    exact congrArg Int32.toNatClampNeg (s3 r hr)
  have bw2 : bN 1 w z.2 = n := by
    unfold bN
    rw [show (1 : Nat) + 13 = 14 from rfl, w14, if_pos rfl, nI_clamp (by omega)]
  have bw3 : ∀ r, z.2 < r → r ≤ n → bN 1 w r = bN 1 h (r - 1) := fun r hr hr2 => by
    rw [← eB]
    unfold bN
    rw [show (1 : Nat) + 13 = 14 from rfl, w14, if_neg (by omega)]
    exact congrArg Int32.toNatClampNeg (s4 r hr hr2)
  have hgw : hgt 1 w = hgt 1 c := by funext j; unfold hgt; rw [w1 _ (by omega) (by omega)]
  have hcmp : ∀ r, r < n → (nI ht ≤ c (1 + 14 + bN 1 c r) 2 ↔ hgt 1 c n ≤ hgt 1 c (bN 1 h r)) := fun r hr => by
    have hb := o3 r hr
    obtain ⟨v, hv, ev⟩ := hP (bN 1 h r) hb
    rw [hgt_new, hgt_old _ hb, eB, c1 _ (by omega)]
    unfold hgt
    rw [ev, nI_clamp (by omega)]
    exact nI_leI (by omega) (by omega)
  have hP2 := ORD_put (H := hgt 1 c) (B := bN 1 h) (B2 := bN 1 w) (p := z.2) s1 (fun i j h1 h2 => by
      have hi := o3 i (by omega)
      have hj := o3 j (by omega)
      have := o1 i j h1 h2
      unfold hlt at this ⊢
      rw [hgt_old _ hi, hgt_old _ hj]
      exact this) o2 o3 bw1 bw2 bw3 (fun r h1 h2 => by
        have := s5 r h1 h2
        rw [hcmp r h2] at this
        omega) (by
        rcases s6 with z0 | z0
        · exact Or.inl z0
        · by_cases e0 : z.2 = 0
          · exact Or.inl e0
          · exact Or.inr ((hcmp (z.2 - 1) (by omega)).mp z0))
  refine ⟨fun a h1 h2 h3 => (w1 a h1 h2).trans (c1 a h3), wd, fun k => (congrFun (w1 (15 + n) (by omega) (by omega)) k).trans (c2 k), ?_, fun r hr => ?_⟩
  · rw [ORD_ix, hgw]
    exact hP2
  · have c14 : ∀ q, c (1 + 13) q = h 14 q := fun q => by rw [c1 _ (by omega)]
    rw [w14]
    by_cases e : r = z.2
    · rw [if_pos e]; exact ⟨n, by omega, rfl⟩
    · rw [if_neg e]
      by_cases e2 : r < z.2
      · rw [show z.1 14 r = h 14 r from (s3 r e2).trans (c14 r)]
        exact isN_up (hR r (by omega)) (by omega)
      · rw [show z.1 14 r = h 14 (r - 1) from (s4 r (by omega) (by omega)).trans (c14 (r - 1))]
        exact isN_up (hR (r - 1) (by omega)) (by omega)
