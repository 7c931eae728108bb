/-- what digging leaves of the reference's picture -/
theorem mdig_spec {n : Nat} {h : Hp} {x y ht sz dp : Int32} (hn : n < 10) (h1 : h 64 1 = nI n) :
    (∀ a, a ≠ 64 → a ≠ 65 → a ≠ 67 → m_dig n h x y ht sz dp a = h a) ∧ (∀ k, m_dig n h x y ht sz dp 64 k = if k = 1 then nI (n + 1) else h 64 k) ∧
    (∀ k, m_dig n h x y ht sz dp 65 k = if 5 * n ≤ k ∧ k < 5 * n + 5 then dgR x y ht sz dp (k - 5 * n) else h 65 k) ∧ (∀ k, m_dig n h x y ht sz dp 67 k = if k = 5 * n + 3 then -1 else h 67 k) := by
  have d1 : ∀ a, a ≠ 65 → m_dig1 n h x y ht sz dp a = h a := fun a ha => hp_row_ne ha
  have d65 : ∀ k, m_dig1 n h x y ht sz dp 65 k = if 5 * n ≤ k ∧ k < 5 * n + 5 then dgR x y ht sz dp (k - 5 * n) else h 65 k := fun k => by
    unfold m_dig1
    rw [hp_row_eq]
    unfold va_cpy
    rw [Nat.zero_add]
  have e64 : m_dig1 n h x y ht sz dp 64 1 = nI n := by rw [d1 64 (by omega)]; exact h1
  have d2 : ∀ a, a ≠ 67 → m_dig2 n h x y ht sz dp a = m_dig1 n h x y ht sz dp a := fun a ha => by unfold m_dig2; exact m_set_ne ha
  have d67 : ∀ k, m_dig2 n h x y ht sz dp 67 k = if k = 5 * n + 3 then -1 else h 67 k := fun k => by
    unfold m_dig2
    rw [e64, show m_set (m_dig1 n h x y ht sz dp) (nI n) 3 (-1) 67 k = if k = 5 * n + 3 then -1 else m_dig1 n h x y ht sz dp 67 k from m_set_at (k := 3) (by omega), d1 67 (by omega)]
  have f64 : m_dig2 n h x y ht sz dp 64 1 = nI n := by rw [d2 64 (by omega)]; exact e64
  refine ⟨fun a h1 h2 h3 => ?_, fun k => ?_, fun k => ?_, fun k => ?_⟩
  · unfold m_dig
    rw [hp_ne h1, d2 a h3, d1 a h2]
  · unfold m_dig
    rw [hp_eq, f64, nI_1, d2 64 (by omega), d1 64 (by omega)]
    rfl
  · unfold m_dig
    rw [hp_ne (by omega), d2 65 (by omega), d65]
  · unfold m_dig
    rw [hp_ne (by omega), d67]
theorem top_dig {n f t q x y ht sz dp : Nat} {h : Hp} (T : TOP n f t q h) (hn : n < 10) (hx : x ≤ 40) (hy : y ≤ 40) (hht : ht ≤ 300) (hsz : 1 ≤ sz ∧ sz ≤ 60) (hdp : 1 ≤ dp ∧ dp ≤ 9) :
    TOP (n + 1) f t q (m_dig n (y0 (d_make 1 n h (nI x) (nI y) (nI ht) (nI sz) (nI dp))) (nI x) (nI y) (nI ht) (nI sz) (nI dp)) := by
  obtain ⟨⟨R, I, L, O⟩, K, M, hf, hd, hq, hc, hm, F⟩ := T
  obtain ⟨c1, c2, c3, c4, c5⟩ := make_spec (x := nI x) (y := nI y) (sz := nI sz) (dp := nI dp) hht hn K.1 O (fun j hj => by obtain ⟨v, _, _, _, _, g1, _, _, _, _, k1, _⟩ := I.1 j hj; exact ⟨v, g1, k1⟩) K.2.2.2.2.2.2.1
  generalize d_make 1 n h (nI x) (nI y) (nI ht) (nI sz) (nI dp) = C at c1 c2 c3 c4 c5
  have hC64 : y0 C 64 1 = nI n := by rw [y0_1, c1 64 (by omega) (by omega) (by omega)]; exact M.1
  obtain ⟨z1, z2, z3, z4⟩ := mdig_spec (x := nI x) (y := nI y) (ht := nI ht) (sz := nI sz) (dp := nI dp) hn hC64
  generalize m_dig n (y0 C) (nI x) (nI y) (nI ht) (nI sz) (nI dp) = Z at z1 z2 z3 z4
  have zlo : ∀ o, o < 32 → Z o = C o := fun o ho => by rw [z1 o (by omega) (by omega) (by omega), y0_ne (by omega)]
  have zh : ∀ o, 65 < o → o ≠ 67 → Z o = h o := fun o ho h67 => by rw [z1 o (by omega) (by omega) h67, y0_ne (by omega), c1 o (by omega) (by omega) (by omega)]
  have z65 : ∀ k, Z 65 k = if 5 * n ≤ k ∧ k < 5 * n + 5 then dgR (nI x) (nI y) (nI ht) (nI sz) (nI dp) (k - 5 * n) else h 65 k := fun k => by rw [z3, y0_ne (by omega), c1 65 (by omega) (by omega) (by omega)]
  have z67 : ∀ k, Z 67 k = if k = 5 * n + 3 then -1 else h 67 k := fun k => by rw [z4, y0_ne (by omega), c1 67 (by omega) (by omega) (by omega)]
  have z64 : ∀ k, k ≠ 0 → k ≠ 1 → Z 64 k = h 64 k := fun k h0 h1 => by rw [z2, if_neg h1]; unfold y0; rw [hp_off (Or.inr h0), c1 64 (by omega) (by omega) (by omega)]
  obtain ⟨⟨F5, F6, F7, F8, F9⟩, G0, G1, G2, G4⟩ := F n (Nat.le_refl n) hn
  -- the class's new pond
  have n0 : C (1 + 14 + n) 0 = nI x := (c3 0)
  have n1 : C (1 + 14 + n) 1 = nI y := (c3 1)
  have n2 : C (1 + 14 + n) 2 = nI ht := (c3 2)
  have n3 : C (1 + 14 + n) 3 = nI sz := (c3 3)
  have n4 : C (1 + 14 + n) 4 = nI dp := (c3 4)
  have n5 : C (1 + 14 + n) 5 = 0 := (c3 5).trans F5
  have n6 : C (1 + 14 + n) 6 = 0 := (c3 6).trans F6
  have n7 : C (1 + 14 + n) 7 = 0 := (c3 7).trans F7
  have n8 : C (1 + 14 + n) 8 = -1 := (c3 8).trans F8
  have n9 : C (1 + 14 + n) 9 = 0 := (c3 9).trans F9
  have cp : ∀ j, j < n → C (1 + 14 + j) = h (1 + 14 + j) := fun j hj => c1 _ (by omega) (by omega) (by omega)
  have cd6 : C 1 6 = h 1 6 := c2 6
  have cd7 : C 1 7 = h 1 7 := c2 7
  have R2 : REL 1 (n + 1) f C Z := by
    obtain ⟨r1, r2, r3, r4, r5⟩ := R
    refine ⟨fun j k hj hk => ?_, fun j k hj hk => ?_, fun j k hj hk => ?_, fun j k hj hk => ?_, ?_⟩
    · rw [z65]
      by_cases e : j = n
      · subst e
        rw [if_pos (by omega), show 5 * j + k - 5 * j = k by omega]
        rcases (by omega : k = 0 ∨ k = 1 ∨ k = 2 ∨ k = 3 ∨ k = 4) with rfl | rfl | rfl | rfl | rfl
        · exact n0
        · exact n1
        · exact n2
        · exact n3
        · exact n4
      · rw [if_neg (by omega), cp j (by omega)]; exact r1 j k (by omega) hk
    · rw [z67]
      by_cases e : j = n
      · subst e
        rcases (by omega : k = 0 ∨ k = 1 ∨ k = 2 ∨ k = 3 ∨ k = 4) with rfl | rfl | rfl | rfl | rfl
        · rw [if_neg (by omega)]; exact n5.trans G0.symm
        · rw [if_neg (by omega)]; exact n6.trans G1.symm
        · rw [if_neg (by omega)]; exact n7.trans G2.symm
        · rw [if_pos rfl]; exact n8
        · rw [if_neg (by omega)]; exact n9.trans G4.symm
      · rw [if_neg (by omega), cp j (by omega)]; exact r2 j k (by omega) hk
    · rw [c1 _ (by omega) (by omega) (by omega), zh 68 (by omega) (by omega)]; exact r3 j k hj hk
    · rw [c1 _ (by omega) (by omega) (by omega), zh 66 (by omega) (by omega)]; exact r4 j k hj hk
    · rw [cd6, zh 69 (by omega) (by omega)]; exact r5
  have I2 : INV 1 (n + 1) f (cB 5400) C := by
    obtain ⟨i1, i2, i3, i4, i5⟩ := I
    refine ⟨fun j hj => ?_, fun j k hj hk => ?_, fun j hj => ?_, fun j hj => ?_, fun j hj => ?_⟩
    · by_cases e : j = n
      · subst e
        exact ⟨ht, sz, dp, 0, 0, hht, hsz, hdp, Nat.zero_le _, by omega, n2, n3, n4, n5, n6⟩
      · rw [cp j (by omega)]; exact i1 j (by omega)
    · rw [c1 _ (by omega) (by omega) (by omega)]; exact i2 j k hj hk
    · by_cases e : j = n
      · subst e
        exact ⟨x, y, hx, hy, n0, n1⟩
      · rw [cp j (by omega)]; exact i3 j (by omega)
    · rw [c1 _ (by omega) (by omega) (by omega)]
      obtain ⟨s, p, th, a1, a2, a3, b⟩ := i4 j hj
      exact ⟨s, p, th, a1, by omega, a3, b⟩
    · by_cases e : j = n
      · subst e
        exact Or.inl n7
      · rw [cp j (by omega)]; exact i5 j (by omega)
  have L2 : LBd 1 (n + 1) C := by
    intro j hj
    by_cases e : j = n
    · subst e
      exact Or.inl n8
    · rw [cp j (by omega)]
      rcases L j (by omega) with z | ⟨t, h1, h2, h3⟩
      · exact Or.inl z
      · exact Or.inr ⟨t, by omega, h2, by rw [cp t h1]; exact h3⟩
  have K2 : OK 1 (n + 1) f C := by
    obtain ⟨a1, a2, a3, a4, a5, a6, a7, a8, a9⟩ := K
    refine ⟨(c2 4), by omega, (c2 5).trans a3, a4, fun j hj => ?_, fun j hj => ?_, c5, fun j hj => ?_, fun j hj => ?_⟩
    · by_cases e : j = n
      · subst e
        exact Or.inl n8
      · rw [cp j (by omega)]
        exact (a5 j (by omega)).imp id (fun z => isN_up z (by omega))
    · rw [c1 _ (by omega) (by omega) (by omega)]
      exact isN_up (a6 j hj) (by omega)
    · by_cases e : j = n
      · subst e
        exact Or.inl n7
      · rw [cp j (by omega)]
        exact a8 j (by omega)
    · rw [c1 _ (by omega) (by omega) (by omega)]
      exact a9 j hj
  have M2 : OM (n + 1) f Z := by
    obtain ⟨a1, a2, a3, a4, a5, a6⟩ := M
    refine ⟨z2 1, by omega, (z64 3 (by omega) (by omega)).trans a3, a4, fun j hj => ?_, fun j hj => ?_⟩
    · rw [z67]
      by_cases e : j = n
      · subst e
        rw [if_pos rfl]; exact Or.inl rfl
      · rw [if_neg (by omega)]
        exact (a5 j (by omega)).imp id (fun z => isN_up z (by omega))
    · rw [zh 68 (by omega) (by omega)]
      exact isN_up (a6 j hj) (by omega)
  have F2 : FRESH (n + 1) Z := by
    intro j h1 h2
    rw [zlo _ (by omega), c1 _ (by omega) (by omega) (by omega), z67, z67, z67, z67, if_neg (by omega), if_neg (by omega), if_neg (by omega), if_neg (by omega)]
    exact F j (by omega) h2
  have S2 : SIM 1 (n + 1) f C Z := ⟨R2, I2, L2, c4⟩
  exact ⟨S2.ccongr (by omega) hf zlo, K2.lo zlo, M2, hf, by rw [zlo 1 (by omega), cd6]; exact hd, hq, by rw [zlo 1 (by omega), cd7]; exact hc, by rw [zh 69 (by omega) (by omega)]; exact hm, F2⟩
/-- is there a pond at this place: asked of both -/
theorem fr_tk {n f : Nat} {h m : Hp} {x y : Int32} (hn : n < 10) (hm : m 64 1 = nI n) (R : REL 1 n f h m) (k : Nat) (hk : k ≤ n) : m_fr m x y k = b01 (!d_tk h 1 x y k) := by
  induction k with
  | zero =>
    unfold m_fr
    rw [fd_0]
    unfold m_fr0
    rw [hm, if_neg (show ¬ (10 : Int32) ≤ nI n from fun z => absurd ((nI_leI (a := 10) (b := n) (by omega) (by omega)).mp z) (by omega))]
    rfl
  | succ k ih =>
    have e : m_fr m x y (k + 1) = m_frS m x y (m_fr m x y k) k := by unfold m_fr; rw [fd_s]
    have r0 : m_fx m (nI k) 0 = h (1 + 14 + k) 0 := R.fx (k := 0) (by omega) (by omega) (by omega)
    have r1 : m_fx m (nI k) 1 = h (1 + 14 + k) 1 := R.fx (k := 1) (by omega) (by omega) (by omega)
    have et : d_tk h 1 x y (k + 1) = (d_tk h 1 x y k || (decide (h (1 + 14 + k) 0 = x) && decide (h (1 + 14 + k) 1 = y))) := rfl
    rw [e, ih (by omega), et]
    unfold m_frS
    rw [r0, r1]
    cases d_tk h 1 x y k with
    | true => rfl
    | false =>
      rw [if_neg (by decide)]
      by_cases e0 : h (1 + 14 + k) 0 = x
      · rw [if_pos e0]
        by_cases e1 : h (1 + 14 + k) 1 = y
        · rw [if_pos e1]; simp [e0, e1, b01]
        · rw [if_neg e1]; simp [e0, e1, b01]
      · rw [if_neg e0]; simp [e0, b01]
theorem in1' {k M : Int32} {N : Nat} (hM : M = nI N) (hN : N < 2 ^ 31) (c : ¬ bI (1 ≤ k ∧ k ≤ M) = 0) : k = nI k.toNatClampNeg ∧ 1 ≤ k.toNatClampNeg ∧ k.toNatClampNeg ≤ N := by
  obtain ⟨e, h⟩ := in1 hM hN c
  refine ⟨e, ?_, h⟩
  apply Classical.byContradiction
  intro z
  have hs1 : ¬ k < 1 := Int32.not_lt.mpr (bI1 c).1
  rw [show k.toNatClampNeg = 0 by omega] at e
  exact hs1 (by rw [e]; decide)
theorem op_dig {n f t q : Nat} {h : Hp} {x y ht sz dp : Int32} (T : TOP n f t q h) :
    (∃ v h2, x_dig n h x y ht sz dp = rI v h2 ∧ (y_dig n h2 x y ht sz dp).1 = v ∧ (y_dig n h2 x y ht sz dp).2 64 0 = 0 ∧ TOP (n + 1) f t q (y_dig n h2 x y ht sz dp).2) ∨ (x_dig n h x y ht sz dp = .inr E_A ∧ y_dig n h x y ht sz dp = yF h 1) ∨ (x_dig n h x y ht sz dp = .inr E_S ∧ y_dig n h x y ht sz dp = yF h 2) := by
  have T0 := T
  obtain ⟨S, K, M, hf, hd, hq, hc, hm, F⟩ := T
  have hn := K.2.1
  unfold x_dig
  by_cases cx : bI (0 ≤ x ∧ x ≤ 40) = 0
  · rw [if_pos cx]
    refine Or.inr (Or.inl ⟨rfl, ?_⟩)
    unfold y_dig
    rw [if_pos (Or.inl cx)]
  rw [if_neg cx]
  by_cases cy : bI (0 ≤ y ∧ y ≤ 40) = 0
  · rw [if_pos cy]
    refine Or.inr (Or.inl ⟨rfl, ?_⟩)
    unfold y_dig
    rw [if_pos (Or.inr (Or.inl cy))]
  rw [if_neg cy]
  by_cases ch : bI (0 ≤ ht ∧ ht ≤ 300) = 0
  · rw [if_pos ch]
    refine Or.inr (Or.inl ⟨rfl, ?_⟩)
    unfold y_dig
    rw [if_pos (Or.inr (Or.inr (Or.inl ch)))]
  rw [if_neg ch]
  by_cases cs : bI (1 ≤ sz ∧ sz ≤ 60) = 0
  · rw [if_pos cs]
    refine Or.inr (Or.inl ⟨rfl, ?_⟩)
    unfold y_dig
    rw [if_pos (Or.inr (Or.inr (Or.inr (Or.inl cs))))]
  rw [if_neg cs]
  by_cases cd : bI (1 ≤ dp ∧ dp ≤ 9) = 0
  · rw [if_pos cd]
    refine Or.inr (Or.inl ⟨rfl, ?_⟩)
    unfold y_dig
    rw [if_pos (Or.inr (Or.inr (Or.inr (Or.inr cd))))]
  rw [if_neg cd]
  have nb : ¬ m_bad x y ht sz dp := by
    rintro (z | z | z | z | z)
    · exact cx z
    · exact cy z
    · exact ch z
    · exact cs z
    · exact cd z
  unfold d_makeR
  by_cases c10 : n < 10
  · rw [if_pos (show nI n < (10 : Int32) from (nI_ltI (a := n) (b := 10) (by omega) (by omega)).mpr c10)]
    obtain ⟨ex, hx⟩ := in0 (N := 40) rfl (by omega) cx
    obtain ⟨ey, hy⟩ := in0 (N := 40) rfl (by omega) cy
    obtain ⟨eh, hh⟩ := in0 (N := 300) rfl (by omega) ch
    obtain ⟨es, hs⟩ := in1' (N := 60) rfl (by omega) cs
    obtain ⟨ed, hdp⟩ := in1' (N := 9) rfl (by omega) cd
    have TD := top_dig T0 c10 hx hy hh hs hdp
    obtain ⟨z1, z2, z3, z4, -⟩ := make_spec (x := x) (y := y) (ht := ht.toNatClampNeg) (sz := sz) (dp := dp) hh c10 K.1 S.2.2.2 (fun j hj => by obtain ⟨v, _, _, _, _, g1, _, _, _, _, k1, _⟩ := S.2.1.1 j hj; exact ⟨v, g1, k1⟩) K.2.2.2.2.2.2.1
    rw [← eh] at z1
    rw [← ex, ← ey, ← eh, ← es, ← ed] at TD
    have m64 : ∀ z : Hp, z 64 = h 64 → y0 z 64 1 = nI n := fun z hz => by rw [y0_1, hz]; exact M.1
    have frE : ∀ z : Hp, z 64 = h 64 → z 65 = h 65 → m_fr (y0 z) x y n = b01 (!d_tk h 1 x y n) := fun z a1 a2 => by
      have e1 : m_fr (y0 z) x y n = m_fr (y0 h) x y n := by
        have : ∀ k, m_fr (y0 z) x y k = m_fr (y0 h) x y k := by
          intro k
          induction k with
          | zero => unfold m_fr; rw [fd_0, fd_0]; unfold m_fr0; rw [y0_1, y0_1, a1]
          | succ k ih =>
            have e1 : m_fr (y0 z) x y (k + 1) = m_frS (y0 z) x y (m_fr (y0 z) x y k) k := by unfold m_fr; rw [fd_s]
            have e2 : m_fr (y0 h) x y (k + 1) = m_frS (y0 h) x y (m_fr (y0 h) x y k) k := by unfold m_fr; rw [fd_s]
            rw [e1, e2, ih]
            unfold m_frS m_fx
            rw [y0_ne (by omega), y0_ne (by omega), a2]
        exact this n
      rw [e1]
      exact fr_tk c10 (m64 h rfl) (S.1.mcongr (fun o ho => y0_ne (by omega))) n (Nat.le_refl n)
    by_cases ct : b01 (d_tk h 1 x y n) = 0
    · rw [if_pos ct]
      left
      have efr : ¬ m_fr (y0 (d_make 1 n h x y ht sz dp)) x y n = 0 := by
        rw [frE _ (z1 64 (by omega) (by omega) (by omega)) (z1 65 (by omega) (by omega) (by omega))]
        cases hb : d_tk h 1 x y n with
        | true => rw [hb] at ct; exact absurd ct (by decide)
        | false => decide
      have hy2 : y_dig n (d_make 1 n h x y ht sz dp) x y ht sz dp = (m_dig n (y0 (d_make 1 n h x y ht sz dp)) x y ht sz dp 64 1 - 1, m_dig n (y0 (d_make 1 n h x y ht sz dp)) x y ht sz dp) := by
        unfold y_dig
        rw [if_neg nb, if_neg efr]
      obtain ⟨w1, w2, w3, w4⟩ := mdig_spec (x := x) (y := y) (ht := ht) (sz := sz) (dp := dp) c10 (m64 _ (z1 64 (by omega) (by omega) (by omega)))
      refine ⟨nI n, _, rfl, ?_⟩
      rw [hy2]
      refine ⟨?_, ?_, TD⟩
      · show m_dig n (y0 (d_make 1 n h x y ht sz dp)) x y ht sz dp 64 1 - 1 = nI n
        rw [w2, if_pos rfl]
        exact nI_pred n
      · show m_dig n (y0 (d_make 1 n h x y ht sz dp)) x y ht sz dp 64 0 = 0
        rw [w2, if_neg (by omega)]
        exact y0_0
    · rw [if_neg ct]
      refine Or.inr (Or.inr ⟨rfl, ?_⟩)
      have efr : m_fr (y0 h) x y n = 0 := by
        rw [frE h rfl rfl]
        cases hb : d_tk h 1 x y n with
        | true => rfl
        | false => rw [hb] at ct; exact absurd rfl ct
      unfold y_dig
      rw [if_neg nb, if_pos efr]
  · rw [if_neg (show ¬ nI n < (10 : Int32) from fun z => c10 ((nI_ltI (a := n) (b := 10) (by omega) (by omega)).mp z))]
    refine Or.inr (Or.inr ⟨rfl, ?_⟩)
    unfold y_dig
    rw [if_neg nb, if_pos (fr_0 (by rw [y0_1, M.1]; exact (nI_leI (a := 10) (b := n) (by omega) (by omega)).mpr (by omega)) n)]
