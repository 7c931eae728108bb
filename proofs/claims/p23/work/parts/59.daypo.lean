/-! WHAT A DAY DOES: the ponds -/
theorem sm_ge {w : Nat → Nat} {i : Nat} : ∀ n, i < n → w i ≤ sm w n
  | 0, h => absurd h (Nat.not_lt_zero i)
  | n + 1, h => by
    show w i ≤ sm w n + w n
    by_cases e : i = n
    · subst e; omega
    · have := sm_ge n (show i < n by omega) (w := w); omega
theorem sm_add {a b : Nat → Nat} : ∀ n, sm (fun i => a i + b i) n = sm a n + sm b n
  | 0 => rfl
  | n + 1 => by
    show sm (fun i => a i + b i) n + (a n + b n) = (sm a n + a n) + (sm b n + b n)
    rw [sm_add n]
    omega
theorem sm_bd {w : Nat → Nat} {B : Nat} : ∀ n, (∀ i, i < n → w i ≤ B) → sm w n ≤ n * B
  | 0, _ => by show 0 ≤ _; omega
  | n + 1, h => by
    have h1 := sm_bd n (fun i hi => h i (by omega)) (w := w) (B := B)
    have h2 := h n (by omega)
    show sm w n + w n ≤ _
    rw [Nat.succ_mul]
    omega
/-- what mist and rain bring to a pond -/
def camI (c : Hp) (w j : Nat) : Int32 := (if c (15 + j) 2 < 150 then c w 0 * c (15 + j) 3 / 4 else 2 * (c w 0 * c (15 + j) 3 / 4)) + c w 1 * c (15 + j) 3 / 2
theorem cam_nI {n j wi : Nat} {B : Nat → Nat} {c : Hp} (P : PBd 1 n B c) (Wb : WBd 1 c) (hj : j < n) (hwi : wi < 10) : ∃ g : Nat, g ≤ 540 ∧ camI c (3 + wi) j = nI g := by
  obtain ⟨ht, sz, dp, w, li, a1, a2, a3, a4, a5, b1, b2, b3, b4, b5⟩ := P j hj
  have b1 : c (15 + j) 2 = nI ht := b1
  have b2 : c (15 + j) 3 = nI sz := b2
  obtain ⟨mm, hmm, em⟩ := Wb wi 0 hwi (by omega)
  obtain ⟨rr, hrr, er⟩ := Wb wi 1 hwi (by omega)
  have em : c (3 + wi) 0 = nI mm := em
  have er : c (3 + wi) 1 = nI rr := er
  have hms : mm * sz ≤ 540 := Nat.mul_le_mul hmm a2.2
  have hrs : rr * sz ≤ 540 := Nat.mul_le_mul hrr a2.2
  unfold camI
  rw [em, er, b1, b2, pk_mul, pk_mul, show (4 : Int32) = nI 4 from rfl, show (2 : Int32) = nI 2 from rfl, pk_div (by omega) (by omega) (by omega), pk_div (by omega) (by omega) (by omega), pk_mul]
  by_cases h : nI ht < 150
  · rw [if_pos h, nI_add]
    exact ⟨_, by omega, rfl⟩
  · rw [if_neg h, nI_add]
    exact ⟨_, by omega, rfl⟩
theorem mist_step {c : Hp} {w j : Nat} (hw : w ≠ 15 + j) : d_mist 1 w c j = hp_up c (15 + j) 5 (c (15 + j) 5 + camI c w j) := by
  have e : d_mist 1 w c j = hp_up c (15 + j) 5 (c (15 + j) 5 + (if c (15 + j) 2 < 150 then c w 0 * c (15 + j) 3 / 4 else 2 * (c w 0 * c (15 + j) 3 / 4)) + c w 1 * c (15 + j) 3 / 2) := mist_eq (o := 15 + j) hw
  rw [e, Int32.add_assoc]
  rfl
theorem mist_all {c : Hp} {w : Nat} (hw : w < 15) : ∀ k, (∀ o, (∀ j, j < k → o ≠ 15 + j) → fd (d_mist 1 w) c k o = c o) ∧ ∀ j, j < k → fd (d_mist 1 w) c k (15 + j) 5 = c (15 + j) 5 + camI c w j ∧ ∀ k2, k2 ≠ 5 → fd (d_mist 1 w) c k (15 + j) k2 = c (15 + j) k2
  | 0 => ⟨fun o _ => by rw [fd_0], fun j hj => absurd hj (Nat.not_lt_zero j)⟩
  | k + 1 => by
    obtain ⟨h1, h2⟩ := mist_all (c := c) hw k
    rw [fd_s]
    generalize fd (d_mist 1 w) c k = z at h1 h2 ⊢
    have zk : z (15 + k) = c (15 + k) := h1 _ (fun j hj => by omega)
    have zw : z w = c w := h1 _ (fun j hj => by omega)
    have ec : camI z w k = camI c w k := by unfold camI; rw [zk, zw]
    rw [mist_step (by omega), ec, zk]
    refine ⟨fun o ho => ?_, fun j hj => ?_⟩
    · rw [hp_ne (ho k (by omega))]; exact h1 o (fun j hj => ho j (by omega))
    · by_cases e : j = k
      · subst e
        exact ⟨hp_upd, fun k2 h5 => by rw [hp_off (Or.inr h5), zk]⟩
      · have := h2 j (by omega)
        exact ⟨by rw [hp_off (Or.inl (by omega))]; exact this.1, fun k2 h5 => by rw [hp_off (Or.inl (by omega))]; exact this.2 k2 h5⟩
theorem PBd.tight {n : Nat} {B : Nat → Nat} {c : Hp} (P : PBd 1 n B c) (hB : ∀ i, i < n → B i < 2 ^ 31) : PBd 1 n (wN c) c := by
  intro j hj
  have hw := wN_at P (hB j hj) hj
  obtain ⟨ht, sz, dp, w, li, a1, a2, a3, a4, a5, b1, b2, b3, b4, b5⟩ := P j hj
  exact ⟨ht, sz, dp, wN c j, li, a1, a2, a3, Nat.le_refl _, a5, b1, b2, b3, hw.1, b5⟩
theorem sun_all {n f wi W : Nat} {c m : Hp} (hn : n ≤ 10) (hwi : wi < 10) (hW : W ≤ 6000) (RE : REL 1 n f c m) (I : INV 1 n f (cB W) c) : (∀ j, j < n → wN (fd (d_sun 1 (3 + wi)) c n) j ≤ wN c j) ∧ ∀ o k2, (k2 ≠ 5 ∨ ∀ j, j < n → o ≠ 15 + j) → fd (d_sun 1 (3 + wi)) c n o k2 = c o k2 := by
  have key : REL 1 n f (fd (d_sun 1 (3 + wi)) c n) (fd (m_d3 wi) m n) ∧ INV 1 n f (cB W) (fd (d_sun 1 (3 + wi)) c n) ∧ (∀ j, j < n → wN (fd (d_sun 1 (3 + wi)) c n) j ≤ wN c j) ∧ ∀ o k2, (k2 ≠ 5 ∨ ∀ j, j < n → o ≠ 15 + j) → fd (d_sun 1 (3 + wi)) c n o k2 = c o k2 := by
    refine sim_fd (P := fun _ z m => REL 1 n f z m ∧ INV 1 n f (cB W) z ∧ (∀ j, j < n → wN z j ≤ wN c j) ∧ ∀ o k2, (k2 ≠ 5 ∨ ∀ j, j < n → o ≠ 15 + j) → z o k2 = c o k2) n (fun j z m hj H => ?_) ⟨RE, I, fun _ _ => Nat.le_refl _, fun _ _ _ => rfl⟩
    obtain ⟨R, I, hw, hs⟩ := H
    obtain ⟨r1, p1, w1⟩ := sim_sun hn hj hwi R I.1 I.2.1 (I.2.2.2.2 j hj) (by show W ≤ _; omega)
    have hwj := wN_at I.1 (show cB W j < 2 ^ 31 by show W < _; omega) hj
    obtain ⟨-, p2, -⟩ := sim_sun hn hj hwi R (I.1.tight (fun i hi => by show W < _; omega)) I.2.1 (I.2.2.2.2 j hj) (by have : wN z j ≤ W := hwj.2; omega)
    refine ⟨r1, ⟨p1, w1, ?_⟩, fun i hi => ?_, fun o k2 ho => ?_⟩
    · unfold d_sun p_leak p_dry
      exact xfs hn hj (Or.inl rfl) (xfs hn hj (Or.inl rfl) I.2.2)
    · have h1 := wN_at p2 (by have := wN_at I.1 (show cB W i < 2 ^ 31 by show W < _; omega) hi; have : wN z i ≤ W := this.2; omega) hi
      exact Nat.le_trans h1.2 (hw i hi)
    · rw [← hs o k2 ho]
      unfold d_sun p_leak p_dry
      have h9 : o ≠ 1 + 14 + j ∨ k2 ≠ 5 := ho.elim Or.inr (fun h => Or.inl (by have := h j hj; omega))
      rw [hp_off h9, hp_off h9]
  exact ⟨key.2.2.1, key.2.2.2⟩
/-- how much a pond holds, as a natural number -/
def hN (c : Hp) (j : Nat) : Nat := (p_holds c (15 + j)).toNatClampNeg
theorem hN_at {n j : Nat} {B : Nat → Nat} {c : Hp} (P : PBd 1 n B c) (hj : j < n) : p_holds c (15 + j) = nI (hN c j) ∧ hN c j ≤ 5400 := by
  obtain ⟨ht, sz, dp, w, li, g1, g2, g3, g4, g5, k1, k2, k3, k4, k5⟩ := P j hj
  have hsd : sz * dp ≤ 540 := Nat.mul_le_mul g2.2 g3.2
  have k2 : c (15 + j) 3 = nI sz := k2
  have k3 : c (15 + j) 4 = nI dp := k3
  have e : p_holds c (15 + j) = nI (sz * dp * 10) := by unfold p_holds; rw [k2, k3, pk_mul]; exact pk_mul _ 10
  unfold hN
  rw [e, nI_clamp (by omega)]
  exact ⟨rfl, by omega⟩
theorem run_cases {n q : Nat} {c : Hp} (hn : n ≤ 10) (P : PBd 1 n (fun _ => 70000) c) (L : LBd 1 n c) (hq : q < n) :
    (wN c q ≤ hN c q ∧ d_run1 1 c q = c) ∨ (hN c q < wN c q ∧ ((c (15 + q) 8 = -1 ∧ d_run1 1 c q = hp_up (hp_up c (15 + q) 5 (nI (hN c q))) (15 + q) 9 (c (15 + q) 9 + nI (wN c q - hN c q))) ∨ ∃ t, t < n ∧ t ≠ q ∧ hgt 1 c t < hgt 1 c q ∧ d_run1 1 c q = hp_up (hp_up (hp_up c (15 + q) 5 (nI (hN c q))) (15 + q) 9 (c (15 + q) 9 + nI (wN c q - hN c q))) (15 + t) 5 (nI (wN c t + (wN c q - hN c q))))) := by
  obtain ⟨hw, hwB⟩ := wN_at P (show (70000 : Nat) < 2 ^ 31 by omega) hq
  obtain ⟨hh, hhB⟩ := hN_at P hq
  have hwB : wN c q ≤ 70000 := hwB
  have eo : p_over c (15 + q) = nI (wN c q - hN c q) := by unfold p_over; rw [hh, hw, Int32.sub_eq_add_neg]; exact offN (by omega) (by omega)
  have esp : p_spill c (15 + q) = hp_up (hp_up c (15 + q) 5 (nI (wN c q - (wN c q - hN c q)))) (15 + q) 9 (c (15 + q) 9 + nI (wN c q - hN c q)) := by
    unfold p_spill
    rw [eo, hw, pk_sub (by omega), hp_off (a := 15 + q) (b := 9) (Or.inr (by omega))]
  have s8 : p_spill c (15 + q) (15 + q) 8 = c (15 + q) 8 := by rw [esp, hp_off (Or.inr (by omega)), hp_off (Or.inr (by omega))]
  have e1 : d_run1 1 c q = if p_spill c (15 + q) (15 + q) 8 = -1 then p_spill c (15 + q) else hp_up (p_spill c (15 + q)) (1 + 14 + (p_spill c (15 + q) (15 + q) 8).toNatClampNeg) 5 (p_spill c (15 + q) (1 + 14 + (p_spill c (15 + q) (15 + q) 8).toNatClampNeg) 5 + p_over c (15 + q)) := rfl
  by_cases hex : wN c q ≤ hN c q
  · left
    refine ⟨hex, ?_⟩
    have hz : wN c q - hN c q = 0 := by omega
    have same : p_spill c (15 + q) = c := by
      rw [esp, hz, Nat.sub_zero, ← hw, hp_same rfl, nI_0, Int32.add_zero, hp_same rfl]
    rw [e1, same, eo, hz, nI_0]
    split
    · rfl
    · rw [Int32.add_zero, hp_same rfl]
  · right
    have hlt : hN c q < wN c q := by omega
    refine ⟨hlt, ?_⟩
    have eh : wN c q - (wN c q - hN c q) = hN c q := by omega
    rw [eh] at esp
    rcases L q hq with z | ⟨t, h1, h2, h3⟩
    · have z : c (15 + q) 8 = -1 := z
      exact Or.inl ⟨z, by rw [e1, s8, z, if_pos rfl, esp]⟩
    · have h2 : c (15 + q) 8 = nI t := h2
      have htq : t ≠ q := by
        intro h
        subst h
        exact Nat.lt_irrefl _ h3
      have ht5 : p_spill c (15 + q) (15 + t) 5 = nI (wN c t) := by
        rw [esp, hp_off (Or.inl (by omega)), hp_off (Or.inl (by omega))]
        exact (wN_at P (show (70000 : Nat) < 2 ^ 31 by omega) h1).1
      refine Or.inr ⟨t, h1, htq, h3, ?_⟩
      rw [e1, s8, h2, if_neg (nI_m1 (by omega)), nI_clamp (by omega), show 1 + 14 + t = 15 + t from by omega, ht5, eo, nI_add, esp]
/-- one pond runs over: what holds of those that had their turn -/
def rnD (c z : Hp) (j : Nat) : Prop := wN z j ≤ hN c j ∧ ∃ e : Nat, e ≤ 70000 ∧ z (15 + j) 9 = c (15 + j) 9 + nI e ∧ (0 < e → wN z j = hN c j)
theorem run_all {n S0 : Nat} {c : Hp} {H : Nat → Nat} (hn : n ≤ 10) (hS : S0 ≤ 70000) : ∀ (rest done : List Nat) (z : Hp), (done ++ rest).Pairwise (hlt H) → (∀ q, q ∈ done ++ rest → q < n) → PBd 1 n (fun _ => 70000) z → LBd 1 n z → (∀ j, hgt 1 z j = H j) → sm (wN z) n ≤ S0 → (∀ j, hN z j = hN c j) → (∀ j, j ∈ done → rnD c z j) → (∀ j, j ∈ rest → z (15 + j) 9 = c (15 + j) 9) →
    sm (wN (rest.foldl (d_run1 1) z)) n ≤ S0 ∧ PBd 1 n (fun _ => 70000) (rest.foldl (d_run1 1) z) ∧ (∀ j, j ∈ done ++ rest → rnD c (rest.foldl (d_run1 1) z) j) ∧ (∀ o k, (k ≠ 5 ∧ k ≠ 9) ∨ (∀ j, j < n → o ≠ 15 + j) → rest.foldl (d_run1 1) z o k = z o k)
  | [], done, z, h1, h2, P, L, hH, hs, hh, hd, hr => ⟨hs, P, fun j hj => hd j (by simpa using hj), fun _ _ _ => rfl⟩
  | q :: rest, done, z, h1, h2, P, L, hH, hs, hh, hd, hr => by
    have hq : q < n := h2 q (List.mem_append_right _ List.mem_cons_self)
    have hap : done ++ [q] ++ rest = done ++ q :: rest := by simp
    have hqd : q ∉ done := fun y => by
      have h9 := (List.pairwise_append.mp h1).2.2 q y q List.mem_cons_self
      unfold hlt at h9
      omega
    have hqr : q ∉ rest := fun y => by
      have h9 := (List.pairwise_cons.mp (List.pairwise_append.mp h1).2.1).1 q y
      unfold hlt at h9
      omega
    have step : ∀ z', d_run1 1 z q = z' → PBd 1 n (fun _ => 70000) z' → sm (wN z') n ≤ S0 → (∀ j, j ∈ done ++ [q] → rnD c z' j) → (∀ j, j ∈ rest → z' (15 + j) 9 = c (15 + j) 9) → (∀ o k, (k ≠ 5 ∧ k ≠ 9) ∨ (∀ j, j < n → o ≠ 15 + j) → z' o k = z o k) →
        sm (wN ((q :: rest).foldl (d_run1 1) z)) n ≤ S0 ∧ PBd 1 n (fun _ => 70000) ((q :: rest).foldl (d_run1 1) z) ∧ (∀ j, j ∈ done ++ q :: rest → rnD c ((q :: rest).foldl (d_run1 1) z) j) ∧ (∀ o k, (k ≠ 5 ∧ k ≠ 9) ∨ (∀ j, j < n → o ≠ 15 + j) → (q :: rest).foldl (d_run1 1) z o k = z o k) := by
      intro z' ez P' hs' hd' hr' ho'
      have L' : LBd 1 n z' := by rw [← ez]; exact L.keep keep_run
      have hH' : ∀ j, hgt 1 z' j = H j := fun j => by rw [← ez, run1_hgt]; exact hH j
      have hh' : ∀ j, hN z' j = hN c j := fun j => by
        rw [← hh j, ← ez]
        unfold hN p_holds
        rw [run1_k (by omega) (by omega), run1_k (by omega) (by omega)]
      have := run_all hn hS rest (done ++ [q]) z' (by rw [hap]; exact h1) (by rw [hap]; exact h2) P' L' hH' hs' hh' hd' hr'
      rw [hap] at this
      rw [List.foldl_cons, ez]
      exact ⟨this.1, this.2.1, this.2.2.1, fun o k hok => (this.2.2.2 o k hok).trans (ho' o k hok)⟩
    have hqH : hN z q ≤ 5400 := (hN_at P hq).2
    have hwq : wN z q ≤ sm (wN z) n := sm_ge n hq
    rcases run_cases hn P L hq with ⟨c1, c2⟩ | ⟨c1, ⟨c2, c3⟩ | ⟨t, ht, htq, hlo, c3⟩⟩
    · refine step z c2 P hs (fun j hj => ?_) (fun j hj => hr j (List.mem_cons_of_mem _ hj)) (fun _ _ _ => rfl)
      rcases List.mem_append.mp hj with y | y
      · exact hd j y
      · have : j = q := by simpa using y
        subst this
        refine ⟨by rw [← hh j]; exact c1, 0, by omega, ?_, fun y => absurd y (Nat.lt_irrefl 0)⟩
        rw [nI_0, Int32.add_zero]
        exact hr j List.mem_cons_self
    · have w1 : ∀ i, i ≠ q → wN (hp_up (hp_up z (15 + q) 5 (nI (hN z q))) (15 + q) 9 (z (15 + q) 9 + nI (wN z q - hN z q))) i = wN z i := fun i hi => by
        unfold wN
        rw [hp_off (Or.inl (by omega)), hp_off (Or.inl (by omega))]
      have w2 : wN (hp_up (hp_up z (15 + q) 5 (nI (hN z q))) (15 + q) 9 (z (15 + q) 9 + nI (wN z q - hN z q))) q = hN z q := by
        show ((hp_up (hp_up z (15 + q) 5 (nI (hN z q))) (15 + q) 9 (z (15 + q) 9 + nI (wN z q - hN z q))) (15 + q) 5).toNatClampNeg = hN z q
        rw [hp_off (Or.inr (by omega)), hp_upd, nI_clamp (by omega)]
      have hsm := sm_one n hq (fun i _ hne => w1 i hne)
      rw [w2] at hsm
      refine step _ c3 ?_ (by omega) (fun j hj => ?_) (fun j hj => ?_) (fun o k hok => ?_)
      · refine PBd.other ?_ (fun j _ => Or.inr (by omega))
        exact (P.water (w := hN z q) hq).mono (fun i _ => by split <;> omega)
      · rcases List.mem_append.mp hj with y | y
        · obtain ⟨d1, e, d2, d3, d4⟩ := hd j y
          have hne : j ≠ q := fun h => hqd (h ▸ y)
          exact ⟨by rw [w1 j hne]; exact d1, e, d2, by rw [hp_off (Or.inl (by omega)), hp_off (Or.inl (by omega))]; exact d3, fun h => by rw [w1 j hne]; exact d4 h⟩
        · have : j = q := by simpa using y
          subst this
          refine ⟨by rw [w2, ← hh j]; exact Nat.le_refl _, wN z j - hN z j, by omega, ?_, fun _ => by rw [w2, ← hh j]⟩
          rw [hp_upd, hr j List.mem_cons_self]
      · have hne : j ≠ q := fun h => hqr (h ▸ hj)
        rw [hp_off (Or.inl (by omega)), hp_off (Or.inl (by omega))]
        exact hr j (List.mem_cons_of_mem _ hj)
      · rcases hok with h | h
        · rw [hp_off (Or.inr h.2), hp_off (Or.inr h.1)]
        · have := h q hq
          rw [hp_ne this, hp_ne this]
    · have htd : t ∉ done := fun y => by
        have h9 := (List.pairwise_append.mp h1).2.2 t y q List.mem_cons_self
        rw [hH, hH] at hlo
        unfold hlt at h9
        omega
      have w1 : ∀ i, i ≠ q → i ≠ t → wN (hp_up (hp_up (hp_up z (15 + q) 5 (nI (hN z q))) (15 + q) 9 (z (15 + q) 9 + nI (wN z q - hN z q))) (15 + t) 5 (nI (wN z t + (wN z q - hN z q)))) i = wN z i := fun i hi hi2 => by
        unfold wN
        rw [hp_off (Or.inl (by omega)), hp_off (Or.inl (by omega)), hp_off (Or.inl (by omega))]
      have w2 : wN (hp_up (hp_up (hp_up z (15 + q) 5 (nI (hN z q))) (15 + q) 9 (z (15 + q) 9 + nI (wN z q - hN z q))) (15 + t) 5 (nI (wN z t + (wN z q - hN z q)))) q = hN z q := by
        show ((hp_up (hp_up (hp_up z (15 + q) 5 (nI (hN z q))) (15 + q) 9 (z (15 + q) 9 + nI (wN z q - hN z q))) (15 + t) 5 (nI (wN z t + (wN z q - hN z q)))) (15 + q) 5).toNatClampNeg = hN z q
        rw [hp_off (Or.inl (by omega)), hp_off (Or.inr (by omega)), hp_upd, nI_clamp (by omega)]
      have hwt : wN z t ≤ 70000 := (wN_at P (show (70000 : Nat) < 2 ^ 31 by omega) ht).2
      have w3 : wN (hp_up (hp_up (hp_up z (15 + q) 5 (nI (hN z q))) (15 + q) 9 (z (15 + q) 9 + nI (wN z q - hN z q))) (15 + t) 5 (nI (wN z t + (wN z q - hN z q)))) t = wN z t + (wN z q - hN z q) := by
        show ((hp_up (hp_up (hp_up z (15 + q) 5 (nI (hN z q))) (15 + q) 9 (z (15 + q) 9 + nI (wN z q - hN z q))) (15 + t) 5 (nI (wN z t + (wN z q - hN z q)))) (15 + t) 5).toNatClampNeg = _
        rw [hp_upd, nI_clamp (by omega)]
      have hmid := sm_one (w := wN z) (w' := fun i => if i = q then hN z q else wN z i) n hq (fun i _ hne => if_neg hne)
      have hfin := sm_one (w := fun i => if i = q then hN z q else wN z i) (w' := wN (hp_up (hp_up (hp_up z (15 + q) 5 (nI (hN z q))) (15 + q) 9 (z (15 + q) 9 + nI (wN z q - hN z q))) (15 + t) 5 (nI (wN z t + (wN z q - hN z q))))) n ht (fun i _ hne => by
        show _ = if i = q then hN z q else wN z i
        by_cases e : i = q
        · subst e; rw [if_pos rfl]; exact w2
        · rw [if_neg e]; exact w1 i e hne)
      rw [if_pos (show q = q from rfl)] at hmid
      rw [w3, if_neg htq] at hfin
      have hwt2 : wN z t + (wN z q - hN z q) ≤ S0 := by
        have := sm_ge (w := wN (hp_up (hp_up (hp_up z (15 + q) 5 (nI (hN z q))) (15 + q) 9 (z (15 + q) 9 + nI (wN z q - hN z q))) (15 + t) 5 (nI (wN z t + (wN z q - hN z q))))) n ht
        rw [w3] at this
        omega
      refine step _ c3 ?_ (by omega) (fun j hj => ?_) (fun j hj => ?_) (fun o k hok => ?_)
      · refine PBd.mono (PBd.water (w := wN z t + (wN z q - hN z q)) (B := fun _ => 70000) ?_ ht) (fun i _ => by split <;> omega)
        refine PBd.other ?_ (fun j _ => Or.inr (by omega))
        exact (P.water (w := hN z q) hq).mono (fun i _ => by split <;> omega)
      · rcases List.mem_append.mp hj with y | y
        · obtain ⟨d1, e, d2, d3, d4⟩ := hd j y
          have hne : j ≠ q := fun h => hqd (h ▸ y)
          have hne2 : j ≠ t := fun h => htd (h ▸ y)
          exact ⟨by rw [w1 j hne hne2]; exact d1, e, d2, by rw [hp_off (Or.inr (by omega)), hp_off (Or.inl (by omega)), hp_off (Or.inl (by omega))]; exact d3, fun h => by rw [w1 j hne hne2]; exact d4 h⟩
        · have : j = q := by simpa using y
          subst this
          refine ⟨by rw [w2, ← hh j]; exact Nat.le_refl _, wN z j - hN z j, by omega, ?_, fun _ => by rw [w2, ← hh j]⟩
          rw [hp_off (Or.inr (by omega)), hp_upd, hr j List.mem_cons_self]
      · have hne : j ≠ q := fun h => hqr (h ▸ hj)
        rw [hp_off (Or.inr (by omega)), hp_off (Or.inl (by omega)), hp_off (Or.inl (by omega))]
        exact hr j (List.mem_cons_of_mem _ hj)
      · rcases hok with h | h
        · rw [hp_off (Or.inr h.1), hp_off (Or.inr h.2), hp_off (Or.inr h.1)]
        · have a1 := h q hq
          have a2 := h t ht
          rw [hp_ne a2, hp_ne a1, hp_ne a1]
