theorem xfs {d n f j k : Nat} {c : Hp} {v : Int32} (hn : n ≤ 10) (hj : j < n) (hk : k = 5 ∨ k = 6 ∨ k = 8 ∨ k = 9) (h : XBd d n c ∧ FBd d n f c ∧ SBd d n c) : XBd d n (hp_up c (d + 14 + j) k v) ∧ FBd d n f (hp_up c (d + 14 + j) k v) ∧ SBd d n (hp_up c (d + 14 + j) k v) := by
  obtain ⟨i3, i4, i5⟩ := h
  refine ⟨fun i hi => ?_, fun i hi => ?_, fun i hi => ?_⟩
  · obtain ⟨x, y, a1, a2, a3, a4⟩ := i3 i hi
    exact ⟨x, y, a1, a2, by rw [hp_off (Or.inr (by omega))]; exact a3, by rw [hp_off (Or.inr (by omega))]; exact a4⟩
  · obtain ⟨s, q, th, a1, a2, a3, b1, b2, b3⟩ := i4 i hi
    exact ⟨s, q, th, a1, a2, a3, by rw [hp_off (Or.inl (by omega))]; exact b1, by rw [hp_off (Or.inl (by omega))]; exact b2, by rw [hp_off (Or.inl (by omega))]; exact b3⟩
  · rw [hp_off (Or.inr (by omega))]; exact i5 i hi
theorem INV.mono {d n f : Nat} {B B' : Nat → Nat} {c : Hp} (I : INV d n f B c) (hb : ∀ j, j < n → B j ≤ B' j) : INV d n f B' c := ⟨I.1.mono hb, I.2⟩
/-- a flock's day -/
theorem sim_flock {d n f j : Nat} {B : Nat → Nat} {c m : Hp} {u : Int32} (hn : n ≤ 10) (hf : f ≤ 7) (hj : j < f) (R : REL d n f c m) (I : INV d n f B c) (hB : ∀ i, i < n → B i ≤ 2 ^ 20) :
    d_flockU d n c j u = m_flockU n m j u ∧ REL d n f (d_flock d n c j) (m_flock n m j) ∧ INV d n f B (d_flock d n c j) := by
  obtain ⟨s, q, th, a1, a2, a3, b1, b2, b3⟩ := I.2.2.2.1 j hj
  have f2 : m_fl m (nI j) 2 = nI th := (R.fl (k := 2) hf hj (by omega)).trans b3
  unfold d_flockU m_flockU d_flock m_flock m_drink m_drinkU
  rw [f2, b3]
  by_cases ht : th = 10
  · subst ht
    rw [if_pos (show (10 : Int32) ≤ nI 10 by decide), if_pos (show (10 : Int32) ≤ nI 10 by decide), if_pos (show nI 10 = 10 from rfl), if_pos (show nI 10 = 10 from rfl)]
    exact ⟨rfl, R, I⟩
  · have h1 : ¬ (10 : Int32) ≤ nI th := fun y => absurd ((nI_leI (a := 10) (b := th) (by omega) (by omega)).mp y) (by omega)
    have h2 : ¬ nI th = 10 := fun y => ht ((nI_eq (a := th) (b := 10) (by omega) (by omega)).mp y)
    rw [if_neg h1, if_neg h1, if_neg h2, if_neg h2]
    obtain ⟨p, hp, eg, R1⟩ := sim_go hn hf hj R I.2.2.1 I.2.2.2.1
    have I1 : INV d n f B (d_go d n (d + 25 + j) c) := by rw [eg]; exact I.flk hn (I.2.2.2.1.pond hp)
    have e1 : d_go d n (d + 25 + j) c (d + 25 + j) 1 = nI p := by rw [eg, hp_eq]; unfold upd; rw [if_pos rfl]
    have eto : d_to d (d + 25 + j) (d_go d n (d + 25 + j) c) = d + 14 + p := by unfold d_to; rw [e1, nI_clamp (by omega)]
    obtain ⟨x1, x2, x3⟩ := sim_drink hn hf hj hp R1 I1 hB e1
    rw [eto, x1]
    exact ⟨rfl, x2, x3⟩
theorem sim_fd {P : Nat → Hp → Hp → Prop} {s1 s2 : Hp → Nat → Hp} {c m : Hp} : ∀ k, (∀ i c m, i < k → P i c m → P (i + 1) (s1 c i) (s2 m i)) → P 0 c m → P k (fd s1 c k) (fd s2 m k)
  | 0, _, h => h
  | k + 1, hs, h => hs k _ _ (by omega) (sim_fd k (fun i c m hi => hs i c m (by omega)) h)
abbrev cB (w : Nat) : Nat → Nat := fun _ => w
theorem sim_h1 {d n f wi W : Nat} {c m : Hp} (hn : n ≤ 10) (hwi : wi < 10) (hW : W ≤ 2 ^ 19) (R : REL d n f c m) (I : INV d n f (cB W) c) : REL d n f (d_h1 d n (d + 2 + wi) c) (m_h1 n wi m) ∧ INV d n f (cB (W + 540)) (d_h1 d n (d + 2 + wi) c) := by
  have key : REL d n f (fd (d_mist d (d + 2 + wi)) c n) (fd (m_d1 wi) m n) ∧ INV d n f (fun i => if i < n then W + 540 else W) (fd (d_mist d (d + 2 + wi)) c n) := by
    refine sim_fd (P := fun k c m => REL d n f c m ∧ INV d n f (fun i => if i < k then W + 540 else W) c) n (fun j c m hj H => ?_) ⟨R, I.mono (fun i _ => by simp)⟩
    obtain ⟨R, I⟩ := H
    obtain ⟨r1, p1, w1⟩ := sim_mist hn hj hwi R I.1 I.2.1 (by show (if j < j then _ else _) ≤ _; rw [if_neg (by omega)]; omega)
    refine ⟨r1, p1.mono (fun i hi => ?_), w1, ?_⟩
    · show (if i = j then (if j < j then W + 540 else W) + 540 else if i < j then W + 540 else W) ≤ if i < j + 1 then W + 540 else W
      rw [if_neg (show ¬ j < j by omega)]
      by_cases e : i = j
      · rw [if_pos e, if_pos (by omega)]
        omega
      · rw [if_neg e]
        by_cases e2 : i < j
        · rw [if_pos e2, if_pos (by omega)]
          omega
        · rw [if_neg e2, if_neg (by omega)]
          omega
    · unfold d_mist p_rain p_mist
      exact xfs hn hj (Or.inl rfl) (xfs hn hj (Or.inl rfl) I.2.2)
  exact ⟨key.1, key.2.mono (fun i hi => by show (if i < n then W + 540 else W) ≤ W + 540; split <;> omega)⟩
theorem d_drunk_0 {d n : Nat} {c : Hp} : d_drunk d n c 0 = 0 := by unfold d_drunk; rw [fd_0]
theorem m_drunk_0 {n : Nat} {c : Hp} : m_drunk n c 0 = 0 := by unfold m_drunk; rw [fd_0]
theorem d_drunk_s {d n k : Nat} {c : Hp} : d_drunk d n c (k + 1) = d_flockU d n (fd (d_flock d n) c k) k (d_drunk d n c k) := by unfold d_drunk; rw [fd_s]
theorem m_drunk_s {n k : Nat} {c : Hp} : m_drunk n c (k + 1) = m_flockU n (fd (m_flock n) c k) k (m_drunk n c k) := by unfold m_drunk; rw [fd_s]
theorem sim_h2 {d n f W : Nat} {c m : Hp} (hn : n ≤ 10) (hf : f ≤ 7) (hW : W ≤ 2 ^ 20) (R : REL d n f c m) (I : INV d n f (cB W) c) (k : Nat) (hk : k ≤ f) : (REL d n f (fd (d_flock d n) c k) (fd (m_flock n) m k) ∧ INV d n f (cB W) (fd (d_flock d n) c k)) ∧ d_drunk d n c k = m_drunk n m k := by
  induction k with
  | zero =>
    rw [fd_0, fd_0, d_drunk_0, m_drunk_0]
    exact ⟨⟨R, I⟩, rfl⟩
  | succ k ih =>
    obtain ⟨⟨r, i⟩, e⟩ := ih (by omega)
    obtain ⟨x1, x2, x3⟩ := sim_flock (u := d_drunk d n c k) hn hf (show k < f by omega) r i (fun _ _ => hW)
    rw [fd_s, fd_s, d_drunk_s, m_drunk_s, x1, e]
    exact ⟨⟨x2, x3⟩, rfl⟩
theorem sim_h3 {d n f wi W : Nat} {c m : Hp} (hn : n ≤ 10) (hf : f ≤ 7) (hwi : wi < 10) (hW : W ≤ 2 ^ 19) (R : REL d n f c m) (I : INV d n f (cB W) c) :
    REL d n f (d_h3 d n f (d + 2 + wi) c) (m_h3 n f wi m) ∧ INV d n f (cB (W + 540)) (d_h3 d n f (d + 2 + wi) c) ∧ d_drunk d n (d_h1 d n (d + 2 + wi) c) f = m_drunk n (m_h1 n wi m) f := by
  obtain ⟨r1, i1⟩ := sim_h1 hn hwi hW R I
  obtain ⟨⟨r2, i2⟩, e2⟩ := sim_h2 hn hf (by omega) r1 i1 f (Nat.le_refl f)
  have key : REL d n f (d_h3 d n f (d + 2 + wi) c) (m_h3 n f wi m) ∧ INV d n f (cB (W + 540)) (d_h3 d n f (d + 2 + wi) c) := by
    refine sim_fd (P := fun _ c m => REL d n f c m ∧ INV d n f (cB (W + 540)) c) n (fun j c m hj H => ?_) ⟨r2, i2⟩
    obtain ⟨R, I⟩ := H
    obtain ⟨r1, p1, w1⟩ := sim_sun hn hj hwi R I.1 I.2.1 (I.2.2.2.2 j hj) (by show W + 540 ≤ _; omega)
    refine ⟨r1, p1, w1, ?_⟩
    unfold d_sun p_leak p_dry
    exact xfs hn hj (Or.inl rfl) (xfs hn hj (Or.inl rfl) I.2.2)
  exact ⟨key.1, key.2, e2⟩
