/-! LOOKING AHEAD, and what came -/
def LO (h h2 : Hp) : Prop := ∀ o, o < 32 ∨ 64 ≤ o → h2 o = h o
theorem LO.refl {h : Hp} : LO h h := fun _ _ => rfl
theorem LO.trans {a b c : Hp} (h1 : LO a b) (h2 : LO b c) : LO a c := fun o ho => (h2 o ho).trans (h1 o ho)
theorem SR.lo32 {n f : Nat} {c c' r : Hp} (R : SR n f c r) (hf : f ≤ 6) (hn : n ≤ 10) (h : ∀ o, o < 32 → c' o = c o) : SR n f c' r := by
  refine ⟨fun o k hw => ?_, ?_, ?_⟩
  · rw [h o (by unfold sW at hw; omega)]; exact R.1 o k hw
  · rw [h 1 (by omega)]; exact R.2.1
  · rw [h 1 (by omega)]; exact R.2.2
theorem TS.lo {n f t q : Nat} {h h2 r : Hp} (H : TS n f t q h r) (e : LO h h2) : TS n f t q h2 r := ⟨top_fr H.1 e, H.2.1.lo32 H.1.2.2.2.1 H.1.2.1.2.1 (fun o ho => e o (Or.inl ho)), H.2.2⟩
/-- the water of pond j behind i days -/
def FW (n f t : Nat) (h : Hp) (j i : Nat) : Int32 := d_days 1 n f t h i (15 + j) 5
theorem fw_m {n f t j i : Nat} {h m : Hp} (hn : n ≤ 10) (hf : f ≤ 6) (S : SIM 1 n f h m) (hj : j < n) : FW n f t h j i = m_po (m_days n f t m i) (nI j) 0 := ((sim_days (t := t) hn (by omega) S i).1.1.po (k := 0) hn hj (by omega)).symm
theorem fw_nI {n f t j i : Nat} {h m : Hp} (hn : n ≤ 10) (hf : f ≤ 6) (S : SIM 1 n f h m) (hj : j < n) : ∃ w : Nat, w ≤ 5400 ∧ FW n f t h j i = nI w := by
  obtain ⟨R, I, -, -⟩ := (sim_days (t := t) hn (by omega) S i).1
  obtain ⟨ht, sz, dp, w, li, g1, g2, g3, g4, g5, k1, k2, k3, k4, k5⟩ := I.1 j hj
  exact ⟨w, g4, k4⟩
theorem fw_lo {n f t j i q : Nat} {h h2 : Hp} (T : TOP n f t q h) (e : LO h h2) (hj : j < n) : FW n f t h2 j i = FW n f t h j i := by
  have hn := T.2.1.2.1
  have hf := T.2.2.2.1
  rw [fw_m hn hf (T.1.ccongr hn hf (fun o ho => e o (Or.inl ho))) hj, fw_m hn hf T.1 hj]
/-- what lasts tells of a pond whose water behind i days is W i -/
def LST (W : Nat → Int32) (v : Int32) : Prop := (∃ i, i ≤ 200 ∧ v = nI i ∧ W i = 0 ∧ ∀ k, k < i → ¬ W k = 0) ∨ (v = -1 ∧ ∀ k, k ≤ 200 → ¬ W k = 0)
theorem lst_0 {W : Nat → Int32} {v : Int32} (h : LST W v) : v = 0 ↔ W 0 = 0 := by
  rcases h with ⟨i, h1, rfl, h3, h4⟩ | ⟨rfl, h2⟩
  · refine ⟨fun z => ?_, fun z => ?_⟩
    · have : i = 0 := (nI_eq (a := i) (b := 0) (by omega) (by omega)).mp z
      subst this; exact h3
    · by_cases e : i = 0
      · subst e; rfl
      · exact absurd z (h4 0 (by omega))
  · exact ⟨fun z => absurd z (by decide), fun z => absurd z (h2 0 (by omega))⟩
theorem lst_1 {W : Nat → Int32} {v : Int32} (h : LST W v) : v = 1 ↔ ¬ W 0 = 0 ∧ W 1 = 0 := by
  rcases h with ⟨i, h1, rfl, h3, h4⟩ | ⟨rfl, h2⟩
  · refine ⟨fun z => ?_, fun z => ?_⟩
    · have : i = 1 := (nI_eq (a := i) (b := 1) (by omega) (by omega)).mp z
      subst this; exact ⟨h4 0 (by omega), h3⟩
    · have : i = 1 := by
        by_cases e : i = 0
        · subst e; exact absurd h3 z.1
        · by_cases e1 : 1 < i
          · exact absurd z.2 (h4 1 e1)
          · omega
      subst this; rfl
  · exact ⟨fun z => absurd z (by decide), fun z => absurd z.2 (h2 1 (by omega))⟩
theorem lst_n {W : Nat → Int32} {v v2 : Int32} (h : LST W v) (hv : 1 < v) (h2 : LST (fun i => W (i + 1)) v2) : v2 = v - 1 := by
  rcases h with ⟨i, h1, rfl, h3, h4⟩ | ⟨rfl, -⟩
  · have hi : 1 < i := (nI_ltI (a := 1) (b := i) (by omega) (by omega)).mp hv
    obtain ⟨k, rfl⟩ : ∃ k, i = k + 1 := ⟨i - 1, by omega⟩
    have e : nI (k + 1) - 1 = nI k := by show nI (k + 1) - nI 1 = nI k; rw [pk_sub (by omega)]; rfl
    rw [e]
    rcases h2 with ⟨k2, g1, rfl, g3, g4⟩ | ⟨rfl, g2⟩
    · have : k2 = k := by
        by_cases e1 : k2 < k
        · exact absurd g3 (h4 (k2 + 1) (by omega))
        · by_cases e2 : k < k2
          · exact absurd h3 (g4 k e2)
          · omega
      rw [this]
    · exact absurd h3 (g2 k (by omega))
  · exact absurd hv (by decide)
theorem las_at {n f t : Nat} {m : Hp} {x : Int32} (hW : ∀ i, ∃ w : Nat, w ≤ 5400 ∧ m_po (m_days n f t m i) x 0 = nI w) : ∀ (q i : Nat), (∀ k, k < i → ¬ m_po (m_days n f t m k) x 0 = 0) →
    ∃ k, m_las n f t m x q i = k ∧ k ≤ i + q ∧ (∀ k2, k2 < k → ¬ m_po (m_days n f t m k2) x 0 = 0) ∧ (m_po (m_days n f t m k) x 0 = 0 ∨ k = i + q)
  | 0, i, h => ⟨i, rfl, Nat.le_refl _, h, Or.inr rfl⟩
  | q + 1, i, h => by
    obtain ⟨w, hw, e⟩ := hW i
    have e0 : m_po (m_days n f t m i) x 0 ≤ 0 ↔ m_po (m_days n f t m i) x 0 = 0 := by rw [e]; exact le0 (by omega)
    by_cases c : m_po (m_days n f t m i) x 0 ≤ 0
    · exact ⟨i, las_n c _, by omega, h, Or.inl (e0.mp c)⟩
    · obtain ⟨k, h1, h2, h3, h4⟩ := las_at hW q (i + 1) (fun k hk => by
        by_cases ek : k = i
        · subst ek; exact fun z => c (e0.mpr z)
        · exact h k (by omega))
      exact ⟨k, (show m_las n f t m x (q + 1) i = m_las n f t m x q (i + 1) from if_neg c).trans h1, by omega, h3, h4.imp id (fun z => by omega)⟩
theorem lst_m {n f t : Nat} {m : Hp} {x : Int32} (hW : ∀ i, ∃ w : Nat, w ≤ 5400 ∧ m_po (m_days n f t m i) x 0 = nI w) : LST (fun i => m_po (m_days n f t m i) x 0) (m_lasV n f t m x) := by
  obtain ⟨k, h1, h2, h3, h4⟩ := las_at hW 200 0 (fun k hk => absurd hk (Nat.not_lt_zero k))
  obtain ⟨w, hw, e⟩ := hW k
  have e0 : m_po (m_days n f t m k) x 0 ≤ 0 ↔ m_po (m_days n f t m k) x 0 = 0 := by rw [e]; exact le0 (by omega)
  unfold m_lasV
  rw [h1]
  by_cases c : m_po (m_days n f t m k) x 0 = 0
  · rw [if_pos (e0.mpr c)]
    exact Or.inl ⟨k, by omega, rfl, c, h3⟩
  · rw [if_neg (fun z => c (e0.mp z))]
    refine Or.inr ⟨rfl, fun k2 hk2 => ?_⟩
    have hk : k = 200 := (h4.resolve_left c).trans (by omega)
    by_cases ek : k2 = k
    · subst ek; exact c
    · exact h3 k2 (by omega)
section LWA
variable {n f t q j : Nat} {h r : Hp}
theorem lw_foresee (T : TOP n f t q h) (hj : j < n) : ∃ h2, x_foresee n f t h (nI j) 1 = .inl (some (.int (FW n f t h j 1)), h2) ∧ LO h h2 := by
  have hn := T.2.1.2.1
  have hf := T.2.2.2.1
  refine ⟨x_days n f t h 1, ?_, fr_days T⟩
  have e : x_days n f t h 1 (32 + 14 + j) 5 = FW n f t h j 1 := (say_foresee hn hf T.1 hj).trans (fw_m hn hf T.1 hj).symm
  unfold x_foresee
  rw [if_pos (inQ (by omega) hj), if_neg (by decide), nI_clamp (by omega), e]
  rfl
theorem lw_lasts (T : TOP n f t q h) (hj : j < n) : ∃ v h2, x_lasts n f t h (nI j) = .inl (some (.int v), h2) ∧ LO h h2 ∧ LST (FW n f t h j) v := by
  have hn := T.2.1.2.1
  have hf := T.2.2.2.1
  have hW : ∀ i, ∃ w : Nat, w ≤ 5400 ∧ m_po (m_days n f t h i) (nI j) 0 = nI w := fun i => by
    rw [← fw_m hn hf T.1 hj]; exact fw_nI hn hf T.1 hj
  have hl := lst_m hW
  have eW : (fun i => m_po (m_days n f t h i) (nI j) 0) = FW n f t h j := funext (fun i => (fw_m hn hf T.1 hj).symm)
  rw [eW] at hl
  obtain ⟨s1, s2⟩ := say_lasts (t := t) hn hf T.1 hj
  have ep : pd (nI j) = 1 + 14 + j := by show 1 + 14 + (nI j).toNatClampNeg = _; rw [nI_clamp (by omega)]
  unfold x_lasts
  rw [if_pos (inQ (by omega) hj), ep, nI_clamp (by omega)]
  by_cases c0 : h (1 + 14 + j) 5 = 0
  · rw [if_pos c0]
    rw [s1 c0] at hl
    exact ⟨0, h, rfl, LO.refl, hl⟩
  · rw [if_neg c0]
    obtain ⟨i, ei⟩ := s2 c0
    exact ⟨_, _, ei, fr_days T, hl⟩
theorem kp_nI {m : Hp} {x : Int32} {d : Nat} : ∀ q, ∃ v : Nat, v ≤ q ∧ m_kp n f t d m x q = nI v
  | 0 => ⟨0, Nat.le_refl _, rfl⟩
  | q + 1 => by
    by_cases c : m_try n f t d m x (nI (q + 1)) = 0
    · obtain ⟨v, hv, e⟩ := kp_nI (m := m) (x := x) (d := d) q
      exact ⟨v, by omega, (kp_n c).trans e⟩
    · exact ⟨q + 1, Nat.le_refl _, kp_y c⟩
theorem lw_keep (T : TOP n f t q h) (hj : j < n) : ∃ (v : Nat) (h2 : Hp), x_keep n f t h (nI j) 2 = .inl (some (.int (nI v)), h2) ∧ LO h h2 ∧ v ≤ 80 := by
  have hn := T.2.1.2.1
  have hf := T.2.2.2.1
  obtain ⟨z2, e2, hz⟩ := say_keep (k := 2) hn hf T.1 T.2.1 T.2.2.2.2.1 hj 80 (Nat.le_refl _) h (fun _ _ => rfl)
  obtain ⟨v, hv, ev⟩ := kp_nI (n := n) (f := f) (t := t) (m := h) (x := nI j) (d := 2) 80
  rw [ev] at e2
  refine ⟨v, z2, ?_, hz, hv⟩
  unfold x_keep
  rw [if_pos (inQ (by omega) hj), if_neg (by decide)]
  exact e2
theorem m_shift {m : Hp} : ∀ i, m_days n f t m (i + 1) = m_days n f (t + 1) (m_days n f t m 1) i
  | 0 => rfl
  | i + 1 => by
    have ih := m_shift (m := m) i
    have e1 : m_days n f t m (i + 1 + 1) = m_day n f (t + (i + 1)) (m_days n f t m (i + 1)) := rfl
    have e2 : m_days n f (t + 1) (m_days n f t m 1) (i + 1) = m_day n f (t + 1 + i) (m_days n f (t + 1) (m_days n f t m 1) i) := rfl
    rw [e1, e2, ih, show t + (i + 1) = t + 1 + i from by omega]
theorem PO1.lo {c x c2 x2 : Hp} (hn : n ≤ 10) (hf : f ≤ 6) (hj : j < n) (hc : ∀ o, o < 32 → c2 o = c o) (hx : ∀ o, o < 32 → x2 o = x o) (P : PO1 f t c x j) : PO1 f t c2 x2 j := by
  have e : ∀ T : Nat, fd (trS c (fun i => x (26 + i))) (fun _ => 0) f j = nI T → fd (trS c2 (fun i => x2 (26 + i))) (fun _ => 0) f j = nI T := fun T hT => by
    rw [← hT]
    refine congrFun (fd_cong f (fun φ i hi => ?_)) j
    show (if c2 (26 + i) 2 = 10 then φ else upd φ (x2 (26 + i) 1).toNatClampNeg (φ (x2 (26 + i) 1).toNatClampNeg + c2 (26 + i) 0 / 10)) = (if c (26 + i) 2 = 10 then φ else upd φ (x (26 + i) 1).toNatClampNeg (φ (x (26 + i) 1).toNatClampNeg + c (26 + i) 0 / 10))
    rw [hc _ (by omega), hx _ (by omega)]
  have ew : wN x2 j = wN x j := by unfold wN; rw [hx _ (by omega)]
  have eh : hN c2 j = hN c j := by unfold hN p_holds; rw [hc _ (by omega)]
  unfold PO1 at P ⊢
  rw [ew, eh, hc (15 + j) (by omega), hx (15 + j) (by omega)]
  obtain ⟨p1, p2, ⟨T, li, p3, p4, p5, p6, p7⟩, p8, p9⟩ := P
  exact ⟨p1, p2, ⟨T, li, e T p3, p4, p5, p6, p7⟩, p8, p9⟩
theorem DAYP.lo {c x c2 x2 : Hp} {its : Nat → Nat} (hn : n ≤ 10) (hf : f ≤ 6) (hc : ∀ o, o < 32 → c2 o = c o) (hx : ∀ o, o < 32 → x2 o = x o) (P : DAYP n f t c x its) : DAYP n f t c2 x2 its := by
  obtain ⟨p1, p2, p3⟩ := P
  have ew : sm (wN x2) n = sm (wN x) n := sm_congr n (fun j hj => by unfold wN; rw [hx _ (by omega)])
  have ew2 : sm (wN c2) n = sm (wN c) n := sm_congr n (fun j hj => by unfold wN; rw [hc _ (by omega)])
  have eg : sm (gN c2 (3 + t % 10)) n = sm (gN c (3 + t % 10)) n := sm_congr n (fun j hj => by unfold gN camI; rw [hc (15 + j) (by omega), hc (3 + t % 10) (by omega)])
  refine ⟨fun i hi => ?_, fun j hj => (p2 j hj).lo hn hf hj hc hx, by rw [ew, ew2, eg]; exact p3⟩
  rw [hx _ (by omega)]
  exact (p1 i hi).of (hc _ (by omega)).symm
/-- the day that comes: what the class answers, and both sides behind it -/
theorem lw_pass (H : TS n f t q h r) : ∃ h2 h3 its, x_pass n f t h 1 = .inl (some (.int (nI (sm its f))), h2) ∧ (∀ o, o < 64 → h3 o = h2 o) ∧ TS n f (t + 1) q h3 (s_day n f t r) ∧ DAYP n f t h h3 its ∧ TPS n (s_h3 n f (3 + t % 10) r) ∧ (∀ j k, j < 10 → k < 3 → h3 (3 + j) k = h (3 + j) k) ∧ ∀ i j, j < n → FW n f (t + 1) h3 j i = FW n f t h j (i + 1) := by
  obtain ⟨T, R, V⟩ := H
  have hn := T.2.1.2.1
  have hf := T.2.2.2.1
  obtain ⟨its, d1, d2⟩ := day_all T
  obtain ⟨R2, -, T3⟩ := R.day (t := t) hn hf T.1
  have ex : x_pass n f t h 1 = rI (nI (sm its f)) (d_day 1 n f t h) := by
    unfold x_pass
    rw [if_neg (by decide)]
    show rI (0 + d_dayU 1 n f (t + 0) (d_days 1 n f t h 0)) (d_day 1 n f (t + 0) h) = _
    rw [Int32.zero_add]
    show rI (d_dayU 1 n f t h) _ = _
    rw [d1]
    rfl
  have hhi : ∀ o, 33 ≤ o → d_day 1 n f t h o = h o := fun o ho => top_days T.2.1 T.2.2.2.2.1 (by omega) 1
  rcases op_pass (k := 1) T with ⟨v, h2, e1, -, -, T5, -⟩ | ⟨e1, -⟩
  · rw [ex] at e1
    cases e1
    have ey : (y_pass n f t (d_day 1 n f t h) 1).2 = m_days n f t (y0 (d_day 1 n f t h)) 1 := by
      unfold y_pass
      rw [if_neg (by decide)]
      rfl
    have T5 : TOP n f (t + 1) q (y_pass n f t (d_day 1 n f t h) 1).2 := T5
    rw [ey] at T5
    have Sz : SIM 1 n f h (y0 (d_day 1 n f t h)) := T.1.mcongr (fun o ho => by rw [y0_ne (by omega)]; exact hhi o (by omega))
    have Mz : OM n f (y0 (d_day 1 n f t h)) := T.2.2.1.mcg (fun o ho => by rw [y0_ne (by omega)]; exact hhi o (by omega)) (by rw [y0_1, hhi 64 (by omega)]) (by rw [y0_3, hhi 64 (by omega)])
    have m0 : h 69 0 = nI t := by rw [← T.1.1.2.2.2.2]; exact T.2.2.2.2.1
    have tz : y0 (d_day 1 n f t h) 69 0 = nI t := by rw [y0_ne (by omega), hhi 69 (by omega)]; exact m0
    have elo : ∀ o, o < 64 → m_days n f t (y0 (d_day 1 n f t h)) 1 o = d_day 1 n f t h o := fun o ho => by
      rw [(mF_days Mz tz 1).2.1 o (by omega) (by omega) (by omega), y0_ne (by omega)]
    refine ⟨_, m_days n f t (y0 (d_day 1 n f t h)) 1, its, ex, elo, ⟨T5, R2.lo hf hn elo, ?_⟩, d2.lo hn hf (fun _ _ => rfl) (fun o ho => elo o (by omega)), T3, fun j k hj hk => ?_, fun i j hj => ?_⟩
    · intro j hj
      obtain ⟨o, ho, eo⟩ := V j hj
      obtain ⟨-, -, -, -, e, he, e9, -⟩ := d2.2.1 j hj
      refine ⟨o + e, by omega, ?_⟩
      rw [← R2.p hj (by omega), e9, R.p hj (by omega), eo, nI_add]
    · have e1 : m_days n f t (y0 (d_day 1 n f t h)) 1 (3 + j) k = m_days n f t (y0 (d_day 1 n f t h)) 1 66 (3 * j + k) := T5.1.1.2.2.2.1 j k hj hk
      have e2 : h (3 + j) k = h 66 (3 * j + k) := T.1.1.2.2.2.1 j k hj hk
      rw [e1, e2, (mF_days Mz tz 1).2.1 66 (by omega) (by omega) (by omega), y0_ne (by omega), hhi 66 (by omega)]
    · rw [fw_m hn hf T5.1 hj, fw_m hn hf Sz hj, ← m_shift]
  · rw [ex] at e1; cases e1
/-- which ponds run down into one: the same after any day -/
theorem dn_same {c c2 : Hp} {g : Int32} (hl : ∀ j, j < n → c2 (15 + j) 8 = c (15 + j) 8) (hO : ∀ j, j < n → c (15 + j) 8 = -1 ∨ isN n (c (15 + j) 8)) (hn : n ≤ 10) : ∀ (k : Nat) (x : Int32), x = -1 ∨ isN n x → d_dn c2 1 g k x = d_dn c 1 g k x
  | 0, _, _ => rfl
  | k + 1, x, hx => by
    show (if x = -1 then false else if x = g then true else d_dn c2 1 g k (c2 (15 + x.toNatClampNeg) 8)) = (if x = -1 then false else if x = g then true else d_dn c 1 g k (c (15 + x.toNatClampNeg) 8))
    by_cases e : x = -1
    · rw [if_pos e, if_pos e]
    · rw [if_neg e, if_neg e]
      by_cases e2 : x = g
      · rw [if_pos e2, if_pos e2]
      · obtain ⟨j, hj, rfl⟩ := hx.resolve_left e
        rw [if_neg e2, if_neg e2, nI_clamp (by omega), hl j hj]
        exact dn_same hl hO hn k _ (hO j hj)
theorem src_same {c c2 : Hp} {g : Int32} (hl : ∀ j, j < n → c2 (15 + j) 8 = c (15 + j) 8) (hO : ∀ j, j < n → c (15 + j) 8 = -1 ∨ isN n (c (15 + j) 8)) (hn : n ≤ 10) : d_src c2 1 g n = d_src c 1 g n := fd_cong n (fun z j hj => by
  show (if d_dn c2 1 g 10 (c2 (15 + j) 8) = true then _ else _) = (if d_dn c 1 g 10 (c (15 + j) 8) = true then _ else _)
  rw [hl j hj, dn_same hl hO hn 10 _ (hO j hj)])
end LWA
