def Bd (W : Nat) (done : List Nat) : Nat → Nat := fun j => if j ∈ done then 5400 else W * 2 ^ done.length
theorem run1_hgt {d q j : Nat} {c : Hp} : hgt d (d_run1 d c q) j = hgt d c j := by unfold hgt; rw [run1_k (by omega) (by omega)]
theorem sim_runs {d n f W : Nat} {H : Nat → Nat} (hn : n ≤ 10) (hW5 : 5400 ≤ W) (hW : W ≤ 6000) (rest : List Nat) : ∀ (done : List Nat) (c m : Hp), (done ++ rest).Pairwise (hlt H) → (∀ q, q ∈ done ++ rest → q < n) → (done ++ rest).length ≤ 10 → REL d n f c m → LBd d n c → INV d n f (Bd W done) c → (∀ j, hgt d c j = H j) →
    REL d n f (rest.foldl (d_run1 d) c) (rest.foldl m_run1 m) ∧ LBd d n (rest.foldl (d_run1 d) c) ∧ INV d n f (Bd W (done ++ rest)) (rest.foldl (d_run1 d) c) := by
  induction rest with
  | nil =>
    intro done c m h1 h2 h3 R L I hH
    rw [List.append_nil]
    exact ⟨R, L, I⟩
  | cons q rest ih =>
    intro done c m h1 h2 h3 R L I hH
    have hq : q < n := h2 q (List.mem_append_right _ List.mem_cons_self)
    have hlen : done.length ≤ 9 := by
      rw [List.length_append, List.length_cons] at h3
      omega
    have hM : W * 2 ^ done.length ≤ 6000 * 2 ^ 9 := Nat.mul_le_mul hW (Nat.pow_le_pow_right (by omega) hlen)
    have hM1 : W * 1 ≤ W * 2 ^ done.length := Nat.mul_le_mul_left _ Nat.one_le_two_pow
    have hM2 : W * 2 ^ (done ++ [q]).length = 2 * (W * 2 ^ done.length) := by
      rw [List.length_append, List.length_cons, List.length_nil, Nat.zero_add, Nat.pow_succ]
      generalize 2 ^ done.length = P
      rw [← Nat.mul_assoc, Nat.mul_comm]
    have hbB : ∀ i, Bd W done i ≤ W * 2 ^ done.length := by
      intro i
      unfold Bd
      split <;> omega
    obtain ⟨R1, L1, I1⟩ := sim_run hn hq R I L (fun i _ => by have := hbB i; omega)
    have I2 : INV d n f (Bd W (done ++ [q])) (d_run1 d c q) := by
      rcases I1 with I1 | ⟨t, ht, hlo, I1⟩
      · refine I1.mono (fun i hi => ?_)
        have hb := hbB i
        unfold Bd at hb ⊢
        rw [hM2]
        by_cases e : i = q
        · subst e
          simp
        · by_cases e2 : i ∈ done
          · simp [e, e2]
          · simp only [e, e2, List.mem_append, List.mem_cons, List.not_mem_nil, or_false, if_false]
            omega
      · have htd : ¬ t ∈ done := by
          intro z
          have h9 := (List.pairwise_append.mp h1).2.2 t z q List.mem_cons_self
          have e1 : (c (d + 14 + t) 2).toNatClampNeg = H t := hH t
          have e2 : (c (d + 14 + q) 2).toNatClampNeg = H q := hH q
          unfold hlt at h9
          omega
        have htq : ¬ t = q := by rintro rfl; omega
        refine I1.mono (fun i hi => ?_)
        have hb := hbB i
        have hbq := hbB q
        have hbt := hbB t
        show (if i = q then 5400 else if i = t then Bd W done t + Bd W done q else Bd W done i) ≤ Bd W (done ++ [q]) i
        have eR : Bd W (done ++ [q]) i = if i ∈ done ++ [q] then 5400 else 2 * (W * 2 ^ done.length) := by unfold Bd; rw [hM2]
        rw [eR]
        by_cases e : i = q
        · subst e
          simp
        · by_cases e2 : i = t
          · subst e2
            rw [if_neg e, if_pos rfl, if_neg (by simp [htd, htq])]
            omega
          · rw [if_neg e, if_neg e2]
            by_cases e3 : i ∈ done
            · rw [if_pos (List.mem_append_left _ e3)]
              unfold Bd
              rw [if_pos e3]
              omega
            · rw [if_neg (by simp [e, e3])]
              omega
    have hap : done ++ [q] ++ rest = done ++ q :: rest := by simp
    have := ih (done ++ [q]) (d_run1 d c q) (m_run1 m q) (by rw [hap]; exact h1) (by rw [hap]; exact h2) (by rw [hap]; exact h3) R1 L1 I2 (fun j => by rw [run1_hgt]; exact hH j)
    rw [hap] at this
    exact this
/-- running over -/
theorem sim_over {d n f W : Nat} {c m : Hp} (hn : n ≤ 10) (hW5 : 5400 ≤ W) (hW : W ≤ 6000) (R : REL d n f c m) (I : INV d n f (cB W) c) (L : LBd d n c) (O : ORD d n c) :
    REL d n f (fd (d_runS d) c n) (m_roK n 301 m) ∧ LBd d n (fd (d_runS d) c n) ∧ INV d n f (cB 5400) (fd (d_runS d) c n) := by
  have hh : ∀ j, j < n → hgt d c j ≤ 300 ∧ m_fx m (nI j) 2 = nI (hgt d c j) := by
    intro j hj
    obtain ⟨ht, sz, dp, w, li, g1, g2, g3, g4, g5, k1, k2, k3, k4, k5⟩ := I.1 j hj
    have e : hgt d c j = ht := by unfold hgt; rw [k1, nI_clamp (by omega)]
    rw [e]
    exact ⟨g1, (R.fx (k := 2) hn hj (by omega)).trans k1⟩
  rw [class_runs, m_roK_fold 301 (Nat.le_refl _) m hh, ← orders_one O (fun j hj => (hh j hj).1)]
  obtain ⟨x1, x2, x3⟩ := sim_runs (H := hgt d c) hn hW5 hW (bL d n c) [] c m O.1 O.2.2 (by show (bL d n c).length ≤ 10; unfold bL; rw [List.length_map, List.length_range]; exact hn) R L (I.mono (fun j hj => by unfold Bd; simp)) (fun j => rfl)
  refine ⟨x1, x2, x3.mono (fun j hj => ?_)⟩
  have := O.2.1 j hj
  unfold Bd
  rw [List.nil_append, if_pos this]
  exact Nat.le_refl _
/-! what a day leaves alone -/
def KEEP (d n : Nat) (c c' : Hp) : Prop := c' (d + 13) = c (d + 13) ∧ ∀ j k, j < n → (k < 5 ∨ k = 8) → c' (d + 14 + j) k = c (d + 14 + j) k
theorem KEEP.refl {d n : Nat} {c : Hp} : KEEP d n c c := ⟨rfl, fun _ _ _ _ => rfl⟩
theorem KEEP.trans {d n : Nat} {a b c : Hp} (h1 : KEEP d n a b) (h2 : KEEP d n b c) : KEEP d n a c := ⟨h2.1.trans h1.1, fun j k hj hk => (h2.2 j k hj hk).trans (h1.2 j k hj hk)⟩
theorem KEEP.up {d n o k : Nat} {c : Hp} {v : Int32} (h1 : o ≠ d + 13) (h2 : ∀ j, j < n → o ≠ d + 14 + j ∨ (k = 5 ∨ k = 6 ∨ k = 7 ∨ k = 9)) : KEEP d n c (hp_up c o k v) :=
  ⟨hp_ne (Ne.symm h1), fun j q hj hq => hp_off (by have := h2 j hj; omega)⟩
theorem keep_fd {d n : Nat} {s1 : Hp → Nat → Hp} {c : Hp} (k : Nat) (h : ∀ c i, i < k → KEEP d n c (s1 c i)) : KEEP d n c (fd s1 c k) := by
  induction k with
  | zero => rw [fd_0]; exact KEEP.refl
  | succ k ih => rw [fd_s]; exact (ih (fun c i hi => h c i (by omega))).trans (h _ k (by omega))
theorem ORD.keep {d n : Nat} {c c' : Hp} (O : ORD d n c) (K : KEEP d n c c') : ORD d n c' := by
  have e : bL d n c' = bL d n c := by unfold bL; rw [K.1]
  have eh : ∀ j, j < n → hgt d c' j = hgt d c j := fun j hj => by unfold hgt; rw [K.2 j 2 hj (by omega)]
  unfold ORD
  rw [e]
  refine ⟨O.1.imp_of_mem (fun {a b} ha hb hab => ?_), O.2⟩
  unfold hlt at hab ⊢
  rw [eh a (O.2.2 a ha), eh b (O.2.2 b hb)]
  exact hab
theorem LBd.keep {d n : Nat} {c c' : Hp} (L : LBd d n c) (K : KEEP d n c c') : LBd d n c' := by
  intro j hj
  rw [K.2 j 8 hj (by omega), K.2 j 2 hj (by omega)]
  rcases L j hj with z | ⟨t, h1, h2, h3⟩
  · exact Or.inl z
  · exact Or.inr ⟨t, h1, h2, by rw [K.2 t 2 h1 (by omega)]; exact h3⟩
