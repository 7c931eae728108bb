theorem or_again (a b : Int32) : (a ||| b) ||| b = a ||| b := by
  rw [Int32.or_assoc, Int32.or_self]
theorem say_chain {d n f : Nat} {c m : Hp} {p b : Int32} (hn : n ≤ 10) (R : REL d n f c m) (L : LBd d n c) : ∀ (q F k : Nat) (x s : Int32), q ≤ F → q ≤ k → m_ch m q x → (x = -1 ∨ isN n x) → m_chS m p b F x s = if d_dn c d p k x = true then s ||| b else s := by
  have dn1 : ∀ k, d_dn c d p k (-1) = false := by
    intro k
    cases k with
    | zero => rfl
    | succ k => exact if_pos rfl
  intro q
  induction q with
  | zero =>
    intro F k x s _ _ hc _
    have hx : x = -1 := hc
    rw [chS_n F hx, hx, dn1 k, if_neg (by decide)]
  | succ q ih =>
    intro F k x s hF hk hc hx
    by_cases e : x = -1
    · rw [chS_n F e, e, dn1 k, if_neg (by decide)]
    · obtain ⟨a, ha, ea⟩ := hx.resolve_left e
      obtain ⟨F, rfl⟩ : ∃ F2, F = F2 + 1 := ⟨F - 1, by omega⟩
      obtain ⟨k, rfl⟩ : ∃ k2, k = k2 + 1 := ⟨k - 1, by omega⟩
      have hl : m_po m x 3 = c (d + 14 + x.toNatClampNeg) 8 := by
        rw [ea, nI_clamp (by omega)]
        exact R.po (k := 3) hn ha (by omega)
      have hin : m_po m x 3 = -1 ∨ isN n (m_po m x 3) := by
        rw [hl, ea, nI_clamp (by omega)]
        rcases L a ha with z | ⟨t, h1, h2, h3⟩
        · exact Or.inl z
        · exact Or.inr ⟨t, h1, h2⟩
      rw [chS_y e, ih F k _ _ (by omega) (by omega) (hc.resolve_left e) hin, hl]
      have ed : d_dn c d p (k + 1) x = if x = p then true else d_dn c d p k (c (d + 14 + x.toNatClampNeg) 8) := if_neg e
      rw [ed]
      by_cases exp : x = p
      · rw [if_pos exp, if_pos exp, if_pos rfl]
        split
        · exact or_again s b
        · rfl
      · rw [if_neg exp, if_neg exp]
theorem fdc {α : Type} {s1 s2 : α → Nat → α} {a : α} (n : Nat) (h : ∀ x j, j < n → s1 x j = s2 x j) : fd s1 a n = fd s2 a n := by
  induction n with
  | zero => rw [fd_0, fd_0]
  | succ n ih => rw [fd_s, fd_s, ih (fun x j hj => h x j (by omega)), h _ n (by omega)]
theorem say_src {d n f : Nat} {c m : Hp} {p : Int32} (hn : n ≤ 10) (R : REL d n f c m) (L : LBd d n c) : m_abv m p n = d_src c d p n := by
  unfold m_abv d_src
  refine fdc n (fun s j hj => ?_)
  have hin : m_po m (nI j) 3 = -1 ∨ isN n (m_po m (nI j) 3) := by
    rw [show m_po m (nI j) 3 = c (d + 14 + j) 8 from R.po (k := 3) hn hj (by omega)]
    rcases L j hj with z | ⟨t, h1, h2, h3⟩
    · exact Or.inl z
    · exact Or.inr ⟨t, h1, h2⟩
  rw [say_chain (c := c) (d := d) hn R L 10 11 10 _ s (by omega) (by omega) (ch_ten hn R L j hj) hin, show m_po m (nI j) 3 = c (d + 14 + j) 8 from R.po (k := 3) hn hj (by omega)]
/-- the facts of a pond -/
theorem say_pond {n f j k : Nat} {c m : Hp} (hn : n ≤ 10) (hf : f ≤ 7) (S : SIM 1 n f c m) (hj : j < n) (hk : k < 12) : m_pondV n f m (nI j) k = x_pondV n f c (nI j) k := by
  obtain ⟨R, I, L, O⟩ := S
  have ep : pd (nI j) = 1 + 14 + j := by show 1 + 14 + (nI j).toNatClampNeg = _; rw [nI_clamp (by omega)]
  rcases (show k = 0 ∨ k = 1 ∨ k = 2 ∨ k = 3 ∨ k = 4 ∨ k = 5 ∨ k = 6 ∨ k = 7 ∨ k = 8 ∨ k = 9 ∨ k = 10 ∨ k = 11 by omega) with rfl | rfl | rfl | rfl | rfl | rfl | rfl | rfl | rfl | rfl | rfl | rfl
  · show m_fx m (nI j) 0 = c (pd (nI j)) 0; rw [ep]; exact R.fx (k := 0) hn hj (by omega)
  · show m_fx m (nI j) 1 = c (pd (nI j)) 1; rw [ep]; exact R.fx (k := 1) hn hj (by omega)
  · show m_fx m (nI j) 2 = c (pd (nI j)) 2; rw [ep]; exact R.fx (k := 2) hn hj (by omega)
  · show m_fx m (nI j) 3 = c (pd (nI j)) 3; rw [ep]; exact R.fx (k := 3) hn hj (by omega)
  · show m_holds m (nI j) = p_holds c (pd (nI j)); rw [ep]; exact say_holds hn R hj
  · show m_po m (nI j) 0 = c (pd (nI j)) 5; rw [ep]; exact R.po (k := 0) hn hj (by omega)
  · show m_po m (nI j) 1 = c (pd (nI j)) 6; rw [ep]; exact R.po (k := 1) hn hj (by omega)
  · show m_po m (nI j) 2 = if c (pd (nI j)) 7 = 0 then 0 else 1
    rw [ep, show m_po m (nI j) 2 = c (1 + 14 + j) 7 from R.po (k := 2) hn hj (by omega)]
    rcases I.2.2.2.2 j hj with z | z
    · rw [z, if_pos rfl]
    · rw [z, if_neg (by decide)]
  · show m_po m (nI j) 3 = c (pd (nI j)) 8; rw [ep]; exact R.po (k := 3) hn hj (by omega)
  · show m_at m f (nI j) = d_at c 1 f (nI j); exact (say_at hf R I.2.2.2.1).symm
  · show m_po m (nI j) 4 = c (pd (nI j)) 9; rw [ep]; exact R.po (k := 4) hn hj (by omega)
  · show m_abv m (nI j) n = d_src c 1 (nI j) n; exact say_src hn R L
theorem say_count {n f k : Nat} {c m : Hp} (hn : n ≤ 10) (hf : f ≤ 7) (S : SIM 1 n f c m) (H : OK 1 n f c) (M : OM n f m) (hcl : c 1 7 = m 69 1) (hk : k < 8) : m_cnV n f m k = x_countV n f c k := by
  obtain ⟨R, I, L, O⟩ := S
  rcases (show k = 0 ∨ k = 1 ∨ k = 2 ∨ k = 3 ∨ k = 4 ∨ k = 5 ∨ k = 6 ∨ k = 7 by omega) with rfl | rfl | rfl | rfl | rfl | rfl | rfl | rfl
  · exact R.2.2.2.2.symm
  · exact M.1.trans H.1.symm
  · exact M.2.2.1.trans H.2.2.1.symm
  · exact (say_lost hf R I.2.2.2.1).symm
  · exact hcl.symm
  · exact (say_all hn R).symm
  · exact (say_dry hn R).symm
  · exact (say_sheep hf R I.2.2.2.1).symm
/-- the facts of a flock -/
theorem say_flock {n f j k : Nat} {c m : Hp} (hf : f ≤ 6) (S : SIM 1 n f c m) (H : OK 1 n f c) (hj : j < f) (hk : k < 6) : m_flV m (nI j) k = x_flockV c (nI j) k := by
  obtain ⟨R, I, L, O⟩ := S
  have ep : fl (nI j) = 1 + 25 + j := by show 1 + 25 + (nI j).toNatClampNeg = _; rw [nI_clamp (by omega)]
  have hl := lost_iff (by omega) R I.2.2.2.1 hj
  rcases (show k = 0 ∨ k = 1 ∨ k = 2 ∨ k = 3 ∨ k = 4 ∨ k = 5 by omega) with rfl | rfl | rfl | rfl | rfl | rfl
  · show m_fl m (nI j) 0 = c (fl (nI j)) 0; rw [ep]; exact R.fl (k := 0) (by omega) hj (by omega)
  · show m_fl m (nI j) 1 = c (fl (nI j)) 1; rw [ep]; exact R.fl (k := 1) (by omega) hj (by omega)
  · show m_fl m (nI j) 2 = c (fl (nI j)) 2; rw [ep]; exact R.fl (k := 2) (by omega) hj (by omega)
  · show m_fl m (nI j) 3 = if c (fl (nI j)) 3 = 0 then 0 else 1
    rw [ep, show m_fl m (nI j) 3 = c (1 + 25 + j) 3 from R.fl (k := 3) (by omega) hj (by omega)]
    rcases H.2.2.2.2.2.2.2.2 j hj with z | z
    · rw [z, if_pos rfl]
    · rw [z, if_neg (by decide)]
  · show (if m_fl m (nI j) 2 = 10 then (1 : Int32) else 0) = if bI (10 ≤ c (fl (nI j)) 2) = 0 then 0 else 1
    rw [ep]
    by_cases e : 10 ≤ c (1 + 25 + j) 2
    · rw [if_pos (hl.mpr e), bIt e, if_neg (by decide)]
    · rw [if_neg (fun z => e (hl.mp z)), bIf e, if_pos rfl]
  · show m_fl m (nI j) 4 = c (fl (nI j)) 4; rw [ep]; exact R.fl (k := 4) (by omega) hj (by omega)