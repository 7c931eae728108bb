theorem like_hi {n f a : Nat} {h : Hp} (hn : n ≤ 10) (hf : f ≤ 6) (ha : 64 ≤ a) : d_like n f h a = h a := by
  have e5 : d_like n f h a = bl_4 n h a := fd_keep (P := fun x : Hp => x a) f (fun x i hi => by show bl_f x i a = x a; unfold bl_f; exact f_copy_ne (by omega))
  have e4 : bl_4 n h a = bl_3 n h a := by unfold bl_4; exact hp_ne (by omega)
  have e3 : bl_3 n h a = bl_2 h a := fd_keep (P := fun x : Hp => x a) n (fun x i hi => by show bl_p x i a = x a; unfold bl_p; rw [hp_ne (by omega), p_copy_ne (by omega)])
  have e2 : bl_2 h a = bl_1 h a := by unfold bl_2; exact hp_ne (by omega)
  have e1 : bl_1 h a = bl_0 h a := fd_keep (P := fun x : Hp => x a) 10 (fun x i hi => by show bl_w x i a = x a; unfold bl_w; exact w_copy_ne (by omega))
  have e0 : bl_0 h a = h a := by unfold bl_0; rw [hp_ne (by omega), hp_ne (by omega)]
  rw [e5, e4, e3, e2, e1, e0]
/-- one trial with a new flock -/
theorem say_ck {n f t : Nat} {L m : Hp} (hT : ∀ i, ∃ th : Nat, th ≤ 10 ∧ d_days 32 n (f + 1) t L i (32 + 25 + f) 2 = nI th ∧ m_fl (m_days n (f + 1) t m i) (nI f) 2 = nI th) (q : Nat) : ∀ i, (x_ck n (f + 1) t (32 + 25 + f) L q i).1 = m_kg n (f + 1) t m (nI f) q i := by
  induction q with
  | zero => intro i; rfl
  | succ q ih =>
    intro i
    obtain ⟨th, h1, h2, h3⟩ := hT (i + 1)
    have em : m_kg n (f + 1) t m (nI f) (q + 1) i = if m_fl (m_days n (f + 1) t m (i + 1)) (nI f) 2 = 0 then m_kg n (f + 1) t m (nI f) q (i + 1) else 0 := rfl
    rw [em]
    by_cases c0 : d_days 32 n (f + 1) t L (i + 1) (32 + 25 + f) 2 ≤ 0
    · rw [ck_go c0, if_pos (by rw [h3]; exact (le0 (by omega)).mp (by rw [← h2]; exact c0))]
      exact ih (i + 1)
    · rw [ck_no c0, if_neg (by rw [h3]; exact fun z => c0 (by rw [h2]; exact (le0 (by omega)).mpr z))]
theorem say_try {n f t p s k : Nat} {c m : Hp} (hn : n ≤ 10) (hf : f ≤ 6) (S : SIM 1 n f c m) (hp : p < n) (hs : 1 ≤ s ∧ s ≤ 80) : (x_can n f t c (nI p) (nI s) k).1 = m_try n f t k m (nI p) (nI s) := by
  have SL := (S.like hn hf).mkF hn hp hs
  unfold x_can m_try
  refine say_ck (fun i => ?_) k 0
  obtain ⟨R, I, -, -⟩ := (sim_days (t := t) hn (by omega) SL i).1
  obtain ⟨s2, q, th, a1, a2, a3, b1, b2, b3⟩ := I.2.2.2.1 f (by omega)
  exact ⟨th, a3, b3, (R.fl (k := 2) (by omega) (by omega) (by omega)).trans b3⟩
theorem can_hi {n f t k a : Nat} {h : Hp} {p s : Int32} (H : OK 1 n f h) (ht : h 1 6 = nI t) (hp : isN n p) (ha : 64 ≤ a) : (x_can n f t h p s k).2 a = h a := by
  obtain ⟨j, e⟩ := ck_days (n := n) (f := f + 1) (t := t) (o := 32 + 25 + f) (L := x_kL n f h p s) k 0
  have hf6 : f ≤ 6 := H.2.2.2.1
  unfold x_can
  rw [e, top_days (kL_ok H hp) (kL_t ht) (by omega)]
  unfold x_kL
  rw [mkF_ne (by omega) (by omega), like_hi H.2.1 hf6 ha]
theorem say_keep {n f t p k : Nat} {c m : Hp} (hn : n ≤ 10) (hf : f ≤ 6) (S : SIM 1 n f c m) (H : OK 1 n f c) (ht : c 1 6 = nI t) (hp : p < n) (q : Nat) (hq : q ≤ 80) : ∀ z : Hp, (∀ o, o < 32 ∨ 64 ≤ o → z o = c o) →
    ∃ z2, x_keepL n f t (nI p) k q z = rI (m_kp n f t k m (nI p) q) z2 ∧ ∀ o, o < 32 ∨ 64 ≤ o → z2 o = c o := by
  induction q with
  | zero => intro z hz; exact ⟨z, rfl, hz⟩
  | succ q ih =>
    intro z hz
    have Sz : SIM 1 n f z m := S.ccongr hn hf (fun o ho => hz o (Or.inl ho))
    have Hz : OK 1 n f z := H.lo (fun o ho => hz o (Or.inl ho))
    have tz : z 1 6 = nI t := by rw [hz 1 (Or.inl (by omega))]; exact ht
    have e := say_try (t := t) (k := k) hn hf Sz hp (show 1 ≤ q + 1 ∧ q + 1 ≤ 80 by omega)
    have hz2 : ∀ o, o < 32 ∨ 64 ≤ o → (x_can n f t z (nI p) (nI (q + 1)) k).2 o = c o := by
      intro o ho
      rcases ho with h | h
      · exact (can_lo Hz tz ⟨p, hp, rfl⟩ h).trans (hz o (Or.inl h))
      · exact (can_hi Hz tz ⟨p, hp, rfl⟩ h).trans (hz o (Or.inr h))
    by_cases c0 : (x_can n f t z (nI p) (nI (q + 1)) k).1 = 0
    · rw [keepL_no c0, kp_n (by rw [← e]; exact c0)]
      exact ih (by omega) _ hz2
    · rw [keepL_yes c0, kp_y (by rw [← e]; exact c0)]
      exact ⟨_, rfl, hz2⟩
/-! the advice -/
theorem REL.m69 {d n f k : Nat} {c m : Hp} {v : Int32} (h : REL d n f c m) (hk : k ≠ 0) : REL d n f c (hp_up m 69 k v) := by
  obtain ⟨r1, r2, r3, r4, r5⟩ := h
  refine ⟨fun j q hj hq => ?_, fun j q hj hq => ?_, fun j q hj hq => ?_, fun j q hj hq => ?_, ?_⟩
  · rw [hp_ne (by omega)]; exact r1 j q hj hq
  · rw [hp_ne (by omega)]; exact r2 j q hj hq
  · rw [hp_ne (by omega)]; exact r3 j q hj hq
  · rw [hp_ne (by omega)]; exact r4 j q hj hq
  · rw [hp_off (Or.inr (by omega))]; exact r5
theorem SIM.use {d n f j q : Nat} {c m : Hp} (hn : n ≤ 10) (S : SIM d n f c m) (hj : j < n) (hq : q ≤ 500) (hcl : m 69 1 = nI q) : SIM d n f (p_line c (d + 14 + j) (nI q)) (m_useH m (nI j) 500) := by
  obtain ⟨R, I, L, O⟩ := S
  obtain ⟨ht, sz, dp, w, li, g1, g2, g3, g4, g5, k1, k2, k3, k4, k5⟩ := I.1 j hj
  have x1 : m_po m (nI j) 1 = nI li := (R.po (k := 1) hn hj (by omega)).trans k5
  have eu : p_use c (d + 14 + j) (nI q) = nI (min q (100 - li)) := by unfold p_use; rw [k5, show (100 : Int32) = nI 100 from rfl, pk_sub g5]; exact mnN (by omega) (by omega)
  have em : m_use m (nI j) 500 = nI (min q (100 - li)) := by
    unfold m_use
    rw [x1, hcl, show (100 : Int32) = nI 100 from rfl, pk_sub g5, mnN (by omega) (by omega), show (500 : Int32) = nI 500 from rfl, mnN (by omega) (by omega)]
    congr 1
    omega
  have ec : p_line c (d + 14 + j) (nI q) = hp_up c (d + 14 + j) 6 (nI (li + min q (100 - li))) := by unfold p_line; rw [eu, k5, nI_add]
  have K : KEEP d n c (hp_up c (d + 14 + j) 6 (nI (li + min q (100 - li)))) := KEEP.up (by omega) (fun i _ => Or.inr (Or.inr (Or.inl rfl)))
  rw [ec]
  refine ⟨?_, I.pnd hn hj (Or.inr (Or.inl rfl)) (I.1.lining hj (by omega)), L.keep K, O.keep K⟩
  unfold m_useH m_useS
  rw [em, x1, nI_add]
  exact (R.set (k := 1) hn hj (by omega)).m69 (by omega)