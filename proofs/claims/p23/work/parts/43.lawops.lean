/-! EACH CALL OF THE LAW, in numbers: what it answers, and that both sides stay the same. The rows from 64 on of h are a ghost: the reference's, which the simulation needs. -/
theorem SR.lo {n f : Nat} {c c' r : Hp} (R : SR n f c r) (hf : f ≤ 6) (hn : n ≤ 10) (h : ∀ o, o < 64 → c' o = c o) : SR n f c' r := by
  refine ⟨fun o k hw => ?_, ?_, ?_⟩
  · rw [h o (by unfold sW at hw; omega)]; exact R.1 o k hw
  · rw [h 1 (by omega)]; exact R.2.1
  · rw [h 1 (by omega)]; exact R.2.2
theorem wl_lo {g : gW} {X : va_W} {h h' : Hp} (e : ∀ o, o < 64 → h' o = h o) : wl g X h = wl g X h' := by
  unfold wl
  congr 1
  apply List.map_congr_left
  intro o ho
  rw [e o (List.mem_range.mp ho)]
theorem pd_nI {j : Nat} (hj : j < 2 ^ 31) : pd (nI j) = 15 + j := by unfold pd; rw [nI_clamp hj]
theorem fl_nI {j : Nat} (hj : j < 2 ^ 31) : fl (nI j) = 26 + j := by unfold fl; rw [nI_clamp hj]
theorem wd_nI {j : Nat} (hj : j < 2 ^ 31) : wd (nI j) = 3 + j := by unfold wd; rw [nI_clamp hj]
theorem inQ {n j : Nat} (hn : n < 2 ^ 31) (hj : j < n) : ¬ nI j < 0 ∧ nI j < nI n := is_inN hn ⟨j, hj, rfl⟩
/-- an answer v, the numbers behind it, and the ghost's -/
def ANS (n f t q : Nat) (x : RS) (v : Int32) (r2 : Hp) : Prop := ∃ h2 h3, x = .inl (some (.int v), h2) ∧ (∀ o, o < 64 → h3 o = h2 o) ∧ TOP n f t q h3 ∧ SR n f h3 r2
theorem yF_lo {h : Hp} {k : Int32} : ∀ o, o < 64 → (yF h k).2 o = h o := fun o ho => (hp_ne (by omega)).trans (y0_ne (by omega))
theorem pour_lo {h : Hp} {p b : Int32} : ∀ o, o < 64 → (y_pour h p b).2 o = h o := by
  intro o ho
  unfold y_pour
  split
  · exact yF_lo o ho
  · split
    · exact yF_lo o ho
    · exact (m_set_ne (by omega)).trans (y0_ne (by omega))
theorem strew_lo {h : Hp} {p b : Int32} : ∀ o, o < 64 → (y_strew h p b).2 o = h o := by
  intro o ho
  unfold y_strew
  split
  · exact hp_ne (by omega)
  · exact (m_set_ne (by omega)).trans (y0_ne (by omega))
theorem roams_lo {h : Hp} {p b : Int32} : ∀ o, o < 64 → (y_setRoams h p b).2 o = h o := by
  intro o ho
  unfold y_setRoams
  split
  · exact hp_ne (by omega)
  · exact (m_setFl_ne (by omega)).trans (y0_ne (by omega))
theorem drive_lo {h : Hp} {a p : Int32} : ∀ o, o < 64 → (y_drive h a p).2 o = h o := by
  intro o ho
  unfold y_drive
  split
  · exact yF_lo o ho
  · split
    · exact yF_lo o ho
    · split
      · exact (m_setFl_ne (by omega)).trans (y0_ne (by omega))
      · exact yF_lo o ho
theorem bring_lo {h : Hp} {c : Int32} : ∀ o, o < 64 → (y_bring h c).2 o = h o := by
  intro o ho
  unfold y_bring
  split
  · exact yF_lo o ho
  · split
    · exact (hp_ne (by omega)).trans (y0_ne (by omega))
    · exact yF_lo o ho
theorem puddle_lo {h : Hp} {p c : Int32} : ∀ o, o < 64 → (y_puddle h p c).2 o = h o := by
  intro o ho
  unfold y_puddle
  split
  · exact yF_lo o ho
  · split
    · exact yF_lo o ho
    · split
      · exact yF_lo o ho
      · exact (hp_ne (by omega)).trans ((m_set_ne (by omega)).trans (y0_ne (by omega)))
theorem link_lo {h : Hp} {p c : Int32} : ∀ o, o < 64 → (y_link h p c).2 o = h o := by
  intro o ho
  unfold y_link
  repeat' split
  all_goals first | exact yF_lo o ho | exact (m_set_ne (by omega)).trans (y0_ne (by omega))
theorem setW_lo {h : Hp} {x a b d : Int32} : ∀ o, o < 64 → (y_setW h x a b d).2 o = h o := by
  intro o ho
  unfold y_setW y_setWH
  repeat' split
  all_goals first | exact yF_lo o ho | exact (hp_ne (by omega)).trans ((hp_ne (by omega)).trans ((hp_ne (by omega)).trans (y0_ne (by omega))))
section LWO
variable {n f t q j : Nat} {h r : Hp}
theorem lw_pour {b : Int32} (T : TOP n f t q h) (R : SR n f h r) (hj : j < n) (hb : -10000 ≤ b ∧ b ≤ 10000) : ANS n f t q (x_pour n h (nI j) b) (mxI 0 (mnI (s_holds r (15 + j)) (r (15 + j) 5 + b))) (hp_up r (15 + j) 5 (mxI 0 (mnI (s_holds r (15 + j)) (r (15 + j) 5 + b)))) := by
  have hn := T.2.1.2.1
  have e : x_pour n h (nI j) b = rI (mxI 0 (mnI (s_holds r (15 + j)) (r (15 + j) 5 + b))) (hp_up h (15 + j) 5 (mxI 0 (mnI (s_holds r (15 + j)) (r (15 + j) 5 + b)))) := by
    unfold x_pour x_pourH
    rw [if_pos (inQ (by omega) hj), if_neg (by rw [bIt hb]; decide), pd_nI (by omega), hp_upd, mn_comm, R.hold hj, R.p hj (by omega)]
  rcases op_pour (p := nI j) (b := b) T with ⟨v, h2, e1, -, -, T3⟩ | ⟨e1, -⟩ | ⟨e1, -⟩
  · rw [e] at e1
    cases e1
    exact ⟨_, _, e, pour_lo, T3, R.up.lo T.2.2.2.1 hn pour_lo⟩
  · rw [e] at e1; cases e1
  · rw [e] at e1; cases e1
theorem lw_strew {b : Int32} (T : TOP n f t q h) (R : SR n f h r) (hj : j < n) (hb : b = 0 ∨ b = 1) : ANS n f t q (x_strew n h (nI j) b) (r (15 + j) 7) (hp_up r (15 + j) 7 b) := by
  have hn := T.2.1.2.1
  have e : x_strew n h (nI j) b = rI (r (15 + j) 7) (hp_up h (15 + j) 7 b) := by
    unfold x_strew
    rw [if_pos (inQ (by omega) hj), pd_nI (by omega), R.p hj (by omega)]
  rcases op_strew (p := nI j) (b := b) T hb with ⟨v, h2, e1, -, -, T3⟩ | ⟨e1, -⟩
  · rw [e] at e1
    cases e1
    exact ⟨_, _, e, strew_lo, T3, R.up.lo T.2.2.2.1 hn strew_lo⟩
  · rw [e] at e1; cases e1
theorem lw_roams {b : Int32} (T : TOP n f t q h) (R : SR n f h r) (hj : j < f) (hb : b = 0 ∨ b = 1) : ANS n f t q (x_setRoams f h (nI j) b) (r (26 + j) 3) (hp_up r (26 + j) 3 b) := by
  have hn := T.2.1.2.1
  have hf := T.2.2.2.1
  have e : x_setRoams f h (nI j) b = rI (r (26 + j) 3) (hp_up h (26 + j) 3 b) := by
    unfold x_setRoams
    rw [if_pos (inQ (by omega) hj), fl_nI (by omega), R.fl hj (by omega)]
  rcases op_setRoams (p := nI j) (b := b) T hb with ⟨v, h2, e1, -, -, T3⟩ | ⟨e1, -⟩
  · rw [e] at e1
    cases e1
    exact ⟨_, _, e, roams_lo, T3, R.up.lo T.2.2.2.1 hn roams_lo⟩
  · rw [e] at e1; cases e1
theorem lw_drive {p : Nat} (T : TOP n f t q h) (R : SR n f h r) (hj : j < f) (hp : p < n) (h2 : ¬ r (26 + j) 2 = 10) : ANS n f t q (x_drive n f h (nI j) (nI p)) (s_far r (15 + (r (26 + j) 1).toNatClampNeg) (15 + p)) (hp_up r (26 + j) 1 (nI p)) := by
  have hn := T.2.1.2.1
  have hf := T.2.2.2.1
  obtain ⟨s, p0, th, a1, a2, a3, b1, b2, b3⟩ := T.1.2.1.2.2.2.1 j hj
  have b2 : h (26 + j) 1 = nI p0 := b2
  have b3 : h (26 + j) 2 = nI th := b3
  have e1 : r (26 + j) 1 = nI p0 := (R.fl hj (by omega)).symm.trans b2
  have h10 : ¬ (10 : Int32) ≤ h (26 + j) 2 := by
    rw [b3]
    intro y
    have h9 := (nI_leI (a := 10) (b := th) (by omega) (by omega)).mp y
    have : th = 10 := by omega
    subst this
    exact h2 ((R.fl hj (by omega)).symm.trans b3)
  have e : x_drive n f h (nI j) (nI p) = rI (s_far r (15 + (r (26 + j) 1).toNatClampNeg) (15 + p)) (hp_up h (26 + j) 1 (nI p)) := by
    unfold x_drive
    rw [if_pos (inQ (by omega) hj), if_pos (inQ (by omega) hp), fl_nI (by omega), if_pos (bIf h10), pd_nI (by omega), b2, pd_nI (by omega), e1, nI_clamp (by omega), R.far a2 hp]
  rcases op_drive (a := nI j) (p := nI p) T with ⟨v, h2, e1, -, -, T3⟩ | ⟨e1, -⟩ | ⟨e1, -⟩
  · rw [e] at e1
    cases e1
    exact ⟨_, _, e, drive_lo, T3, R.up.lo T.2.2.2.1 hn drive_lo⟩
  · rw [e] at e1; cases e1
  · rw [e] at e1; cases e1
theorem lw_bring {a : Nat} (T : TOP n f t q h) (R : SR n f h r) (ha : 1 ≤ a ∧ a ≤ 100) (hc : ¬ (500 : Int32) < r 1 7 + nI a) : ∃ q2, ANS n f t q2 (x_bring h (nI a)) (r 1 7 + nI a) (hp_up r 1 7 (r 1 7 + nI a)) := by
  have hn := T.2.1.2.1
  have e : x_bring h (nI a) = rI (r 1 7 + nI a) (hp_up h 1 7 (r 1 7 + nI a)) := by
    unfold x_bring
    rw [if_neg (by rw [bIt ⟨(nI_leI (a := 1) (b := a) (by omega) (by omega)).mpr ha.1, (nI_leI (a := a) (b := 100) (by omega) (by omega)).mpr ha.2⟩]; decide), R.2.2, if_pos (Int32.not_lt.mp hc), hp_upd]
  rcases op_bring (b := nI a) T with ⟨v, h2, q2, e1, -, -, T3⟩ | ⟨e1, -⟩ | ⟨e1, -⟩
  · rw [e] at e1
    cases e1
    exact ⟨q2, _, _, e, bring_lo, T3, R.up.lo T.2.2.2.1 hn bring_lo⟩
  · rw [e] at e1; cases e1
  · rw [e] at e1; cases e1
/-- what a puddling uses, as the law counts it -/
def s_use (r : Hp) (o : Nat) (cl : Int32) : Int32 := mnI cl (mnI (100 - r o 6) (r 1 7))
theorem lw_puddle {a : Nat} (T : TOP n f t q h) (R : SR n f h r) (hj : j < n) (ha : 1 ≤ a ∧ a ≤ 100) (hw : ¬ s_holds r (15 + j) / 4 < r (15 + j) 5) : ∃ q2, ANS n f t q2 (x_puddle n h (nI j) (nI a)) (s_use r (15 + j) (nI a)) (hp_up (hp_up r (15 + j) 6 (r (15 + j) 6 + s_use r (15 + j) (nI a))) 1 7 (r 1 7 - s_use r (15 + j) (nI a))) := by
  have hn := T.2.1.2.1
  obtain ⟨ht, sz, dp, w, li, g1, g2, g3, g4, g5, k1, k2, k3, k4, k5⟩ := T.1.2.1.1 j hj
  have k5 : h (15 + j) 6 = nI li := k5
  have hc7 := T.2.2.2.2.2.2.1
  have hq := T.2.2.2.2.2.1
  have r6 : r (15 + j) 6 = nI li := (R.p hj (by omega)).symm.trans k5
  have r7 : r 1 7 = nI q := R.2.2.symm.trans hc7
  have eu : p_use h (15 + j) (mnI (nI a) (h 1 7)) = s_use r (15 + j) (nI a) := by
    unfold p_use s_use
    rw [k5, r6, hc7, r7, show (100 : Int32) = nI 100 from rfl, pk_sub g5, mnN (by omega) (by omega), mnN (by omega) (by omega), mnN (by omega) (by omega), mnN (by omega) (by omega)]
    congr 1
    omega
  have el : p_line h (15 + j) (mnI (nI a) (h 1 7)) = hp_up h (15 + j) 6 (r (15 + j) 6 + s_use r (15 + j) (nI a)) := by
    unfold p_line
    rw [eu, R.p hj (by omega)]
  have e : x_puddle n h (nI j) (nI a) = rI (s_use r (15 + j) (nI a)) (hp_up (hp_up h (15 + j) 6 (r (15 + j) 6 + s_use r (15 + j) (nI a))) 1 7 (r 1 7 - s_use r (15 + j) (nI a))) := by
    unfold x_puddle
    rw [if_pos (inQ (by omega) hj), if_neg (by rw [bIt ⟨(nI_leI (a := 1) (b := a) (by omega) (by omega)).mpr ha.1, (nI_leI (a := a) (b := 100) (by omega) (by omega)).mpr ha.2⟩]; decide), pd_nI (by omega), if_neg (by rw [bIt (by rw [R.hold hj, R.p hj (by omega)]; exact Int32.not_lt.mp hw)]; decide), eu, el, hp_ne (a := 1) (o := 15 + j) (by omega), R.2.2]
  rcases op_puddle (p := nI j) (c := nI a) T with ⟨v, h2, q2, e1, -, -, T3⟩ | ⟨e1, -⟩ | ⟨e1, -⟩ | ⟨e1, -⟩
  · rw [e] at e1
    cases e1
    exact ⟨q2, _, _, e, puddle_lo, T3, R.up.up.lo T.2.2.2.1 hn puddle_lo⟩
  · rw [e] at e1; cases e1
  · rw [e] at e1; cases e1
  · rw [e] at e1; cases e1
theorem lw_link {p : Nat} (T : TOP n f t q h) (R : SR n f h r) (hj : j < n) (hp : p < n) (hlt : r (15 + p) 2 < r (15 + j) 2) : ANS n f t q (x_link n h (nI j) (nI p)) (r (15 + j) 8) (hp_up r (15 + j) 8 (nI p)) := by
  have hn := T.2.1.2.1
  have e : x_link n h (nI j) (nI p) = rI (r (15 + j) 8) (hp_up h (15 + j) 8 (nI p)) := by
    unfold x_link
    rw [if_pos (inQ (by omega) hj), if_neg (nI_m1 (by omega)), if_pos (inQ (by omega) hp), pd_nI (by omega), pd_nI (by omega), R.p hp (by omega), R.p (k := 2) hj (by omega), if_pos hlt, R.p hj (by omega)]
  rcases op_link (p := nI j) (o := nI p) T with ⟨v, h2, e1, -, -, T3⟩ | ⟨e1, -⟩ | ⟨e1, -⟩
  · rw [e] at e1
    cases e1
    exact ⟨_, _, e, link_lo, T3, R.up.lo T.2.2.2.1 hn link_lo⟩
  · rw [e] at e1; cases e1
  · rw [e] at e1; cases e1
theorem lw_setW {a b d : Nat} (T : TOP n f t q h) (R : SR n f h r) (hj : j < 10) (ha : a ≤ 9) (hb : b ≤ 9) (hd : d ≤ 9) : ANS n f t q (x_setW h (nI j) (nI a) (nI b) (nI d)) (w_num r (3 + j)) (hp_up (hp_up (hp_up r (3 + j) 0 (nI a)) (3 + j) 1 (nI b)) (3 + j) 2 (nI d)) := by
  have hn := T.2.1.2.1
  have in9 : ∀ x : Nat, x ≤ 9 → ¬ bI ((0 : Int32) ≤ nI x ∧ nI x ≤ 9) = 0 := fun x hx => by
    rw [bIt ⟨(nI_leI (a := 0) (b := x) (by omega) (by omega)).mpr (by omega), (nI_leI (a := x) (b := 9) (by omega) (by omega)).mpr hx⟩]
    decide
  have e : x_setW h (nI j) (nI a) (nI b) (nI d) = rI (w_num r (3 + j)) (hp_up (hp_up (hp_up h (3 + j) 0 (nI a)) (3 + j) 1 (nI b)) (3 + j) 2 (nI d)) := by
    unfold x_setW w_num
    rw [if_pos (inQ (by omega) hj), if_neg (in9 a ha), if_neg (in9 b hb), if_neg (in9 d hd), wd_nI (by omega), R.w hj (by omega), R.w hj (by omega), R.w hj (by omega)]
  rcases op_setW (x := nI j) (a := nI a) (b := nI b) (d := nI d) T with ⟨v, h2, e1, -, -, T3⟩ | ⟨e1, -⟩ | ⟨e1, -⟩
  · rw [e] at e1
    cases e1
    exact ⟨_, _, e, setW_lo, T3, R.up.up.up.lo T.2.2.2.1 hn setW_lo⟩
  · rw [e] at e1; cases e1
  · rw [e] at e1; cases e1
end LWO
