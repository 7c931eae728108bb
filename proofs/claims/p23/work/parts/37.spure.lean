/-! WHAT THE LAW'S SIM DOES TO ITS NUMBERS -/
theorem fd_0 {α : Type} {step : α → Nat → α} {a : α} : fd step a 0 = a := rfl
theorem fd_s {α : Type} {step : α → Nat → α} {a : α} {n : Nat} : fd step a (n + 1) = step (fd step a n) n := rfl
def s_mist (w : Nat) (r : Hp) (j : Nat) : Hp := hp_up r (15 + j) 5 (r (15 + j) 5 + ((if r (15 + j) 2 < 150 then r w 0 * r (15 + j) 3 / 4 else r w 0 * r (15 + j) 3 / 4 + r w 0 * r (15 + j) 3 / 4) + r w 1 * r (15 + j) 3 / 2))
def s_its (r : Hp) (o a : Nat) : Int32 := if r a 5 < 2 * r o 0 then r a 5 else 2 * r o 0
def s_dr3 (r : Hp) (o a : Nat) (v : Int32) : Hp := hp_up (hp_up r a 5 (r a 5 - v)) o 4 (hp_up r a 5 (r a 5 - v) o 4 + v)
def s_dr4 (r : Hp) (o : Nat) (v : Int32) : Hp := if v = 2 * r o 0 then hp_up r o 2 (if 2 < r o 2 then r o 2 - 2 else 0) else hp_up r o 2 (if 7 < r o 2 then 10 else r o 2 + 3)
def s_dr5 (r : Hp) (o a : Nat) : Hp := if r a 7 = 0 then hp_up r a 6 (mxI 0 (r a 6 - r o 0 / 10)) else r
def s_drink (r : Hp) (o a : Nat) : Hp := s_dr5 (s_dr4 (s_dr3 r o a (s_its r o a)) o (s_its r o a)) o a
def s_go (r : Hp) (n o : Nat) : Hp := hp_up r o 1 (s_to r n o)
def s_pa (r : Hp) (o : Nat) : Nat := 15 + (r o 1).toNatClampNeg
def s_flock (n : Nat) (r : Hp) (j : Nat) : Hp := if r (26 + j) 2 = 10 then r else s_drink (s_go r n (26 + j)) (26 + j) (s_pa (s_go r n (26 + j)) (26 + j))
def s_flockU (n : Nat) (r : Hp) (j : Nat) (u : Int32) : Int32 := if r (26 + j) 2 = 10 then u else u + s_its (s_go r n (26 + j)) (26 + j) (s_pa (s_go r n (26 + j)) (26 + j))
def s_dryX (w : Nat) (r : Hp) (o : Nat) : Int32 := if r o 7 = 1 then r w 2 * r o 3 / 5 / 2 else r w 2 * r o 3 / 5
def s_dry (r : Hp) (o : Nat) (x : Int32) : Hp := hp_up r o 5 (if x < r o 5 then r o 5 - x else 0)
def s_leak (r : Hp) (o : Nat) : Hp := hp_up r o 5 (r o 5 - r o 5 * (100 - r o 6) / 200)
def s_sun (w : Nat) (r : Hp) (j : Nat) : Hp := s_leak (s_dry r (15 + j) (s_dryX w r (15 + j))) (15 + j)
/-- the highest pond that is not done -/
def s_topS (r : Hp) (dn : Nat → Int32) (b : Int32) (p : Nat) : Int32 := if dn p = 0 then (if b < 0 then nI p else if r (15 + b.toNatClampNeg) 2 < r (15 + p) 2 then nI p else b) else b
def s_top (r : Hp) (dn : Nat → Int32) (n : Nat) : Int32 := fd (s_topS r dn) (-1) n
def s_more (r : Hp) (q : Nat) : Int32 := r q 5 - s_holds r q
def s_off (r : Hp) (q : Nat) (x : Int32) : Hp := hp_up (hp_up r q 5 (r q 5 - x)) q 9 (hp_up r q 5 (r q 5 - x) q 9 + x)
def s_in (r : Hp) (q : Nat) (x : Int32) : Hp := if r q 8 < 0 then r else hp_up r (15 + (r q 8).toNatClampNeg) 5 (r (15 + (r q 8).toNatClampNeg) 5 + x)
def s_run1 (r : Hp) (q : Nat) : Hp := if 0 < s_more r q then s_in (s_off r q (s_more r q)) q (s_more r q) else r
abbrev sRD : Type := Hp × (Nat → Int32)
def s_runS (n : Nat) (z : sRD) (_k : Nat) : sRD := (s_run1 z.1 (15 + (s_top z.1 z.2 n).toNatClampNeg), upd z.2 (s_top z.1 z.2 n).toNatClampNeg 1)
def s_run (n : Nat) (r : Hp) : Nat → sRD := fd (s_runS n) (r, fun _ => 0)
def s_rot (r : Hp) (j : Nat) : Hp := hp_up r (15 + j) 7 0
def s_drunk (n : Nat) (r : Hp) : Nat → Int32 := fd (fun u j => s_flockU n (fd (s_flock n) r j) j u) 0
def s_h1 (n w : Nat) (r : Hp) : Hp := fd (s_mist w) r n
def s_h2 (n f w : Nat) (r : Hp) : Hp := fd (s_flock n) (s_h1 n w r) f
def s_h3 (n f w : Nat) (r : Hp) : Hp := fd (s_sun w) (s_h2 n f w r) n
def s_h4 (n f w : Nat) (r : Hp) : Hp := (s_run n (s_h3 n f w r) n).1
def s_h5 (n f t : Nat) (r : Hp) : Hp := if t % 10 = 9 then fd s_rot (s_h4 n f (3 + t % 10) r) n else s_h4 n f (3 + t % 10) r
def s_day (n f t : Nat) (r : Hp) : Hp := hp_up (s_h5 n f t r) 1 6 (s_h5 n f t r 1 6 + 1)
def s_dayU (n f t : Nat) (r : Hp) : Int32 := s_drunk n (s_h1 n (3 + t % 10) r) f
theorem s_drunk_0 {n : Nat} {r : Hp} : s_drunk n r 0 = 0 := by unfold s_drunk; rw [fd_0]
theorem s_drunk_s {n k : Nat} {r : Hp} : s_drunk n r (k + 1) = s_flockU n (fd (s_flock n) r k) k (s_drunk n r k) := by unfold s_drunk; rw [fd_s]
/-- links and places name ponds -/
def OKS (n f : Nat) (r : Hp) : Prop := (∀ j, j < n → r (15 + j) 8 = -1 ∨ isN n (r (15 + j) 8)) ∧ ∀ j, j < f → isN n (r (26 + j) 1)
/-- each turn of the running over finds a pond -/
def TPS (n : Nat) (r : Hp) : Prop := ∀ k, k < n → isN n (s_top (s_run n r k).1 (s_run n r k).2 n)
theorem OKS.up {n f o k : Nat} {r : Hp} {v : Int32} (H : OKS n f r) (h1 : k ≠ 8 ∨ o < 15 ∨ 25 ≤ o) (h2 : k ≠ 1 ∨ o < 26) (hn : n ≤ 10) : OKS n f (hp_up r o k v) := by
  refine ⟨fun j hj => ?_, fun j hj => ?_⟩
  · rw [hp_off (by omega)]; exact H.1 j hj
  · rw [hp_off (by omega)]; exact H.2 j hj
theorem s_toB_in {r : Hp} {n o a : Nat} : ∀ (k : Nat) (b : Int32), k ≤ n → isN n b → isN n (s_toB r o a k b)
  | 0, b, _, hb => hb
  | k + 1, b, hk, hb => by
    refine s_toB_in k _ (by omega) ?_
    unfold s_toS
    have hk1 : isN n (nI k) := ⟨k, by omega, rfl⟩
    split
    · exact hb
    · split
      · exact hb
      · split
        · exact hk1
        · split
          · exact hb
          · exact hk1
theorem s_to_in {r : Hp} {n o : Nat} (h : isN n (r o 1)) : isN n (s_to r n o) := by
  unfold s_to
  split
  · exact h
  · split
    · exact h
    · split
      · exact s_toB_in n _ (Nat.le_refl n) h
      · exact h
theorem OKS.go {n f j : Nat} {r : Hp} (H : OKS n f r) (hn : n ≤ 10) (hj : j < f) : OKS n f (s_go r n (26 + j)) := by
  refine ⟨fun i hi => ?_, fun i hi => ?_⟩
  · unfold s_go; rw [hp_off (by omega)]; exact H.1 i hi
  · unfold s_go
    by_cases e : i = j
    · subst e; rw [hp_eq]; unfold upd; rw [if_pos rfl]; exact s_to_in (H.2 i hi)
    · rw [hp_off (by omega)]; exact H.2 i hi
theorem s_pa_at {n f j : Nat} {r : Hp} (H : OKS n f r) (hn : n ≤ 10) (hj : j < f) : r (26 + j) 1 = nI (r (26 + j) 1).toNatClampNeg ∧ (r (26 + j) 1).toNatClampNeg < n := isN_at (H.2 j hj) (by omega)
theorem OKS.dr5 {n f j a : Nat} {r : Hp} (H : OKS n f r) (hn : n ≤ 10) (ha : a < n) : OKS n f (s_drink r (26 + j) (15 + a)) := by
  have h3 : ∀ v, OKS n f (s_dr3 r (26 + j) (15 + a) v) := fun v => by unfold s_dr3; exact (H.up (by omega) (by omega) hn).up (by omega) (by omega) hn
  have h4 : ∀ (r : Hp) (v : Int32), OKS n f r → OKS n f (s_dr4 r (26 + j) v) := fun r v h => by unfold s_dr4; split <;> exact h.up (by omega) (by omega) hn
  have h5 : ∀ r : Hp, OKS n f r → OKS n f (s_dr5 r (26 + j) (15 + a)) := fun r h => by unfold s_dr5; split; exact h.up (by omega) (by omega) hn; exact h
  exact h5 _ (h4 _ _ (h3 _))
theorem OKS.flock {n f j : Nat} {r : Hp} (H : OKS n f r) (hn : n ≤ 10) (hj : j < f) : OKS n f (s_flock n r j) := by
  unfold s_flock
  split
  · exact H
  · exact (H.go hn hj).dr5 hn (s_pa_at (H.go hn hj) hn hj).2
theorem OKS.mist {n f j w : Nat} {r : Hp} (H : OKS n f r) (hn : n ≤ 10) (hj : j < n) : OKS n f (s_mist w r j) := by unfold s_mist; exact H.up (by omega) (by omega) hn
theorem OKS.sun {n f j w : Nat} {r : Hp} (H : OKS n f r) (hn : n ≤ 10) (hj : j < n) : OKS n f (s_sun w r j) := by
  unfold s_sun s_leak s_dry
  exact (H.up (by omega) (by omega) hn).up (by omega) (by omega) hn
theorem OKS.run1 {n f q : Nat} {r : Hp} (H : OKS n f r) (hn : n ≤ 10) (hq : q < n) : OKS n f (s_run1 r (15 + q)) := by
  have h1 : ∀ x, OKS n f (s_off r (15 + q) x) := fun x => by unfold s_off; exact (H.up (by omega) (by omega) hn).up (by omega) (by omega) hn
  unfold s_run1
  split
  · generalize s_more r (15 + q) = x
    have h2 := h1 x
    unfold s_in
    split
    · exact h2
    · rcases h2.1 q hq with z | z
      · rename_i h9
        exact absurd (by rw [z]; decide) h9
      · exact h2.up (by omega) (by have := (isN_at z (by omega)).2; omega) hn
  · exact H
theorem s_run_0 {n : Nat} {r : Hp} : s_run n r 0 = (r, fun _ => 0) := rfl
theorem s_run_s {n k : Nat} {r : Hp} : s_run n r (k + 1) = s_runS n (s_run n r k) k := rfl
theorem OKS.run {n f : Nat} {r : Hp} (H : OKS n f r) (hn : n ≤ 10) (hT : TPS n r) : ∀ k, k ≤ n → OKS n f (s_run n r k).1
  | 0, _ => H
  | k + 1, hk => by
    rw [s_run_s]
    exact (OKS.run H hn hT k (by omega)).run1 hn (isN_at (hT k (by omega)) (by omega)).2
theorem OKS.h1 {n f w : Nat} {r : Hp} (H : OKS n f r) (hn : n ≤ 10) (k : Nat) (hk : k ≤ n) : OKS n f (fd (s_mist w) r k) := fd_inv k H (fun x i hi hx => hx.mist hn (by omega))
theorem OKS.h2 {n f : Nat} {r : Hp} (H : OKS n f r) (hn : n ≤ 10) (k : Nat) (hk : k ≤ f) : OKS n f (fd (s_flock n) r k) := fd_inv k H (fun x i hi hx => hx.flock hn (by omega))
theorem OKS.h3 {n f w : Nat} {r : Hp} (H : OKS n f r) (hn : n ≤ 10) (k : Nat) (hk : k ≤ n) : OKS n f (fd (s_sun w) r k) := fd_inv k H (fun x i hi hx => hx.sun hn (by omega))
