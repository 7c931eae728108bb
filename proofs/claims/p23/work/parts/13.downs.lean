/-! what the methods of Downs do to the numbers. d: the Downs (1: the real ones, 32: those ahead); n ponds, f flocks, t the day -/
def fd {α : Type} (step : α → Nat → α) (a : α) : Nat → α
  | 0 => a
  | n + 1 => step (fd step a n) n
def sumN (f : Nat → Int32) : Nat → Int32 := fd (fun s j => s + f j) 0
theorem nI_inc (j : Nat) : nI j + Int32.ofInt 1 = nI (j + 1) := nI_1 j
theorem lp_exit {b : Int32} {n j : Nat} (hc : b = nI n) (q : b ≤ nI j) (hj : j ≤ n) (h31 : n < 2 ^ 31) : n = j := by
  subst hc
  have := (nI_leI h31 (by omega)).mp q
  omega
theorem lp_body {b : Int32} {n j : Nat} (hc : b = nI n) (q : ¬ b ≤ nI j) (hj : j ≤ n) (h31 : n < 2 ^ 31) : j < n := by
  subst hc
  rcases Nat.lt_or_ge j n with h | h
  · exact h
  · exact absurd ((nI_leI h31 (by omega)).mpr h) q
theorem hp_ne {h : Hp} {o k a : Nat} {v : Int32} (e : a ≠ o) : hp_up h o k v a = h a := by simp [hp_up, e]
theorem hp_eq {h : Hp} {o k : Nat} {v : Int32} : hp_up h o k v o = upd (h o) k v := by simp [hp_up]
theorem cpk_ne {h : Hp} {o o2 k a : Nat} (e : a ≠ o) : cpk h o o2 k a = h a := hp_ne e
theorem p_copy_ne {h : Hp} {o o2 a : Nat} (e : a ≠ o) : p_copy h o o2 a = h a := by simp only [p_copy, cpk_ne e]
theorem p_line_ne {h : Hp} {o a : Nat} {x : Int32} (e : a ≠ o) : p_line h o x a = h a := hp_ne e
theorem p_mist_ne {h : Hp} {o a : Nat} {x : Int32} (e : a ≠ o) : p_mist h o x a = h a := hp_ne e
theorem p_rain_ne {h : Hp} {o a : Nat} {x : Int32} (e : a ≠ o) : p_rain h o x a = h a := hp_ne e
theorem p_give_ne {h : Hp} {o a : Nat} {x : Int32} (e : a ≠ o) : p_give h o x a = h a := hp_ne e
theorem p_tread_ne {h : Hp} {o a : Nat} {x : Int32} (e : a ≠ o) : p_tread h o x a = h a := by unfold p_tread; split; exact hp_ne e; rfl
theorem p_dry_ne {h : Hp} {o a : Nat} {x : Int32} (e : a ≠ o) : p_dry h o x a = h a := hp_ne e
theorem p_leak_ne {h : Hp} {o a : Nat} (e : a ≠ o) : p_leak h o a = h a := hp_ne e
theorem p_spill_ne {h : Hp} {o a : Nat} (e : a ≠ o) : p_spill h o a = h a := by simp only [p_spill, hp_ne e]
theorem f_copy_ne {h : Hp} {o o2 a : Nat} (e : a ≠ o) : f_copy h o o2 a = h a := by simp only [f_copy, cpk_ne e]
theorem f_start_ne {h : Hp} {o a : Nat} {x y : Int32} (e : a ≠ o) : f_start h o x y a = h a := by simp only [f_start, hp_ne e]
theorem f_drink_ne {h : Hp} {o a : Nat} {x : Int32} (e : a ≠ o) : f_drink h o x a = h a := by unfold f_drink f_drinkA; split <;> simp only [hp_ne e]
theorem w_copy_ne {h : Hp} {o o2 a : Nat} (e : a ≠ o) : w_copy h o o2 a = h a := by simp only [w_copy, cpk_ne e]
/-- what a loop's step keeps, the loop keeps -/
theorem fd_keep {α β : Type} {step : α → Nat → α} {a : α} {P : α → β} : ∀ (n : Nat), (∀ x i, i < n → P (step x i) = P x) → P (fd step a n) = P a
  | 0, _ => rfl
  | n + 1, hs => (hs _ n (Nat.lt_succ_self n)).trans (fd_keep n (fun x i hi => hs x i (Nat.lt_succ_of_lt hi)))
theorem fd_inv {α : Type} {step : α → Nat → α} {a : α} {I : α → Prop} : ∀ (n : Nat), I a → (∀ x i, i < n → I x → I (step x i)) → I (fd step a n)
  | 0, h, _ => h
  | n + 1, h, hs => hs _ n (Nat.lt_succ_self n) (fd_inv n h (fun x i hi => hs x i (Nat.lt_succ_of_lt hi)))
/-- which of n numbers a value is -/
def isN (n : Nat) (x : Int32) : Prop := ∃ q, q < n ∧ x = nI q
theorem isN_at {n : Nat} {x : Int32} (h : isN n x) (hn : n < 2 ^ 31) : x = nI x.toNatClampNeg ∧ x.toNatClampNeg < n := by
  obtain ⟨q, hq, rfl⟩ := h
  rw [nI_clamp (by omega)]
  exact ⟨rfl, hq⟩
theorem isP_x {d n : Nat} {x : Int32} (hd : isD d) (hn : n ≤ 10) (h : isN n x) : isP (d + 14 + x.toNatClampNeg) := by
  have := (isN_at h (by omega)).2
  exact isP_of hd (by omega)
theorem isF_x {d f : Nat} {x : Int32} (hd : isD d) (hf : f ≤ rmD d) (h : isN f x) : isF (d + 25 + x.toNatClampNeg) := by
  have hr : rmD d ≤ 7 := by unfold rmD; split <;> omega
  have := (isN_at h (by omega)).2
  exact isF_of hd (by omega)
theorem isWt_x {d : Nat} {x : Int32} (hd : isD d) (h : isN 10 x) : isWt (d + 2 + x.toNatClampNeg) := by
  have := (isN_at h (by omega)).2
  exact isWt_of hd (by omega)
/-- a Downs that is in order -/
def OK (d n f : Nat) (h : Hp) : Prop := h d 4 = nI n ∧ n ≤ 10 ∧ h d 5 = nI f ∧ f ≤ rmD d ∧ (∀ j, j < n → h (d + 14 + j) 8 = -1 ∨ isN n (h (d + 14 + j) 8)) ∧ (∀ j, j < f → isN n (h (d + 25 + j) 1)) ∧ (∀ r, r < n → isN n (h (d + 13) r)) ∧ (∀ j, j < n → h (d + 14 + j) 7 = 0 ∨ h (d + 14 + j) 7 = 1) ∧ (∀ j, j < f → h (d + 25 + j) 3 = 0 ∨ h (d + 25 + j) 3 = 1)
def d_all (h : Hp) (d n : Nat) : Int32 := sumN (fun j => h (d + 14 + j) 5) n
def d_hold (h : Hp) (d n : Nat) : Int32 := sumN (fun j => p_holds h (d + 14 + j)) n
def d_dry (h : Hp) (d n : Nat) : Int32 := sumN (fun j => if h (d + 14 + j) 5 = 0 then 1 else 0) n
def d_lost (h : Hp) (d f : Nat) : Int32 := sumN (fun j => if 10 ≤ h (d + 25 + j) 2 then 1 else 0) f
def d_sheep (h : Hp) (d f : Nat) : Int32 := sumN (fun j => if 10 ≤ h (d + 25 + j) 2 then 0 else h (d + 25 + j) 0) f
def d_at (h : Hp) (d f : Nat) (x : Int32) : Int32 := sumN (fun j => if h (d + 25 + j) 1 = x then (if 10 ≤ h (d + 25 + j) 2 then 0 else 1) else 0) f
def d_taken (h : Hp) (d : Nat) (x y : Int32) (n : Nat) : Prop := ∃ j, j < n ∧ h (d + 14 + j) 0 = x ∧ h (d + 14 + j) 1 = y
def d_mist (d w : Nat) (h : Hp) (j : Nat) : Hp := p_rain (p_mist h (d + 14 + j) (h w 0)) (d + 14 + j) (p_mist h (d + 14 + j) (h w 0) w 1)
def d_sun (d w : Nat) (h : Hp) (j : Nat) : Hp := p_leak (p_dry h (d + 14 + j) (h w 2)) (d + 14 + j)
def d_rot (d : Nat) (h : Hp) (j : Nat) : Hp := hp_up h (d + 14 + j) 7 0
/-- the search of a roaming flock: the least way yet, and the pond -/
def d_nearS (h : Hp) (d fo here : Nat) (z : Int32 × Int32) (j : Nat) : Int32 × Int32 := if h (d + 14 + j) 5 < f_need h fo then z else if z.1 ≤ p_dist h here (d + 14 + j) then z else (p_dist h here (d + 14 + j), nI j)
def d_near (h : Hp) (d n fo : Nat) : Int32 := if h (d + 14 + (h fo 1).toNatClampNeg) 5 < f_need h fo then (fd (d_nearS h d fo (d + 14 + (h fo 1).toNatClampNeg)) (2147483647, h fo 1) n).2 else h fo 1
def d_go (d n fo : Nat) (h : Hp) : Hp := if h fo 3 = 0 then h else if h fo 2 ≤ 0 then h else hp_up h fo 1 (d_near h d n fo)
def d_to (d fo : Nat) (h : Hp) : Nat := d + 14 + (h fo 1).toNatClampNeg
def d_drinkH (fo q : Nat) (h : Hp) : Hp := p_tread (f_drink (p_give h q (f_need h fo)) fo (mnI (f_need h fo) (h q 5))) q (f_drink (p_give h q (f_need h fo)) fo (mnI (f_need h fo) (h q 5)) fo 0)
def d_flock (d n : Nat) (h : Hp) (j : Nat) : Hp := if 10 ≤ h (d + 25 + j) 2 then h else d_drinkH (d + 25 + j) (d_to d (d + 25 + j) (d_go d n (d + 25 + j) h)) (d_go d n (d + 25 + j) h)
def d_flockU (d n : Nat) (h : Hp) (j : Nat) (u : Int32) : Int32 := if 10 ≤ h (d + 25 + j) 2 then u else u + mnI (f_need (d_go d n (d + 25 + j) h) (d + 25 + j)) (d_go d n (d + 25 + j) h (d_to d (d + 25 + j) (d_go d n (d + 25 + j) h)) 5)
def d_drunk (d n : Nat) (h : Hp) : Nat → Int32 := fd (fun u j => d_flockU d n (fd (d_flock d n) h j) j u) 0
def d_ro (d : Nat) (h : Hp) (r : Nat) : Nat := d + 14 + (h (d + 13) r).toNatClampNeg
def d_runS (d : Nat) (h : Hp) (r : Nat) : Hp := if p_spill h (d_ro d h r) (d_ro d h r) 8 = -1 then p_spill h (d_ro d h r) else hp_up (p_spill h (d_ro d h r)) (d + 14 + (p_spill h (d_ro d h r) (d_ro d h r) 8).toNatClampNeg) 5 (p_spill h (d_ro d h r) (d + 14 + (p_spill h (d_ro d h r) (d_ro d h r) 8).toNatClampNeg) 5 + p_over h (d_ro d h r))
def d_h1 (d n w : Nat) (h : Hp) : Hp := fd (d_mist d w) h n
def d_h3 (d n f w : Nat) (h : Hp) : Hp := fd (d_sun d w) (fd (d_flock d n) (d_h1 d n w h) f) n
def d_h4 (d n f w : Nat) (h : Hp) : Hp := fd (d_runS d) (d_h3 d n f w h) n
def d_h5 (d n f t : Nat) (h : Hp) : Hp := if nI (t % 10) = 9 then fd (d_rot d) (d_h4 d n f (d + 2 + t % 10) h) n else d_h4 d n f (d + 2 + t % 10) h
def d_day (d n f t : Nat) (h : Hp) : Hp := hp_up (d_h5 d n f t h) d 6 (d_h5 d n f t h d 6 + 1)
def d_dayU (d n f t : Nat) (h : Hp) : Int32 := d_drunk d n (d_h1 d n (d + 2 + t % 10) h) f
def d_days (d n f t : Nat) (h : Hp) : Nat → Hp := fd (fun z i => d_day d n f (t + i) z) h
def d_daysU (d n f t : Nat) (h : Hp) : Nat → Int32 := fd (fun u i => u + d_dayU d n f (t + i) (d_days d n f t h i)) 0
/-- can a pond's water come to the goal: at most k steps from the link x on -/
def d_down (h : Hp) (d : Nat) (goal : Int32) : Nat → Int32 → Prop
  | 0, _ => False
  | k + 1, x => ¬ x = -1 ∧ (x = goal ∨ d_down h d goal k (h (d + 14 + x.toNatClampNeg) 8))
