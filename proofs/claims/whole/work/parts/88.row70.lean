/-! the reference never looks at the law's own row: cell 70 -/
def s70 (h : Hp) (w : Int32) : Hp := hp_up h 70 0 w
theorem sr_lo {h : Hp} {w : Int32} {o : Nat} (ho : o ≠ 70) : s70 h w o = h o := hp_ne ho
theorem sr_64 {h : Hp} {w : Int32} : s70 h w 64 = h 64 := hp_ne (by decide)
theorem sr_65 {h : Hp} {w : Int32} : s70 h w 65 = h 65 := hp_ne (by decide)
theorem sr_66 {h : Hp} {w : Int32} : s70 h w 66 = h 66 := hp_ne (by decide)
theorem sr_67 {h : Hp} {w : Int32} : s70 h w 67 = h 67 := hp_ne (by decide)
theorem sr_68 {h : Hp} {w : Int32} : s70 h w 68 = h 68 := hp_ne (by decide)
theorem sr_69 {h : Hp} {w : Int32} : s70 h w 69 = h 69 := hp_ne (by decide)
theorem su_64 {h : Hp} {w v : Int32} {k : Nat} : hp_up (s70 h w) 64 k v = s70 (hp_up h 64 k v) w := hp_comm (by decide)
theorem su_66 {h : Hp} {w v : Int32} {k : Nat} : hp_up (s70 h w) 66 k v = s70 (hp_up h 66 k v) w := hp_comm (by decide)
theorem su_67 {h : Hp} {w v : Int32} {k : Nat} : hp_up (s70 h w) 67 k v = s70 (hp_up h 67 k v) w := hp_comm (by decide)
theorem su_68 {h : Hp} {w v : Int32} {k : Nat} : hp_up (s70 h w) 68 k v = s70 (hp_up h 68 k v) w := hp_comm (by decide)
theorem su_69 {h : Hp} {w v : Int32} {k : Nat} : hp_up (s70 h w) 69 k v = s70 (hp_up h 69 k v) w := hp_comm (by decide)
theorem srow {h : Hp} {w : Int32} {o : Nat} {r : Nat → Int32} (ho : o ≠ 70) : hp_row (s70 h w) o r = s70 (hp_row h o r) w := by
  funext a
  unfold s70
  by_cases e : a = o
  · subst e
    rw [hp_row_eq, hp_ne ho, hp_row_eq]
  · rw [hp_row_ne e]
    by_cases e2 : a = 70
    · subst e2
      rw [hp_eq, hp_eq, hp_row_ne e]
    · rw [hp_ne e2, hp_ne e2, hp_row_ne e]
theorem srow_65 {h : Hp} {w : Int32} {r : Nat → Int32} : hp_row (s70 h w) 65 r = s70 (hp_row h 65 r) w := srow (by decide)
theorem srow_68 {h : Hp} {w : Int32} {r : Nat → Int32} : hp_row (s70 h w) 68 r = s70 (hp_row h 68 r) w := srow (by decide)
theorem s_ite {h h2 : Hp} {w : Int32} {c : Prop} [Decidable c] : (if c then s70 h w else s70 h2 w) = s70 (if c then h else h2) w := by split <;> rfl
theorem sfd {step : Hp → Nat → Hp} {w : Int32} (hs : ∀ z i, step (s70 z w) i = s70 (step z i) w) {h : Hp} : ∀ k, fd step (s70 h w) k = s70 (fd step h k) w
  | 0 => by rw [fd_0, fd_0]
  | k + 1 => by rw [fd_s, fd_s, sfd hs k, hs]
theorem fd_ext {α : Type} {s1 s2 : α → Nat → α} {a1 a2 : α} (ha : a1 = a2) (h : ∀ x i, s1 x i = s2 x i) : ∀ k, fd s1 a1 k = fd s2 a2 k
  | 0 => by rw [fd_0, fd_0, ha]
  | k + 1 => by rw [fd_s, fd_s, fd_ext ha h k, h]
theorem sumN_ext {f1 f2 : Nat → Int32} (h : ∀ j, f1 j = f2 j) (n : Nat) : sumN f1 n = sumN f2 n := sumN_congr n (fun j _ => h j)
theorem s_m_fx {h : Hp} {w : Int32} {x y : Int32} : m_fx (s70 h w) x y = m_fx h x y := by
  unfold m_fx
  simp only [sr_64, sr_65, sr_66, sr_67, sr_68, sr_69, su_64, su_66, su_67, su_68, su_69, srow_65, srow_68, s_ite]
theorem s_m_po {h : Hp} {w : Int32} {x y : Int32} : m_po (s70 h w) x y = m_po h x y := by
  unfold m_po
  simp only [sr_64, sr_65, sr_66, sr_67, sr_68, sr_69, su_64, su_66, su_67, su_68, su_69, srow_65, srow_68, s_ite, s_m_fx]
theorem s_m_fl {h : Hp} {w : Int32} {x y : Int32} : m_fl (s70 h w) x y = m_fl h x y := by
  unfold m_fl
  simp only [sr_64, sr_65, sr_66, sr_67, sr_68, sr_69, su_64, su_66, su_67, su_68, su_69, srow_65, srow_68, s_ite, s_m_fx, s_m_po]
theorem s_m_set {h : Hp} {w : Int32} {x y v : Int32} : m_set (s70 h w) x y v = s70 (m_set h x y v) w := by
  unfold m_set
  simp only [sr_64, sr_65, sr_66, sr_67, sr_68, sr_69, su_64, su_66, su_67, su_68, su_69, srow_65, srow_68, s_ite, s_m_fx, s_m_po, s_m_fl]
theorem s_m_setFl {h : Hp} {w : Int32} {x y v : Int32} : m_setFl (s70 h w) x y v = s70 (m_setFl h x y v) w := by
  unfold m_setFl
  simp only [sr_64, sr_65, sr_66, sr_67, sr_68, sr_69, su_64, su_66, su_67, su_68, su_69, srow_65, srow_68, s_ite, s_m_fx, s_m_po, s_m_fl, s_m_set]
theorem s_m_holds {h : Hp} {w : Int32} {x : Int32} : m_holds (s70 h w) x = m_holds h x := by
  unfold m_holds
  simp only [sr_64, sr_65, sr_66, sr_67, sr_68, sr_69, su_64, su_66, su_67, su_68, su_69, srow_65, srow_68, s_ite, s_m_fx, s_m_po, s_m_fl, s_m_set, s_m_setFl]
theorem s_m_far {h : Hp} {w : Int32} {x y : Int32} : m_far (s70 h w) x y = m_far h x y := by
  unfold m_far
  simp only [sr_64, sr_65, sr_66, sr_67, sr_68, sr_69, su_64, su_66, su_67, su_68, su_69, srow_65, srow_68, s_ite, s_m_fx, s_m_po, s_m_fl, s_m_set, s_m_setFl, s_m_holds]
theorem s_m_use {h : Hp} {w : Int32} {x y : Int32} : m_use (s70 h w) x y = m_use h x y := by
  unfold m_use
  simp only [sr_64, sr_65, sr_66, sr_67, sr_68, sr_69, su_64, su_66, su_67, su_68, su_69, srow_65, srow_68, s_ite, s_m_fx, s_m_po, s_m_fl, s_m_set, s_m_setFl, s_m_holds, s_m_far]
theorem s_m_useS {h : Hp} {w : Int32} {x y : Int32} : m_useS (s70 h w) x y = s70 (m_useS h x y) w := by
  unfold m_useS
  simp only [sr_64, sr_65, sr_66, sr_67, sr_68, sr_69, su_64, su_66, su_67, su_68, su_69, srow_65, srow_68, s_ite, s_m_fx, s_m_po, s_m_fl, s_m_set, s_m_setFl, s_m_holds, s_m_far, s_m_use]
theorem s_m_useH {h : Hp} {w : Int32} {x y : Int32} : m_useH (s70 h w) x y = s70 (m_useH h x y) w := by
  unfold m_useH
  simp only [sr_64, sr_65, sr_66, sr_67, sr_68, sr_69, su_64, su_66, su_67, su_68, su_69, srow_65, srow_68, s_ite, s_m_fx, s_m_po, s_m_fl, s_m_set, s_m_setFl, s_m_holds, s_m_far, s_m_use, s_m_useS]
theorem s_m_change {h : Hp} {w : Int32} {x y : Int32} : m_change (s70 h w) x y = s70 (m_change h x y) w := by
  unfold m_change
  simp only [sr_64, sr_65, sr_66, sr_67, sr_68, sr_69, su_64, su_66, su_67, su_68, su_69, srow_65, srow_68, s_ite, s_m_fx, s_m_po, s_m_fl, s_m_set, s_m_setFl, s_m_holds, s_m_far, s_m_use, s_m_useS, s_m_useH]
theorem s_m_at {h : Hp} {w : Int32} {f : Nat} {x : Int32} : m_at (s70 h w) f x = m_at h f x := by
  unfold m_at
  simp only [sr_64, sr_65, sr_66, sr_67, sr_68, sr_69, su_64, su_66, su_67, su_68, su_69, srow_65, srow_68, s_ite, s_m_fx, s_m_po, s_m_fl, s_m_set, s_m_setFl, s_m_holds, s_m_far, s_m_use, s_m_useS, s_m_useH, s_m_change]
theorem s_m_all {h : Hp} {w : Int32} {n : Nat} : m_all (s70 h w) n = m_all h n := by
  unfold m_all
  simp only [sr_64, sr_65, sr_66, sr_67, sr_68, sr_69, su_64, su_66, su_67, su_68, su_69, srow_65, srow_68, s_ite, s_m_fx, s_m_po, s_m_fl, s_m_set, s_m_setFl, s_m_holds, s_m_far, s_m_use, s_m_useS, s_m_useH, s_m_change, s_m_at]
theorem s_m_dry {h : Hp} {w : Int32} {n : Nat} : m_dry (s70 h w) n = m_dry h n := by
  unfold m_dry
  simp only [sr_64, sr_65, sr_66, sr_67, sr_68, sr_69, su_64, su_66, su_67, su_68, su_69, srow_65, srow_68, s_ite, s_m_fx, s_m_po, s_m_fl, s_m_set, s_m_setFl, s_m_holds, s_m_far, s_m_use, s_m_useS, s_m_useH, s_m_change, s_m_at, s_m_all]
theorem s_m_lost {h : Hp} {w : Int32} {f : Nat} : m_lost (s70 h w) f = m_lost h f := by
  unfold m_lost
  simp only [sr_64, sr_65, sr_66, sr_67, sr_68, sr_69, su_64, su_66, su_67, su_68, su_69, srow_65, srow_68, s_ite, s_m_fx, s_m_po, s_m_fl, s_m_set, s_m_setFl, s_m_holds, s_m_far, s_m_use, s_m_useS, s_m_useH, s_m_change, s_m_at, s_m_all, s_m_dry]
theorem s_m_sheep {h : Hp} {w : Int32} {f : Nat} : m_sheep (s70 h w) f = m_sheep h f := by
  unfold m_sheep
  simp only [sr_64, sr_65, sr_66, sr_67, sr_68, sr_69, su_64, su_66, su_67, su_68, su_69, srow_65, srow_68, s_ite, s_m_fx, s_m_po, s_m_fl, s_m_set, s_m_setFl, s_m_holds, s_m_far, s_m_use, s_m_useS, s_m_useH, s_m_change, s_m_at, s_m_all, s_m_dry, s_m_lost]
theorem s_m_hold {h : Hp} {w : Int32} {n : Nat} : m_hold (s70 h w) n = m_hold h n := by
  unfold m_hold
  simp only [sr_64, sr_65, sr_66, sr_67, sr_68, sr_69, su_64, su_66, su_67, su_68, su_69, srow_65, srow_68, s_ite, s_m_fx, s_m_po, s_m_fl, s_m_set, s_m_setFl, s_m_holds, s_m_far, s_m_use, s_m_useS, s_m_useH, s_m_change, s_m_at, s_m_all, s_m_dry, s_m_lost, s_m_sheep]
theorem s_m_chS {h : Hp} {w : Int32} {p b : Int32} : m_chS (s70 h w) p b = m_chS h p b := by
  funext k x s
  induction k generalizing x s with
  | zero => rfl
  | succ k ih =>
    show (if x = -1 then s else m_chS (s70 h w) p b k (m_po (s70 h w) x 3) (if x = p then s ||| b else s)) = if x = -1 then s else m_chS h p b k (m_po h x 3) (if x = p then s ||| b else s)
    rw [ih, s_m_po]
theorem s_m_abv {h : Hp} {w : Int32} {p : Int32} : m_abv (s70 h w) p = m_abv h p := by
  unfold m_abv
  simp only [sr_64, sr_65, sr_66, sr_67, sr_68, sr_69, su_64, su_66, su_67, su_68, su_69, srow_65, srow_68, s_ite, s_m_fx, s_m_po, s_m_fl, s_m_set, s_m_setFl, s_m_holds, s_m_far, s_m_use, s_m_useS, s_m_useH, s_m_change, s_m_at, s_m_all, s_m_dry, s_m_lost, s_m_sheep, s_m_hold, s_m_chS]
theorem s_m_wt {h : Hp} {w : Int32} {j : Nat} : m_wt (s70 h w) j = m_wt h j := by
  unfold m_wt
  simp only [sr_64, sr_65, sr_66, sr_67, sr_68, sr_69, su_64, su_66, su_67, su_68, su_69, srow_65, srow_68, s_ite, s_m_fx, s_m_po, s_m_fl, s_m_set, s_m_setFl, s_m_holds, s_m_far, s_m_use, s_m_useS, s_m_useH, s_m_change, s_m_at, s_m_all, s_m_dry, s_m_lost, s_m_sheep, s_m_hold, s_m_chS, s_m_abv]
theorem s_m_roamS {h : Hp} {w : Int32} {a b c : Int32} {j : Nat} : m_roamS (s70 h w) a b c j = m_roamS h a b c j := by
  unfold m_roamS
  simp only [sr_64, sr_65, sr_66, sr_67, sr_68, sr_69, su_64, su_66, su_67, su_68, su_69, srow_65, srow_68, s_ite, s_m_fx, s_m_po, s_m_fl, s_m_set, s_m_setFl, s_m_holds, s_m_far, s_m_use, s_m_useS, s_m_useH, s_m_change, s_m_at, s_m_all, s_m_dry, s_m_lost, s_m_sheep, s_m_hold, s_m_chS, s_m_abv, s_m_wt]
theorem s_m_best {h : Hp} {w : Int32} {a b : Int32} {k : Nat} : m_best (s70 h w) a b k = m_best h a b k := fd_ext rfl (fun _ _ => s_m_roamS) k
theorem s_m_roamB {h : Hp} {w : Int32} {n : Nat} {x : Int32} : m_roamB (s70 h w) n x = m_roamB h n x := by
  unfold m_roamB
  simp only [sr_64, sr_65, sr_66, sr_67, sr_68, sr_69, su_64, su_66, su_67, su_68, su_69, srow_65, srow_68, s_ite, s_m_fx, s_m_po, s_m_fl, s_m_set, s_m_setFl, s_m_holds, s_m_far, s_m_use, s_m_useS, s_m_useH, s_m_change, s_m_at, s_m_all, s_m_dry, s_m_lost, s_m_sheep, s_m_hold, s_m_chS, s_m_abv, s_m_wt, s_m_roamS, s_m_best]
theorem s_m_roam {h : Hp} {w : Int32} {n : Nat} {x : Int32} : m_roam (s70 h w) n x = s70 (m_roam h n x) w := by
  unfold m_roam
  simp only [sr_64, sr_65, sr_66, sr_67, sr_68, sr_69, su_64, su_66, su_67, su_68, su_69, srow_65, srow_68, s_ite, s_m_fx, s_m_po, s_m_fl, s_m_set, s_m_setFl, s_m_holds, s_m_far, s_m_use, s_m_useS, s_m_useH, s_m_change, s_m_at, s_m_all, s_m_dry, s_m_lost, s_m_sheep, s_m_hold, s_m_chS, s_m_abv, s_m_wt, s_m_roamS, s_m_best, s_m_roamB]
theorem s_m_its {h : Hp} {w : Int32} {x : Int32} : m_its (s70 h w) x = m_its h x := by
  unfold m_its
  simp only [sr_64, sr_65, sr_66, sr_67, sr_68, sr_69, su_64, su_66, su_67, su_68, su_69, srow_65, srow_68, s_ite, s_m_fx, s_m_po, s_m_fl, s_m_set, s_m_setFl, s_m_holds, s_m_far, s_m_use, s_m_useS, s_m_useH, s_m_change, s_m_at, s_m_all, s_m_dry, s_m_lost, s_m_sheep, s_m_hold, s_m_chS, s_m_abv, s_m_wt, s_m_roamS, s_m_best, s_m_roamB, s_m_roam]
theorem s_m_dr1 {h : Hp} {w : Int32} {x : Int32} : m_dr1 (s70 h w) x = s70 (m_dr1 h x) w := by
  unfold m_dr1
  simp only [sr_64, sr_65, sr_66, sr_67, sr_68, sr_69, su_64, su_66, su_67, su_68, su_69, srow_65, srow_68, s_ite, s_m_fx, s_m_po, s_m_fl, s_m_set, s_m_setFl, s_m_holds, s_m_far, s_m_use, s_m_useS, s_m_useH, s_m_change, s_m_at, s_m_all, s_m_dry, s_m_lost, s_m_sheep, s_m_hold, s_m_chS, s_m_abv, s_m_wt, s_m_roamS, s_m_best, s_m_roamB, s_m_roam, s_m_its]
theorem s_m_dr2 {h : Hp} {w : Int32} {x : Int32} : m_dr2 (s70 h w) x = s70 (m_dr2 h x) w := by
  unfold m_dr2
  simp only [sr_64, sr_65, sr_66, sr_67, sr_68, sr_69, su_64, su_66, su_67, su_68, su_69, srow_65, srow_68, s_ite, s_m_fx, s_m_po, s_m_fl, s_m_set, s_m_setFl, s_m_holds, s_m_far, s_m_use, s_m_useS, s_m_useH, s_m_change, s_m_at, s_m_all, s_m_dry, s_m_lost, s_m_sheep, s_m_hold, s_m_chS, s_m_abv, s_m_wt, s_m_roamS, s_m_best, s_m_roamB, s_m_roam, s_m_its, s_m_dr1]
theorem s_m_dr3 {h : Hp} {w : Int32} {x : Int32} : m_dr3 (s70 h w) x = s70 (m_dr3 h x) w := by
  unfold m_dr3
  simp only [sr_64, sr_65, sr_66, sr_67, sr_68, sr_69, su_64, su_66, su_67, su_68, su_69, srow_65, srow_68, s_ite, s_m_fx, s_m_po, s_m_fl, s_m_set, s_m_setFl, s_m_holds, s_m_far, s_m_use, s_m_useS, s_m_useH, s_m_change, s_m_at, s_m_all, s_m_dry, s_m_lost, s_m_sheep, s_m_hold, s_m_chS, s_m_abv, s_m_wt, s_m_roamS, s_m_best, s_m_roamB, s_m_roam, s_m_its, s_m_dr1, s_m_dr2]
theorem s_m_dr4 {h : Hp} {w : Int32} {x : Int32} : m_dr4 (s70 h w) x = s70 (m_dr4 h x) w := by
  unfold m_dr4
  simp only [sr_64, sr_65, sr_66, sr_67, sr_68, sr_69, su_64, su_66, su_67, su_68, su_69, srow_65, srow_68, s_ite, s_m_fx, s_m_po, s_m_fl, s_m_set, s_m_setFl, s_m_holds, s_m_far, s_m_use, s_m_useS, s_m_useH, s_m_change, s_m_at, s_m_all, s_m_dry, s_m_lost, s_m_sheep, s_m_hold, s_m_chS, s_m_abv, s_m_wt, s_m_roamS, s_m_best, s_m_roamB, s_m_roam, s_m_its, s_m_dr1, s_m_dr2, s_m_dr3]
theorem s_m_drink {h : Hp} {w : Int32} {n : Nat} {x : Int32} : m_drink (s70 h w) n x = s70 (m_drink h n x) w := by
  unfold m_drink
  simp only [sr_64, sr_65, sr_66, sr_67, sr_68, sr_69, su_64, su_66, su_67, su_68, su_69, srow_65, srow_68, s_ite, s_m_fx, s_m_po, s_m_fl, s_m_set, s_m_setFl, s_m_holds, s_m_far, s_m_use, s_m_useS, s_m_useH, s_m_change, s_m_at, s_m_all, s_m_dry, s_m_lost, s_m_sheep, s_m_hold, s_m_chS, s_m_abv, s_m_wt, s_m_roamS, s_m_best, s_m_roamB, s_m_roam, s_m_its, s_m_dr1, s_m_dr2, s_m_dr3, s_m_dr4]
theorem s_m_drinkU {h : Hp} {w : Int32} {n : Nat} {x : Int32} : m_drinkU (s70 h w) n x = m_drinkU h n x := by
  unfold m_drinkU
  simp only [sr_64, sr_65, sr_66, sr_67, sr_68, sr_69, su_64, su_66, su_67, su_68, su_69, srow_65, srow_68, s_ite, s_m_fx, s_m_po, s_m_fl, s_m_set, s_m_setFl, s_m_holds, s_m_far, s_m_use, s_m_useS, s_m_useH, s_m_change, s_m_at, s_m_all, s_m_dry, s_m_lost, s_m_sheep, s_m_hold, s_m_chS, s_m_abv, s_m_wt, s_m_roamS, s_m_best, s_m_roamB, s_m_roam, s_m_its, s_m_dr1, s_m_dr2, s_m_dr3, s_m_dr4, s_m_drink]
theorem s_m_flock {h : Hp} {w : Int32} {n j : Nat} : m_flock n (s70 h w) j = s70 (m_flock n h j) w := by
  unfold m_flock
  simp only [sr_64, sr_65, sr_66, sr_67, sr_68, sr_69, su_64, su_66, su_67, su_68, su_69, srow_65, srow_68, s_ite, s_m_fx, s_m_po, s_m_fl, s_m_set, s_m_setFl, s_m_holds, s_m_far, s_m_use, s_m_useS, s_m_useH, s_m_change, s_m_at, s_m_all, s_m_dry, s_m_lost, s_m_sheep, s_m_hold, s_m_chS, s_m_abv, s_m_wt, s_m_roamS, s_m_best, s_m_roamB, s_m_roam, s_m_its, s_m_dr1, s_m_dr2, s_m_dr3, s_m_dr4, s_m_drink, s_m_drinkU]
theorem s_m_flockU {h : Hp} {w : Int32} {n j : Nat} {u : Int32} : m_flockU n (s70 h w) j u = m_flockU n h j u := by
  unfold m_flockU
  simp only [sr_64, sr_65, sr_66, sr_67, sr_68, sr_69, su_64, su_66, su_67, su_68, su_69, srow_65, srow_68, s_ite, s_m_fx, s_m_po, s_m_fl, s_m_set, s_m_setFl, s_m_holds, s_m_far, s_m_use, s_m_useS, s_m_useH, s_m_change, s_m_at, s_m_all, s_m_dry, s_m_lost, s_m_sheep, s_m_hold, s_m_chS, s_m_abv, s_m_wt, s_m_roamS, s_m_best, s_m_roamB, s_m_roam, s_m_its, s_m_dr1, s_m_dr2, s_m_dr3, s_m_dr4, s_m_drink, s_m_drinkU, s_m_flock]
theorem s_m_drunk {h : Hp} {w : Int32} {n k : Nat} : m_drunk n (s70 h w) k = m_drunk n h k := fd_ext rfl (fun u j => by rw [sfd (fun _ _ => s_m_flock), s_m_flockU]) k
theorem s_m_more {h : Hp} {w : Int32} {j : Nat} : m_more (s70 h w) j = m_more h j := by
  unfold m_more
  simp only [sr_64, sr_65, sr_66, sr_67, sr_68, sr_69, su_64, su_66, su_67, su_68, su_69, srow_65, srow_68, s_ite, s_m_fx, s_m_po, s_m_fl, s_m_set, s_m_setFl, s_m_holds, s_m_far, s_m_use, s_m_useS, s_m_useH, s_m_change, s_m_at, s_m_all, s_m_dry, s_m_lost, s_m_sheep, s_m_hold, s_m_chS, s_m_abv, s_m_wt, s_m_roamS, s_m_best, s_m_roamB, s_m_roam, s_m_its, s_m_dr1, s_m_dr2, s_m_dr3, s_m_dr4, s_m_drink, s_m_drinkU, s_m_flock, s_m_flockU, s_m_drunk]
theorem s_m_ro2 {h : Hp} {w : Int32} {j : Nat} : m_ro2 (s70 h w) j = s70 (m_ro2 h j) w := by
  unfold m_ro2
  simp only [sr_64, sr_65, sr_66, sr_67, sr_68, sr_69, su_64, su_66, su_67, su_68, su_69, srow_65, srow_68, s_ite, s_m_fx, s_m_po, s_m_fl, s_m_set, s_m_setFl, s_m_holds, s_m_far, s_m_use, s_m_useS, s_m_useH, s_m_change, s_m_at, s_m_all, s_m_dry, s_m_lost, s_m_sheep, s_m_hold, s_m_chS, s_m_abv, s_m_wt, s_m_roamS, s_m_best, s_m_roamB, s_m_roam, s_m_its, s_m_dr1, s_m_dr2, s_m_dr3, s_m_dr4, s_m_drink, s_m_drinkU, s_m_flock, s_m_flockU, s_m_drunk, s_m_more]
theorem s_m_ro1 {h : Hp} {w : Int32} {ht : Int32} {j : Nat} : m_ro1 ht (s70 h w) j = s70 (m_ro1 ht h j) w := by
  unfold m_ro1
  simp only [sr_64, sr_65, sr_66, sr_67, sr_68, sr_69, su_64, su_66, su_67, su_68, su_69, srow_65, srow_68, s_ite, s_m_fx, s_m_po, s_m_fl, s_m_set, s_m_setFl, s_m_holds, s_m_far, s_m_use, s_m_useS, s_m_useH, s_m_change, s_m_at, s_m_all, s_m_dry, s_m_lost, s_m_sheep, s_m_hold, s_m_chS, s_m_abv, s_m_wt, s_m_roamS, s_m_best, s_m_roamB, s_m_roam, s_m_its, s_m_dr1, s_m_dr2, s_m_dr3, s_m_dr4, s_m_drink, s_m_drinkU, s_m_flock, s_m_flockU, s_m_drunk, s_m_more, s_m_ro2]
theorem s_m_roH {h : Hp} {w : Int32} {n : Nat} {ht : Int32} : m_roH n ht (s70 h w) = s70 (m_roH n ht h) w := sfd (fun _ _ => s_m_ro1) n
theorem s_m_roK {h : Hp} {w : Int32} {n : Nat} {k : Nat} : m_roK n k (s70 h w) = s70 (m_roK n k h) w := by
  induction k generalizing h with
  | zero => rfl
  | succ k ih =>
    show m_roK n k (m_roH n (nI k) (s70 h w)) = s70 (m_roK n k (m_roH n (nI k) h)) w
    rw [s_m_roH, ih]
theorem s_m_by1 {h : Hp} {w : Int32} {i j : Nat} : m_by1 (s70 h w) i j = m_by1 h i j := by
  unfold m_by1
  simp only [sr_64, sr_65, sr_66, sr_67, sr_68, sr_69, su_64, su_66, su_67, su_68, su_69, srow_65, srow_68, s_ite, s_m_fx, s_m_po, s_m_fl, s_m_set, s_m_setFl, s_m_holds, s_m_far, s_m_use, s_m_useS, s_m_useH, s_m_change, s_m_at, s_m_all, s_m_dry, s_m_lost, s_m_sheep, s_m_hold, s_m_chS, s_m_abv, s_m_wt, s_m_roamS, s_m_best, s_m_roamB, s_m_roam, s_m_its, s_m_dr1, s_m_dr2, s_m_dr3, s_m_dr4, s_m_drink, s_m_drinkU, s_m_flock, s_m_flockU, s_m_drunk, s_m_more, s_m_ro2, s_m_ro1, s_m_roH, s_m_roK]
theorem s_m_d1 {h : Hp} {w : Int32} {i j : Nat} : m_d1 i (s70 h w) j = s70 (m_d1 i h j) w := by
  unfold m_d1
  simp only [sr_64, sr_65, sr_66, sr_67, sr_68, sr_69, su_64, su_66, su_67, su_68, su_69, srow_65, srow_68, s_ite, s_m_fx, s_m_po, s_m_fl, s_m_set, s_m_setFl, s_m_holds, s_m_far, s_m_use, s_m_useS, s_m_useH, s_m_change, s_m_at, s_m_all, s_m_dry, s_m_lost, s_m_sheep, s_m_hold, s_m_chS, s_m_abv, s_m_wt, s_m_roamS, s_m_best, s_m_roamB, s_m_roam, s_m_its, s_m_dr1, s_m_dr2, s_m_dr3, s_m_dr4, s_m_drink, s_m_drinkU, s_m_flock, s_m_flockU, s_m_drunk, s_m_more, s_m_ro2, s_m_ro1, s_m_roH, s_m_roK, s_m_by1]
theorem s_m_by3 {h : Hp} {w : Int32} {i j : Nat} : m_by3 (s70 h w) i j = m_by3 h i j := by
  unfold m_by3
  simp only [sr_64, sr_65, sr_66, sr_67, sr_68, sr_69, su_64, su_66, su_67, su_68, su_69, srow_65, srow_68, s_ite, s_m_fx, s_m_po, s_m_fl, s_m_set, s_m_setFl, s_m_holds, s_m_far, s_m_use, s_m_useS, s_m_useH, s_m_change, s_m_at, s_m_all, s_m_dry, s_m_lost, s_m_sheep, s_m_hold, s_m_chS, s_m_abv, s_m_wt, s_m_roamS, s_m_best, s_m_roamB, s_m_roam, s_m_its, s_m_dr1, s_m_dr2, s_m_dr3, s_m_dr4, s_m_drink, s_m_drinkU, s_m_flock, s_m_flockU, s_m_drunk, s_m_more, s_m_ro2, s_m_ro1, s_m_roH, s_m_roK, s_m_by1, s_m_d1]
theorem s_m_d3 {h : Hp} {w : Int32} {i j : Nat} : m_d3 i (s70 h w) j = s70 (m_d3 i h j) w := by
  unfold m_d3
  simp only [sr_64, sr_65, sr_66, sr_67, sr_68, sr_69, su_64, su_66, su_67, su_68, su_69, srow_65, srow_68, s_ite, s_m_fx, s_m_po, s_m_fl, s_m_set, s_m_setFl, s_m_holds, s_m_far, s_m_use, s_m_useS, s_m_useH, s_m_change, s_m_at, s_m_all, s_m_dry, s_m_lost, s_m_sheep, s_m_hold, s_m_chS, s_m_abv, s_m_wt, s_m_roamS, s_m_best, s_m_roamB, s_m_roam, s_m_its, s_m_dr1, s_m_dr2, s_m_dr3, s_m_dr4, s_m_drink, s_m_drinkU, s_m_flock, s_m_flockU, s_m_drunk, s_m_more, s_m_ro2, s_m_ro1, s_m_roH, s_m_roK, s_m_by1, s_m_d1, s_m_by3]
theorem s_m_rot {h : Hp} {w : Int32} {j : Nat} : m_rot (s70 h w) j = s70 (m_rot h j) w := by
  unfold m_rot
  simp only [sr_64, sr_65, sr_66, sr_67, sr_68, sr_69, su_64, su_66, su_67, su_68, su_69, srow_65, srow_68, s_ite, s_m_fx, s_m_po, s_m_fl, s_m_set, s_m_setFl, s_m_holds, s_m_far, s_m_use, s_m_useS, s_m_useH, s_m_change, s_m_at, s_m_all, s_m_dry, s_m_lost, s_m_sheep, s_m_hold, s_m_chS, s_m_abv, s_m_wt, s_m_roamS, s_m_best, s_m_roamB, s_m_roam, s_m_its, s_m_dr1, s_m_dr2, s_m_dr3, s_m_dr4, s_m_drink, s_m_drinkU, s_m_flock, s_m_flockU, s_m_drunk, s_m_more, s_m_ro2, s_m_ro1, s_m_roH, s_m_roK, s_m_by1, s_m_d1, s_m_by3, s_m_d3]
theorem s_m_h1 {h : Hp} {w : Int32} {n i : Nat} : m_h1 n i (s70 h w) = s70 (m_h1 n i h) w := sfd (fun _ _ => s_m_d1) n
theorem s_m_h3 {h : Hp} {w : Int32} {n f i : Nat} : m_h3 n f i (s70 h w) = s70 (m_h3 n f i h) w := by
  unfold m_h3
  rw [s_m_h1, sfd (fun _ _ => s_m_flock), sfd (fun _ _ => s_m_d3)]
theorem s_m_h4 {h : Hp} {w : Int32} {n f i : Nat} : m_h4 n f i (s70 h w) = s70 (m_h4 n f i h) w := by
  unfold m_h4
  rw [s_m_h3, s_m_roK]
theorem s_m_h5 {h : Hp} {w : Int32} {n f i : Nat} : m_h5 n f i (s70 h w) = s70 (m_h5 n f i h) w := by
  unfold m_h5
  rw [s_m_h4, sfd (fun _ _ => s_m_rot), s_ite]
theorem s_m_day {h : Hp} {w : Int32} {n f t : Nat} : m_day n f t (s70 h w) = s70 (m_day n f t h) w := by
  unfold m_day
  simp only [sr_64, sr_65, sr_66, sr_67, sr_68, sr_69, su_64, su_66, su_67, su_68, su_69, srow_65, srow_68, s_ite, s_m_fx, s_m_po, s_m_fl, s_m_set, s_m_setFl, s_m_holds, s_m_far, s_m_use, s_m_useS, s_m_useH, s_m_change, s_m_at, s_m_all, s_m_dry, s_m_lost, s_m_sheep, s_m_hold, s_m_chS, s_m_abv, s_m_wt, s_m_roamS, s_m_best, s_m_roamB, s_m_roam, s_m_its, s_m_dr1, s_m_dr2, s_m_dr3, s_m_dr4, s_m_drink, s_m_drinkU, s_m_flock, s_m_flockU, s_m_drunk, s_m_more, s_m_ro2, s_m_ro1, s_m_roH, s_m_roK, s_m_by1, s_m_d1, s_m_by3, s_m_d3, s_m_rot, s_m_h1, s_m_h3, s_m_h4, s_m_h5]
theorem s_m_dayU {h : Hp} {w : Int32} {n f t : Nat} : m_dayU n f t (s70 h w) = m_dayU n f t h := by
  unfold m_dayU
  simp only [sr_64, sr_65, sr_66, sr_67, sr_68, sr_69, su_64, su_66, su_67, su_68, su_69, srow_65, srow_68, s_ite, s_m_fx, s_m_po, s_m_fl, s_m_set, s_m_setFl, s_m_holds, s_m_far, s_m_use, s_m_useS, s_m_useH, s_m_change, s_m_at, s_m_all, s_m_dry, s_m_lost, s_m_sheep, s_m_hold, s_m_chS, s_m_abv, s_m_wt, s_m_roamS, s_m_best, s_m_roamB, s_m_roam, s_m_its, s_m_dr1, s_m_dr2, s_m_dr3, s_m_dr4, s_m_drink, s_m_drinkU, s_m_flock, s_m_flockU, s_m_drunk, s_m_more, s_m_ro2, s_m_ro1, s_m_roH, s_m_roK, s_m_by1, s_m_d1, s_m_by3, s_m_d3, s_m_rot, s_m_h1, s_m_h3, s_m_h4, s_m_h5, s_m_day]
theorem s_m_days {h : Hp} {w : Int32} {n f t k : Nat} : m_days n f t (s70 h w) k = s70 (m_days n f t h k) w := by
  unfold m_days
  exact sfd (fun _ _ => s_m_day) k
theorem s_m_daysU {h : Hp} {w : Int32} {n f t k : Nat} : m_daysU n f t (s70 h w) k = m_daysU n f t h k := by
  unfold m_daysU
  exact fd_ext rfl (fun u i => by rw [s_m_days, s_m_dayU]) k
theorem s_y0 {h : Hp} {w : Int32}  : y0 (s70 h w) = s70 (y0 h) w := by
  unfold y0
  simp only [sr_64, sr_65, sr_66, sr_67, sr_68, sr_69, su_64, su_66, su_67, su_68, su_69, srow_65, srow_68, s_ite, s_m_fx, s_m_po, s_m_fl, s_m_set, s_m_setFl, s_m_holds, s_m_far, s_m_use, s_m_useS, s_m_useH, s_m_change, s_m_at, s_m_all, s_m_dry, s_m_lost, s_m_sheep, s_m_hold, s_m_chS, s_m_abv, s_m_wt, s_m_roamS, s_m_best, s_m_roamB, s_m_roam, s_m_its, s_m_dr1, s_m_dr2, s_m_dr3, s_m_dr4, s_m_drink, s_m_drinkU, s_m_flock, s_m_flockU, s_m_drunk, s_m_more, s_m_ro2, s_m_ro1, s_m_roH, s_m_roK, s_m_by1, s_m_d1, s_m_by3, s_m_d3, s_m_rot, s_m_h1, s_m_h3, s_m_h4, s_m_h5, s_m_day, s_m_dayU, s_m_days, s_m_daysU]
theorem s_yF {h : Hp} {w : Int32} {k : Int32} : yF (s70 h w) k = ((yF h k).1, s70 (yF h k).2 w) := by
  unfold yF
  simp only [s_y0, su_64]
theorem s_y_link {h : Hp} {w : Int32} {p q : Int32} : y_link (s70 h w) p q = ((y_link h p q).1, s70 (y_link h p q).2 w) := by
  unfold y_link
  simp only [sr_64, sr_65, sr_66, sr_67, sr_68, sr_69, su_64, su_66, su_67, su_68, su_69, srow_65, srow_68, s_ite, s_m_fx, s_m_po, s_m_fl, s_m_set, s_m_setFl, s_m_holds, s_m_far, s_m_use, s_m_useS, s_m_useH, s_m_change, s_m_at, s_m_all, s_m_dry, s_m_lost, s_m_sheep, s_m_hold, s_m_chS, s_m_abv, s_m_wt, s_m_roamS, s_m_best, s_m_roamB, s_m_roam, s_m_its, s_m_dr1, s_m_dr2, s_m_dr3, s_m_dr4, s_m_drink, s_m_drinkU, s_m_flock, s_m_flockU, s_m_drunk, s_m_more, s_m_ro2, s_m_ro1, s_m_roH, s_m_roK, s_m_by1, s_m_d1, s_m_by3, s_m_d3, s_m_rot, s_m_h1, s_m_h3, s_m_h4, s_m_h5, s_m_day, s_m_dayU, s_m_days, s_m_daysU, s_y0, s_yF, s_y0]
  repeat' split
  all_goals rfl
theorem s_y_puddle {h : Hp} {w : Int32} {p q : Int32} : y_puddle (s70 h w) p q = ((y_puddle h p q).1, s70 (y_puddle h p q).2 w) := by
  unfold y_puddle
  simp only [sr_64, sr_65, sr_66, sr_67, sr_68, sr_69, su_64, su_66, su_67, su_68, su_69, srow_65, srow_68, s_ite, s_m_fx, s_m_po, s_m_fl, s_m_set, s_m_setFl, s_m_holds, s_m_far, s_m_use, s_m_useS, s_m_useH, s_m_change, s_m_at, s_m_all, s_m_dry, s_m_lost, s_m_sheep, s_m_hold, s_m_chS, s_m_abv, s_m_wt, s_m_roamS, s_m_best, s_m_roamB, s_m_roam, s_m_its, s_m_dr1, s_m_dr2, s_m_dr3, s_m_dr4, s_m_drink, s_m_drinkU, s_m_flock, s_m_flockU, s_m_drunk, s_m_more, s_m_ro2, s_m_ro1, s_m_roH, s_m_roK, s_m_by1, s_m_d1, s_m_by3, s_m_d3, s_m_rot, s_m_h1, s_m_h3, s_m_h4, s_m_h5, s_m_day, s_m_dayU, s_m_days, s_m_daysU, s_y0, s_yF, s_y0, s_y_link]
  repeat' split
  all_goals rfl
theorem s_y_strew {h : Hp} {w : Int32} {p q : Int32} : y_strew (s70 h w) p q = ((y_strew h p q).1, s70 (y_strew h p q).2 w) := by
  unfold y_strew
  simp only [sr_64, sr_65, sr_66, sr_67, sr_68, sr_69, su_64, su_66, su_67, su_68, su_69, srow_65, srow_68, s_ite, s_m_fx, s_m_po, s_m_fl, s_m_set, s_m_setFl, s_m_holds, s_m_far, s_m_use, s_m_useS, s_m_useH, s_m_change, s_m_at, s_m_all, s_m_dry, s_m_lost, s_m_sheep, s_m_hold, s_m_chS, s_m_abv, s_m_wt, s_m_roamS, s_m_best, s_m_roamB, s_m_roam, s_m_its, s_m_dr1, s_m_dr2, s_m_dr3, s_m_dr4, s_m_drink, s_m_drinkU, s_m_flock, s_m_flockU, s_m_drunk, s_m_more, s_m_ro2, s_m_ro1, s_m_roH, s_m_roK, s_m_by1, s_m_d1, s_m_by3, s_m_d3, s_m_rot, s_m_h1, s_m_h3, s_m_h4, s_m_h5, s_m_day, s_m_dayU, s_m_days, s_m_daysU, s_y0, s_yF, s_y0, s_y_link, s_y_puddle]
  repeat' split
  all_goals rfl
theorem s_y_pourH {h : Hp} {w : Int32} {p q : Int32} : y_pourH (s70 h w) p q = s70 (y_pourH h p q) w := by
  unfold y_pourH
  simp only [sr_64, sr_65, sr_66, sr_67, sr_68, sr_69, su_64, su_66, su_67, su_68, su_69, srow_65, srow_68, s_ite, s_m_fx, s_m_po, s_m_fl, s_m_set, s_m_setFl, s_m_holds, s_m_far, s_m_use, s_m_useS, s_m_useH, s_m_change, s_m_at, s_m_all, s_m_dry, s_m_lost, s_m_sheep, s_m_hold, s_m_chS, s_m_abv, s_m_wt, s_m_roamS, s_m_best, s_m_roamB, s_m_roam, s_m_its, s_m_dr1, s_m_dr2, s_m_dr3, s_m_dr4, s_m_drink, s_m_drinkU, s_m_flock, s_m_flockU, s_m_drunk, s_m_more, s_m_ro2, s_m_ro1, s_m_roH, s_m_roK, s_m_by1, s_m_d1, s_m_by3, s_m_d3, s_m_rot, s_m_h1, s_m_h3, s_m_h4, s_m_h5, s_m_day, s_m_dayU, s_m_days, s_m_daysU, s_y0, s_yF, s_y0, s_y_link, s_y_puddle, s_y_strew]
theorem s_y_pour {h : Hp} {w : Int32} {p q : Int32} : y_pour (s70 h w) p q = ((y_pour h p q).1, s70 (y_pour h p q).2 w) := by
  unfold y_pour
  simp only [sr_64, sr_65, sr_66, sr_67, sr_68, sr_69, su_64, su_66, su_67, su_68, su_69, srow_65, srow_68, s_ite, s_m_fx, s_m_po, s_m_fl, s_m_set, s_m_setFl, s_m_holds, s_m_far, s_m_use, s_m_useS, s_m_useH, s_m_change, s_m_at, s_m_all, s_m_dry, s_m_lost, s_m_sheep, s_m_hold, s_m_chS, s_m_abv, s_m_wt, s_m_roamS, s_m_best, s_m_roamB, s_m_roam, s_m_its, s_m_dr1, s_m_dr2, s_m_dr3, s_m_dr4, s_m_drink, s_m_drinkU, s_m_flock, s_m_flockU, s_m_drunk, s_m_more, s_m_ro2, s_m_ro1, s_m_roH, s_m_roK, s_m_by1, s_m_d1, s_m_by3, s_m_d3, s_m_rot, s_m_h1, s_m_h3, s_m_h4, s_m_h5, s_m_day, s_m_dayU, s_m_days, s_m_daysU, s_y0, s_yF, s_y0, s_y_link, s_y_puddle, s_y_strew, s_y_pourH]
  repeat' split
  all_goals rfl
theorem s_y_setWH {h : Hp} {w : Int32} {j : Nat} {a b d : Int32} : y_setWH (s70 h w) j a b d = s70 (y_setWH h j a b d) w := by
  unfold y_setWH
  simp only [sr_64, sr_65, sr_66, sr_67, sr_68, sr_69, su_64, su_66, su_67, su_68, su_69, srow_65, srow_68, s_ite, s_m_fx, s_m_po, s_m_fl, s_m_set, s_m_setFl, s_m_holds, s_m_far, s_m_use, s_m_useS, s_m_useH, s_m_change, s_m_at, s_m_all, s_m_dry, s_m_lost, s_m_sheep, s_m_hold, s_m_chS, s_m_abv, s_m_wt, s_m_roamS, s_m_best, s_m_roamB, s_m_roam, s_m_its, s_m_dr1, s_m_dr2, s_m_dr3, s_m_dr4, s_m_drink, s_m_drinkU, s_m_flock, s_m_flockU, s_m_drunk, s_m_more, s_m_ro2, s_m_ro1, s_m_roH, s_m_roK, s_m_by1, s_m_d1, s_m_by3, s_m_d3, s_m_rot, s_m_h1, s_m_h3, s_m_h4, s_m_h5, s_m_day, s_m_dayU, s_m_days, s_m_daysU, s_y0, s_yF, s_y0, s_y_link, s_y_puddle, s_y_strew, s_y_pourH, s_y_pour]
theorem s_y_setW {h : Hp} {w : Int32} {x a b d : Int32} : y_setW (s70 h w) x a b d = ((y_setW h x a b d).1, s70 (y_setW h x a b d).2 w) := by
  unfold y_setW
  simp only [sr_64, sr_65, sr_66, sr_67, sr_68, sr_69, su_64, su_66, su_67, su_68, su_69, srow_65, srow_68, s_ite, s_m_fx, s_m_po, s_m_fl, s_m_set, s_m_setFl, s_m_holds, s_m_far, s_m_use, s_m_useS, s_m_useH, s_m_change, s_m_at, s_m_all, s_m_dry, s_m_lost, s_m_sheep, s_m_hold, s_m_chS, s_m_abv, s_m_wt, s_m_roamS, s_m_best, s_m_roamB, s_m_roam, s_m_its, s_m_dr1, s_m_dr2, s_m_dr3, s_m_dr4, s_m_drink, s_m_drinkU, s_m_flock, s_m_flockU, s_m_drunk, s_m_more, s_m_ro2, s_m_ro1, s_m_roH, s_m_roK, s_m_by1, s_m_d1, s_m_by3, s_m_d3, s_m_rot, s_m_h1, s_m_h3, s_m_h4, s_m_h5, s_m_day, s_m_dayU, s_m_days, s_m_daysU, s_y0, s_yF, s_y0, s_y_link, s_y_puddle, s_y_strew, s_y_pourH, s_y_pour, s_y_setWH]
  repeat' split
  all_goals rfl
theorem s_y_bring {h : Hp} {w : Int32} {p : Int32} : y_bring (s70 h w) p = ((y_bring h p).1, s70 (y_bring h p).2 w) := by
  unfold y_bring
  simp only [sr_64, sr_65, sr_66, sr_67, sr_68, sr_69, su_64, su_66, su_67, su_68, su_69, srow_65, srow_68, s_ite, s_m_fx, s_m_po, s_m_fl, s_m_set, s_m_setFl, s_m_holds, s_m_far, s_m_use, s_m_useS, s_m_useH, s_m_change, s_m_at, s_m_all, s_m_dry, s_m_lost, s_m_sheep, s_m_hold, s_m_chS, s_m_abv, s_m_wt, s_m_roamS, s_m_best, s_m_roamB, s_m_roam, s_m_its, s_m_dr1, s_m_dr2, s_m_dr3, s_m_dr4, s_m_drink, s_m_drinkU, s_m_flock, s_m_flockU, s_m_drunk, s_m_more, s_m_ro2, s_m_ro1, s_m_roH, s_m_roK, s_m_by1, s_m_d1, s_m_by3, s_m_d3, s_m_rot, s_m_h1, s_m_h3, s_m_h4, s_m_h5, s_m_day, s_m_dayU, s_m_days, s_m_daysU, s_y0, s_yF, s_y0, s_y_link, s_y_puddle, s_y_strew, s_y_pourH, s_y_pour, s_y_setWH, s_y_setW]
  repeat' split
  all_goals rfl
theorem s_y_drive {h : Hp} {w : Int32} {p q : Int32} : y_drive (s70 h w) p q = ((y_drive h p q).1, s70 (y_drive h p q).2 w) := by
  unfold y_drive
  simp only [sr_64, sr_65, sr_66, sr_67, sr_68, sr_69, su_64, su_66, su_67, su_68, su_69, srow_65, srow_68, s_ite, s_m_fx, s_m_po, s_m_fl, s_m_set, s_m_setFl, s_m_holds, s_m_far, s_m_use, s_m_useS, s_m_useH, s_m_change, s_m_at, s_m_all, s_m_dry, s_m_lost, s_m_sheep, s_m_hold, s_m_chS, s_m_abv, s_m_wt, s_m_roamS, s_m_best, s_m_roamB, s_m_roam, s_m_its, s_m_dr1, s_m_dr2, s_m_dr3, s_m_dr4, s_m_drink, s_m_drinkU, s_m_flock, s_m_flockU, s_m_drunk, s_m_more, s_m_ro2, s_m_ro1, s_m_roH, s_m_roK, s_m_by1, s_m_d1, s_m_by3, s_m_d3, s_m_rot, s_m_h1, s_m_h3, s_m_h4, s_m_h5, s_m_day, s_m_dayU, s_m_days, s_m_daysU, s_y0, s_yF, s_y0, s_y_link, s_y_puddle, s_y_strew, s_y_pourH, s_y_pour, s_y_setWH, s_y_setW, s_y_bring]
  repeat' split
  all_goals rfl
theorem s_y_setRoams {h : Hp} {w : Int32} {p q : Int32} : y_setRoams (s70 h w) p q = ((y_setRoams h p q).1, s70 (y_setRoams h p q).2 w) := by
  unfold y_setRoams
  simp only [sr_64, sr_65, sr_66, sr_67, sr_68, sr_69, su_64, su_66, su_67, su_68, su_69, srow_65, srow_68, s_ite, s_m_fx, s_m_po, s_m_fl, s_m_set, s_m_setFl, s_m_holds, s_m_far, s_m_use, s_m_useS, s_m_useH, s_m_change, s_m_at, s_m_all, s_m_dry, s_m_lost, s_m_sheep, s_m_hold, s_m_chS, s_m_abv, s_m_wt, s_m_roamS, s_m_best, s_m_roamB, s_m_roam, s_m_its, s_m_dr1, s_m_dr2, s_m_dr3, s_m_dr4, s_m_drink, s_m_drinkU, s_m_flock, s_m_flockU, s_m_drunk, s_m_more, s_m_ro2, s_m_ro1, s_m_roH, s_m_roK, s_m_by1, s_m_d1, s_m_by3, s_m_d3, s_m_rot, s_m_h1, s_m_h3, s_m_h4, s_m_h5, s_m_day, s_m_dayU, s_m_days, s_m_daysU, s_y0, s_yF, s_y0, s_y_link, s_y_puddle, s_y_strew, s_y_pourH, s_y_pour, s_y_setWH, s_y_setW, s_y_bring, s_y_drive]
  repeat' split
  all_goals rfl
theorem s_y_pass {h : Hp} {w : Int32} {n f t : Nat} {k : Int32} : y_pass n f t (s70 h w) k = ((y_pass n f t h k).1, s70 (y_pass n f t h k).2 w) := by
  unfold y_pass
  simp only [sr_64, sr_65, sr_66, sr_67, sr_68, sr_69, su_64, su_66, su_67, su_68, su_69, srow_65, srow_68, s_ite, s_m_fx, s_m_po, s_m_fl, s_m_set, s_m_setFl, s_m_holds, s_m_far, s_m_use, s_m_useS, s_m_useH, s_m_change, s_m_at, s_m_all, s_m_dry, s_m_lost, s_m_sheep, s_m_hold, s_m_chS, s_m_abv, s_m_wt, s_m_roamS, s_m_best, s_m_roamB, s_m_roam, s_m_its, s_m_dr1, s_m_dr2, s_m_dr3, s_m_dr4, s_m_drink, s_m_drinkU, s_m_flock, s_m_flockU, s_m_drunk, s_m_more, s_m_ro2, s_m_ro1, s_m_roH, s_m_roK, s_m_by1, s_m_d1, s_m_by3, s_m_d3, s_m_rot, s_m_h1, s_m_h3, s_m_h4, s_m_h5, s_m_day, s_m_dayU, s_m_days, s_m_daysU, s_y0, s_yF, s_y0, s_y_link, s_y_puddle, s_y_strew, s_y_pourH, s_y_pour, s_y_setWH, s_y_setW, s_y_bring, s_y_drive, s_y_setRoams]
  repeat' split
  all_goals rfl
theorem s_m_pondV {h : Hp} {w : Int32} {n f k : Nat} {x : Int32} : m_pondV n f (s70 h w) x k = m_pondV n f h x k := by
  unfold m_pondV
  split
  all_goals simp only [sr_64, sr_65, sr_66, sr_67, sr_68, sr_69, su_64, su_66, su_67, su_68, su_69, srow_65, srow_68, s_ite, s_m_fx, s_m_po, s_m_fl, s_m_set, s_m_setFl, s_m_holds, s_m_far, s_m_use, s_m_useS, s_m_useH, s_m_change, s_m_at, s_m_all, s_m_dry, s_m_lost, s_m_sheep, s_m_hold, s_m_chS, s_m_abv, s_m_wt, s_m_roamS, s_m_best, s_m_roamB, s_m_roam, s_m_its, s_m_dr1, s_m_dr2, s_m_dr3, s_m_dr4, s_m_drink, s_m_drinkU, s_m_flock, s_m_flockU, s_m_drunk, s_m_more, s_m_ro2, s_m_ro1, s_m_roH, s_m_roK, s_m_by1, s_m_d1, s_m_by3, s_m_d3, s_m_rot, s_m_h1, s_m_h3, s_m_h4, s_m_h5, s_m_day, s_m_dayU, s_m_days, s_m_daysU, s_y0, s_yF, s_y0, s_y_link, s_y_puddle, s_y_strew, s_y_pourH, s_y_pour, s_y_setWH, s_y_setW, s_y_bring, s_y_drive, s_y_setRoams, s_y_pass]
theorem s_m_flV {h : Hp} {w : Int32} {k : Nat} {x : Int32} : m_flV (s70 h w) x k = m_flV h x k := by
  unfold m_flV
  split
  all_goals simp only [sr_64, sr_65, sr_66, sr_67, sr_68, sr_69, su_64, su_66, su_67, su_68, su_69, srow_65, srow_68, s_ite, s_m_fx, s_m_po, s_m_fl, s_m_set, s_m_setFl, s_m_holds, s_m_far, s_m_use, s_m_useS, s_m_useH, s_m_change, s_m_at, s_m_all, s_m_dry, s_m_lost, s_m_sheep, s_m_hold, s_m_chS, s_m_abv, s_m_wt, s_m_roamS, s_m_best, s_m_roamB, s_m_roam, s_m_its, s_m_dr1, s_m_dr2, s_m_dr3, s_m_dr4, s_m_drink, s_m_drinkU, s_m_flock, s_m_flockU, s_m_drunk, s_m_more, s_m_ro2, s_m_ro1, s_m_roH, s_m_roK, s_m_by1, s_m_d1, s_m_by3, s_m_d3, s_m_rot, s_m_h1, s_m_h3, s_m_h4, s_m_h5, s_m_day, s_m_dayU, s_m_days, s_m_daysU, s_y0, s_yF, s_y0, s_y_link, s_y_puddle, s_y_strew, s_y_pourH, s_y_pour, s_y_setWH, s_y_setW, s_y_bring, s_y_drive, s_y_setRoams, s_y_pass, s_m_pondV]
theorem s_m_cnV {h : Hp} {w : Int32} {n f k : Nat} : m_cnV n f (s70 h w) k = m_cnV n f h k := by
  unfold m_cnV
  split
  all_goals simp only [sr_64, sr_65, sr_66, sr_67, sr_68, sr_69, su_64, su_66, su_67, su_68, su_69, srow_65, srow_68, s_ite, s_m_fx, s_m_po, s_m_fl, s_m_set, s_m_setFl, s_m_holds, s_m_far, s_m_use, s_m_useS, s_m_useH, s_m_change, s_m_at, s_m_all, s_m_dry, s_m_lost, s_m_sheep, s_m_hold, s_m_chS, s_m_abv, s_m_wt, s_m_roamS, s_m_best, s_m_roamB, s_m_roam, s_m_its, s_m_dr1, s_m_dr2, s_m_dr3, s_m_dr4, s_m_drink, s_m_drinkU, s_m_flock, s_m_flockU, s_m_drunk, s_m_more, s_m_ro2, s_m_ro1, s_m_roH, s_m_roK, s_m_by1, s_m_d1, s_m_by3, s_m_d3, s_m_rot, s_m_h1, s_m_h3, s_m_h4, s_m_h5, s_m_day, s_m_dayU, s_m_days, s_m_daysU, s_y0, s_yF, s_y0, s_y_link, s_y_puddle, s_y_strew, s_y_pourH, s_y_pour, s_y_setWH, s_y_setW, s_y_bring, s_y_drive, s_y_setRoams, s_y_pass, s_m_pondV, s_m_flV]
theorem s_y_pond {h : Hp} {w : Int32} {n f : Nat} {p q : Int32} : y_pond n f (s70 h w) p q = ((y_pond n f h p q).1, s70 (y_pond n f h p q).2 w) := by
  unfold y_pond
  simp only [sr_64, sr_65, sr_66, sr_67, sr_68, sr_69, su_64, su_66, su_67, su_68, su_69, srow_65, srow_68, s_ite, s_m_fx, s_m_po, s_m_fl, s_m_set, s_m_setFl, s_m_holds, s_m_far, s_m_use, s_m_useS, s_m_useH, s_m_change, s_m_at, s_m_all, s_m_dry, s_m_lost, s_m_sheep, s_m_hold, s_m_chS, s_m_abv, s_m_wt, s_m_roamS, s_m_best, s_m_roamB, s_m_roam, s_m_its, s_m_dr1, s_m_dr2, s_m_dr3, s_m_dr4, s_m_drink, s_m_drinkU, s_m_flock, s_m_flockU, s_m_drunk, s_m_more, s_m_ro2, s_m_ro1, s_m_roH, s_m_roK, s_m_by1, s_m_d1, s_m_by3, s_m_d3, s_m_rot, s_m_h1, s_m_h3, s_m_h4, s_m_h5, s_m_day, s_m_dayU, s_m_days, s_m_daysU, s_y0, s_yF, s_y0, s_y_link, s_y_puddle, s_y_strew, s_y_pourH, s_y_pour, s_y_setWH, s_y_setW, s_y_bring, s_y_drive, s_y_setRoams, s_y_pass, s_m_pondV, s_m_flV, s_m_cnV]
  repeat' split
  all_goals rfl
theorem s_y_flock {h : Hp} {w : Int32} {p q : Int32} : y_flock (s70 h w) p q = ((y_flock h p q).1, s70 (y_flock h p q).2 w) := by
  unfold y_flock
  simp only [sr_64, sr_65, sr_66, sr_67, sr_68, sr_69, su_64, su_66, su_67, su_68, su_69, srow_65, srow_68, s_ite, s_m_fx, s_m_po, s_m_fl, s_m_set, s_m_setFl, s_m_holds, s_m_far, s_m_use, s_m_useS, s_m_useH, s_m_change, s_m_at, s_m_all, s_m_dry, s_m_lost, s_m_sheep, s_m_hold, s_m_chS, s_m_abv, s_m_wt, s_m_roamS, s_m_best, s_m_roamB, s_m_roam, s_m_its, s_m_dr1, s_m_dr2, s_m_dr3, s_m_dr4, s_m_drink, s_m_drinkU, s_m_flock, s_m_flockU, s_m_drunk, s_m_more, s_m_ro2, s_m_ro1, s_m_roH, s_m_roK, s_m_by1, s_m_d1, s_m_by3, s_m_d3, s_m_rot, s_m_h1, s_m_h3, s_m_h4, s_m_h5, s_m_day, s_m_dayU, s_m_days, s_m_daysU, s_y0, s_yF, s_y0, s_y_link, s_y_puddle, s_y_strew, s_y_pourH, s_y_pour, s_y_setWH, s_y_setW, s_y_bring, s_y_drive, s_y_setRoams, s_y_pass, s_m_pondV, s_m_flV, s_m_cnV, s_y_pond]
  repeat' split
  all_goals rfl
theorem s_y_count {h : Hp} {w : Int32} {n f : Nat} {p : Int32} : y_count n f (s70 h w) p = ((y_count n f h p).1, s70 (y_count n f h p).2 w) := by
  unfold y_count
  simp only [sr_64, sr_65, sr_66, sr_67, sr_68, sr_69, su_64, su_66, su_67, su_68, su_69, srow_65, srow_68, s_ite, s_m_fx, s_m_po, s_m_fl, s_m_set, s_m_setFl, s_m_holds, s_m_far, s_m_use, s_m_useS, s_m_useH, s_m_change, s_m_at, s_m_all, s_m_dry, s_m_lost, s_m_sheep, s_m_hold, s_m_chS, s_m_abv, s_m_wt, s_m_roamS, s_m_best, s_m_roamB, s_m_roam, s_m_its, s_m_dr1, s_m_dr2, s_m_dr3, s_m_dr4, s_m_drink, s_m_drinkU, s_m_flock, s_m_flockU, s_m_drunk, s_m_more, s_m_ro2, s_m_ro1, s_m_roH, s_m_roK, s_m_by1, s_m_d1, s_m_by3, s_m_d3, s_m_rot, s_m_h1, s_m_h3, s_m_h4, s_m_h5, s_m_day, s_m_dayU, s_m_days, s_m_daysU, s_y0, s_yF, s_y0, s_y_link, s_y_puddle, s_y_strew, s_y_pourH, s_y_pour, s_y_setWH, s_y_setW, s_y_bring, s_y_drive, s_y_setRoams, s_y_pass, s_m_pondV, s_m_flV, s_m_cnV, s_y_pond, s_y_flock]
  repeat' split
  all_goals rfl
theorem s_mg_1 {h : Hp} {w : Int32} {n f k : Nat} : mg_1 n f (s70 h w) k = mg_1 n f h k := fd_ext rfl (fun s k => by rw [s_m_cnV]) k
theorem s_mg_2 {h : Hp} {w : Int32} {n f k : Nat} : mg_2 n f (s70 h w) k = mg_2 n f h k := fd_ext s_mg_1 (fun s k => by rw [s_m_wt]) k
theorem s_mg_P {h : Hp} {w : Int32} {n f j k : Nat} {s : Int64} : mg_P n f (s70 h w) j s k = mg_P n f h j s k := fd_ext rfl (fun s k => by rw [s_m_pondV]) k
theorem s_mg_3 {h : Hp} {w : Int32} {n f k : Nat} : mg_3 n f (s70 h w) k = mg_3 n f h k := fd_ext s_mg_2 (fun s k => by rw [s_mg_P]) k
theorem s_mg_F {h : Hp} {w : Int32} {j k : Nat} {s : Int64} : mg_F (s70 h w) j s k = mg_F h j s k := fd_ext rfl (fun s k => by rw [s_m_flV]) k
theorem s_mg_4 {h : Hp} {w : Int32} {n f k : Nat} : mg_4 n f (s70 h w) k = mg_4 n f h k := fd_ext s_mg_3 (fun s k => by rw [s_mg_F]) k
theorem s_m_pf1 {h : Hp} {w : Int32} {f : Nat} {p q : Int32} : m_pf1 f (s70 h w) p q = s70 (m_pf1 f h p q) w := by
  unfold m_pf1
  simp only [sr_64, sr_65, sr_66, sr_67, sr_68, sr_69, su_64, su_66, su_67, su_68, su_69, srow_65, srow_68, s_ite, s_m_fx, s_m_po, s_m_fl, s_m_set, s_m_setFl, s_m_holds, s_m_far, s_m_use, s_m_useS, s_m_useH, s_m_change, s_m_at, s_m_all, s_m_dry, s_m_lost, s_m_sheep, s_m_hold, s_m_chS, s_m_abv, s_m_wt, s_m_roamS, s_m_best, s_m_roamB, s_m_roam, s_m_its, s_m_dr1, s_m_dr2, s_m_dr3, s_m_dr4, s_m_drink, s_m_drinkU, s_m_flock, s_m_flockU, s_m_drunk, s_m_more, s_m_ro2, s_m_ro1, s_m_roH, s_m_roK, s_m_by1, s_m_d1, s_m_by3, s_m_d3, s_m_rot, s_m_h1, s_m_h3, s_m_h4, s_m_h5, s_m_day, s_m_dayU, s_m_days, s_m_daysU, s_y0, s_yF, s_y0, s_y_link, s_y_puddle, s_y_strew, s_y_pourH, s_y_pour, s_y_setWH, s_y_setW, s_y_bring, s_y_drive, s_y_setRoams, s_y_pass, s_m_pondV, s_m_flV, s_m_cnV, s_y_pond, s_y_flock, s_y_count, s_mg_1, s_mg_2, s_mg_P, s_mg_3, s_mg_F, s_mg_4]
theorem s_m_putF {h : Hp} {w : Int32} {f : Nat} {p q : Int32} : m_putF f (s70 h w) p q = s70 (m_putF f h p q) w := by
  unfold m_putF
  simp only [sr_64, sr_65, sr_66, sr_67, sr_68, sr_69, su_64, su_66, su_67, su_68, su_69, srow_65, srow_68, s_ite, s_m_fx, s_m_po, s_m_fl, s_m_set, s_m_setFl, s_m_holds, s_m_far, s_m_use, s_m_useS, s_m_useH, s_m_change, s_m_at, s_m_all, s_m_dry, s_m_lost, s_m_sheep, s_m_hold, s_m_chS, s_m_abv, s_m_wt, s_m_roamS, s_m_best, s_m_roamB, s_m_roam, s_m_its, s_m_dr1, s_m_dr2, s_m_dr3, s_m_dr4, s_m_drink, s_m_drinkU, s_m_flock, s_m_flockU, s_m_drunk, s_m_more, s_m_ro2, s_m_ro1, s_m_roH, s_m_roK, s_m_by1, s_m_d1, s_m_by3, s_m_d3, s_m_rot, s_m_h1, s_m_h3, s_m_h4, s_m_h5, s_m_day, s_m_dayU, s_m_days, s_m_daysU, s_y0, s_yF, s_y0, s_y_link, s_y_puddle, s_y_strew, s_y_pourH, s_y_pour, s_y_setWH, s_y_setW, s_y_bring, s_y_drive, s_y_setRoams, s_y_pass, s_m_pondV, s_m_flV, s_m_cnV, s_y_pond, s_y_flock, s_y_count, s_mg_1, s_mg_2, s_mg_P, s_mg_3, s_mg_F, s_mg_4, s_m_pf1]
theorem s_y_addF {h : Hp} {w : Int32} {f : Nat} {p q : Int32} : y_addF f (s70 h w) p q = ((y_addF f h p q).1, s70 (y_addF f h p q).2 w) := by
  unfold y_addF
  simp only [sr_64, sr_65, sr_66, sr_67, sr_68, sr_69, su_64, su_66, su_67, su_68, su_69, srow_65, srow_68, s_ite, s_m_fx, s_m_po, s_m_fl, s_m_set, s_m_setFl, s_m_holds, s_m_far, s_m_use, s_m_useS, s_m_useH, s_m_change, s_m_at, s_m_all, s_m_dry, s_m_lost, s_m_sheep, s_m_hold, s_m_chS, s_m_abv, s_m_wt, s_m_roamS, s_m_best, s_m_roamB, s_m_roam, s_m_its, s_m_dr1, s_m_dr2, s_m_dr3, s_m_dr4, s_m_drink, s_m_drinkU, s_m_flock, s_m_flockU, s_m_drunk, s_m_more, s_m_ro2, s_m_ro1, s_m_roH, s_m_roK, s_m_by1, s_m_d1, s_m_by3, s_m_d3, s_m_rot, s_m_h1, s_m_h3, s_m_h4, s_m_h5, s_m_day, s_m_dayU, s_m_days, s_m_daysU, s_y0, s_yF, s_y0, s_y_link, s_y_puddle, s_y_strew, s_y_pourH, s_y_pour, s_y_setWH, s_y_setW, s_y_bring, s_y_drive, s_y_setRoams, s_y_pass, s_m_pondV, s_m_flV, s_m_cnV, s_y_pond, s_y_flock, s_y_count, s_mg_1, s_mg_2, s_mg_P, s_mg_3, s_mg_F, s_mg_4, s_m_pf1, s_m_putF]
  repeat' split
  all_goals rfl
theorem s_m_frS {h : Hp} {w : Int32} {x y b : Int32} {j : Nat} : m_frS (s70 h w) x y b j = m_frS h x y b j := by
  unfold m_frS
  simp only [sr_64, sr_65, sr_66, sr_67, sr_68, sr_69, su_64, su_66, su_67, su_68, su_69, srow_65, srow_68, s_ite, s_m_fx, s_m_po, s_m_fl, s_m_set, s_m_setFl, s_m_holds, s_m_far, s_m_use, s_m_useS, s_m_useH, s_m_change, s_m_at, s_m_all, s_m_dry, s_m_lost, s_m_sheep, s_m_hold, s_m_chS, s_m_abv, s_m_wt, s_m_roamS, s_m_best, s_m_roamB, s_m_roam, s_m_its, s_m_dr1, s_m_dr2, s_m_dr3, s_m_dr4, s_m_drink, s_m_drinkU, s_m_flock, s_m_flockU, s_m_drunk, s_m_more, s_m_ro2, s_m_ro1, s_m_roH, s_m_roK, s_m_by1, s_m_d1, s_m_by3, s_m_d3, s_m_rot, s_m_h1, s_m_h3, s_m_h4, s_m_h5, s_m_day, s_m_dayU, s_m_days, s_m_daysU, s_y0, s_yF, s_y0, s_y_link, s_y_puddle, s_y_strew, s_y_pourH, s_y_pour, s_y_setWH, s_y_setW, s_y_bring, s_y_drive, s_y_setRoams, s_y_pass, s_m_pondV, s_m_flV, s_m_cnV, s_y_pond, s_y_flock, s_y_count, s_mg_1, s_mg_2, s_mg_P, s_mg_3, s_mg_F, s_mg_4, s_m_pf1, s_m_putF, s_y_addF]
theorem s_m_fr0 {h : Hp} {w : Int32}  : m_fr0 (s70 h w) = m_fr0 h := by
  unfold m_fr0
  simp only [sr_64, sr_65, sr_66, sr_67, sr_68, sr_69, su_64, su_66, su_67, su_68, su_69, srow_65, srow_68, s_ite, s_m_fx, s_m_po, s_m_fl, s_m_set, s_m_setFl, s_m_holds, s_m_far, s_m_use, s_m_useS, s_m_useH, s_m_change, s_m_at, s_m_all, s_m_dry, s_m_lost, s_m_sheep, s_m_hold, s_m_chS, s_m_abv, s_m_wt, s_m_roamS, s_m_best, s_m_roamB, s_m_roam, s_m_its, s_m_dr1, s_m_dr2, s_m_dr3, s_m_dr4, s_m_drink, s_m_drinkU, s_m_flock, s_m_flockU, s_m_drunk, s_m_more, s_m_ro2, s_m_ro1, s_m_roH, s_m_roK, s_m_by1, s_m_d1, s_m_by3, s_m_d3, s_m_rot, s_m_h1, s_m_h3, s_m_h4, s_m_h5, s_m_day, s_m_dayU, s_m_days, s_m_daysU, s_y0, s_yF, s_y0, s_y_link, s_y_puddle, s_y_strew, s_y_pourH, s_y_pour, s_y_setWH, s_y_setW, s_y_bring, s_y_drive, s_y_setRoams, s_y_pass, s_m_pondV, s_m_flV, s_m_cnV, s_y_pond, s_y_flock, s_y_count, s_mg_1, s_mg_2, s_mg_P, s_mg_3, s_mg_F, s_mg_4, s_m_pf1, s_m_putF, s_y_addF, s_m_frS]
theorem s_m_fr {h : Hp} {w : Int32} {x y : Int32} {k : Nat} : m_fr (s70 h w) x y k = m_fr h x y k := fd_ext s_m_fr0 (fun b j => s_m_frS) k
theorem s_m_dig1 {h : Hp} {w : Int32} {n : Nat} {x y ht sz dp : Int32} : m_dig1 n (s70 h w) x y ht sz dp = s70 (m_dig1 n h x y ht sz dp) w := by
  unfold m_dig1
  simp only [sr_64, sr_65, sr_66, sr_67, sr_68, sr_69, su_64, su_66, su_67, su_68, su_69, srow_65, srow_68, s_ite, s_m_fx, s_m_po, s_m_fl, s_m_set, s_m_setFl, s_m_holds, s_m_far, s_m_use, s_m_useS, s_m_useH, s_m_change, s_m_at, s_m_all, s_m_dry, s_m_lost, s_m_sheep, s_m_hold, s_m_chS, s_m_abv, s_m_wt, s_m_roamS, s_m_best, s_m_roamB, s_m_roam, s_m_its, s_m_dr1, s_m_dr2, s_m_dr3, s_m_dr4, s_m_drink, s_m_drinkU, s_m_flock, s_m_flockU, s_m_drunk, s_m_more, s_m_ro2, s_m_ro1, s_m_roH, s_m_roK, s_m_by1, s_m_d1, s_m_by3, s_m_d3, s_m_rot, s_m_h1, s_m_h3, s_m_h4, s_m_h5, s_m_day, s_m_dayU, s_m_days, s_m_daysU, s_y0, s_yF, s_y0, s_y_link, s_y_puddle, s_y_strew, s_y_pourH, s_y_pour, s_y_setWH, s_y_setW, s_y_bring, s_y_drive, s_y_setRoams, s_y_pass, s_m_pondV, s_m_flV, s_m_cnV, s_y_pond, s_y_flock, s_y_count, s_mg_1, s_mg_2, s_mg_P, s_mg_3, s_mg_F, s_mg_4, s_m_pf1, s_m_putF, s_y_addF, s_m_frS, s_m_fr0, s_m_fr]
theorem s_m_dig2 {h : Hp} {w : Int32} {n : Nat} {x y ht sz dp : Int32} : m_dig2 n (s70 h w) x y ht sz dp = s70 (m_dig2 n h x y ht sz dp) w := by
  unfold m_dig2
  simp only [sr_64, sr_65, sr_66, sr_67, sr_68, sr_69, su_64, su_66, su_67, su_68, su_69, srow_65, srow_68, s_ite, s_m_fx, s_m_po, s_m_fl, s_m_set, s_m_setFl, s_m_holds, s_m_far, s_m_use, s_m_useS, s_m_useH, s_m_change, s_m_at, s_m_all, s_m_dry, s_m_lost, s_m_sheep, s_m_hold, s_m_chS, s_m_abv, s_m_wt, s_m_roamS, s_m_best, s_m_roamB, s_m_roam, s_m_its, s_m_dr1, s_m_dr2, s_m_dr3, s_m_dr4, s_m_drink, s_m_drinkU, s_m_flock, s_m_flockU, s_m_drunk, s_m_more, s_m_ro2, s_m_ro1, s_m_roH, s_m_roK, s_m_by1, s_m_d1, s_m_by3, s_m_d3, s_m_rot, s_m_h1, s_m_h3, s_m_h4, s_m_h5, s_m_day, s_m_dayU, s_m_days, s_m_daysU, s_y0, s_yF, s_y0, s_y_link, s_y_puddle, s_y_strew, s_y_pourH, s_y_pour, s_y_setWH, s_y_setW, s_y_bring, s_y_drive, s_y_setRoams, s_y_pass, s_m_pondV, s_m_flV, s_m_cnV, s_y_pond, s_y_flock, s_y_count, s_mg_1, s_mg_2, s_mg_P, s_mg_3, s_mg_F, s_mg_4, s_m_pf1, s_m_putF, s_y_addF, s_m_frS, s_m_fr0, s_m_fr, s_m_dig1]
theorem s_m_dig {h : Hp} {w : Int32} {n : Nat} {x y ht sz dp : Int32} : m_dig n (s70 h w) x y ht sz dp = s70 (m_dig n h x y ht sz dp) w := by
  unfold m_dig
  simp only [sr_64, sr_65, sr_66, sr_67, sr_68, sr_69, su_64, su_66, su_67, su_68, su_69, srow_65, srow_68, s_ite, s_m_fx, s_m_po, s_m_fl, s_m_set, s_m_setFl, s_m_holds, s_m_far, s_m_use, s_m_useS, s_m_useH, s_m_change, s_m_at, s_m_all, s_m_dry, s_m_lost, s_m_sheep, s_m_hold, s_m_chS, s_m_abv, s_m_wt, s_m_roamS, s_m_best, s_m_roamB, s_m_roam, s_m_its, s_m_dr1, s_m_dr2, s_m_dr3, s_m_dr4, s_m_drink, s_m_drinkU, s_m_flock, s_m_flockU, s_m_drunk, s_m_more, s_m_ro2, s_m_ro1, s_m_roH, s_m_roK, s_m_by1, s_m_d1, s_m_by3, s_m_d3, s_m_rot, s_m_h1, s_m_h3, s_m_h4, s_m_h5, s_m_day, s_m_dayU, s_m_days, s_m_daysU, s_y0, s_yF, s_y0, s_y_link, s_y_puddle, s_y_strew, s_y_pourH, s_y_pour, s_y_setWH, s_y_setW, s_y_bring, s_y_drive, s_y_setRoams, s_y_pass, s_m_pondV, s_m_flV, s_m_cnV, s_y_pond, s_y_flock, s_y_count, s_mg_1, s_mg_2, s_mg_P, s_mg_3, s_mg_F, s_mg_4, s_m_pf1, s_m_putF, s_y_addF, s_m_frS, s_m_fr0, s_m_fr, s_m_dig1, s_m_dig2]
theorem s_y_dig {h : Hp} {w : Int32} {n : Nat} {x y ht sz dp : Int32} : y_dig n (s70 h w) x y ht sz dp = ((y_dig n h x y ht sz dp).1, s70 (y_dig n h x y ht sz dp).2 w) := by
  unfold y_dig
  simp only [sr_64, sr_65, sr_66, sr_67, sr_68, sr_69, su_64, su_66, su_67, su_68, su_69, srow_65, srow_68, s_ite, s_m_fx, s_m_po, s_m_fl, s_m_set, s_m_setFl, s_m_holds, s_m_far, s_m_use, s_m_useS, s_m_useH, s_m_change, s_m_at, s_m_all, s_m_dry, s_m_lost, s_m_sheep, s_m_hold, s_m_chS, s_m_abv, s_m_wt, s_m_roamS, s_m_best, s_m_roamB, s_m_roam, s_m_its, s_m_dr1, s_m_dr2, s_m_dr3, s_m_dr4, s_m_drink, s_m_drinkU, s_m_flock, s_m_flockU, s_m_drunk, s_m_more, s_m_ro2, s_m_ro1, s_m_roH, s_m_roK, s_m_by1, s_m_d1, s_m_by3, s_m_d3, s_m_rot, s_m_h1, s_m_h3, s_m_h4, s_m_h5, s_m_day, s_m_dayU, s_m_days, s_m_daysU, s_y0, s_yF, s_y0, s_y_link, s_y_puddle, s_y_strew, s_y_pourH, s_y_pour, s_y_setWH, s_y_setW, s_y_bring, s_y_drive, s_y_setRoams, s_y_pass, s_m_pondV, s_m_flV, s_m_cnV, s_y_pond, s_y_flock, s_y_count, s_mg_1, s_mg_2, s_mg_P, s_mg_3, s_mg_F, s_mg_4, s_m_pf1, s_m_putF, s_y_addF, s_m_frS, s_m_fr0, s_m_fr, s_m_dig1, s_m_dig2, s_m_dig]
  repeat' split
  all_goals rfl
theorem s_y_foresee {h : Hp} {w : Int32} {n f t : Nat} {x k : Int32} : y_foresee n f t (s70 h w) x k = ((y_foresee n f t h x k).1, s70 (y_foresee n f t h x k).2 w) := by
  unfold y_foresee
  simp only [sr_64, sr_65, sr_66, sr_67, sr_68, sr_69, su_64, su_66, su_67, su_68, su_69, srow_65, srow_68, s_ite, s_m_fx, s_m_po, s_m_fl, s_m_set, s_m_setFl, s_m_holds, s_m_far, s_m_use, s_m_useS, s_m_useH, s_m_change, s_m_at, s_m_all, s_m_dry, s_m_lost, s_m_sheep, s_m_hold, s_m_chS, s_m_abv, s_m_wt, s_m_roamS, s_m_best, s_m_roamB, s_m_roam, s_m_its, s_m_dr1, s_m_dr2, s_m_dr3, s_m_dr4, s_m_drink, s_m_drinkU, s_m_flock, s_m_flockU, s_m_drunk, s_m_more, s_m_ro2, s_m_ro1, s_m_roH, s_m_roK, s_m_by1, s_m_d1, s_m_by3, s_m_d3, s_m_rot, s_m_h1, s_m_h3, s_m_h4, s_m_h5, s_m_day, s_m_dayU, s_m_days, s_m_daysU, s_y0, s_yF, s_y0, s_y_link, s_y_puddle, s_y_strew, s_y_pourH, s_y_pour, s_y_setWH, s_y_setW, s_y_bring, s_y_drive, s_y_setRoams, s_y_pass, s_m_pondV, s_m_flV, s_m_cnV, s_y_pond, s_y_flock, s_y_count, s_mg_1, s_mg_2, s_mg_P, s_mg_3, s_mg_F, s_mg_4, s_m_pf1, s_m_putF, s_y_addF, s_m_frS, s_m_fr0, s_m_fr, s_m_dig1, s_m_dig2, s_m_dig, s_y_dig]
  repeat' split
  all_goals rfl
theorem s_m_las {h : Hp} {w : Int32} {n f t : Nat} {x : Int32} : m_las n f t (s70 h w) x = m_las n f t h x := by
  funext q j
  induction q generalizing j with
  | zero => rfl
  | succ q ih =>
    show (if m_po (m_days n f t (s70 h w) j) x 0 ≤ 0 then j else m_las n f t (s70 h w) x q (j + 1)) = if m_po (m_days n f t h j) x 0 ≤ 0 then j else m_las n f t h x q (j + 1)
    rw [ih, s_m_days, s_m_po]
theorem s_m_lasV {h : Hp} {w : Int32} {n f t : Nat} {x : Int32} : m_lasV n f t (s70 h w) x = m_lasV n f t h x := by
  unfold m_lasV
  simp only [sr_64, sr_65, sr_66, sr_67, sr_68, sr_69, su_64, su_66, su_67, su_68, su_69, srow_65, srow_68, s_ite, s_m_fx, s_m_po, s_m_fl, s_m_set, s_m_setFl, s_m_holds, s_m_far, s_m_use, s_m_useS, s_m_useH, s_m_change, s_m_at, s_m_all, s_m_dry, s_m_lost, s_m_sheep, s_m_hold, s_m_chS, s_m_abv, s_m_wt, s_m_roamS, s_m_best, s_m_roamB, s_m_roam, s_m_its, s_m_dr1, s_m_dr2, s_m_dr3, s_m_dr4, s_m_drink, s_m_drinkU, s_m_flock, s_m_flockU, s_m_drunk, s_m_more, s_m_ro2, s_m_ro1, s_m_roH, s_m_roK, s_m_by1, s_m_d1, s_m_by3, s_m_d3, s_m_rot, s_m_h1, s_m_h3, s_m_h4, s_m_h5, s_m_day, s_m_dayU, s_m_days, s_m_daysU, s_y0, s_yF, s_y0, s_y_link, s_y_puddle, s_y_strew, s_y_pourH, s_y_pour, s_y_setWH, s_y_setW, s_y_bring, s_y_drive, s_y_setRoams, s_y_pass, s_m_pondV, s_m_flV, s_m_cnV, s_y_pond, s_y_flock, s_y_count, s_mg_1, s_mg_2, s_mg_P, s_mg_3, s_mg_F, s_mg_4, s_m_pf1, s_m_putF, s_y_addF, s_m_frS, s_m_fr0, s_m_fr, s_m_dig1, s_m_dig2, s_m_dig, s_y_dig, s_y_foresee, s_m_las]
theorem s_y_lasts {h : Hp} {w : Int32} {n f t : Nat} {x : Int32} : y_lasts n f t (s70 h w) x = ((y_lasts n f t h x).1, s70 (y_lasts n f t h x).2 w) := by
  unfold y_lasts
  simp only [sr_64, sr_65, sr_66, sr_67, sr_68, sr_69, su_64, su_66, su_67, su_68, su_69, srow_65, srow_68, s_ite, s_m_fx, s_m_po, s_m_fl, s_m_set, s_m_setFl, s_m_holds, s_m_far, s_m_use, s_m_useS, s_m_useH, s_m_change, s_m_at, s_m_all, s_m_dry, s_m_lost, s_m_sheep, s_m_hold, s_m_chS, s_m_abv, s_m_wt, s_m_roamS, s_m_best, s_m_roamB, s_m_roam, s_m_its, s_m_dr1, s_m_dr2, s_m_dr3, s_m_dr4, s_m_drink, s_m_drinkU, s_m_flock, s_m_flockU, s_m_drunk, s_m_more, s_m_ro2, s_m_ro1, s_m_roH, s_m_roK, s_m_by1, s_m_d1, s_m_by3, s_m_d3, s_m_rot, s_m_h1, s_m_h3, s_m_h4, s_m_h5, s_m_day, s_m_dayU, s_m_days, s_m_daysU, s_y0, s_yF, s_y0, s_y_link, s_y_puddle, s_y_strew, s_y_pourH, s_y_pour, s_y_setWH, s_y_setW, s_y_bring, s_y_drive, s_y_setRoams, s_y_pass, s_m_pondV, s_m_flV, s_m_cnV, s_y_pond, s_y_flock, s_y_count, s_mg_1, s_mg_2, s_mg_P, s_mg_3, s_mg_F, s_mg_4, s_m_pf1, s_m_putF, s_y_addF, s_m_frS, s_m_fr0, s_m_fr, s_m_dig1, s_m_dig2, s_m_dig, s_y_dig, s_y_foresee, s_m_las, s_m_lasV]
  repeat' split
  all_goals rfl
theorem s_m_adS {h : Hp} {w : Int32} {n f t k : Nat} {s : Int32 × Int32} {j : Nat} : m_adS n f t k (s70 h w) s j = m_adS n f t k h s j := by
  unfold m_adS
  simp only [sr_64, sr_65, sr_66, sr_67, sr_68, sr_69, su_64, su_66, su_67, su_68, su_69, srow_65, srow_68, s_ite, s_m_fx, s_m_po, s_m_fl, s_m_set, s_m_setFl, s_m_holds, s_m_far, s_m_use, s_m_useS, s_m_useH, s_m_change, s_m_at, s_m_all, s_m_dry, s_m_lost, s_m_sheep, s_m_hold, s_m_chS, s_m_abv, s_m_wt, s_m_roamS, s_m_best, s_m_roamB, s_m_roam, s_m_its, s_m_dr1, s_m_dr2, s_m_dr3, s_m_dr4, s_m_drink, s_m_drinkU, s_m_flock, s_m_flockU, s_m_drunk, s_m_more, s_m_ro2, s_m_ro1, s_m_roH, s_m_roK, s_m_by1, s_m_d1, s_m_by3, s_m_d3, s_m_rot, s_m_h1, s_m_h3, s_m_h4, s_m_h5, s_m_day, s_m_dayU, s_m_days, s_m_daysU, s_y0, s_yF, s_y0, s_y_link, s_y_puddle, s_y_strew, s_y_pourH, s_y_pour, s_y_setWH, s_y_setW, s_y_bring, s_y_drive, s_y_setRoams, s_y_pass, s_m_pondV, s_m_flV, s_m_cnV, s_y_pond, s_y_flock, s_y_count, s_mg_1, s_mg_2, s_mg_P, s_mg_3, s_mg_F, s_mg_4, s_m_pf1, s_m_putF, s_y_addF, s_m_frS, s_m_fr0, s_m_fr, s_m_dig1, s_m_dig2, s_m_dig, s_y_dig, s_y_foresee, s_m_las, s_m_lasV, s_y_lasts]
theorem s_m_ad {h : Hp} {w : Int32} {n f t k j : Nat} : m_ad n f t k (s70 h w) j = m_ad n f t k h j := fd_ext (by rw [s_m_days, s_m_all]) (fun s j => s_m_adS) j
theorem s_y_advise {h : Hp} {w : Int32} {n f t : Nat} {k : Int32} : y_advise n f t (s70 h w) k = ((y_advise n f t h k).1, s70 (y_advise n f t h k).2 w) := by
  unfold y_advise
  simp only [sr_64, sr_65, sr_66, sr_67, sr_68, sr_69, su_64, su_66, su_67, su_68, su_69, srow_65, srow_68, s_ite, s_m_fx, s_m_po, s_m_fl, s_m_set, s_m_setFl, s_m_holds, s_m_far, s_m_use, s_m_useS, s_m_useH, s_m_change, s_m_at, s_m_all, s_m_dry, s_m_lost, s_m_sheep, s_m_hold, s_m_chS, s_m_abv, s_m_wt, s_m_roamS, s_m_best, s_m_roamB, s_m_roam, s_m_its, s_m_dr1, s_m_dr2, s_m_dr3, s_m_dr4, s_m_drink, s_m_drinkU, s_m_flock, s_m_flockU, s_m_drunk, s_m_more, s_m_ro2, s_m_ro1, s_m_roH, s_m_roK, s_m_by1, s_m_d1, s_m_by3, s_m_d3, s_m_rot, s_m_h1, s_m_h3, s_m_h4, s_m_h5, s_m_day, s_m_dayU, s_m_days, s_m_daysU, s_y0, s_yF, s_y0, s_y_link, s_y_puddle, s_y_strew, s_y_pourH, s_y_pour, s_y_setWH, s_y_setW, s_y_bring, s_y_drive, s_y_setRoams, s_y_pass, s_m_pondV, s_m_flV, s_m_cnV, s_y_pond, s_y_flock, s_y_count, s_mg_1, s_mg_2, s_mg_P, s_mg_3, s_mg_F, s_mg_4, s_m_pf1, s_m_putF, s_y_addF, s_m_frS, s_m_fr0, s_m_fr, s_m_dig1, s_m_dig2, s_m_dig, s_y_dig, s_y_foresee, s_m_las, s_m_lasV, s_y_lasts, s_m_adS, s_m_ad]
  repeat' split
  all_goals rfl
theorem s_m_kg {h : Hp} {w : Int32} {n f t : Nat} {x : Int32} : m_kg n f t (s70 h w) x = m_kg n f t h x := by
  funext q j
  induction q generalizing j with
  | zero => rfl
  | succ q ih =>
    show (if m_fl (m_days n f t (s70 h w) (j + 1)) x 2 = 0 then m_kg n f t (s70 h w) x q (j + 1) else 0) = if m_fl (m_days n f t h (j + 1)) x 2 = 0 then m_kg n f t h x q (j + 1) else 0
    rw [ih, s_m_days, s_m_fl]
theorem s_m_try {h : Hp} {w : Int32} {n f t d : Nat} {x sh : Int32} : m_try n f t d (s70 h w) x sh = m_try n f t d h x sh := by
  unfold m_try
  simp only [sr_64, sr_65, sr_66, sr_67, sr_68, sr_69, su_64, su_66, su_67, su_68, su_69, srow_65, srow_68, s_ite, s_m_fx, s_m_po, s_m_fl, s_m_set, s_m_setFl, s_m_holds, s_m_far, s_m_use, s_m_useS, s_m_useH, s_m_change, s_m_at, s_m_all, s_m_dry, s_m_lost, s_m_sheep, s_m_hold, s_m_chS, s_m_abv, s_m_wt, s_m_roamS, s_m_best, s_m_roamB, s_m_roam, s_m_its, s_m_dr1, s_m_dr2, s_m_dr3, s_m_dr4, s_m_drink, s_m_drinkU, s_m_flock, s_m_flockU, s_m_drunk, s_m_more, s_m_ro2, s_m_ro1, s_m_roH, s_m_roK, s_m_by1, s_m_d1, s_m_by3, s_m_d3, s_m_rot, s_m_h1, s_m_h3, s_m_h4, s_m_h5, s_m_day, s_m_dayU, s_m_days, s_m_daysU, s_y0, s_yF, s_y0, s_y_link, s_y_puddle, s_y_strew, s_y_pourH, s_y_pour, s_y_setWH, s_y_setW, s_y_bring, s_y_drive, s_y_setRoams, s_y_pass, s_m_pondV, s_m_flV, s_m_cnV, s_y_pond, s_y_flock, s_y_count, s_mg_1, s_mg_2, s_mg_P, s_mg_3, s_mg_F, s_mg_4, s_m_pf1, s_m_putF, s_y_addF, s_m_frS, s_m_fr0, s_m_fr, s_m_dig1, s_m_dig2, s_m_dig, s_y_dig, s_y_foresee, s_m_las, s_m_lasV, s_y_lasts, s_m_adS, s_m_ad, s_y_advise, s_m_kg]
theorem s_m_kp {h : Hp} {w : Int32} {n f t d : Nat} {x : Int32} : m_kp n f t d (s70 h w) x = m_kp n f t d h x := by
  funext q
  induction q with
  | zero => rfl
  | succ q ih =>
    show (if m_try n f t d (s70 h w) x (nI (q + 1)) = 0 then m_kp n f t d (s70 h w) x q else nI (q + 1)) = if m_try n f t d h x (nI (q + 1)) = 0 then m_kp n f t d h x q else nI (q + 1)
    rw [ih, s_m_try]
theorem s_y_keep {h : Hp} {w : Int32} {n f t : Nat} {x k : Int32} : y_keep n f t (s70 h w) x k = ((y_keep n f t h x k).1, s70 (y_keep n f t h x k).2 w) := by
  unfold y_keep
  simp only [sr_64, sr_65, sr_66, sr_67, sr_68, sr_69, su_64, su_66, su_67, su_68, su_69, srow_65, srow_68, s_ite, s_m_fx, s_m_po, s_m_fl, s_m_set, s_m_setFl, s_m_holds, s_m_far, s_m_use, s_m_useS, s_m_useH, s_m_change, s_m_at, s_m_all, s_m_dry, s_m_lost, s_m_sheep, s_m_hold, s_m_chS, s_m_abv, s_m_wt, s_m_roamS, s_m_best, s_m_roamB, s_m_roam, s_m_its, s_m_dr1, s_m_dr2, s_m_dr3, s_m_dr4, s_m_drink, s_m_drinkU, s_m_flock, s_m_flockU, s_m_drunk, s_m_more, s_m_ro2, s_m_ro1, s_m_roH, s_m_roK, s_m_by1, s_m_d1, s_m_by3, s_m_d3, s_m_rot, s_m_h1, s_m_h3, s_m_h4, s_m_h5, s_m_day, s_m_dayU, s_m_days, s_m_daysU, s_y0, s_yF, s_y0, s_y_link, s_y_puddle, s_y_strew, s_y_pourH, s_y_pour, s_y_setWH, s_y_setW, s_y_bring, s_y_drive, s_y_setRoams, s_y_pass, s_m_pondV, s_m_flV, s_m_cnV, s_y_pond, s_y_flock, s_y_count, s_mg_1, s_mg_2, s_mg_P, s_mg_3, s_mg_F, s_mg_4, s_m_pf1, s_m_putF, s_y_addF, s_m_frS, s_m_fr0, s_m_fr, s_m_dig1, s_m_dig2, s_m_dig, s_y_dig, s_y_foresee, s_m_las, s_m_lasV, s_y_lasts, s_m_adS, s_m_ad, s_y_advise, s_m_kg, s_m_try, s_m_kp]
  repeat' split
  all_goals rfl
