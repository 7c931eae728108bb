/-! what is told -/
theorem sumN_congr {f1 f2 : Nat → Int32} (n : Nat) (h : ∀ j, j < n → f1 j = f2 j) : sumN f1 n = sumN f2 n := by
  induction n with
  | zero => unfold sumN; rw [fd_0, fd_0]
  | succ n ih =>
    have ih := ih (fun j hj => h j (by omega))
    unfold sumN at ih ⊢
    rw [fd_s, fd_s, ih, h n (by omega)]
theorem say_all {d n f : Nat} {c m : Hp} (hn : n ≤ 10) (R : REL d n f c m) : d_all c d n = m_all m n := sumN_congr n (fun _ hj => (R.po (k := 0) hn hj (by omega)).symm)
theorem say_holds {d n f j : Nat} {c m : Hp} (hn : n ≤ 10) (R : REL d n f c m) (hj : j < n) : m_holds m (nI j) = p_holds c (d + 14 + j) := by
  unfold m_holds p_holds
  rw [show m_fx m (nI j) 3 = c (d + 14 + j) 3 from R.fx (k := 3) hn hj (by omega), show m_fx m (nI j) 4 = c (d + 14 + j) 4 from R.fx (k := 4) hn hj (by omega)]
theorem say_hold {d n f : Nat} {c m : Hp} (hn : n ≤ 10) (R : REL d n f c m) : d_hold c d n = m_hold m n := sumN_congr n (fun _ hj => (say_holds hn R hj).symm)
theorem say_dry {d n f : Nat} {c m : Hp} (hn : n ≤ 10) (R : REL d n f c m) : d_dry c d n = m_dry m n := sumN_congr n (fun j hj => by
  show (if c (d + 14 + j) 5 = 0 then (1 : Int32) else 0) = if m_po m (nI j) 0 = 0 then 1 else 0
  rw [show m_po m (nI j) 0 = c (d + 14 + j) 5 from R.po (k := 0) hn hj (by omega)])
theorem lost_iff {d n f j : Nat} {c m : Hp} (hf : f ≤ 7) (R : REL d n f c m) (F : FBd d n f c) (hj : j < f) : m_fl m (nI j) 2 = 10 ↔ 10 ≤ c (d + 25 + j) 2 := by
  obtain ⟨s, q, th, a1, a2, a3, b1, b2, b3⟩ := F j hj
  rw [show m_fl m (nI j) 2 = c (d + 25 + j) 2 from R.fl (k := 2) hf hj (by omega), b3]
  have h1 := nI_eq (a := th) (b := 10) (by omega) (by omega)
  have h2 := nI_leI (a := 10) (b := th) (by omega) (by omega)
  exact ⟨fun z => h2.mpr (by have := h1.mp z; omega), fun z => h1.mpr (by have := h2.mp z; omega)⟩
theorem say_lost {d n f : Nat} {c m : Hp} (hf : f ≤ 7) (R : REL d n f c m) (F : FBd d n f c) : d_lost c d f = m_lost m f := sumN_congr f (fun j hj => by
  show (if 10 ≤ c (d + 25 + j) 2 then (1 : Int32) else 0) = if m_fl m (nI j) 2 = 10 then 1 else 0
  simp only [lost_iff hf R F hj])
theorem say_sheep {d n f : Nat} {c m : Hp} (hf : f ≤ 7) (R : REL d n f c m) (F : FBd d n f c) : d_sheep c d f = m_sheep m f := sumN_congr f (fun j hj => by
  show (if 10 ≤ c (d + 25 + j) 2 then (0 : Int32) else c (d + 25 + j) 0) = if m_fl m (nI j) 2 = 10 then 0 else m_fl m (nI j) 0
  simp only [lost_iff hf R F hj]
  rw [show m_fl m (nI j) 0 = c (d + 25 + j) 0 from R.fl (k := 0) hf hj (by omega)])
theorem say_at {d n f : Nat} {c m : Hp} {x : Int32} (hf : f ≤ 7) (R : REL d n f c m) (F : FBd d n f c) : d_at c d f x = m_at m f x := sumN_congr f (fun j hj => by
  show (if c (d + 25 + j) 1 = x then (if 10 ≤ c (d + 25 + j) 2 then (0 : Int32) else 1) else 0) = if m_fl m (nI j) 1 = x then (if m_fl m (nI j) 2 = 10 then 0 else 1) else 0
  simp only [lost_iff hf R F hj]
  rw [show m_fl m (nI j) 1 = c (d + 25 + j) 1 from R.fl (k := 1) hf hj (by omega)])
theorem say_wt {d n f j : Nat} {c m : Hp} (R : REL d n f c m) (hj : j < 10) : m_wt m j = w_num c (d + 2 + j) := by
  unfold m_wt w_num
  rw [show m 66 (3 * j) = c (d + 2 + j) 0 from (R.2.2.2.1 j 0 hj (by omega)).symm, show m 66 (3 * j + 1) = c (d + 2 + j) 1 from (R.2.2.2.1 j 1 hj (by omega)).symm, show m 66 (3 * j + 2) = c (d + 2 + j) 2 from (R.2.2.2.1 j 2 hj (by omega)).symm]
/-! chains of links end -/
theorem ch_m1 {m : Hp} : ∀ k, m_ch m k (-1)
  | 0 => rfl
  | _ + 1 => Or.inl rfl
theorem ch_up {m : Hp} : ∀ (k : Nat) (x : Int32), m_ch m k x → m_ch m (k + 1) x
  | 0, _, h => Or.inl h
  | k + 1, _, h => h.elim Or.inl (fun z => Or.inr (ch_up k _ z))
theorem ch_le {m : Hp} {a b : Nat} {x : Int32} (h : m_ch m a x) (hab : a ≤ b) : m_ch m b x := by
  induction b with
  | zero => have : a = 0 := by omega
            subst this; exact h
  | succ b ih =>
    by_cases e : a = b + 1
    · subst e; exact h
    · exact ch_up b x (ih (by omega))
/-- how many ponds lie lower -/
def cnt (n : Nat) (H : Nat → Nat) (t : Nat) : Nat := ((List.range n).filter (fun j => decide (H j < H t))).length
theorem filt_le {l : List Nat} {p q : Nat → Bool} (h : ∀ x, x ∈ l → p x = true → q x = true) : (l.filter p).length ≤ (l.filter q).length := by
  induction l with
  | nil => exact Nat.le_refl _
  | cons a l ih =>
    have ih := ih (fun x hx => h x (List.mem_cons_of_mem _ hx))
    by_cases hp : p a = true
    · rw [List.filter_cons_of_pos hp, List.filter_cons_of_pos (h a List.mem_cons_self hp), List.length_cons, List.length_cons]
      omega
    · rw [List.filter_cons_of_neg hp]
      by_cases hq : q a = true
      · rw [List.filter_cons_of_pos hq, List.length_cons]; omega
      · rw [List.filter_cons_of_neg hq]; exact ih
theorem filt_lt {l : List Nat} {p q : Nat → Bool} {a : Nat} (ha : a ∈ l) (hpa : ¬ p a = true) (hqa : q a = true) (h : ∀ x, x ∈ l → p x = true → q x = true) : (l.filter p).length < (l.filter q).length := by
  induction l with
  | nil => cases ha
  | cons b l ih =>
    have h' : ∀ x, x ∈ l → p x = true → q x = true := fun x hx => h x (List.mem_cons_of_mem _ hx)
    rcases List.mem_cons.mp ha with e | e
    · subst e
      rw [List.filter_cons_of_neg hpa, List.filter_cons_of_pos hqa, List.length_cons]
      have := filt_le (l := l) h'
      omega
    · have ih := ih e h'
      by_cases hp : p b = true
      · rw [List.filter_cons_of_pos hp, List.filter_cons_of_pos (h b List.mem_cons_self hp), List.length_cons, List.length_cons]
        omega
      · rw [List.filter_cons_of_neg hp]
        by_cases hq : q b = true
        · rw [List.filter_cons_of_pos hq, List.length_cons]; omega
        · rw [List.filter_cons_of_neg hq]; exact ih
theorem cnt_lt {n : Nat} {H : Nat → Nat} {t t2 : Nat} (ht2 : t2 < n) (h : H t2 < H t) : cnt n H t2 < cnt n H t := by
  unfold cnt
  refine filt_lt (a := t2) (List.mem_range.mpr ht2) (by simp) (by simpa using h) (fun x _ hx => ?_)
  simp only [decide_eq_true_eq] at hx ⊢
  omega
theorem cnt_n {n : Nat} {H : Nat → Nat} {t : Nat} (ht : t < n) : cnt n H t < n := by
  have h := filt_lt (l := List.range n) (p := fun j => decide (H j < H t)) (q := fun _ => true) (a := t) (List.mem_range.mpr ht) (by simp) rfl (fun _ _ _ => rfl)
  have e : ((List.range n).filter (fun _ => true)).length = n := by rw [List.filter_eq_self.mpr (fun _ _ => rfl), List.length_range]
  unfold cnt
  omega
theorem ch_of {d n f : Nat} {c m : Hp} (hn : n ≤ 10) (R : REL d n f c m) (L : LBd d n c) : ∀ (k t : Nat), t < n → cnt n (hgt d c) t ≤ k → m_ch m (cnt n (hgt d c) t) (m_po m (nI t) 3) := by
  intro k
  induction k with
  | zero =>
    intro t ht hk
    rw [show m_po m (nI t) 3 = c (d + 14 + t) 8 from R.po (k := 3) hn ht (by omega)]
    rcases L t ht with z | ⟨t2, h1, h2, h3⟩
    · rw [z]; exact ch_m1 _
    · have := cnt_lt (H := hgt d c) h1 h3
      omega
  | succ k ih =>
    intro t ht hk
    rw [show m_po m (nI t) 3 = c (d + 14 + t) 8 from R.po (k := 3) hn ht (by omega)]
    rcases L t ht with z | ⟨t2, h1, h2, h3⟩
    · rw [z]; exact ch_m1 _
    · have hlt := cnt_lt (H := hgt d c) h1 h3
      rw [h2]
      have h4 := ih t2 h1 (by omega)
      exact ch_le (a := cnt n (hgt d c) t2 + 1) (Or.inr h4) (by omega)
theorem ch_ten {d n f : Nat} {c m : Hp} (hn : n ≤ 10) (R : REL d n f c m) (L : LBd d n c) : HCh n m := fun j hj => ch_le (ch_of hn R L _ j hj (Nat.le_refl _)) (by have := cnt_n (H := hgt d c) hj; omega)
