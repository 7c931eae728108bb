/-! the law's own arrays, behind its Sim -/
theorem mx_0 {g : gW} {q : Nat} {rr : Nat → Nat} {N K : Nat} {fm : Nat → Nat → Int32} {Z : va_W} : (mx g q rr N K fm ++ Z)[0]? = some (cR g q N (fun i => if i < N then some (rr i) else none)) := rfl
theorem mx_i {g : gW} {q : Nat} {rr : Nat → Nat} {N K i : Nat} {fm : Nat → Nat → Int32} {Z : va_W} (hi : i < N) : (mx g q rr N K fm ++ Z)[1 + i]? = some (cI g (rr i) K (fm i)) := by
  rw [List.getElem?_append_left (by rw [mx_len]; omega)]
  exact mx_row hi
theorem mx_z {g : gW} {q : Nat} {rr : Nat → Nat} {N K i : Nat} {fm : Nat → Nat → Int32} {Z : va_W} {x : Nat × va_E} (h : Z[i]? = some x) : (mx g q rr N K fm ++ Z)[1 + N + i]? = some x := by
  rw [List.getElem?_append_right (by rw [mx_len]; omega), mx_len, Nat.add_sub_cancel_left]
  exact h
theorem mx_si {g : gW} {q : Nat} {rr : Nat → Nat} {N K i j : Nat} {fm : Nat → Nat → Int32} {Z : va_W} {v : Int32} (hi : i < N) : (mx g q rr N K fm ++ Z).set (1 + i) (cI g (rr i) K (upd (fm i) j v)) = mx g q rr N K (fun a => if a = i then upd (fm i) j v else fm a) ++ Z := by
  rw [List.set_append_left _ _ (by rw [mx_len]; omega), mx_set hi]
theorem mx_sz {g : gW} {q : Nat} {rr : Nat → Nat} {N K i : Nat} {fm : Nat → Nat → Int32} {Z : va_W} {x : Nat × va_E} : (mx g q rr N K fm ++ Z).set (1 + N + i) x = mx g q rr N K fm ++ Z.set i x := by
  rw [List.set_append_right _ _ (by rw [mx_len]; omega), mx_len, Nat.add_sub_cancel_left]
section GSY
variable {g : gW} {p : Program} {l : Launch} {e : Env} {R : Room} {s : State} {m : MethodId} {args : Array Value} {below : List Frame} {meth : Method} {c : Code} {cc : ByteArray} {nL : Nat} {own : String} {A : Ad} {n f : Nat} {r : Hp} {P0 Z : va_W} {F : Nat → Prop} {lv : List (Nat × Value)} {cells slots : Nat} {Q : State → Prop} {pc : Nat} {st : List Value} {q1 q2 N1 N2 K1 K2 : Nat} {r1 r2 : Nat → Nat} {f1 f2 : Nat → Nat → Int32}
theorem gy_row1 (C : CG g p s m args meth c cc nL own) {j : Nat} {x : Int32} (hN : N1 < 2 ^ 31) (hx : x = nI j) (hj : j < N1) (hd : decode cc pc = .ok (.aaload, 1)) (kk : GW g p l e R s m args below meth c nL (P0 ++ (sx g A n f r ++ (mx g q1 r1 N1 K1 f1 ++ Z))) F lv cells slots Q (pc + 1) (.ref (r1 j) :: st)) : GW g p l e R s m args below meth c nL (P0 ++ (sx g A n f r ++ (mx g q1 r1 N1 K1 f1 ++ Z))) F lv cells slots Q pc (.int x :: .ref q1 :: st) :=
  gg_aald C (P0.length + (14 + n + f + 0)) (sl_Y mx_0) hx hj hN (if_pos hj) hd kk
theorem gy_ld1 (C : CG g p s m args meth c cc nL own) {j k : Nat} {x : Int32} (hK : K1 < 2 ^ 31) (hj : j < N1) (hx : x = nI k) (hk : k < K1) (hd : decode cc pc = .ok (.iaload, 1)) (kk : GW g p l e R s m args below meth c nL (P0 ++ (sx g A n f r ++ (mx g q1 r1 N1 K1 f1 ++ Z))) F lv cells slots Q (pc + 1) (.int (f1 j k) :: st)) : GW g p l e R s m args below meth c nL (P0 ++ (sx g A n f r ++ (mx g q1 r1 N1 K1 f1 ++ Z))) F lv cells slots Q pc (.int x :: .ref (r1 j) :: st) :=
  gg_iald C (P0.length + (14 + n + f + (1 + j))) (sl_Y (mx_i hj)) hx hk hK hd kk
theorem gy_st1 (C : CG g p s m args meth c cc nL own) {j k : Nat} {x v : Int32} (hK : K1 < 2 ^ 31) (hj : j < N1) (hx : x = nI k) (hk : k < K1) (hd : decode cc pc = .ok (.iastore, 1)) (kk : GW g p l e R s m args below meth c nL (P0 ++ (sx g A n f r ++ (mx g q1 r1 N1 K1 (fun a => if a = j then upd (f1 j) k v else f1 a) ++ Z))) F lv cells slots Q (pc + 1) st) : GW g p l e R s m args below meth c nL (P0 ++ (sx g A n f r ++ (mx g q1 r1 N1 K1 f1 ++ Z))) F lv cells slots Q pc (.int v :: .int x :: .ref (r1 j) :: st) :=
  gg_iast C (P0.length + (14 + n + f + (1 + j))) (sl_Y (mx_i hj)) hx hk hK hd (gg_ls _ (by rw [sl_setY, mx_si hj]) kk)
theorem gy_row2 (C : CG g p s m args meth c cc nL own) {j : Nat} {x : Int32} (hN : N2 < 2 ^ 31) (hx : x = nI j) (hj : j < N2) (hd : decode cc pc = .ok (.aaload, 1)) (kk : GW g p l e R s m args below meth c nL (P0 ++ (sx g A n f r ++ (mx g q1 r1 N1 K1 f1 ++ (mx g q2 r2 N2 K2 f2 ++ Z)))) F lv cells slots Q (pc + 1) (.ref (r2 j) :: st)) : GW g p l e R s m args below meth c nL (P0 ++ (sx g A n f r ++ (mx g q1 r1 N1 K1 f1 ++ (mx g q2 r2 N2 K2 f2 ++ Z)))) F lv cells slots Q pc (.int x :: .ref q2 :: st) :=
  gg_aald C (P0.length + (14 + n + f + (1 + N1 + 0))) (sl_Y (mx_z mx_0)) hx hj hN (if_pos hj) hd kk
theorem gy_ld2 (C : CG g p s m args meth c cc nL own) {j k : Nat} {x : Int32} (hK : K2 < 2 ^ 31) (hj : j < N2) (hx : x = nI k) (hk : k < K2) (hd : decode cc pc = .ok (.iaload, 1)) (kk : GW g p l e R s m args below meth c nL (P0 ++ (sx g A n f r ++ (mx g q1 r1 N1 K1 f1 ++ (mx g q2 r2 N2 K2 f2 ++ Z)))) F lv cells slots Q (pc + 1) (.int (f2 j k) :: st)) : GW g p l e R s m args below meth c nL (P0 ++ (sx g A n f r ++ (mx g q1 r1 N1 K1 f1 ++ (mx g q2 r2 N2 K2 f2 ++ Z)))) F lv cells slots Q pc (.int x :: .ref (r2 j) :: st) :=
  gg_iald C (P0.length + (14 + n + f + (1 + N1 + (1 + j)))) (sl_Y (mx_z (mx_i hj))) hx hk hK hd kk
theorem gy_st2 (C : CG g p s m args meth c cc nL own) {j k : Nat} {x v : Int32} (hK : K2 < 2 ^ 31) (hj : j < N2) (hx : x = nI k) (hk : k < K2) (hd : decode cc pc = .ok (.iastore, 1)) (kk : GW g p l e R s m args below meth c nL (P0 ++ (sx g A n f r ++ (mx g q1 r1 N1 K1 f1 ++ (mx g q2 r2 N2 K2 (fun a => if a = j then upd (f2 j) k v else f2 a) ++ Z)))) F lv cells slots Q (pc + 1) st) : GW g p l e R s m args below meth c nL (P0 ++ (sx g A n f r ++ (mx g q1 r1 N1 K1 f1 ++ (mx g q2 r2 N2 K2 f2 ++ Z)))) F lv cells slots Q pc (.int v :: .int x :: .ref (r2 j) :: st) :=
  gg_iast C (P0.length + (14 + n + f + (1 + N1 + (1 + j)))) (sl_Y (mx_z (mx_i hj))) hx hk hK hd (gg_ls _ (by rw [sl_setY, mx_sz, mx_si hj]) kk)
theorem gy_ldZ (C : CG g p s m args meth c cc nL own) (i : Nat) {a w k : Nat} {x : Int32} {φ : Nat → Int32} (hZ : Z[i]? = some (cI g a w φ)) (hx : x = nI k) (hk : k < w) (hw : w < 2 ^ 31) (hd : decode cc pc = .ok (.iaload, 1)) (kk : GW g p l e R s m args below meth c nL (P0 ++ (sx g A n f r ++ (mx g q1 r1 N1 K1 f1 ++ (mx g q2 r2 N2 K2 f2 ++ Z)))) F lv cells slots Q (pc + 1) (.int (φ k) :: st)) : GW g p l e R s m args below meth c nL (P0 ++ (sx g A n f r ++ (mx g q1 r1 N1 K1 f1 ++ (mx g q2 r2 N2 K2 f2 ++ Z)))) F lv cells slots Q pc (.int x :: .ref a :: st) :=
  gg_iald C (P0.length + (14 + n + f + (1 + N1 + (1 + N2 + i)))) (sl_Y (mx_z (mx_z hZ))) hx hk hw hd kk
theorem gy_stZ (C : CG g p s m args meth c cc nL own) (i : Nat) {a w k : Nat} {x v : Int32} {φ : Nat → Int32} (hZ : Z[i]? = some (cI g a w φ)) (hx : x = nI k) (hk : k < w) (hw : w < 2 ^ 31) (hd : decode cc pc = .ok (.iastore, 1)) (kk : GW g p l e R s m args below meth c nL (P0 ++ (sx g A n f r ++ (mx g q1 r1 N1 K1 f1 ++ (mx g q2 r2 N2 K2 f2 ++ Z.set i (cI g a w (upd φ k v)))))) F lv cells slots Q (pc + 1) st) : GW g p l e R s m args below meth c nL (P0 ++ (sx g A n f r ++ (mx g q1 r1 N1 K1 f1 ++ (mx g q2 r2 N2 K2 f2 ++ Z)))) F lv cells slots Q pc (.int v :: .int x :: .ref a :: st) :=
  gg_iast C (P0.length + (14 + n + f + (1 + N1 + (1 + N2 + i)))) (sl_Y (mx_z (mx_z hZ))) hx hk hw hd (gg_ls _ (by rw [sl_setY, mx_sz, mx_sz]) kk)
end GSY
/-! the law's numbers, as what the class tells -/
section PVF
variable {n f t q : Nat} {h : Hp}
def PVs (n f : Nat) (h : Hp) (P : Nat → Nat → Int32) : Prop := ∀ j k, j < n → k < 12 → P j k = x_pondV n f h (nI j) k
def FVs (f : Nat) (h : Hp) (V : Nat → Nat → Int32) : Prop := ∀ j k, j < f → k < 6 → V j k = x_flockV h (nI j) k
theorem flv {j k : Nat} (hj : j < 2 ^ 31) (hk : k < 3) : x_flockV h (nI j) k = h (26 + j) k := by
  match k, hk with
  | 0, _ => show h (fl (nI j)) 0 = _; rw [fl_nI hj]
  | 1, _ => show h (fl (nI j)) 1 = _; rw [fl_nI hj]
  | 2, _ => show h (fl (nI j)) 2 = _; rw [fl_nI hj]
theorem flv3 {j : Nat} (hj : j < 2 ^ 31) : x_flockV h (nI j) 3 = if h (26 + j) 3 = 0 then 0 else 1 := by show (if h (fl (nI j)) 3 = 0 then (0 : Int32) else 1) = _; rw [fl_nI hj]
theorem flv4 {j : Nat} (hj : j < 2 ^ 31) : x_flockV h (nI j) 4 = if bI (10 ≤ h (26 + j) 2) = 0 then 0 else 1 := by show (if bI (10 ≤ h (fl (nI j)) 2) = 0 then (0 : Int32) else 1) = _; rw [fl_nI hj]
theorem flv5 {j : Nat} (hj : j < 2 ^ 31) : x_flockV h (nI j) 5 = h (26 + j) 4 := by show h (fl (nI j)) 4 = _; rw [fl_nI hj]
theorem pov {j k : Nat} (hj : j < 2 ^ 31) (hk : k < 4 ∨ k = 5 ∨ k = 6 ∨ k = 8) (hk3 : k < 4 → k ≤ 3) : x_pondV n f h (nI j) k = h (15 + j) k := by
  rcases (show k = 0 ∨ k = 1 ∨ k = 2 ∨ k = 3 ∨ k = 5 ∨ k = 6 ∨ k = 8 by omega) with rfl | rfl | rfl | rfl | rfl | rfl | rfl
  · show h (pd (nI j)) 0 = _; rw [pd_nI hj]
  · show h (pd (nI j)) 1 = _; rw [pd_nI hj]
  · show h (pd (nI j)) 2 = _; rw [pd_nI hj]
  · show h (pd (nI j)) 3 = _; rw [pd_nI hj]
  · show h (pd (nI j)) 5 = _; rw [pd_nI hj]
  · show h (pd (nI j)) 6 = _; rw [pd_nI hj]
  · show h (pd (nI j)) 8 = _; rw [pd_nI hj]
theorem pov4 {j : Nat} (hj : j < 2 ^ 31) : x_pondV n f h (nI j) 4 = p_holds h (15 + j) := by show p_holds h (pd (nI j)) = _; rw [pd_nI hj]
theorem pov7 {j : Nat} (hj : j < 2 ^ 31) : x_pondV n f h (nI j) 7 = if h (15 + j) 7 = 0 then 0 else 1 := by show (if h (pd (nI j)) 7 = 0 then (0 : Int32) else 1) = _; rw [pd_nI hj]
theorem pov10 {j : Nat} (hj : j < 2 ^ 31) : x_pondV n f h (nI j) 10 = h (15 + j) 9 := by show h (pd (nI j)) 9 = _; rw [pd_nI hj]
theorem pov11 {j : Nat} : x_pondV n f h (nI j) 11 = d_src h 1 (nI j) n := rfl
/-- one flock's day, in the law's terms: s sheep, from p0 to p, thirst th and th2, drunk it -/
def FLK (n f : Nat) (c x : Hp) (i s p0 th p it th2 : Nat) : Prop :=
  (1 ≤ s ∧ s ≤ 80) ∧ p0 < n ∧ th ≤ 10 ∧ p < n ∧ th2 ≤ 10 ∧ it ≤ 2 * s ∧ c (26 + i) 0 = nI s ∧ c (26 + i) 1 = nI p0 ∧ c (26 + i) 2 = nI th ∧ x (26 + i) 0 = nI s ∧ x (26 + i) 1 = nI p ∧ x (26 + i) 2 = nI th2 ∧ x (26 + i) 4 - c (26 + i) 4 = nI it ∧
  (th = 10 → it = 0 ∧ p = p0 ∧ th2 = 10) ∧ (th ≠ 10 → th2 = (if it = 2 * s then th - 2 else min 10 (th + 3)) ∧ (p ≠ p0 → c (26 + i) 3 ≠ 0 ∧ th ≠ 0 ∧ it = 2 * s))
theorem flk_of {c x : Hp} {i it : Nat} (Fb : FBd 1 n f c) (hi : i < f) (H : FL1 n c (x (26 + i)) i it) : ∃ s p0 th p th2, FLK n f c x i s p0 th p it th2 := by
  rcases H with ⟨h1, h2, h3⟩ | ⟨s, p0, th, p, a1, a2, a3, a4, a5, b0, b1, b2, x0, x1, x2, x3, x4, x5⟩
  · obtain ⟨s, p0, th, a1, a2, a3, b0, b1, b2⟩ := Fb i hi
    have b0 : c (26 + i) 0 = nI s := b0
    have b1 : c (26 + i) 1 = nI p0 := b1
    have b2 : c (26 + i) 2 = nI th := b2
    have e10 : th = 10 := (nI_eq (by omega) (by omega)).mp (b2.symm.trans h1)
    subst e10
    subst h3
    refine ⟨s, p0, 10, p0, 10, a1, a2, Nat.le_refl _, a2, Nat.le_refl _, Nat.zero_le _, b0, b1, b2, by rw [h2]; exact b0, by rw [h2]; exact b1, by rw [h2]; exact b2, ?_, fun _ => ⟨rfl, rfl, rfl⟩, fun h => absurd rfl h⟩
    rw [h2, Int32.sub_self]
    rfl
  · refine ⟨s, p0, th, p, _, a1, a2, by omega, a4, ?_, a5, b0, b1, b2, x0, x1, x2, ?_, fun h => absurd h (by omega), fun _ => ⟨rfl, x5⟩⟩
    · split <;> omega
    · rw [x4, Int32.add_comm, Int32.add_sub_cancel]
end PVF
