/-! digging and a new flock, in numbers; more, as a row -/
theorem tk_no {h : Hp} {x y : Int32} : ∀ n, (∀ j, j < n → ¬ (h (15 + j) 0 = x ∧ h (15 + j) 1 = y)) → d_tk h 1 x y n = false
  | 0, _ => rfl
  | n + 1, hh => by
    have e : d_tk h 1 x y (n + 1) = (d_tk h 1 x y n || (decide (h (15 + n) 0 = x) && decide (h (15 + n) 1 = y))) := rfl
    rw [e, tk_no n (fun j hj => hh j (by omega)), Bool.false_or]
    have := hh n (by omega)
    by_cases e0 : h (15 + n) 0 = x
    · by_cases e1 : h (15 + n) 1 = y
      · exact absurd ⟨e0, e1⟩ this
      · simp [e1]
    · simp [e0]
theorem lw_dig {k f t q x y ht sz dp : Nat} {h r : Hp} {fb : Nat → Int32} (T : TOP k f t q h) (R : SR k f h r) (hk : k < 10) (hx : x ≤ 40) (hy : y ≤ 40) (hht : ht ≤ 300) (hsz : 1 ≤ sz ∧ sz ≤ 60) (hdp : 1 ≤ dp ∧ dp ≤ 9) (hfree : ∀ j, j < k → ¬ (r (15 + j) 0 = nI x ∧ r (15 + j) 1 = nI y))
    (b0 : fb 0 = nI x) (b1 : fb 1 = nI y) (b2 : fb 2 = nI ht) (b3 : fb 3 = nI sz) (b4 : fb 4 = nI dp) (b5 : fb 5 = 0) (b6 : fb 6 = 0) (b7 : fb 7 = 0) (b8 : fb 8 = -1) (b9 : fb 9 = 0) : ∃ h2 h3, x_dig k h (nI x) (nI y) (nI ht) (nI sz) (nI dp) = .inl (some (.int (nI k)), h2) ∧ (∀ o, o < 64 → h3 o = h2 o) ∧ TOP (k + 1) f t q h3 ∧ SR (k + 1) f h3 (hp_row r (15 + k) fb) := by
  have T3 := top_dig T hk hx hy hht hsz hdp
  obtain ⟨S, K, M, hf, hd, hq, hc, hm, F⟩ := T
  obtain ⟨c1, c2, c3, -, -⟩ := make_spec (x := nI x) (y := nI y) (sz := nI sz) (dp := nI dp) hht hk K.1 S.2.2.2 (fun j hj => by obtain ⟨v, _, _, _, _, g1, _, _, _, _, k1, _⟩ := S.2.1.1 j hj; exact ⟨v, g1, k1⟩) K.2.2.2.2.2.2.1
  have rng : ∀ (lo a hi : Nat), lo ≤ a → a ≤ hi → hi < 2 ^ 31 → ¬ bI (nI lo ≤ nI a ∧ nI a ≤ nI hi) = 0 := fun lo a hi h1 h2 h3 => by
    rw [bIt ⟨(nI_leI (by omega) (by omega)).mpr h1, (nI_leI (by omega) (by omega)).mpr h2⟩]
    decide
  have e : x_dig k h (nI x) (nI y) (nI ht) (nI sz) (nI dp) = .inl (some (.int (nI k)), d_make 1 k h (nI x) (nI y) (nI ht) (nI sz) (nI dp)) := by
    unfold x_dig d_makeR
    rw [if_neg (show ¬ bI ((0 : Int32) ≤ nI x ∧ nI x ≤ 40) = 0 from rng 0 x 40 (by omega) hx (by omega)), if_neg (show ¬ bI ((0 : Int32) ≤ nI y ∧ nI y ≤ 40) = 0 from rng 0 y 40 (by omega) hy (by omega)), if_neg (show ¬ bI ((0 : Int32) ≤ nI ht ∧ nI ht ≤ 300) = 0 from rng 0 ht 300 (by omega) hht (by omega)), if_neg (show ¬ bI ((1 : Int32) ≤ nI sz ∧ nI sz ≤ 60) = 0 from rng 1 sz 60 hsz.1 hsz.2 (by omega)), if_neg (show ¬ bI ((1 : Int32) ≤ nI dp ∧ nI dp ≤ 9) = 0 from rng 1 dp 9 hdp.1 hdp.2 (by omega)), if_pos (show nI k < (10 : Int32) from (nI_ltI (a := k) (b := 10) (by omega) (by omega)).mpr hk), tk_no k (fun j hj => by rw [R.p hj (by omega), R.p hj (by omega)]; exact hfree j hj), if_pos (by decide)]
  have hC64 : y0 (d_make 1 k h (nI x) (nI y) (nI ht) (nI sz) (nI dp)) 64 1 = nI k := by rw [y0_1, c1 64 (by omega) (by omega) (by omega)]; exact M.1
  obtain ⟨z1, -, -, -⟩ := mdig_spec (x := nI x) (y := nI y) (ht := nI ht) (sz := nI sz) (dp := nI dp) hk hC64
  have lo : ∀ o, o < 64 → m_dig k (y0 (d_make 1 k h (nI x) (nI y) (nI ht) (nI sz) (nI dp))) (nI x) (nI y) (nI ht) (nI sz) (nI dp) o = d_make 1 k h (nI x) (nI y) (nI ht) (nI sz) (nI dp) o := fun o ho => by rw [z1 o (by omega) (by omega) (by omega), y0_ne (by omega)]
  refine ⟨_, _, e, lo, T3, SR.lo ?_ hf (by omega) lo⟩
  obtain ⟨⟨F5, F6, F7, F8, F9⟩, -⟩ := F k (Nat.le_refl k) hk
  have F5 : h (15 + k) 5 = 0 := F5
  have F6 : h (15 + k) 6 = 0 := F6
  have F7 : h (15 + k) 7 = 0 := F7
  have F8 : h (15 + k) 8 = -1 := F8
  have F9 : h (15 + k) 9 = 0 := F9
  refine ⟨fun o j hw => ?_, ?_, ?_⟩
  · by_cases eo : o = 15 + k
    · subst eo
      have hj : j < 10 := by unfold sW at hw; omega
      rw [c3, hp_row_eq]
      rcases (show j = 0 ∨ j = 1 ∨ j = 2 ∨ j = 3 ∨ j = 4 ∨ j = 5 ∨ j = 6 ∨ j = 7 ∨ j = 8 ∨ j = 9 by omega) with rfl | rfl | rfl | rfl | rfl | rfl | rfl | rfl | rfl | rfl
      · exact b0.symm
      · exact b1.symm
      · exact b2.symm
      · exact b3.symm
      · exact b4.symm
      · exact F5.trans b5.symm
      · exact F6.trans b6.symm
      · exact F7.trans b7.symm
      · exact F8.trans b8.symm
      · exact F9.trans b9.symm
    · rw [hp_row_ne eo, c1 o (by unfold sW at hw; omega) (by unfold sW at hw; omega) eo]
      exact R.1 o j (by unfold sW at hw ⊢; omega)
  · rw [hp_row_ne (by omega), c2, if_neg (by omega)]; exact R.2.1
  · rw [hp_row_ne (by omega), c2, if_neg (by omega)]; exact R.2.2
theorem lw_addF {n f t q p s : Nat} {h r : Hp} {fb : Nat → Int32} (T : TOP n f t q h) (R : SR n f h r) (hf : f < 6) (hp : p < n) (hs : 1 ≤ s ∧ s ≤ 80) (b0 : fb 0 = nI s) (b1 : fb 1 = nI p) (b2 : fb 2 = 0) (b3 : fb 3 = 0) (b4 : fb 4 = 0) : ∃ h2 h3, x_addFlock n f h (nI p) (nI s) = .inl (some (.int (nI f)), h2) ∧ (∀ o, o < 64 → h3 o = h2 o) ∧ TOP n (f + 1) t q h3 ∧ SR n (f + 1) h3 (hp_row r (26 + f) fb) := by
  have hn := T.2.1.2.1
  have T3 := top_mkF T hf hp hs
  have e : x_addFlock n f h (nI p) (nI s) = .inl (some (.int (nI f)), d_mkF 1 f h (nI p) (nI s)) := by
    unfold x_addFlock d_mkFR
    rw [if_pos (inQ (by omega) hp), if_neg (by rw [bIt ⟨(nI_leI (a := 1) (b := s) (by omega) (by omega)).mpr hs.1, (nI_leI (a := s) (b := 80) (by omega) (by omega)).mpr hs.2⟩]; decide), if_pos (show nI f < nI (rmD 1) from (nI_ltI (by omega) (by decide)).mpr hf)]
  have lo : ∀ o, o < 64 → m_putF f (y0 (d_mkF 1 f h (nI p) (nI s))) (nI p) (nI s) o = d_mkF 1 f h (nI p) (nI s) o := fun o ho => by rw [putF_ne (by omega) (by omega), y0_ne (by omega)]
  refine ⟨_, _, e, lo, T3, SR.lo ?_ (by omega) hn lo⟩
  refine ⟨fun o j hw => ?_, ?_, ?_⟩
  · by_cases eo : o = 26 + f
    · subst eo
      have hj : j < 5 := by unfold sW at hw; omega
      rw [hp_row_eq]
      have em : d_mkF 1 f h (nI p) (nI s) (26 + f) j = pfR (nI s) (nI p) j := mkF_new (d := 1) hj
      rw [em]
      rcases (show j = 0 ∨ j = 1 ∨ j = 2 ∨ j = 3 ∨ j = 4 by omega) with rfl | rfl | rfl | rfl | rfl
      · exact b0.symm
      · exact b1.symm
      · exact b2.symm
      · exact b3.symm
      · exact b4.symm
    · rw [hp_row_ne eo, mkF_ne (by unfold sW at hw; omega) (by omega)]
      exact R.1 o j (by unfold sW at hw ⊢; omega)
  · rw [hp_row_ne (by omega), mkF_k (by omega)]; exact R.2.1
  · rw [hp_row_ne (by omega), mkF_k (by omega)]; exact R.2.2
section GSP
variable {g : gW} {p : Program} {l : Launch} {e : Env} {R : Room} {s : State} {m : MethodId} {args : Array Value} {below : List Frame} {meth : Method} {c : Code} {cc : ByteArray} {nL : Nat} {own : String} {A : Ad} {n f : Nat} {r : Hp} {P0 : va_W} {F : Nat → Prop} {lv : List (Nat × Value)} {cells slots : Nat} {Q : State → Prop} {pc : Nat} {st : List Value}
theorem mo_hG {q0 w sz : Nat} {fb : Nat → Int32} (hn : n ≤ 10) (hF : ∀ q, sz ≤ q → F q) (hD : va_D F (P0 ++ ((sx g A n f r ++ [cI g q0 w fb]) ++ []))) : ∀ q, FF (fun q => SF A n f q ∨ q = q0) sz q → F q := by
  intro q hq
  rcases hq with (⟨o, ho, rfl⟩ | rfl) | hq
  · exact hD.mem _ (List.mem_append_right _ (List.mem_append_left _ (List.mem_append_left _ (sx_at hn ho))))
  · exact hD.mem (q, _) (List.mem_append_right _ (List.mem_append_left _ (List.mem_append_right _ List.mem_cons_self)))
  · exact hF q hq
theorem mo_hap {q0 w : Nat} {fb : Nat → Int32} (hn : n ≤ 10) (hD : va_D F (P0 ++ ((sx g A n f r ++ [cI g q0 w fb]) ++ []))) : ∀ x, x ∈ P0 ∨ x ∈ ([] : va_W) → ¬ (SF A n f x.1 ∨ x.1 = q0) := by
  intro x hx
  have hx : x ∈ P0 := hx.resolve_right (fun h => by cases h)
  have hd := hD.nd
  rw [List.map_append] at hd
  obtain ⟨-, -, h3⟩ := List.nodup_append.mp hd
  have hx1 : x.1 ∈ P0.map Prod.fst := List.mem_map.mpr ⟨x, hx, rfl⟩
  rintro (⟨o, ho, e⟩ | e)
  · exact h3 x.1 hx1 (A o) (List.mem_map.mpr ⟨_, List.mem_append_left _ (List.mem_append_left _ (sx_at hn ho)), rfl⟩) e
  · exact h3 x.1 hx1 q0 (List.mem_map.mpr ⟨_, List.mem_append_left _ (List.mem_append_right _ List.mem_cons_self), rfl⟩) e
theorem mo_mem {q0 w : Nat} {fb : Nat → Int32} : ∀ x ∈ sx g A n f r ++ [cI g q0 w fb], SF A n f x.1 ∨ x.1 = q0 := by
  intro x hx
  rcases List.mem_append.mp hx with h | h
  · exact Or.inl (sx_mem x h)
  · rcases List.mem_cons.mp h with rfl | h
    · exact Or.inr rfl
    · cases h
theorem gs_moreP (C : CG g p s m args meth c cc nL own) {q0 w idx : Nat} {fb : Nat → Int32} (hn : n ≤ 10) (hf : f ≤ 10) (hF : ∀ q, s.heap.size ≤ q → F q) (hlink : Cond.methodLink own idx yX5_more ∈ TT) (hcat : (st.map fun v => v.category).sum ≤ 8) (hk : 0 + 1 ≤ R.frames ∧ 8 + (4 + 11) + 28 * 0 ≤ R.locals) (hr : cells + 1 ≤ R.cells ∧ slots + 11 ≤ R.slots) (hd : decode cc pc = .ok (.invokestatic idx, 3))
    (kk : ∀ q2, GW g p l e R s m args below meth c nL (P0 ++ (sx g A n f r ++ [cI g q0 w fb, cR g q2 (n + 1) (fun i => if i < n then some (A (15 + i)) else if i = n then some q0 else none)])) F lv (cells + 1) (slots + 11) Q (pc + 3) (.ref q2 :: st)) : GW g p l e R s m args below meth c nL (P0 ++ (sx g A n f r ++ [cI g q0 w fb])) F lv cells slots Q pc (.ref q0 :: .ref (A 13) :: st) := by
  refine gg_ls (P0 ++ ((sx g A n f r ++ [cI g q0 w fb]) ++ [])) (by rw [List.append_nil]) ?_
  refine gg_callS (A := P0) (B := []) (rest := st) C mf_X5_more (gt_more_P hn hf) EB.tt EM.tt mo_mem (mo_hG hn hF) (mo_hap hn) hlink rfl rfl hcat hk hr hd (fun v L2 N hp => ?_)
  obtain ⟨q2, rfl, rfl, rfl⟩ := hp
  exact gg_ls _ (by rw [List.nil_append, List.append_assoc]; rfl) (kk q2)
theorem gs_moreF (C : CG g p s m args meth c cc nL own) {q0 w idx : Nat} {fb : Nat → Int32} (hn : n ≤ 10) (hf : f ≤ 10) (hF : ∀ q, s.heap.size ≤ q → F q) (hlink : Cond.methodLink own idx yX5_more ∈ TT) (hcat : (st.map fun v => v.category).sum ≤ 8) (hk : 0 + 1 ≤ R.frames ∧ 8 + (4 + 11) + 28 * 0 ≤ R.locals) (hr : cells + 1 ≤ R.cells ∧ slots + 11 ≤ R.slots) (hd : decode cc pc = .ok (.invokestatic idx, 3))
    (kk : ∀ q2, GW g p l e R s m args below meth c nL (P0 ++ (sx g A n f r ++ [cI g q0 w fb, cR g q2 (f + 1) (fun i => if i < f then some (A (26 + i)) else if i = f then some q0 else none)])) F lv (cells + 1) (slots + 11) Q (pc + 3) (.ref q2 :: st)) : GW g p l e R s m args below meth c nL (P0 ++ (sx g A n f r ++ [cI g q0 w fb])) F lv cells slots Q pc (.ref q0 :: .ref (A 25) :: st) := by
  refine gg_ls (P0 ++ ((sx g A n f r ++ [cI g q0 w fb]) ++ [])) (by rw [List.append_nil]) ?_
  refine gg_callS (A := P0) (B := []) (rest := st) C mf_X5_more (gt_more_F hn hf) EB.tt EM.tt mo_mem (mo_hG hn hF) (mo_hap hn) hlink rfl rfl hcat hk hr hd (fun v L2 N hp => ?_)
  obtain ⟨q2, rfl, rfl, rfl⟩ := hp
  exact gg_ls _ (by rw [List.nil_append, List.append_assoc]; rfl) (kk q2)
end GSP
theorem mod_nI {i d : Nat} (hi : i < 2 ^ 31) (h0 : 0 < d) (hd : d < 2 ^ 31) : nI i - nI i / nI d * nI d = nI (i % d) := by
  rw [pk_div hi h0 hd, pk_mul, pk_sub (Nat.div_mul_le_self i d)]
  congr 1
  have := Nat.div_add_mod i d
  have h2 : i / d * d = d * (i / d) := Nat.mul_comm _ _
  omega
/-- ponds that are dug and not yet touched -/
def NW (k : Nat) (r : Hp) : Prop := (∀ j, j < k → r (15 + j) 5 = 0 ∧ r (15 + j) 8 = -1) ∧ ∀ j c, j < 10 → c < 3 → r (3 + j) c = 0
