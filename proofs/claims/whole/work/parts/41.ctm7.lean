/-! digging and new flocks in the reference -/
def pfR (sheep pond : Int32) : Nat → Int32 := upd (upd (upd (upd (upd (fun _ => 0) 0 sheep) 1 pond) 2 0) 3 0) 4 0
def m_pf1 (f : Nat) (h : Hp) (pond sheep : Int32) : Hp := hp_row h 68 (va_cpy (pfR sheep pond) (h 68) 0 (5 * f) 5)
def m_putF (f : Nat) (h : Hp) (pond sheep : Int32) : Hp := hp_up (m_pf1 f h pond sheep) 64 3 (m_pf1 f h pond sheep 64 3 + 1)
def y_addF (f : Nat) (h : Hp) (p sh : Int32) : Int32 × Hp := if bI (0 ≤ p ∧ p ≤ y0 h 64 1 - 1) = 0 then yF h 1 else if bI (1 ≤ sh ∧ sh ≤ 80) = 0 then yF h 2 else if y0 h 64 3 = 6 then yF h 3 else (m_putF f (y0 h) p sh 64 3 - 1, m_putF f (y0 h) p sh)
def m_frS (h : Hp) (x y : Int32) (b : Int32) (j : Nat) : Int32 := if b = 0 then 0 else if m_fx h (nI j) 0 = x then (if m_fx h (nI j) 1 = y then 0 else 1) else 1
def m_fr0 (h : Hp) : Int32 := if 10 ≤ h 64 1 then 0 else 1
def m_fr (h : Hp) (x y : Int32) : Nat → Int32 := fd (m_frS h x y) (m_fr0 h)
theorem frS_eq {h : Hp} {x y v : Int32} {j : Nat} (e : m_frS h x y (m_fr h x y j) j = v) : some (Value.int v) = some (Value.int (m_fr h x y (j + 1))) := e ▸ rfl
theorem fr_0 {h : Hp} {x y : Int32} (c : 10 ≤ h 64 1) : ∀ k, m_fr h x y k = 0
  | 0 => if_pos c
  | k + 1 => if_pos (fr_0 c k)
theorem fr_lt {h : Hp} {x y : Int32} {n k : Nat} (hn : h 64 1 = nI n) (hn10 : n ≤ 10) (c : ¬ m_fr h x y k = 0) : n < 10 := by
  apply Nat.lt_of_not_le
  intro hz
  have e : n = 10 := by omega
  subst e
  exact c (fr_0 (by rw [hn]; decide) k)
abbrev m_bad (x y ht sz dp : Int32) : Prop := bI (0 ≤ x ∧ x ≤ 40) = 0 ∨ bI (0 ≤ y ∧ y ≤ 40) = 0 ∨ bI (0 ≤ ht ∧ ht ≤ 300) = 0 ∨ bI (1 ≤ sz ∧ sz ≤ 60) = 0 ∨ bI (1 ≤ dp ∧ dp ≤ 9) = 0
def dgR (x y ht sz dp : Int32) : Nat → Int32 := upd (upd (upd (upd (upd (fun _ => 0) 0 x) 1 y) 2 ht) 3 sz) 4 dp
def m_dig1 (n : Nat) (h : Hp) (x y ht sz dp : Int32) : Hp := hp_row h 65 (va_cpy (dgR x y ht sz dp) (h 65) 0 (5 * n) 5)
def m_dig2 (n : Nat) (h : Hp) (x y ht sz dp : Int32) : Hp := m_set (m_dig1 n h x y ht sz dp) (m_dig1 n h x y ht sz dp 64 1) 3 (-1)
def m_dig (n : Nat) (h : Hp) (x y ht sz dp : Int32) : Hp := hp_up (m_dig2 n h x y ht sz dp) 64 1 (m_dig2 n h x y ht sz dp 64 1 + 1)
def y_dig (n : Nat) (h : Hp) (x y ht sz dp : Int32) : Int32 × Hp := if m_bad x y ht sz dp then yF h 1 else if m_fr (y0 h) x y n = 0 then yF h 2 else (m_dig n (y0 h) x y ht sz dp 64 1 - 1, m_dig n (y0 h) x y ht sz dp)
set_option maxRecDepth 100000 in
set_option maxHeartbeats 1600000 in
theorem ct_X5_putFlock {g : gW} {l : Launch} {h : Hp} {f : Nat} (hf : h 64 3 = nI f) (hf6 : f ≤ 6) {x a : Int32} : CT g l yX5_putFlock cX5_putFlock 4 none 1 1 5 [.ref (gB g + 64), .int x, .int a] h none (m_putF f h x a) := by
  refine CT.of (lv0 := [(0, .ref (gB g + 64)), (1, .int x), (2, .int a)]) mf_X5_putFlock.1.2.2.2 (Nat.le_of_ble_eq_true rfl) rfl ?_
  intro p e s m below meth c C hr
  refine ww_iconst (v := 5) C dX5_putFlock_0 (by decide) ?_
  refine ww_newi C (N := 5) rfl (by omega) ⟨(Nat.le_of_ble_eq_true rfl), (Nat.le_of_ble_eq_true rfl)⟩ dX5_putFlock_1 (fun q => ?_)
  refine ww_dup C dX5_putFlock_3 rfl ?_
  refine ww_iconst (v := 0) C dX5_putFlock_4 (by decide) ?_
  refine ww_iload_n C dX5_putFlock_5 2 rfl rfl ?_
  refine ww_iastX C 0 rfl (j := 0) rfl (by omega) (by omega) dX5_putFlock_6 ?_
  refine ww_dup C dX5_putFlock_7 rfl ?_
  refine ww_iconst (v := 1) C dX5_putFlock_8 (by decide) ?_
  refine ww_iload_n C dX5_putFlock_9 1 rfl rfl ?_
  refine ww_iastX C 0 rfl (j := 1) rfl (by omega) (by omega) dX5_putFlock_10 ?_
  refine ww_dup C dX5_putFlock_11 rfl ?_
  refine ww_iconst (v := 2) C dX5_putFlock_12 (by decide) ?_
  refine ww_iconst (v := 0) C dX5_putFlock_13 (by decide) ?_
  refine ww_iastX C 0 rfl (j := 2) rfl (by omega) (by omega) dX5_putFlock_14 ?_
  refine ww_dup C dX5_putFlock_15 rfl ?_
  refine ww_iconst (v := 3) C dX5_putFlock_16 (by decide) ?_
  refine ww_iconst (v := 0) C dX5_putFlock_17 (by decide) ?_
  refine ww_iastX C 0 rfl (j := 3) rfl (by omega) (by omega) dX5_putFlock_18 ?_
  refine ww_dup C dX5_putFlock_19 rfl ?_
  refine ww_iconst (v := 4) C dX5_putFlock_20 (by decide) ?_
  refine ww_iconst (v := 0) C dX5_putFlock_21 (by decide) ?_
  refine ww_iastX C 0 rfl (j := 4) rfl (by omega) (by omega) dX5_putFlock_22 ?_
  refine ww_astore_n C dX5_putFlock_23 3 rfl (by decide) ?_
  refine ww_aload_n C dX5_putFlock_24 3 rfl rfl ?_
  refine ww_iconst (v := 0) C dX5_putFlock_25 (by decide) ?_
  refine ww_aload_n C dX5_putFlock_26 0 rfl rfl ?_
  refine ww_getMh C q_f_X5_19 dX5_putFlock_27 ?_
  refine ww_iconst (v := 5) C dX5_putFlock_30 (by decide) ?_
  refine ww_aload_n C dX5_putFlock_31 0 rfl rfl ?_
  refine ww_getM C 3 (by decide) q_f_X5_36 dX5_putFlock_32 ?_
  refine ww_imul C dX5_putFlock_35 ?_
  refine ww_top (show (5 : Int32) * h 64 3 = nI (5 * f) from by rw [hf]; exact five0) ?_
  refine ww_iconst (v := 5) C dX5_putFlock_36 (by decide) ?_
  refine ww_copyX C 0 (o := 68) (n1 := 35) rfl (by omega) (fun r => rfl) q_m_X5_52 (sp := 0) (dp := 5 * f) (k := 5) rfl rfl rfl (by omega) (by omega) ⟨by omega, by omega⟩ (Nat.le_of_ble_eq_true rfl) (Nat.le_of_ble_eq_true rfl) (Nat.le_of_ble_eq_true rfl) dX5_putFlock_37 ?_
  refine ww_heap (h2 := m_pf1 f h x a) rfl ?_
  refine ww_aload_n C dX5_putFlock_40 0 rfl rfl ?_
  refine ww_dup C dX5_putFlock_41 rfl ?_
  refine ww_getM C 3 (by decide) q_f_X5_36 dX5_putFlock_42 ?_
  refine ww_iconst (v := 1) C dX5_putFlock_45 (by decide) ?_
  refine ww_iadd C dX5_putFlock_46 ?_
  refine ww_putM C 3 (by decide) q_f_X5_36 dX5_putFlock_47 ?_
  exact ww_wide 1 5 (Nat.le_of_ble_eq_true rfl) (Nat.le_of_ble_eq_true rfl) (ww_vret C hr rfl rfl dX5_putFlock_50)
set_option maxRecDepth 100000 in
set_option maxHeartbeats 1600000 in
theorem ct_X5_addFlock {g : gW} {l : Launch} {h : Hp} {n f : Nat} (H : OM n f h) (hf6 : f ≤ 6) {x a : Int32} : CT g l yX5_addFlock cX5_addFlock 3 (some FieldType.int) 3 1 5 [.ref (gB g + 64), .int x, .int a] h (some (.int (y_addF f h x a).1)) (y_addF f h x a).2 := by
  refine CT.of (lv0 := [(0, .ref (gB g + 64)), (1, .int x), (2, .int a)]) mf_X5_addFlock.1.2.2.2 (Nat.le_of_ble_eq_true rfl) rfl ?_
  intro p e s m below meth c C hr
  have hf : y0 h 64 3 = nI f := H.yy.2.2.1
  refine ww_aload_n C dX5_addFlock_0 0 rfl rfl ?_
  refine ww_iconst (v := 0) C dX5_addFlock_1 (by decide) ?_
  refine ww_putM C 0 (by decide) q_f_X5_25 dX5_addFlock_2 ?_
  refine ww_heap (h2 := y0 h) rfl ?_
  refine ww_aload_n C dX5_addFlock_5 0 rfl rfl ?_
  refine ww_iload_n C dX5_addFlock_6 1 rfl rfl ?_
  refine ww_callM C mf_X5_isPond dX5_addFlock_7 ct_X5_isPond q_m_X5_62 rfl rfl rfl (Nat.le_of_ble_eq_true rfl) (by exact ⟨Nat.le_of_ble_eq_true rfl, Nat.le_of_ble_eq_true rfl⟩) (by exact ⟨Nat.le_of_ble_eq_true rfl, Nat.le_of_ble_eq_true rfl⟩) ?_
  refine ww_if_ne C dX5_addFlock_10 19 (by decide) (fun c10 => ?_) (fun c10 => ?_)
  · refine ww_iload_n C dX5_addFlock_19 2 rfl rfl ?_
    refine ww_iconst (v := 1) C dX5_addFlock_20 (by decide) ?_
    refine ww_bipush (v := 80) C dX5_addFlock_21 (by decide) ?_
    refine ww_callS C mf_X5_isIn ct_X5_isIn q_m_X5_32 rfl rfl (Nat.le_of_ble_eq_true rfl) (by exact ⟨Nat.le_of_ble_eq_true rfl, Nat.le_of_ble_eq_true rfl⟩) (by exact ⟨Nat.le_of_ble_eq_true rfl, Nat.le_of_ble_eq_true rfl⟩) dX5_addFlock_23 ?_
    refine ww_if_ne C dX5_addFlock_26 35 (by decide) (fun c26 => ?_) (fun c26 => ?_)
    · refine ww_aload_n C dX5_addFlock_35 0 rfl rfl ?_
      refine ww_getM C 3 (by decide) q_f_X5_36 dX5_addFlock_36 ?_
      refine ww_bipush (v := 6) C dX5_addFlock_39 (by decide) ?_
      refine ww_icmp_ne C dX5_addFlock_41 50 (by decide) (fun c41 => ?_) (fun c41 => ?_)
      · refine ww_aload_n C dX5_addFlock_50 0 rfl rfl ?_
        refine ww_iload_n C dX5_addFlock_51 1 rfl rfl ?_
        refine ww_iload_n C dX5_addFlock_52 2 rfl rfl ?_
        refine ww_callM C mf_X5_putFlock dX5_addFlock_53 (ct_X5_putFlock hf hf6) q_m_X5_102 rfl rfl rfl (Nat.le_of_ble_eq_true rfl) (by exact ⟨Nat.le_of_ble_eq_true rfl, Nat.le_of_ble_eq_true rfl⟩) (by exact ⟨Nat.le_of_ble_eq_true rfl, Nat.le_of_ble_eq_true rfl⟩) ?_
        refine ww_aload_n C dX5_addFlock_56 0 rfl rfl ?_
        refine ww_getM C 3 (by decide) q_f_X5_36 dX5_addFlock_57 ?_
        refine ww_iconst (v := 1) C dX5_addFlock_60 (by decide) ?_
        refine ww_isub C dX5_addFlock_61 ?_
        exact ww_wide 1 5 (Nat.le_of_ble_eq_true rfl) (Nat.le_of_ble_eq_true rfl) (ww_iret C hr (by simp only [y_addF, yF, c10, c26, c41, if_true, if_false]) (by simp only [y_addF, yF, c10, c26, c41, if_true, if_false]) dX5_addFlock_62)
      · refine ww_aload_n C dX5_addFlock_44 0 rfl rfl ?_
        refine ww_iconst (v := 3) C dX5_addFlock_45 (by decide) ?_
        refine ww_callM C mf_X5_fail dX5_addFlock_46 ct_X5_fail q_m_X5_49 rfl rfl rfl (Nat.le_of_ble_eq_true rfl) (by exact ⟨Nat.le_of_ble_eq_true rfl, Nat.le_of_ble_eq_true rfl⟩) (by exact ⟨Nat.le_of_ble_eq_true rfl, Nat.le_of_ble_eq_true rfl⟩) ?_
        exact ww_wide 1 5 (Nat.le_of_ble_eq_true rfl) (Nat.le_of_ble_eq_true rfl) (ww_iret C hr (by simp only [y_addF, yF, c10, c26, c41, if_true, if_false]) (by simp only [y_addF, yF, c10, c26, c41, if_true, if_false]) dX5_addFlock_49)
    · refine ww_aload_n C dX5_addFlock_29 0 rfl rfl ?_
      refine ww_iconst (v := 2) C dX5_addFlock_30 (by decide) ?_
      refine ww_callM C mf_X5_fail dX5_addFlock_31 ct_X5_fail q_m_X5_49 rfl rfl rfl (Nat.le_of_ble_eq_true rfl) (by exact ⟨Nat.le_of_ble_eq_true rfl, Nat.le_of_ble_eq_true rfl⟩) (by exact ⟨Nat.le_of_ble_eq_true rfl, Nat.le_of_ble_eq_true rfl⟩) ?_
      exact ww_wide 1 5 (Nat.le_of_ble_eq_true rfl) (Nat.le_of_ble_eq_true rfl) (ww_iret C hr (by simp only [y_addF, yF, c10, c26, if_true, if_false]) (by simp only [y_addF, yF, c10, c26, if_true, if_false]) dX5_addFlock_34)
  · refine ww_aload_n C dX5_addFlock_13 0 rfl rfl ?_
    refine ww_iconst (v := 1) C dX5_addFlock_14 (by decide) ?_
    refine ww_callM C mf_X5_fail dX5_addFlock_15 ct_X5_fail q_m_X5_49 rfl rfl rfl (Nat.le_of_ble_eq_true rfl) (by exact ⟨Nat.le_of_ble_eq_true rfl, Nat.le_of_ble_eq_true rfl⟩) (by exact ⟨Nat.le_of_ble_eq_true rfl, Nat.le_of_ble_eq_true rfl⟩) ?_
    exact ww_wide 1 5 (Nat.le_of_ble_eq_true rfl) (Nat.le_of_ble_eq_true rfl) (ww_iret C hr (by simp only [y_addF, yF, c10, if_true, if_false]) (by simp only [y_addF, yF, c10, if_true, if_false]) dX5_addFlock_18)
set_option maxRecDepth 100000 in
set_option maxHeartbeats 1600000 in
theorem ct_X5_dig {g : gW} {l : Launch} {h : Hp} {n f : Nat} (H : OM n f h) {x y ht sz dp : Int32} : CT g l yX5_dig cX5_dig 8 (some FieldType.int) 3 1 5 [.ref (gB g + 64), .int x, .int y, .int ht, .int sz, .int dp] h (some (.int (y_dig n h x y ht sz dp).1)) (y_dig n h x y ht sz dp).2 := by
  refine CT.of (lv0 := [(0, .ref (gB g + 64)), (1, .int x), (2, .int y), (3, .int ht), (4, .int sz), (5, .int dp)]) mf_X5_dig.1.2.2.2 (Nat.le_of_ble_eq_true rfl) rfl ?_
  intro p e s m below meth c C hr
  have hn : y0 h 64 1 = nI n := H.yy.1
  have hn10 := H.2.1
  have hf : y0 h 64 3 = nI f := H.yy.2.2.1
  have L : ∀ (fu j : Nat), j ≤ n → n < fu + j → ¬ m_bad x y ht sz dp → WW g p l e (rK 3 1 5) s m ([.ref (gB g + 64), .int x, .int y, .int ht, .int sz, .int dp] : List Value).toArray below meth c 8 [] (y0 h) [(0, .ref (gB g + 64)), (1, .int x), (2, .int y), (3, .int ht), (4, .int sz), (5, .int dp), (6, .int (m_fr (y0 h) x y j)), (7, .int (nI j))] 0 0 (MQ below (QW g s.heap.size (some (.int (y_dig n h x y ht sz dp).1)) (y_dig n h x y ht sz dp).2) ([.ref (gB g + 64), .int x, .int y, .int ht, .int sz, .int dp] : List Value).toArray s 1 5 (AA g s.heap.size)) 83 [] := by
    intro fu
    induction fu with
    | zero => intro j h1 h2; omega
    | succ fu ih =>
      intro j hj hfu hb
      refine ww_iload C dX5_dig_83 rfl ?_
      refine ww_aload_n C dX5_dig_85 0 rfl rfl ?_
      refine ww_getM C 1 (by decide) q_f_X5_29 dX5_dig_86 ?_
      refine ww_icmp_ge C dX5_dig_89 132 (by decide) (fun q => ?_) (fun q => ?_)
      · have hjn := lp_exit hn q hj (by omega)
        subst hjn
        refine ww_iload C dX5_dig_132 rfl ?_
        refine ww_if_ne C dX5_dig_134 143 (by decide) (fun c134 => ?_) (fun c134 => ?_)
        · have hn9 : n < 10 := fr_lt hn hn10 c134
          refine ww_iconst (v := 5) C dX5_dig_143 (by decide) ?_
          refine ww_newi C (N := 5) rfl (by omega) ⟨(Nat.le_of_ble_eq_true rfl), (Nat.le_of_ble_eq_true rfl)⟩ dX5_dig_144 (fun q => ?_)
          refine ww_dup C dX5_dig_146 rfl ?_
          refine ww_iconst (v := 0) C dX5_dig_147 (by decide) ?_
          refine ww_iload_n C dX5_dig_148 1 rfl rfl ?_
          refine ww_iastX C 0 rfl (j := 0) rfl (by omega) (by omega) dX5_dig_149 ?_
          refine ww_dup C dX5_dig_150 rfl ?_
          refine ww_iconst (v := 1) C dX5_dig_151 (by decide) ?_
          refine ww_iload_n C dX5_dig_152 2 rfl rfl ?_
          refine ww_iastX C 0 rfl (j := 1) rfl (by omega) (by omega) dX5_dig_153 ?_
          refine ww_dup C dX5_dig_154 rfl ?_
          refine ww_iconst (v := 2) C dX5_dig_155 (by decide) ?_
          refine ww_iload_n C dX5_dig_156 3 rfl rfl ?_
          refine ww_iastX C 0 rfl (j := 2) rfl (by omega) (by omega) dX5_dig_157 ?_
          refine ww_dup C dX5_dig_158 rfl ?_
          refine ww_iconst (v := 3) C dX5_dig_159 (by decide) ?_
          refine ww_iload C dX5_dig_160 rfl ?_
          refine ww_iastX C 0 rfl (j := 3) rfl (by omega) (by omega) dX5_dig_162 ?_
          refine ww_dup C dX5_dig_163 rfl ?_
          refine ww_iconst (v := 4) C dX5_dig_164 (by decide) ?_
          refine ww_iload C dX5_dig_165 rfl ?_
          refine ww_iastX C 0 rfl (j := 4) rfl (by omega) (by omega) dX5_dig_167 ?_
          refine ww_astore C dX5_dig_168 (by decide) ?_
          refine ww_aload C dX5_dig_170 rfl ?_
          refine ww_iconst (v := 0) C dX5_dig_172 (by decide) ?_
          refine ww_aload_n C dX5_dig_173 0 rfl rfl ?_
          refine ww_getMf C q_f_X5_9 dX5_dig_174 ?_
          refine ww_iconst (v := 5) C dX5_dig_177 (by decide) ?_
          refine ww_aload_n C dX5_dig_178 0 rfl rfl ?_
          refine ww_getM C 1 (by decide) q_f_X5_29 dX5_dig_179 ?_
          refine ww_imul C dX5_dig_182 ?_
          refine ww_top (show (5 : Int32) * y0 h 64 1 = nI (5 * n) from by rw [hn]; exact five0) ?_
          refine ww_iconst (v := 5) C dX5_dig_183 (by decide) ?_
          refine ww_copyX C 0 (o := 65) (n1 := 50) rfl (by omega) (fun r => rfl) q_m_X5_52 (sp := 0) (dp := 5 * n) (k := 5) rfl rfl rfl (by omega) (by omega) ⟨by omega, by omega⟩ (Nat.le_of_ble_eq_true rfl) (Nat.le_of_ble_eq_true rfl) (Nat.le_of_ble_eq_true rfl) dX5_dig_184 ?_
          refine ww_heap (h2 := m_dig1 n (y0 h) x y ht sz dp) rfl ?_
          have hx : isN 10 (m_dig1 n (y0 h) x y ht sz dp 64 1) := ⟨n, hn9, hn⟩
          refine ww_aload_n C dX5_dig_187 0 rfl rfl ?_
          refine ww_aload_n C dX5_dig_188 0 rfl rfl ?_
          refine ww_getM C 1 (by decide) q_f_X5_29 dX5_dig_189 ?_
          refine ww_iconst (v := 3) C dX5_dig_192 (by decide) ?_
          refine ww_iconst (v := (-1)) C dX5_dig_193 (by decide) ?_
          refine ww_callM C mf_X5_set dX5_dig_194 (ct_X5_set (by first | exact ix_0 (by assumption) | exact ix_1 (by assumption) | exact ix_2 (by assumption) | exact ix_3 (by assumption) | exact ix_4 (by assumption))) q_m_X5_58 rfl rfl rfl (Nat.le_of_ble_eq_true rfl) (by exact ⟨Nat.le_of_ble_eq_true rfl, Nat.le_of_ble_eq_true rfl⟩) (by exact ⟨Nat.le_of_ble_eq_true rfl, Nat.le_of_ble_eq_true rfl⟩) ?_
          refine ww_heap (h2 := m_dig2 n (y0 h) x y ht sz dp) rfl ?_
          refine ww_aload_n C dX5_dig_197 0 rfl rfl ?_
          refine ww_dup C dX5_dig_198 rfl ?_
          refine ww_getM C 1 (by decide) q_f_X5_29 dX5_dig_199 ?_
          refine ww_iconst (v := 1) C dX5_dig_202 (by decide) ?_
          refine ww_iadd C dX5_dig_203 ?_
          refine ww_putM C 1 (by decide) q_f_X5_29 dX5_dig_204 ?_
          refine ww_heap (h2 := m_dig n (y0 h) x y ht sz dp) rfl ?_
          refine ww_aload_n C dX5_dig_207 0 rfl rfl ?_
          refine ww_getM C 1 (by decide) q_f_X5_29 dX5_dig_208 ?_
          refine ww_iconst (v := 1) C dX5_dig_211 (by decide) ?_
          refine ww_isub C dX5_dig_212 ?_
          exact ww_wide 1 5 (Nat.le_of_ble_eq_true rfl) (Nat.le_of_ble_eq_true rfl) (ww_iret C hr (by unfold y_dig; rw [if_neg hb, if_neg c134]) (by unfold y_dig; rw [if_neg hb, if_neg c134]) dX5_dig_213)
        · refine ww_aload_n C dX5_dig_137 0 rfl rfl ?_
          refine ww_iconst (v := 2) C dX5_dig_138 (by decide) ?_
          refine ww_callM C mf_X5_fail dX5_dig_139 ct_X5_fail q_m_X5_49 rfl rfl rfl (Nat.le_of_ble_eq_true rfl) (by exact ⟨Nat.le_of_ble_eq_true rfl, Nat.le_of_ble_eq_true rfl⟩) (by exact ⟨Nat.le_of_ble_eq_true rfl, Nat.le_of_ble_eq_true rfl⟩) ?_
          exact ww_wide 1 5 (Nat.le_of_ble_eq_true rfl) (Nat.le_of_ble_eq_true rfl) (ww_iret C hr (by unfold y_dig; rw [if_neg hb, if_pos c134]; rfl) (by unfold y_dig; rw [if_neg hb, if_pos c134]; rfl) dX5_dig_142)
      · have hjn := lp_body hn q hj (by omega)
        have hx : isN 10 (nI j) := ⟨j, by omega, rfl⟩
        refine ww_iload C dX5_dig_92 rfl ?_
        refine ww_if_eq C dX5_dig_94 123 (by decide) (fun c94 => ?_) (fun c94 => ?_)
        · refine ww_iconst (v := 0) C dX5_dig_123 (by decide) ?_
          refine ww_istore C dX5_dig_124 (by decide) ?_
          refine ww_iinc (v := nI (j + 1)) C dX5_dig_126 rfl (nI_inc _) (by decide) ?_
          refine ww_goto C dX5_dig_129 83 (by decide) ?_
          refine ww_lv [(0, .ref (gB g + 64)), (1, .int x), (2, .int y), (3, .int ht), (4, .int sz), (5, .int dp), (6, .int (m_fr (y0 h) x y (j + 1))), (7, .int (nI (j + 1)))] ⟨rfl, rfl, rfl, rfl, rfl, rfl, (frS_eq (by first | exact if_pos c94 | exact (if_neg c94).trans (if_neg c105) | exact (if_neg c94).trans ((if_pos c105).trans (if_pos c116)) | exact (if_neg c94).trans ((if_pos c105).trans (if_neg c116)))), rfl, trivial⟩ ?_
          exact ih (j + 1) hjn (by omega) hb
        · refine ww_aload_n C dX5_dig_97 0 rfl rfl ?_
          refine ww_iload C dX5_dig_98 rfl ?_
          refine ww_iconst (v := 0) C dX5_dig_100 (by decide) ?_
          refine ww_callM C mf_X5_fx dX5_dig_101 (ct_X5_fx (by first | exact ix_0 (by assumption) | exact ix_1 (by assumption) | exact ix_2 (by assumption) | exact ix_3 (by assumption) | exact ix_4 (by assumption))) q_m_X5_39 rfl rfl rfl (Nat.le_of_ble_eq_true rfl) (by exact ⟨Nat.le_of_ble_eq_true rfl, Nat.le_of_ble_eq_true rfl⟩) (by exact ⟨Nat.le_of_ble_eq_true rfl, Nat.le_of_ble_eq_true rfl⟩) ?_
          refine ww_iload_n C dX5_dig_104 1 rfl rfl ?_
          refine ww_icmp_ne C dX5_dig_105 119 (by decide) (fun c105 => ?_) (fun c105 => ?_)
          · refine ww_iconst (v := 1) C dX5_dig_119 (by decide) ?_
            refine ww_goto C dX5_dig_120 124 (by decide) ?_
            refine ww_istore C dX5_dig_124 (by decide) ?_
            refine ww_iinc (v := nI (j + 1)) C dX5_dig_126 rfl (nI_inc _) (by decide) ?_
            refine ww_goto C dX5_dig_129 83 (by decide) ?_
            refine ww_lv [(0, .ref (gB g + 64)), (1, .int x), (2, .int y), (3, .int ht), (4, .int sz), (5, .int dp), (6, .int (m_fr (y0 h) x y (j + 1))), (7, .int (nI (j + 1)))] ⟨rfl, rfl, rfl, rfl, rfl, rfl, (frS_eq (by first | exact if_pos c94 | exact (if_neg c94).trans (if_neg c105) | exact (if_neg c94).trans ((if_pos c105).trans (if_pos c116)) | exact (if_neg c94).trans ((if_pos c105).trans (if_neg c116)))), rfl, trivial⟩ ?_
            exact ih (j + 1) hjn (by omega) hb
          · refine ww_aload_n C dX5_dig_108 0 rfl rfl ?_
            refine ww_iload C dX5_dig_109 rfl ?_
            refine ww_iconst (v := 1) C dX5_dig_111 (by decide) ?_
            refine ww_callM C mf_X5_fx dX5_dig_112 (ct_X5_fx (by first | exact ix_0 (by assumption) | exact ix_1 (by assumption) | exact ix_2 (by assumption) | exact ix_3 (by assumption) | exact ix_4 (by assumption))) q_m_X5_39 rfl rfl rfl (Nat.le_of_ble_eq_true rfl) (by exact ⟨Nat.le_of_ble_eq_true rfl, Nat.le_of_ble_eq_true rfl⟩) (by exact ⟨Nat.le_of_ble_eq_true rfl, Nat.le_of_ble_eq_true rfl⟩) ?_
            refine ww_iload_n C dX5_dig_115 2 rfl rfl ?_
            refine ww_icmp_eq C dX5_dig_116 123 (by decide) (fun c116 => ?_) (fun c116 => ?_)
            · refine ww_iconst (v := 0) C dX5_dig_123 (by decide) ?_
              refine ww_istore C dX5_dig_124 (by decide) ?_
              refine ww_iinc (v := nI (j + 1)) C dX5_dig_126 rfl (nI_inc _) (by decide) ?_
              refine ww_goto C dX5_dig_129 83 (by decide) ?_
              refine ww_lv [(0, .ref (gB g + 64)), (1, .int x), (2, .int y), (3, .int ht), (4, .int sz), (5, .int dp), (6, .int (m_fr (y0 h) x y (j + 1))), (7, .int (nI (j + 1)))] ⟨rfl, rfl, rfl, rfl, rfl, rfl, (frS_eq (by first | exact if_pos c94 | exact (if_neg c94).trans (if_neg c105) | exact (if_neg c94).trans ((if_pos c105).trans (if_pos c116)) | exact (if_neg c94).trans ((if_pos c105).trans (if_neg c116)))), rfl, trivial⟩ ?_
              exact ih (j + 1) hjn (by omega) hb
            · refine ww_iconst (v := 1) C dX5_dig_119 (by decide) ?_
              refine ww_goto C dX5_dig_120 124 (by decide) ?_
              refine ww_istore C dX5_dig_124 (by decide) ?_
              refine ww_iinc (v := nI (j + 1)) C dX5_dig_126 rfl (nI_inc _) (by decide) ?_
              refine ww_goto C dX5_dig_129 83 (by decide) ?_
              refine ww_lv [(0, .ref (gB g + 64)), (1, .int x), (2, .int y), (3, .int ht), (4, .int sz), (5, .int dp), (6, .int (m_fr (y0 h) x y (j + 1))), (7, .int (nI (j + 1)))] ⟨rfl, rfl, rfl, rfl, rfl, rfl, (frS_eq (by first | exact if_pos c94 | exact (if_neg c94).trans (if_neg c105) | exact (if_neg c94).trans ((if_pos c105).trans (if_pos c116)) | exact (if_neg c94).trans ((if_pos c105).trans (if_neg c116)))), rfl, trivial⟩ ?_
              exact ih (j + 1) hjn (by omega) hb
  refine ww_aload_n C dX5_dig_0 0 rfl rfl ?_
  refine ww_iconst (v := 0) C dX5_dig_1 (by decide) ?_
  refine ww_putM C 0 (by decide) q_f_X5_25 dX5_dig_2 ?_
  refine ww_heap (h2 := y0 h) rfl ?_
  refine ww_iload_n C dX5_dig_5 1 rfl rfl ?_
  refine ww_iconst (v := 0) C dX5_dig_6 (by decide) ?_
  refine ww_bipush (v := 40) C dX5_dig_7 (by decide) ?_
  refine ww_callS C mf_X5_isIn ct_X5_isIn q_m_X5_32 rfl rfl (Nat.le_of_ble_eq_true rfl) (by exact ⟨Nat.le_of_ble_eq_true rfl, Nat.le_of_ble_eq_true rfl⟩) (by exact ⟨Nat.le_of_ble_eq_true rfl, Nat.le_of_ble_eq_true rfl⟩) dX5_dig_9 ?_
  refine ww_if_eq C dX5_dig_12 58 (by decide) (fun c12 => ?_) (fun c12 => ?_)
  · have hb : m_bad x y ht sz dp := by first | exact Or.inl c12 | exact Or.inr (Or.inl c22) | exact Or.inr (Or.inr (Or.inl c33)) | exact Or.inr (Or.inr (Or.inr (Or.inl c44))) | exact Or.inr (Or.inr (Or.inr (Or.inr c55)))
    refine ww_aload_n C dX5_dig_58 0 rfl rfl ?_
    refine ww_iconst (v := 1) C dX5_dig_59 (by decide) ?_
    refine ww_callM C mf_X5_fail dX5_dig_60 ct_X5_fail q_m_X5_49 rfl rfl rfl (Nat.le_of_ble_eq_true rfl) (by exact ⟨Nat.le_of_ble_eq_true rfl, Nat.le_of_ble_eq_true rfl⟩) (by exact ⟨Nat.le_of_ble_eq_true rfl, Nat.le_of_ble_eq_true rfl⟩) ?_
    exact ww_wide 1 5 (Nat.le_of_ble_eq_true rfl) (Nat.le_of_ble_eq_true rfl) (ww_iret C hr (by unfold y_dig; rw [if_pos hb]; rfl) (by unfold y_dig; rw [if_pos hb]; rfl) dX5_dig_63)
  · refine ww_iload_n C dX5_dig_15 2 rfl rfl ?_
    refine ww_iconst (v := 0) C dX5_dig_16 (by decide) ?_
    refine ww_bipush (v := 40) C dX5_dig_17 (by decide) ?_
    refine ww_callS C mf_X5_isIn ct_X5_isIn q_m_X5_32 rfl rfl (Nat.le_of_ble_eq_true rfl) (by exact ⟨Nat.le_of_ble_eq_true rfl, Nat.le_of_ble_eq_true rfl⟩) (by exact ⟨Nat.le_of_ble_eq_true rfl, Nat.le_of_ble_eq_true rfl⟩) dX5_dig_19 ?_
    refine ww_if_eq C dX5_dig_22 58 (by decide) (fun c22 => ?_) (fun c22 => ?_)
    · have hb : m_bad x y ht sz dp := by first | exact Or.inl c12 | exact Or.inr (Or.inl c22) | exact Or.inr (Or.inr (Or.inl c33)) | exact Or.inr (Or.inr (Or.inr (Or.inl c44))) | exact Or.inr (Or.inr (Or.inr (Or.inr c55)))
      refine ww_aload_n C dX5_dig_58 0 rfl rfl ?_
      refine ww_iconst (v := 1) C dX5_dig_59 (by decide) ?_
      refine ww_callM C mf_X5_fail dX5_dig_60 ct_X5_fail q_m_X5_49 rfl rfl rfl (Nat.le_of_ble_eq_true rfl) (by exact ⟨Nat.le_of_ble_eq_true rfl, Nat.le_of_ble_eq_true rfl⟩) (by exact ⟨Nat.le_of_ble_eq_true rfl, Nat.le_of_ble_eq_true rfl⟩) ?_
      exact ww_wide 1 5 (Nat.le_of_ble_eq_true rfl) (Nat.le_of_ble_eq_true rfl) (ww_iret C hr (by unfold y_dig; rw [if_pos hb]; rfl) (by unfold y_dig; rw [if_pos hb]; rfl) dX5_dig_63)
    · refine ww_iload_n C dX5_dig_25 3 rfl rfl ?_
      refine ww_iconst (v := 0) C dX5_dig_26 (by decide) ?_
      refine ww_sipush (v := 300) C dX5_dig_27 (by decide) ?_
      refine ww_callS C mf_X5_isIn ct_X5_isIn q_m_X5_32 rfl rfl (Nat.le_of_ble_eq_true rfl) (by exact ⟨Nat.le_of_ble_eq_true rfl, Nat.le_of_ble_eq_true rfl⟩) (by exact ⟨Nat.le_of_ble_eq_true rfl, Nat.le_of_ble_eq_true rfl⟩) dX5_dig_30 ?_
      refine ww_if_eq C dX5_dig_33 58 (by decide) (fun c33 => ?_) (fun c33 => ?_)
      · have hb : m_bad x y ht sz dp := by first | exact Or.inl c12 | exact Or.inr (Or.inl c22) | exact Or.inr (Or.inr (Or.inl c33)) | exact Or.inr (Or.inr (Or.inr (Or.inl c44))) | exact Or.inr (Or.inr (Or.inr (Or.inr c55)))
        refine ww_aload_n C dX5_dig_58 0 rfl rfl ?_
        refine ww_iconst (v := 1) C dX5_dig_59 (by decide) ?_
        refine ww_callM C mf_X5_fail dX5_dig_60 ct_X5_fail q_m_X5_49 rfl rfl rfl (Nat.le_of_ble_eq_true rfl) (by exact ⟨Nat.le_of_ble_eq_true rfl, Nat.le_of_ble_eq_true rfl⟩) (by exact ⟨Nat.le_of_ble_eq_true rfl, Nat.le_of_ble_eq_true rfl⟩) ?_
        exact ww_wide 1 5 (Nat.le_of_ble_eq_true rfl) (Nat.le_of_ble_eq_true rfl) (ww_iret C hr (by unfold y_dig; rw [if_pos hb]; rfl) (by unfold y_dig; rw [if_pos hb]; rfl) dX5_dig_63)
      · refine ww_iload C dX5_dig_36 rfl ?_
        refine ww_iconst (v := 1) C dX5_dig_38 (by decide) ?_
        refine ww_bipush (v := 60) C dX5_dig_39 (by decide) ?_
        refine ww_callS C mf_X5_isIn ct_X5_isIn q_m_X5_32 rfl rfl (Nat.le_of_ble_eq_true rfl) (by exact ⟨Nat.le_of_ble_eq_true rfl, Nat.le_of_ble_eq_true rfl⟩) (by exact ⟨Nat.le_of_ble_eq_true rfl, Nat.le_of_ble_eq_true rfl⟩) dX5_dig_41 ?_
        refine ww_if_eq C dX5_dig_44 58 (by decide) (fun c44 => ?_) (fun c44 => ?_)
        · have hb : m_bad x y ht sz dp := by first | exact Or.inl c12 | exact Or.inr (Or.inl c22) | exact Or.inr (Or.inr (Or.inl c33)) | exact Or.inr (Or.inr (Or.inr (Or.inl c44))) | exact Or.inr (Or.inr (Or.inr (Or.inr c55)))
          refine ww_aload_n C dX5_dig_58 0 rfl rfl ?_
          refine ww_iconst (v := 1) C dX5_dig_59 (by decide) ?_
          refine ww_callM C mf_X5_fail dX5_dig_60 ct_X5_fail q_m_X5_49 rfl rfl rfl (Nat.le_of_ble_eq_true rfl) (by exact ⟨Nat.le_of_ble_eq_true rfl, Nat.le_of_ble_eq_true rfl⟩) (by exact ⟨Nat.le_of_ble_eq_true rfl, Nat.le_of_ble_eq_true rfl⟩) ?_
          exact ww_wide 1 5 (Nat.le_of_ble_eq_true rfl) (Nat.le_of_ble_eq_true rfl) (ww_iret C hr (by unfold y_dig; rw [if_pos hb]; rfl) (by unfold y_dig; rw [if_pos hb]; rfl) dX5_dig_63)
        · refine ww_iload C dX5_dig_47 rfl ?_
          refine ww_iconst (v := 1) C dX5_dig_49 (by decide) ?_
          refine ww_bipush (v := 9) C dX5_dig_50 (by decide) ?_
          refine ww_callS C mf_X5_isIn ct_X5_isIn q_m_X5_32 rfl rfl (Nat.le_of_ble_eq_true rfl) (by exact ⟨Nat.le_of_ble_eq_true rfl, Nat.le_of_ble_eq_true rfl⟩) (by exact ⟨Nat.le_of_ble_eq_true rfl, Nat.le_of_ble_eq_true rfl⟩) dX5_dig_52 ?_
          refine ww_if_ne C dX5_dig_55 64 (by decide) (fun c55 => ?_) (fun c55 => ?_)
          · have hb : ¬ m_bad x y ht sz dp := fun z => z.elim c12 (fun z => z.elim c22 (fun z => z.elim c33 (fun z => z.elim c44 c55)))
            refine ww_aload_n C dX5_dig_64 0 rfl rfl ?_
            refine ww_getM C 1 (by decide) q_f_X5_29 dX5_dig_65 ?_
            refine ww_bipush (v := 10) C dX5_dig_68 (by decide) ?_
            refine ww_icmp_ge C dX5_dig_70 77 (by decide) (fun c70 => ?_) (fun c70 => ?_)
            · refine ww_iconst (v := 0) C dX5_dig_77 (by decide) ?_
              refine ww_top (y := m_fr0 (y0 h)) (by first | exact (if_pos c70).symm | exact (if_neg c70).symm) ?_
              refine ww_istore C dX5_dig_78 (by decide) ?_
              refine ww_iconst (v := 0) C dX5_dig_80 (by decide) ?_
              refine ww_istore C dX5_dig_81 (by decide) ?_
              refine ww_lv [(0, .ref (gB g + 64)), (1, .int x), (2, .int y), (3, .int ht), (4, .int sz), (5, .int dp), (6, .int (m_fr (y0 h) x y 0)), (7, .int (nI 0))] ⟨rfl, rfl, rfl, rfl, rfl, rfl, rfl, rfl, trivial⟩ ?_
              exact L (n + 1) 0 (Nat.zero_le _) (by omega) hb
            · refine ww_iconst (v := 1) C dX5_dig_73 (by decide) ?_
              refine ww_goto C dX5_dig_74 78 (by decide) ?_
              refine ww_top (y := m_fr0 (y0 h)) (by first | exact (if_pos c70).symm | exact (if_neg c70).symm) ?_
              refine ww_istore C dX5_dig_78 (by decide) ?_
              refine ww_iconst (v := 0) C dX5_dig_80 (by decide) ?_
              refine ww_istore C dX5_dig_81 (by decide) ?_
              refine ww_lv [(0, .ref (gB g + 64)), (1, .int x), (2, .int y), (3, .int ht), (4, .int sz), (5, .int dp), (6, .int (m_fr (y0 h) x y 0)), (7, .int (nI 0))] ⟨rfl, rfl, rfl, rfl, rfl, rfl, rfl, rfl, trivial⟩ ?_
              exact L (n + 1) 0 (Nat.zero_le _) (by omega) hb
          · have hb : m_bad x y ht sz dp := by first | exact Or.inl c12 | exact Or.inr (Or.inl c22) | exact Or.inr (Or.inr (Or.inl c33)) | exact Or.inr (Or.inr (Or.inr (Or.inl c44))) | exact Or.inr (Or.inr (Or.inr (Or.inr c55)))
            refine ww_aload_n C dX5_dig_58 0 rfl rfl ?_
            refine ww_iconst (v := 1) C dX5_dig_59 (by decide) ?_
            refine ww_callM C mf_X5_fail dX5_dig_60 ct_X5_fail q_m_X5_49 rfl rfl rfl (Nat.le_of_ble_eq_true rfl) (by exact ⟨Nat.le_of_ble_eq_true rfl, Nat.le_of_ble_eq_true rfl⟩) (by exact ⟨Nat.le_of_ble_eq_true rfl, Nat.le_of_ble_eq_true rfl⟩) ?_
            exact ww_wide 1 5 (Nat.le_of_ble_eq_true rfl) (Nat.le_of_ble_eq_true rfl) (ww_iret C hr (by unfold y_dig; rw [if_pos hb]; rfl) (by unfold y_dig; rw [if_pos hb]; rfl) dX5_dig_63)
