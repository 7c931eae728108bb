set_option maxRecDepth 100000 in
set_option maxHeartbeats 4000000 in
theorem xt_X0_pondAt {g : gW} {l : Launch} {h : Hp} (hst : l.stackTraces = false) {d n : Nat} {x : Int32} (hd : isD d) (hn : h d 4 = nI n) (hb : n ≤ 10) (hx : ¬ isN n x) : XT g l yX0_pondAt cX0_pondAt 2 (some (FieldType.object "DewPond$Pond")) 6 [.ref (gB g + d), .int x] h (.inr E_I) := by
  refine XT.of (lv0 := [(0, .ref (gB g + d)), (1, .int x)]) (by decide +kernel) (Nat.le_of_ble_eq_true rfl) rfl ?_
  intro p e s m below meth c C hE hex hr
  have hr7 : rmD d ≤ 7 := rm7
  refine ww_iload_n C dX0_pondAt_0 1 rfl rfl ?_
  refine ww_if_lt C dX0_pondAt_1 12 (by decide) (fun c1 => ?_) (fun c1 => ?_)
  · exact ww_throw (cls := E_I) (text := "no such pond") C hE hex hst rfl (by decide +kernel) q_k_X0_68 q_n_E_I (by decide +kernel) gx_X0_72 gy_X0_72 dX0_pondAt_12 dX0_pondAt_15 dX0_pondAt_16 dX0_pondAt_18 dX0_pondAt_21 (Nat.le_of_ble_eq_true rfl) (Nat.le_of_ble_eq_true rfl) (Nat.le_of_ble_eq_true rfl) (Nat.le_of_ble_eq_true rfl) (Nat.le_of_ble_eq_true rfl) (Nat.le_of_ble_eq_true rfl)
  · refine ww_iload_n C dX0_pondAt_4 1 rfl rfl ?_
    refine ww_aload_n C dX0_pondAt_5 0 rfl rfl ?_
    refine ww_getD C (by assumption) 4 (by decide) q_f_X0_53 dX0_pondAt_6 ?_
    refine ww_icmp_lt C dX0_pondAt_9 22 (by decide) (fun c9 => ?_) (fun c9 => ?_)
    · exact absurd (isN_of hn (by omega) c1 c9) hx
    · exact ww_throw (cls := E_I) (text := "no such pond") C hE hex hst rfl (by decide +kernel) q_k_X0_68 q_n_E_I (by decide +kernel) gx_X0_72 gy_X0_72 dX0_pondAt_12 dX0_pondAt_15 dX0_pondAt_16 dX0_pondAt_18 dX0_pondAt_21 (Nat.le_of_ble_eq_true rfl) (Nat.le_of_ble_eq_true rfl) (Nat.le_of_ble_eq_true rfl) (Nat.le_of_ble_eq_true rfl) (Nat.le_of_ble_eq_true rfl) (Nat.le_of_ble_eq_true rfl)
set_option maxRecDepth 100000 in
set_option maxHeartbeats 4000000 in
theorem xt_X0_flockAt {g : gW} {l : Launch} {h : Hp} (hst : l.stackTraces = false) {d f : Nat} {x : Int32} (hd : isD d) (hf : h d 5 = nI f) (hb : f ≤ rmD d) (hx : ¬ isN f x) : XT g l yX0_flockAt cX0_flockAt 2 (some (FieldType.object "DewPond$Flock")) 6 [.ref (gB g + d), .int x] h (.inr E_I) := by
  refine XT.of (lv0 := [(0, .ref (gB g + d)), (1, .int x)]) (by decide +kernel) (Nat.le_of_ble_eq_true rfl) rfl ?_
  intro p e s m below meth c C hE hex hr
  have hr7 : rmD d ≤ 7 := rm7
  refine ww_iload_n C dX0_flockAt_0 1 rfl rfl ?_
  refine ww_if_lt C dX0_flockAt_1 12 (by decide) (fun c1 => ?_) (fun c1 => ?_)
  · exact ww_throw (cls := E_I) (text := "no such flock") C hE hex hst rfl (by decide +kernel) q_k_X0_68 q_n_E_I (by decide +kernel) gx_X0_72 gy_X0_72 dX0_flockAt_12 dX0_flockAt_15 dX0_flockAt_16 dX0_flockAt_18 dX0_flockAt_21 (Nat.le_of_ble_eq_true rfl) (Nat.le_of_ble_eq_true rfl) (Nat.le_of_ble_eq_true rfl) (Nat.le_of_ble_eq_true rfl) (Nat.le_of_ble_eq_true rfl) (Nat.le_of_ble_eq_true rfl)
  · refine ww_iload_n C dX0_flockAt_4 1 rfl rfl ?_
    refine ww_aload_n C dX0_flockAt_5 0 rfl rfl ?_
    refine ww_getD C (by assumption) 5 (by decide) q_f_X0_59 dX0_flockAt_6 ?_
    refine ww_icmp_lt C dX0_flockAt_9 22 (by decide) (fun c9 => ?_) (fun c9 => ?_)
    · exact absurd (isN_of hf (by omega) c1 c9) hx
    · exact ww_throw (cls := E_I) (text := "no such flock") C hE hex hst rfl (by decide +kernel) q_k_X0_68 q_n_E_I (by decide +kernel) gx_X0_72 gy_X0_72 dX0_flockAt_12 dX0_flockAt_15 dX0_flockAt_16 dX0_flockAt_18 dX0_flockAt_21 (Nat.le_of_ble_eq_true rfl) (Nat.le_of_ble_eq_true rfl) (Nat.le_of_ble_eq_true rfl) (Nat.le_of_ble_eq_true rfl) (Nat.le_of_ble_eq_true rfl) (Nat.le_of_ble_eq_true rfl)
set_option maxRecDepth 100000 in
set_option maxHeartbeats 4000000 in
theorem xt_X0_weatherAt {g : gW} {l : Launch} {h : Hp} (hst : l.stackTraces = false) {d : Nat} {x : Int32} (hd : isD d) (hx : ¬ isN 10 x) : XT g l yX0_weatherAt cX0_weatherAt 2 (some (FieldType.object "DewPond$Weather")) 6 [.ref (gB g + d), .int x] h (.inr E_I) := by
  refine XT.of (lv0 := [(0, .ref (gB g + d)), (1, .int x)]) (by decide +kernel) (Nat.le_of_ble_eq_true rfl) rfl ?_
  intro p e s m below meth c C hE hex hr
  refine ww_iload_n C dX0_weatherAt_0 1 rfl rfl ?_
  refine ww_if_lt C dX0_weatherAt_1 13 (by decide) (fun c1 => ?_) (fun c1 => ?_)
  · exact ww_throw (cls := E_I) (text := "no such day in the table") C hE hex hst rfl (by decide +kernel) q_k_X0_68 q_n_E_I (by decide +kernel) gx_X0_72 gy_X0_72 dX0_weatherAt_13 dX0_weatherAt_16 dX0_weatherAt_17 dX0_weatherAt_19 dX0_weatherAt_22 (Nat.le_of_ble_eq_true rfl) (Nat.le_of_ble_eq_true rfl) (Nat.le_of_ble_eq_true rfl) (Nat.le_of_ble_eq_true rfl) (Nat.le_of_ble_eq_true rfl) (Nat.le_of_ble_eq_true rfl)
  · refine ww_iload_n C dX0_weatherAt_4 1 rfl rfl ?_
    refine ww_aload_n C dX0_weatherAt_5 0 rfl rfl ?_
    refine ww_getDw C (by assumption) q_f_X0_17 dX0_weatherAt_6 ?_
    refine ww_alenW (v := 10) C hd rfl dX0_weatherAt_9 ?_
    refine ww_icmp_lt C dX0_weatherAt_10 23 (by decide) (fun c10 => ?_) (fun c10 => ?_)
    · exact absurd (isN_of (b := 10) (n := 10) rfl (by omega) c1 c10) hx
    · exact ww_throw (cls := E_I) (text := "no such day in the table") C hE hex hst rfl (by decide +kernel) q_k_X0_68 q_n_E_I (by decide +kernel) gx_X0_72 gy_X0_72 dX0_weatherAt_13 dX0_weatherAt_16 dX0_weatherAt_17 dX0_weatherAt_19 dX0_weatherAt_22 (Nat.le_of_ble_eq_true rfl) (Nat.le_of_ble_eq_true rfl) (Nat.le_of_ble_eq_true rfl) (Nat.le_of_ble_eq_true rfl) (Nat.le_of_ble_eq_true rfl) (Nat.le_of_ble_eq_true rfl)
/-- a number is put in its place in the order, from the place k down -/
def d_ins (d : Nat) (ht : Int32) : Nat → Hp → Hp × Nat
  | 0, h => (h, 0)
  | k + 1, h => if ht ≤ h (d + 14 + (h (d + 13) k).toNatClampNeg) 2 then (h, k + 1) else d_ins d ht k (hp_up h (d + 13) (k + 1) (h (d + 13) k))
def d_new (d n : Nat) (h : Hp) (x y ht sz dp : Int32) : Hp := hp_up (hp_up (hp_up (hp_up (hp_up h (d + 14 + n) 0 x) (d + 14 + n) 1 y) (d + 14 + n) 2 ht) (d + 14 + n) 3 sz) (d + 14 + n) 4 dp
def d_end (d n : Nat) (z : Hp × Nat) : Hp := hp_up (hp_up z.1 (d + 13) z.2 (nI n)) d 4 (hp_up z.1 (d + 13) z.2 (nI n) d 4 + 1)
def d_make (d n : Nat) (h : Hp) (x y ht sz dp : Int32) : Hp := d_end d n (d_ins d ht n (d_new d n h x y ht sz dp))
def d_makeR (d n : Nat) (h : Hp) (x y ht sz dp : Int32) : (Option Value × Hp) ⊕ String := if nI n < 10 then (if b01 (d_tk h d x y n) = 0 then .inl (some (.int (nI n)), d_make d n h x y ht sz dp) else .inr E_S) else .inr E_S
theorem ins_a {d k : Nat} {ht : Int32} {h : Hp} (c : ht ≤ h (d + 14 + (h (d + 13) k).toNatClampNeg) 2) : d_ins d ht (k + 1) h = (h, k + 1) := if_pos c
theorem ins_b {d k : Nat} {ht : Int32} {h : Hp} (c : ¬ ht ≤ h (d + 14 + (h (d + 13) k).toNatClampNeg) 2) : d_ins d ht (k + 1) h = d_ins d ht k (hp_up h (d + 13) (k + 1) (h (d + 13) k)) := if_neg c
set_option maxRecDepth 100000 in
set_option maxHeartbeats 4000000 in
theorem xt_X0_makePond {g : gW} {l : Launch} {h : Hp} (hst : l.stackTraces = false) {d n f : Nat} {x y ht sz dp : Int32} (hd : isD d) (H : OK d n f h) : XT g l yX0_makePond cX0_makePond 9 (some FieldType.int) 6 [.ref (gB g + d), .int x, .int y, .int ht, .int sz, .int dp] h (d_makeR d n h x y ht sz dp) := by
  refine XT.of (lv0 := [(0, .ref (gB g + d)), (1, .int x), (2, .int y), (3, .int ht), (4, .int sz), (5, .int dp)]) (by decide +kernel) (Nat.le_of_ble_eq_true rfl) rfl ?_
  intro p e s m below meth c C hE hex hr
  have hn := H.1
  have hn10 := H.2.1
  have L : ∀ (k : Nat) (z : Hp), k ≤ n → z d 4 = nI n → (∀ r, r < k → isN n (z (d + 13) r)) → d_ins d ht k z = d_ins d ht n (d_new d n h x y ht sz dp) → d_makeR d n h x y ht sz dp = .inl (some (.int (nI n)), d_make d n h x y ht sz dp) → n < 10 → WW g p l e (rK 6 1 6) s m ([.ref (gB g + d), .int x, .int y, .int ht, .int sz, .int dp] : List Value).toArray below meth c 9 [] z [(0, .ref (gB g + d)), (1, .int x), (2, .int y), (3, .int ht), (4, .int sz), (5, .int dp), (6, .int (nI n)), (7, .ref (gB g + (d + 14 + n))), (8, .int (nI k))] 0 0 (vx_MQ below (QX g s.heap.size (d_makeR d n h x y ht sz dp)) (XX g s.heap.size h (d_makeR d n h x y ht sz dp)) ([.ref (gB g + d), .int x, .int y, .int ht, .int sz, .int dp] : List Value).toArray s 1 6 (AA g s.heap.size)) 92 [] := by
    intro k
    induction k with
    | zero =>
      intro z hk hz4 hzr hins hres hlt
      refine ww_iload C dX0_makePond_92 rfl ?_
      refine ww_if_le C dX0_makePond_94 139 (by decide) (fun _ => ?_) (fun q => absurd (show nI 0 ≤ 0 from Int32.le_refl 0) q)
      refine ww_aload_n C dX0_makePond_139 0 rfl rfl ?_
      refine ww_getDb C (by assumption) q_f_X0_28 dX0_makePond_140 ?_
      refine ww_iload C dX0_makePond_143 rfl ?_
      refine ww_iload C dX0_makePond_145 rfl ?_
      refine ww_iast (n := 10) C (by rcases hd with rfl | rfl <;> omega) (fun r => ce_Ba hd) (by omega) (by omega) dX0_makePond_147 ?_
      refine ww_aload_n C dX0_makePond_148 0 rfl rfl ?_
      refine ww_dup C dX0_makePond_149 rfl ?_
      refine ww_getD C (by assumption) 4 (by decide) q_f_X0_53 dX0_makePond_150 ?_
      refine ww_iconst (v := 1) C dX0_makePond_153 (by decide) ?_
      refine ww_iadd C dX0_makePond_154 ?_
      refine ww_putD C (by assumption) 4 (by decide) q_f_X0_53 dX0_makePond_155 ?_
      refine ww_iload C dX0_makePond_158 rfl ?_
      exact ww_xret (mc := 1) (ms := 6) (hres.trans (by unfold d_make; rw [← hins]; rfl)) (ww_wide 1 6 (Nat.le_of_ble_eq_true rfl) (Nat.le_of_ble_eq_true rfl) (ww_iret C hr rfl rfl dX0_makePond_160))
    | succ k ih =>
      intro z hk hz4 hzr hins hres hlt
      refine ww_iload C dX0_makePond_92 rfl ?_
      refine ww_if_le C dX0_makePond_94 139 (by decide) (fun q => absurd q (nI_nle (by omega) (by omega))) (fun _ => ?_)
      refine ww_aload_n C dX0_makePond_97 0 rfl rfl ?_
      refine ww_aload_n C dX0_makePond_98 0 rfl rfl ?_
      refine ww_getDb C (by assumption) q_f_X0_28 dX0_makePond_99 ?_
      refine ww_iload C dX0_makePond_102 rfl ?_
      refine ww_iconst (v := 1) C dX0_makePond_104 (by decide) ?_
      refine ww_isub C dX0_makePond_105 ?_
      refine ww_top (show nI (k + 1) - 1 = nI k from nI_pred k) ?_
      refine ww_iald (n := 10) C (by rcases hd with rfl | rfl <;> omega) (fun r => ce_Ba hd) (by omega) (by omega) dX0_makePond_106 ?_
      refine ww_callD C mf_X0_pondAt dX0_makePond_107 (ok_X0_pondAt hd hz4 hn10 (hzr _ (Nat.lt_succ_self _))) q_m_X0_105 (by assumption) rfl rfl rfl (Nat.le_of_ble_eq_true rfl) (by exact ⟨Nat.le_of_ble_eq_true rfl, Nat.le_of_ble_eq_true rfl⟩) (by exact ⟨Nat.le_of_ble_eq_true rfl, Nat.le_of_ble_eq_true rfl⟩) ?_
      have hPz := isP_x hd hn10 (hzr _ (Nat.lt_succ_self _))
      refine ww_getP C (by assumption) 2 (by decide) q_f_X0_96 dX0_makePond_110 ?_
      refine ww_iload_n C dX0_makePond_113 3 rfl rfl ?_
      refine ww_icmp_ge C dX0_makePond_114 139 (by decide) (fun c114 => ?_) (fun c114 => ?_)
      · refine ww_aload_n C dX0_makePond_139 0 rfl rfl ?_
        refine ww_getDb C (by assumption) q_f_X0_28 dX0_makePond_140 ?_
        refine ww_iload C dX0_makePond_143 rfl ?_
        refine ww_iload C dX0_makePond_145 rfl ?_
        refine ww_iast (n := 10) C (by rcases hd with rfl | rfl <;> omega) (fun r => ce_Ba hd) (by omega) (by omega) dX0_makePond_147 ?_
        refine ww_aload_n C dX0_makePond_148 0 rfl rfl ?_
        refine ww_dup C dX0_makePond_149 rfl ?_
        refine ww_getD C (by assumption) 4 (by decide) q_f_X0_53 dX0_makePond_150 ?_
        refine ww_iconst (v := 1) C dX0_makePond_153 (by decide) ?_
        refine ww_iadd C dX0_makePond_154 ?_
        refine ww_putD C (by assumption) 4 (by decide) q_f_X0_53 dX0_makePond_155 ?_
        refine ww_iload C dX0_makePond_158 rfl ?_
        exact ww_xret (mc := 1) (ms := 6) (hres.trans (by unfold d_make; rw [← hins, ins_a c114]; rfl)) (ww_wide 1 6 (Nat.le_of_ble_eq_true rfl) (Nat.le_of_ble_eq_true rfl) (ww_iret C hr rfl rfl dX0_makePond_160))
      · refine ww_aload_n C dX0_makePond_117 0 rfl rfl ?_
        refine ww_getDb C (by assumption) q_f_X0_28 dX0_makePond_118 ?_
        refine ww_iload C dX0_makePond_121 rfl ?_
        refine ww_aload_n C dX0_makePond_123 0 rfl rfl ?_
        refine ww_getDb C (by assumption) q_f_X0_28 dX0_makePond_124 ?_
        refine ww_iload C dX0_makePond_127 rfl ?_
        refine ww_iconst (v := 1) C dX0_makePond_129 (by decide) ?_
        refine ww_isub C dX0_makePond_130 ?_
        refine ww_top (show nI (k + 1) - 1 = nI k from nI_pred k) ?_
        refine ww_iald (n := 10) C (by rcases hd with rfl | rfl <;> omega) (fun r => ce_Ba hd) (by omega) (by omega) dX0_makePond_131 ?_
        refine ww_iast (n := 10) C (by rcases hd with rfl | rfl <;> omega) (fun r => ce_Ba hd) (by omega) (by omega) dX0_makePond_132 ?_
        refine ww_iinc (v := nI k) C dX0_makePond_133 rfl (pk_m1 k) (by decide) ?_
        refine ww_goto C dX0_makePond_136 92 (by decide) ?_
        refine ww_lv [(0, .ref (gB g + d)), (1, .int x), (2, .int y), (3, .int ht), (4, .int sz), (5, .int dp), (6, .int (nI n)), (7, .ref (gB g + (d + 14 + n))), (8, .int (nI k))] ⟨rfl, rfl, rfl, rfl, rfl, rfl, rfl, rfl, rfl, trivial⟩ ?_
        exact ih _ (by omega) (by rw [hp_ne (by omega)]; exact hz4) (fun r hr => by rw [hp_off (Or.inr (by omega))]; exact hzr r (by omega)) (by rw [← hins]; exact (ins_b c114).symm) hres hlt
  refine ww_aload_n C dX0_makePond_0 0 rfl rfl ?_
  refine ww_getD C (by assumption) 4 (by decide) q_f_X0_53 dX0_makePond_1 ?_
  refine ww_aload_n C dX0_makePond_4 0 rfl rfl ?_
  refine ww_getDp C (by assumption) q_f_X0_24 dX0_makePond_5 ?_
  refine ww_alenP (v := 10) C hd rfl dX0_makePond_8 ?_
  refine ww_icmp_lt C dX0_makePond_9 22 (by decide) (fun c9 => ?_) (fun c9 => ?_)
  · refine ww_aload_n C dX0_makePond_22 0 rfl rfl ?_
    refine ww_iload_n C dX0_makePond_23 1 rfl rfl ?_
    refine ww_iload_n C dX0_makePond_24 2 rfl rfl ?_
    refine ww_callD C mf_X0_isTaken dX0_makePond_25 (ct_X0_isTaken hd hn hn10) q_m_X0_84 (by assumption) rfl rfl rfl (Nat.le_of_ble_eq_true rfl) (by exact ⟨Nat.le_of_ble_eq_true rfl, Nat.le_of_ble_eq_true rfl⟩) (by exact ⟨Nat.le_of_ble_eq_true rfl, Nat.le_of_ble_eq_true rfl⟩) ?_
    refine ww_if_eq C dX0_makePond_28 41 (by decide) (fun c28 => ?_) (fun c28 => ?_)
    · have hlt : n < 10 := by rw [hn] at c9; exact (nI_ltI (by omega) (b := 10) (by omega)).mp c9
      have hPn := isP_of hd hlt
      rw [hn] at c9
      refine ww_aload_n C dX0_makePond_41 0 rfl rfl ?_
      refine ww_getD C (by assumption) 4 (by decide) q_f_X0_53 dX0_makePond_42 ?_
      refine ww_top hn ?_
      refine ww_istore C dX0_makePond_45 (by decide) ?_
      refine ww_aload_n C dX0_makePond_47 0 rfl rfl ?_
      refine ww_getDp C (by assumption) q_f_X0_24 dX0_makePond_48 ?_
      refine ww_iload C dX0_makePond_51 rfl ?_
      refine ww_aaldP C hd (by omega) dX0_makePond_53 ?_
      refine ww_astore C dX0_makePond_54 (by decide) ?_
      refine ww_aload C dX0_makePond_56 rfl ?_
      refine ww_iload_n C dX0_makePond_58 1 rfl rfl ?_
      refine ww_putP C (by assumption) 0 (by decide) q_f_X0_90 dX0_makePond_59 ?_
      refine ww_aload C dX0_makePond_62 rfl ?_
      refine ww_iload_n C dX0_makePond_64 2 rfl rfl ?_
      refine ww_putP C (by assumption) 1 (by decide) q_f_X0_93 dX0_makePond_65 ?_
      refine ww_aload C dX0_makePond_68 rfl ?_
      refine ww_iload_n C dX0_makePond_70 3 rfl rfl ?_
      refine ww_putP C (by assumption) 2 (by decide) q_f_X0_96 dX0_makePond_71 ?_
      refine ww_aload C dX0_makePond_74 rfl ?_
      refine ww_iload C dX0_makePond_76 rfl ?_
      refine ww_putP C (by assumption) 3 (by decide) q_f_X0_99 dX0_makePond_78 ?_
      refine ww_aload C dX0_makePond_81 rfl ?_
      refine ww_iload C dX0_makePond_83 rfl ?_
      refine ww_putP C (by assumption) 4 (by decide) q_f_X0_102 dX0_makePond_85 ?_
      refine ww_iload C dX0_makePond_88 rfl ?_
      refine ww_istore C dX0_makePond_90 (by decide) ?_
      refine ww_lv [(0, .ref (gB g + d)), (1, .int x), (2, .int y), (3, .int ht), (4, .int sz), (5, .int dp), (6, .int (nI n)), (7, .ref (gB g + (d + 14 + n))), (8, .int (nI n))] ⟨rfl, rfl, rfl, rfl, rfl, rfl, rfl, rfl, rfl, trivial⟩ ?_
      exact L n (d_new d n h x y ht sz dp) (Nat.le_refl n) (by unfold d_new; rw [hp_ne (by omega), hp_ne (by omega), hp_ne (by omega), hp_ne (by omega), hp_ne (by omega)]; exact hn) (fun r hr => by unfold d_new; rw [hp_ne (by omega), hp_ne (by omega), hp_ne (by omega), hp_ne (by omega), hp_ne (by omega)]; exact H.2.2.2.2.2.2.1 r hr) rfl (by simp only [d_makeR, c9, c28, if_true, if_false]) hlt
    · exact ww_throw (cls := E_S) (text := "there is a pond at this place") C hE hex hst (by rw [hn] at c9; simp only [d_makeR, c9, c28, if_true, if_false]) (by decide +kernel) q_k_X0_79 q_n_E_S (by decide +kernel) gx_X0_83 gy_X0_83 dX0_makePond_31 dX0_makePond_34 dX0_makePond_35 dX0_makePond_37 dX0_makePond_40 (Nat.le_of_ble_eq_true rfl) (Nat.le_of_ble_eq_true rfl) (Nat.le_of_ble_eq_true rfl) (Nat.le_of_ble_eq_true rfl) (Nat.le_of_ble_eq_true rfl) (Nat.le_of_ble_eq_true rfl)
  · exact ww_throw (cls := E_S) (text := "there are as many ponds as there may be") C hE hex hst (by rw [hn] at c9; simp only [d_makeR, c9, if_false]) (by decide +kernel) q_k_X0_79 q_n_E_S (by decide +kernel) gx_X0_83 gy_X0_83 dX0_makePond_12 dX0_makePond_15 dX0_makePond_16 dX0_makePond_18 dX0_makePond_21 (Nat.le_of_ble_eq_true rfl) (Nat.le_of_ble_eq_true rfl) (Nat.le_of_ble_eq_true rfl) (Nat.le_of_ble_eq_true rfl) (Nat.le_of_ble_eq_true rfl) (Nat.le_of_ble_eq_true rfl)
