theorem z0c : (0 : Int32).toNatClampNeg = 0 := by decide
section GAB
variable {p : Program} {l : Launch} {e : Env} {R : Room} {s : State} {m : MethodId} {args : Array Value} {below : List Frame} {meth : Method} {c : Code} {H : Heap} {locs : List Loc} {cells slots : Nat} {Q : State → Prop}
variable {cc : ByteArray} {pc : Nat} {ls : Array Slot} {rest : List Value} {D : va_G} {cl : List vw_C} {A : Nat → Prop} {a : Nat} {ws : va_W} {H0 : Heap}
theorem aa_ald (hexec : p.tables.exec = Jvm.exec) (hb : c.code = cc) (hP : va_P D cl ws H) (q0 : Nat) {cA : ClassId} (hA : ArrOfT s cA (.array .int)) {n : Nat} {f : Nat → Option Nat} (ha : ws[q0]? = some (a, .inl (cA, n, .inr (.inr (.inr (.inr f)))))) {i : Int32} {j v : Nat} (hin : vp_in i n) (hij : i.toNatClampNeg = j) (hv : f j = some v) (hdg : decode cc pc = .ok (.aaload, 1))
    (kk : W p l e R s m args below meth c H locs cells slots Q (F0 m (pc + 1) ls (.ref v :: rest))) : W p l e R s m args below meth c H locs cells slots Q (F0 m pc ls (.int i :: .ref a :: rest)) := by
  have hlt : i.toNatClampNeg < n := Nat.not_le.mp fun q => hin (Or.inr q)
  refine W.aald (v := .ref v) (ty := .array .int) hexec hb (hP q0 _ ha) (hA n (fun j => va_rf (f j))) rfl (fun q => by cases q) (by show ¬ (i < 0 ∨ (arrV _ _ _).slots.size ≤ _); rw [arrV_size]; exact hin) (by show (arrV _ _ _).slots[_]? = _; rw [arrV_read _ _ hlt]; show some (va_rf (f _)) = _; rw [hij, hv]; rfl) rfl rfl hdg kk
end GAB
set_option maxRecDepth 100000 in
set_option maxHeartbeats 1600000 in
theorem bt_X5 {g : gW} {l : Launch} {h hk : Hp} {a a0 a1 a2 : Nat} : BT g l a a0 a1 a2 h hk := by
  intro A sz hD0
  refine va_MetF (cc := cX5_bringBack) (maxL := 2) (ret := none) (ws' := TT) mf_X5_bringBack.1.2.2.2 rfl ?_
  intro p e s m args below meth c s₁ B hml hv
  obtain ⟨rfl, hsz, hb71, hP0, hK⟩ := hv
  subst hsz
  have hts := atoms_spec (ws := ws_ yX5_bringBack cX5_bringBack 2 none) B.pre
  have hown : s.vm.findClass yX5_bringBack.cls = some m.cls := findClass_of_methodNamed B.named
  have hl0 := lv_entry [.ref (gB g + 64), .ref a] (n := 2) (Nat.le_of_ble_eq_true rfl)
  rw [lg_entry_eq]
  have C : CX g p s m #[.ref (gB g + 64), .ref a] meth c cX5_bringBack 2 yX5_bringBack.cls := ⟨B.exec, B.bytes, hml, hown, fun w hw => hts w (List.mem_cons_of_mem _ hw), hK, B.notSynchronized, hb71⟩
  have hr := B.returns
  have hS0 : va_S A s.heap s.heap [] := va_S.rf
  revert hl0
  generalize (lg_sl [Value.ref (gB g + 64), Value.ref a] ++ List.replicate (2 - (lg_sl [Value.ref (gB g + 64), Value.ref a]).length) Slot.unset).toArray = ls
  intro hl0
  have hl : lv_has ls 2 [(0, .ref (gB g + 64)), (1, .ref a)] := hl0
  refine lv_aload_n C.1 C.2.1 dX5_bringBack_0 (i := 1) rfl (lk_at hl rfl) ?_
  refine lv_iconst (v := 0) C.1 C.2.1 dX5_bringBack_1 (by decide) ?_
  refine aa_ald C.1 C.2.1 hP0 71 (C.2.2.2.2.2.1.2 5 (gA g 5, .array .int) rfl).1 (wl_X (i := 0) rfl) (j := 0) (v := a0) (show vp_in (nI 0) 3 from vp_in_nI (by omega) (by omega)) (by decide) rfl dX5_bringBack_2 ?_
  refine lv_iconst (v := 0) C.1 C.2.1 dX5_bringBack_3 (by decide) ?_
  refine lv_aload_n C.1 C.2.1 dX5_bringBack_4 (i := 0) rfl (lk_at hl rfl) ?_
  refine va_get (D := gD g) (Ts := TT) (C := RX5) (T := TX5) (N := 8) C.1 C.2.1 C.2.2.2.2.1 inX5 C.2.2.2.1 C.2.2.2.2.2.1 hP0 64 (wl_get (by omega)) rfl 5 (by decide) (C.2.2.2.2.1 _ q_f_X5_16) (fun _ h9 => h9) rfl dX5_bringBack_5 ?_
  refine lv_iconst (v := 0) C.1 C.2.1 dX5_bringBack_8 (by decide) ?_
  refine lv_aload_n C.1 C.2.1 dX5_bringBack_9 (i := 0) rfl (lk_at hl rfl) ?_
  refine va_get (D := gD g) (Ts := TT) (C := RX5) (T := TX5) (N := 8) C.1 C.2.1 C.2.2.2.2.1 inX5 C.2.2.2.1 C.2.2.2.2.2.1 hP0 64 (wl_get (by omega)) rfl 5 (by decide) (C.2.2.2.2.1 _ q_f_X5_16) (fun _ h9 => h9) rfl dX5_bringBack_10 ?_
  refine va_alen (D := gD g) C.1 C.2.1 C.2.2.2.2.2.1 hP0 67 0 (wl_get (by omega)) rfl (v := nI 50) rfl dX5_bringBack_13 ?_
  have j0 : (nI 50).toNatClampNeg = 50 := nI_clamp (by omega)
  refine va_copyi C.1 C.2.1 (C.2.2.1.trans hl.1.symm) C.2.2.2.1 (C.2.2.2.2.1 _ q_m_X5_52) (C.2.2.2.2.1 _ q_nat_J_arraycopy) (C.2.2.2.2.1 _ q_t_J_arraycopy) (C.2.2.2.2.1 _ q_n_Sys) C.2.2.2.2.2.1 hP0 hD0 hS0 (71 + 1) 67 0 0 (wl_X (i := 1) rfl) (wl_get (by omega)) (ty := .int) rfl rfl rfl (by decide) (by decide) (nI_nn (by omega)) (by rw [z0c, j0]; omega) (by rw [z0c, j0]; omega) (fun _ _ => rfl) (Nat.le_of_ble_eq_true rfl) (Nat.le_of_ble_eq_true rfl) dX5_bringBack_14 (fun H1 locs1 gP1 gD1 hS1 => ?_)
  rw [z0c, j0] at gP1 gD1
  have hP1 : va_P (gD g) vwCl (wl g (xK g a a0 a1 a2 hk) (hp_row h 67 (va_cpy (hk 67) (h 67) 0 0 50))) H1 := by
    have z := gP1
    rw [show ∀ r : Nat → Int32, (gB g + 67, (.inl (gA g 0, 50, .inl r) : va_E)) = (gB g + 67, ce g r 67) from fun r => rfl, wl_setR (by omega)] at z
    exact z
  have hD1 : va_D A (wl g (xK g a a0 a1 a2 hk) (hp_row h 67 (va_cpy (hk 67) (h 67) 0 0 50))) := wl_D _ hD0
  refine lv_aload_n C.1 C.2.1 dX5_bringBack_17 (i := 1) rfl (lk_at hl rfl) ?_
  refine lv_iconst (v := 1) C.1 C.2.1 dX5_bringBack_18 (by decide) ?_
  refine aa_ald C.1 C.2.1 hP1 71 (C.2.2.2.2.2.1.2 5 (gA g 5, .array .int) rfl).1 (wl_X (i := 0) rfl) (j := 1) (v := a1) (show vp_in (nI 1) 3 from vp_in_nI (by omega) (by omega)) (by decide) rfl dX5_bringBack_19 ?_
  refine lv_iconst (v := 0) C.1 C.2.1 dX5_bringBack_20 (by decide) ?_
  refine lv_aload_n C.1 C.2.1 dX5_bringBack_21 (i := 0) rfl (lk_at hl rfl) ?_
  refine va_get (D := gD g) (Ts := TT) (C := RX5) (T := TX5) (N := 8) C.1 C.2.1 C.2.2.2.2.1 inX5 C.2.2.2.1 C.2.2.2.2.2.1 hP1 64 (wl_get (by omega)) rfl 6 (by decide) (C.2.2.2.2.1 _ q_f_X5_19) (fun _ h9 => h9) rfl dX5_bringBack_22 ?_
  refine lv_iconst (v := 0) C.1 C.2.1 dX5_bringBack_25 (by decide) ?_
  refine lv_aload_n C.1 C.2.1 dX5_bringBack_26 (i := 0) rfl (lk_at hl rfl) ?_
  refine va_get (D := gD g) (Ts := TT) (C := RX5) (T := TX5) (N := 8) C.1 C.2.1 C.2.2.2.2.1 inX5 C.2.2.2.1 C.2.2.2.2.2.1 hP1 64 (wl_get (by omega)) rfl 6 (by decide) (C.2.2.2.2.1 _ q_f_X5_19) (fun _ h9 => h9) rfl dX5_bringBack_27 ?_
  refine va_alen (D := gD g) C.1 C.2.1 C.2.2.2.2.2.1 hP1 68 0 (wl_get (by omega)) rfl (v := nI 35) rfl dX5_bringBack_30 ?_
  have j1 : (nI 35).toNatClampNeg = 35 := nI_clamp (by omega)
  refine va_copyi C.1 C.2.1 (C.2.2.1.trans hl.1.symm) C.2.2.2.1 (C.2.2.2.2.1 _ q_m_X5_52) (C.2.2.2.2.1 _ q_nat_J_arraycopy) (C.2.2.2.2.1 _ q_t_J_arraycopy) (C.2.2.2.2.1 _ q_n_Sys) C.2.2.2.2.2.1 hP1 hD1 hS1 (71 + 2) 68 0 0 (wl_X (i := 2) rfl) (wl_get (by omega)) (ty := .int) rfl rfl rfl (by decide) (by decide) (nI_nn (by omega)) (by rw [z0c, j1]; omega) (by rw [z0c, j1]; omega) (fun _ _ => rfl) (Nat.le_of_ble_eq_true rfl) (Nat.le_of_ble_eq_true rfl) dX5_bringBack_31 (fun H2 locs2 gP2 gD2 hS2 => ?_)
  rw [z0c, j1] at gP2 gD2
  have hP2 : va_P (gD g) vwCl (wl g (xK g a a0 a1 a2 hk) (hp_row (hp_row h 67 (va_cpy (hk 67) (h 67) 0 0 50)) 68 (va_cpy (hk 68) (h 68) 0 0 35))) H2 := by
    have z := gP2
    rw [show ∀ r : Nat → Int32, (gB g + 68, (.inl (gA g 0, 35, .inl r) : va_E)) = (gB g + 68, ce g r 68) from fun r => rfl, wl_setR (by omega)] at z
    exact z
  have hD2 : va_D A (wl g (xK g a a0 a1 a2 hk) (hp_row (hp_row h 67 (va_cpy (hk 67) (h 67) 0 0 50)) 68 (va_cpy (hk 68) (h 68) 0 0 35))) := wl_D _ hD1
  refine lv_aload_n C.1 C.2.1 dX5_bringBack_34 (i := 1) rfl (lk_at hl rfl) ?_
  refine lv_iconst (v := 2) C.1 C.2.1 dX5_bringBack_35 (by decide) ?_
  refine aa_ald C.1 C.2.1 hP2 71 (C.2.2.2.2.2.1.2 5 (gA g 5, .array .int) rfl).1 (wl_X (i := 0) rfl) (j := 2) (v := a2) (show vp_in (nI 2) 3 from vp_in_nI (by omega) (by omega)) (by decide) rfl dX5_bringBack_36 ?_
  refine lv_iconst (v := 0) C.1 C.2.1 dX5_bringBack_37 (by decide) ?_
  refine lv_aload_n C.1 C.2.1 dX5_bringBack_38 (i := 0) rfl (lk_at hl rfl) ?_
  refine va_get (D := gD g) (Ts := TT) (C := RX5) (T := TX5) (N := 8) C.1 C.2.1 C.2.2.2.2.1 inX5 C.2.2.2.1 C.2.2.2.2.2.1 hP2 64 (wl_get (by omega)) rfl 7 (by decide) (C.2.2.2.2.1 _ q_f_X5_22) (fun _ h9 => h9) rfl dX5_bringBack_39 ?_
  refine lv_iconst (v := 0) C.1 C.2.1 dX5_bringBack_42 (by decide) ?_
  refine lv_aload_n C.1 C.2.1 dX5_bringBack_43 (i := 0) rfl (lk_at hl rfl) ?_
  refine va_get (D := gD g) (Ts := TT) (C := RX5) (T := TX5) (N := 8) C.1 C.2.1 C.2.2.2.2.1 inX5 C.2.2.2.1 C.2.2.2.2.2.1 hP2 64 (wl_get (by omega)) rfl 7 (by decide) (C.2.2.2.2.1 _ q_f_X5_22) (fun _ h9 => h9) rfl dX5_bringBack_44 ?_
  refine va_alen (D := gD g) C.1 C.2.1 C.2.2.2.2.2.1 hP2 69 0 (wl_get (by omega)) rfl (v := nI 2) rfl dX5_bringBack_47 ?_
  have j2 : (nI 2).toNatClampNeg = 2 := nI_clamp (by omega)
  refine va_copyi C.1 C.2.1 (C.2.2.1.trans hl.1.symm) C.2.2.2.1 (C.2.2.2.2.1 _ q_m_X5_52) (C.2.2.2.2.1 _ q_nat_J_arraycopy) (C.2.2.2.2.1 _ q_t_J_arraycopy) (C.2.2.2.2.1 _ q_n_Sys) C.2.2.2.2.2.1 hP2 hD2 hS2 (71 + 3) 69 0 0 (wl_X (i := 3) rfl) (wl_get (by omega)) (ty := .int) rfl rfl rfl (by decide) (by decide) (nI_nn (by omega)) (by rw [z0c, j2]; omega) (by rw [z0c, j2]; omega) (fun _ _ => rfl) (Nat.le_of_ble_eq_true rfl) (Nat.le_of_ble_eq_true rfl) dX5_bringBack_48 (fun H3 locs3 gP3 gD3 hS3 => ?_)
  rw [z0c, j2] at gP3 gD3
  have hP3 : va_P (gD g) vwCl (wl g (xK g a a0 a1 a2 hk) (m_back h hk)) H3 := by
    have z := gP3
    rw [show ∀ r : Nat → Int32, (gB g + 69, (.inl (gA g 0, 2, .inl r) : va_E)) = (gB g + 69, ce g r 69) from fun r => rfl, wl_setR (by omega)] at z
    exact z
  have hD3 : va_D A (wl g (xK g a a0 a1 a2 hk) (m_back h hk)) := wl_D _ hD2
  exact W.vret C.1 C.2.1 hr (fun t ht _ => ⟨rfl, by rw [ht]; exact hP3, hS3.F ht⟩) hS3.2.2 dX5_bringBack_51 C.2.2.2.2.2.2.1
