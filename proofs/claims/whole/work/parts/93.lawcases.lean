/-! the law's cases: a call of both, and the comparison -/
def bz (x : Int32) : Int32 := if x = 0 then 0 else 1
theorem bz_01 {x : Int32} : bz x = 0 ∨ bz x = 1 := by unfold bz; split <;> simp
theorem xt_X4_advise {g : gW} {l : Launch} {h : Hp} (hst : l.stackTraces = false) {n f t : Nat} (H : OK 1 n f h) (ht : h 1 6 = nI t) (ht31 : t + 300 < 2 ^ 31) {k : Int32} : XT g l yX4_advise cX4_advise 6 (some FieldType.int) 7 [.ref (gB g + 0), .int k] h (x_advise n f t h k) := by
  unfold x_advise
  by_cases c : bI (1 ≤ k ∧ k ≤ 50) = 0
  · rw [if_pos c]
    exact xt_X4_advise_out hst c
  · rw [if_neg c]
    obtain ⟨e, h1, h2⟩ := in1' (N := 50) rfl (by omega) c
    generalize k.toNatClampNeg = kk at e h1 h2
    subst e
    exact xt_X4_advise_in hst H ht ht31 ⟨(nI_leI (a := 1) (b := kk) (by omega) (by omega)).mpr h1, (nI_leI (a := kk) (b := 100) (by omega) (by omega)).mpr (by omega)⟩ h2
abbrev lv0 (g : gW) (b : Nat) (i : Int32) : List (Nat × Value) := [(4, .int i), (3, .ref (gB g + 70)), (2, .ref (gB g + 64)), (1, .ref (gB g + 0)), (0, .ref b)]
def LC (g : gW) (p : Program) (s : State) (m : MethodId) (b : Nat) (meth : Method) (c : Code) (L : Nat) (xs : Nat → Int32) : Prop := CL g p s m #[.ref b] meth c cL_law 9 RL ∧ EXs g s ∧ NCs s ∧ KX s ∧ va_X b L xs s s.heap ∧ b < s.heap.size ∧ L ≤ 3072
section GLZ
variable {g : gW} {p : Program} {l : Launch} {e : Env} {R : Room} {s : State} {m : MethodId} {args : Array Value} {below : List Frame} {meth : Method} {c : Code} {cc : ByteArray} {nL : Nat} {own : String} {X : va_W} {h : Hp} {lv : List (Nat × Value)} {cells slots : Nat} {Q : State → Prop} {pc : Nat} {st : List Value}
/-- 'is it not 0', as a number -/
theorem lx_bool (C : CL g p s m args meth c cc nL own) {x : Int32} (h1 : decode cc pc = .ok (.ifCond .eq 7, 3)) (h2 : decode cc (pc + 3) = .ok (.iconst 1, 1)) (h3 : decode cc (pc + 4) = .ok (.goto 4, 3)) (h4 : decode cc (pc + 7) = .ok (.iconst 0, 1)) (k : WW g p l e R s m args below meth c nL X h lv cells slots Q (pc + 8) (.int (bz x) :: st)) : WW g p l e R s m args below meth c nL X h lv cells slots Q pc (.int x :: st) := by
  refine lx_if_eq C h1 (pc + 7) (by omega) (fun c0 => ?_) (fun c0 => ?_)
  · refine lx_iconst (v := 0) C h4 (by decide) ?_
    unfold bz at k
    rw [if_pos c0] at k
    exact k
  · refine lx_iconst (v := 1) C h2 (by decide) ?_
    refine lx_goto C h3 (pc + 8) (by omega) ?_
    unfold bz at k
    rw [if_neg c0] at k
    exact k
theorem lx_boolL (C : CL g p s m args meth c cc nL own) {x : Int32} (h1 : decode cc pc = .ok (.ifCond .eq 7, 3)) (h2 : decode cc (pc + 3) = .ok (.lconst 1, 1)) (h3 : decode cc (pc + 4) = .ok (.goto 4, 3)) (h4 : decode cc (pc + 7) = .ok (.lconst 0, 1)) (k : WW g p l e R s m args below meth c nL X h lv cells slots Q (pc + 8) (.long (bz x).toInt64 :: st)) : WW g p l e R s m args below meth c nL X h lv cells slots Q pc (.int x :: st) := by
  refine lx_if_eq C h1 (pc + 7) (by omega) (fun c0 => ?_) (fun c0 => ?_)
  · refine lx_lconst (v := (0 : Int32).toInt64) C h4 (by decide) ?_
    unfold bz at k
    rw [if_pos c0] at k
    exact k
  · refine lx_lconst (v := (1 : Int32).toInt64) C h2 (by decide) ?_
    refine lx_goto C h3 (pc + 8) (by omega) ?_
    unfold bz at k
    rw [if_neg c0] at k
    exact k
end GLZ
set_option maxRecDepth 100000 in
set_option maxHeartbeats 1600000 in
theorem law_dig {g : gW} {p : Program} {l : Launch} {e : Env} {s : State} {m : MethodId} {below : List Frame} {meth : Method} {c : Code} {b L j n f t q cells slots : Nat} {xs : Nat → Int32} {h : Hp} {Q : State → Prop} (hst : l.stackTraces = false) (Z : LC g p s m b meth c L xs) (hj : 6 * j + 6 ≤ L) (T : TOP n f t q h) (ht : t + 400 < 2 ^ 31) (hr : cells + 100 ≤ room_1.cells ∧ slots + 1000 ≤ room_1.slots)
    (kk : ∀ h2, PT (t + 100) h2 → WW g p l e room_1 s m #[.ref b] below meth c 9 [] h2 (lv0 g b (nI (6 * j))) (cells + 100) (slots + 1000) Q 1461 []) : WW g p l e room_1 s m #[.ref b] below meth c 9 [] h (lv0 g b (nI (6 * j))) cells slots Q 136 [] := by
  obtain ⟨C, hE, hN, hKX, hX, hbl, hL⟩ := Z
  obtain ⟨v, h2, hLR, ⟨hM, hM0, hMC⟩, e1, e2, hP⟩ := res_dig (x := xs (6 * j + 1)) (y := xs (6 * j + 2)) (ht := xs (6 * j + 3)) (sz := xs (6 * j + 4)) (dp := xs (6 * j + 5)) T
  dsimp only at e1 e2 hP
  refine lx_aload_n C dL_law_136 1 rfl rfl ?_
  refine lx_aload_n C dL_law_137 0 rfl rfl ?_
  refine lx_iload C dL_law_138 rfl ?_
  refine lx_iconst (v := nI 1) C dL_law_140 (by decide) ?_
  refine lx_iadd C dL_law_141 ?_
  refine lx_sld (j := 6 * j + 1) C hX hbl (nI_add _ _) (by omega) (by omega) dL_law_142 ?_
  refine lx_aload_n C dL_law_143 0 rfl rfl ?_
  refine lx_iload C dL_law_144 rfl ?_
  refine lx_iconst (v := nI 2) C dL_law_146 (by decide) ?_
  refine lx_iadd C dL_law_147 ?_
  refine lx_sld (j := 6 * j + 2) C hX hbl (nI_add _ _) (by omega) (by omega) dL_law_148 ?_
  refine lx_aload_n C dL_law_149 0 rfl rfl ?_
  refine lx_iload C dL_law_150 rfl ?_
  refine lx_iconst (v := nI 3) C dL_law_152 (by decide) ?_
  refine lx_iadd C dL_law_153 ?_
  refine lx_sld (j := 6 * j + 3) C hX hbl (nI_add _ _) (by omega) (by omega) dL_law_154 ?_
  refine lx_aload_n C dL_law_155 0 rfl rfl ?_
  refine lx_iload C dL_law_156 rfl ?_
  refine lx_iconst (v := nI 4) C dL_law_158 (by decide) ?_
  refine lx_iadd C dL_law_159 ?_
  refine lx_sld (j := 6 * j + 4) C hX hbl (nI_add _ _) (by omega) (by omega) dL_law_160 ?_
  refine lx_aload_n C dL_law_161 0 rfl rfl ?_
  refine lx_iload C dL_law_162 rfl ?_
  refine lx_iconst (v := nI 5) C dL_law_164 (by decide) ?_
  refine lx_iadd C dL_law_165 ?_
  refine lx_sld (j := 6 * j + 5) C hX hbl (nI_add _ _) (by omega) (by omega) dL_law_166 ?_
  refine lx_aload_n C dL_law_167 3 rfl rfl ?_
  refine lx_callW (n := 7) (As := [.ref (gB g + 0), .int (xs (6 * j + 1)), .int (xs (6 * j + 2)), .int (xs (6 * j + 3)), .int (xs (6 * j + 4)), .int (xs (6 * j + 5)), .ref (gB g + 70)]) C hE hN q_x_L_dig q_n_L q_t_L_dig (by decide +kernel) (lt_dig (xt_X4_dig hst T.2.1) hLR) q_m_L_78 rfl rfl (Nat.le_of_ble_eq_true rfl) ⟨(Nat.le_of_ble_eq_true rfl), (Nat.le_of_ble_eq_true rfl)⟩ ⟨Nat.le_trans (by omega) hr.1, Nat.le_trans (by omega) hr.2⟩ dL_law_168 ?_
  refine lx_istore C dL_law_171 (by omega) ?_
  refine lx_aload_n C dL_law_173 2 rfl rfl ?_
  refine lx_aload_n C dL_law_174 0 rfl rfl ?_
  refine lx_iload C dL_law_175 rfl ?_
  refine lx_iconst (v := nI 1) C dL_law_177 (by decide) ?_
  refine lx_iadd C dL_law_178 ?_
  refine lx_sld (j := 6 * j + 1) C hX hbl (nI_add _ _) (by omega) (by omega) dL_law_179 ?_
  refine lx_aload_n C dL_law_180 0 rfl rfl ?_
  refine lx_iload C dL_law_181 rfl ?_
  refine lx_iconst (v := nI 2) C dL_law_183 (by decide) ?_
  refine lx_iadd C dL_law_184 ?_
  refine lx_sld (j := 6 * j + 2) C hX hbl (nI_add _ _) (by omega) (by omega) dL_law_185 ?_
  refine lx_aload_n C dL_law_186 0 rfl rfl ?_
  refine lx_iload C dL_law_187 rfl ?_
  refine lx_iconst (v := nI 3) C dL_law_189 (by decide) ?_
  refine lx_iadd C dL_law_190 ?_
  refine lx_sld (j := 6 * j + 3) C hX hbl (nI_add _ _) (by omega) (by omega) dL_law_191 ?_
  refine lx_aload_n C dL_law_192 0 rfl rfl ?_
  refine lx_iload C dL_law_193 rfl ?_
  refine lx_iconst (v := nI 4) C dL_law_195 (by decide) ?_
  refine lx_iadd C dL_law_196 ?_
  refine lx_sld (j := 6 * j + 4) C hX hbl (nI_add _ _) (by omega) (by omega) dL_law_197 ?_
  refine lx_aload_n C dL_law_198 0 rfl rfl ?_
  refine lx_iload C dL_law_199 rfl ?_
  refine lx_iconst (v := nI 5) C dL_law_201 (by decide) ?_
  refine lx_iadd C dL_law_202 ?_
  refine lx_sld (j := 6 * j + 5) C hX hbl (nI_add _ _) (by omega) (by omega) dL_law_203 ?_
  refine lx_callV (As := [.int (xs (6 * j + 1)), .int (xs (6 * j + 2)), .int (xs (6 * j + 3)), .int (xs (6 * j + 4)), .int (xs (6 * j + 5))]) (rest := []) (ci := 5) C mf_X5_dig (ct_X5_dig hM) q_m_L_83 (by omega) rfl rfl ⟨_, rfl⟩ rfl rfl (Nat.le_of_ble_eq_true rfl) ⟨(Nat.le_of_ble_eq_true rfl), (Nat.le_of_ble_eq_true rfl)⟩ ⟨Nat.le_trans (by omega) hr.1, Nat.le_trans (by omega) hr.2⟩ dL_law_204 ?_
  refine lx_istore C dL_law_207 (by omega) ?_
  refine lx_aload_n C dL_law_209 2 rfl rfl ?_
  refine lx_callV (As := []) (rest := []) (ci := 5) C mf_X5_thrown ct_X5_thrown q_m_L_84 (by omega) rfl rfl ⟨_, rfl⟩ rfl rfl (Nat.le_of_ble_eq_true rfl) ⟨(Nat.le_of_ble_eq_true rfl), (Nat.le_of_ble_eq_true rfl)⟩ ⟨Nat.le_trans (by omega) hr.1, Nat.le_trans (by omega) hr.2⟩ dL_law_210 ?_
  refine lx_iload C dL_law_213 rfl ?_
  refine lx_icmp_eq C dL_law_215 220 (by decide) (fun _ => ?_) (fun z => absurd e1 z)
  refine lx_iload C dL_law_220 rfl ?_
  refine lx_if_ne C dL_law_222 237 (by decide) (fun _ => ?_) (fun hv => ?_)
  · refine lx_goto C dL_law_237 1461 (by decide) ?_
    exact ww_lv (lv0 g b (nI (6 * j))) ⟨rfl, rfl, rfl, rfl, rfl, trivial⟩ (ww_wide _ _ (by omega) (by omega) (kk _ (hP.mono (by omega))))
  · refine lx_aload_n C dL_law_225 3 rfl rfl ?_
    refine lx_iconst (v := 0) C dL_law_226 (by decide) ?_
    refine lx_lald C rfl dL_law_227 ?_
    refine lx_iload C dL_law_228 rfl ?_
    refine lx_i2l C dL_law_230 ?_
    refine lx_lcmp C dL_law_231 ?_
    refine lx_if_eq C dL_law_232 237 (by decide) (fun _ => ?_) (fun z => absurd (by rw [e2 hv]; exact lg_self _) z)
    refine lx_goto C dL_law_237 1461 (by decide) ?_
    exact ww_lv (lv0 g b (nI (6 * j))) ⟨rfl, rfl, rfl, rfl, rfl, trivial⟩ (ww_wide _ _ (by omega) (by omega) (kk _ (hP.mono (by omega))))
set_option maxRecDepth 100000 in
set_option maxHeartbeats 1600000 in
theorem law_link {g : gW} {p : Program} {l : Launch} {e : Env} {s : State} {m : MethodId} {below : List Frame} {meth : Method} {c : Code} {b L j n f t q cells slots : Nat} {xs : Nat → Int32} {h : Hp} {Q : State → Prop} (hst : l.stackTraces = false) (Z : LC g p s m b meth c L xs) (hj : 6 * j + 6 ≤ L) (T : TOP n f t q h) (ht : t + 400 < 2 ^ 31) (hr : cells + 100 ≤ room_1.cells ∧ slots + 1000 ≤ room_1.slots)
    (kk : ∀ h2, PT (t + 100) h2 → WW g p l e room_1 s m #[.ref b] below meth c 9 [] h2 (lv0 g b (nI (6 * j))) (cells + 100) (slots + 1000) Q 1461 []) : WW g p l e room_1 s m #[.ref b] below meth c 9 [] h (lv0 g b (nI (6 * j))) cells slots Q 240 [] := by
  obtain ⟨C, hE, hN, hKX, hX, hbl, hL⟩ := Z
  obtain ⟨v, h2, hLR, ⟨hM, hM0, hMC⟩, e1, e2, hP⟩ := res_link (p := xs (6 * j + 1)) (o := xs (6 * j + 2)) T
  dsimp only at e1 e2 hP
  refine lx_aload_n C dL_law_240 1 rfl rfl ?_
  refine lx_aload_n C dL_law_241 0 rfl rfl ?_
  refine lx_iload C dL_law_242 rfl ?_
  refine lx_iconst (v := nI 1) C dL_law_244 (by decide) ?_
  refine lx_iadd C dL_law_245 ?_
  refine lx_sld (j := 6 * j + 1) C hX hbl (nI_add _ _) (by omega) (by omega) dL_law_246 ?_
  refine lx_aload_n C dL_law_247 0 rfl rfl ?_
  refine lx_iload C dL_law_248 rfl ?_
  refine lx_iconst (v := nI 2) C dL_law_250 (by decide) ?_
  refine lx_iadd C dL_law_251 ?_
  refine lx_sld (j := 6 * j + 2) C hX hbl (nI_add _ _) (by omega) (by omega) dL_law_252 ?_
  refine lx_aload_n C dL_law_253 3 rfl rfl ?_
  refine lx_callW (n := 4) (As := [.ref (gB g + 0), .int (xs (6 * j + 1)), .int (xs (6 * j + 2)), .ref (gB g + 70)]) C hE hN q_x_L_link q_n_L q_t_L_link (by decide +kernel) (lt_link (xt_X4_link hst T.2.1) hLR) q_m_L_88 rfl rfl (Nat.le_of_ble_eq_true rfl) ⟨(Nat.le_of_ble_eq_true rfl), (Nat.le_of_ble_eq_true rfl)⟩ ⟨Nat.le_trans (by omega) hr.1, Nat.le_trans (by omega) hr.2⟩ dL_law_254 ?_
  refine lx_istore C dL_law_257 (by omega) ?_
  refine lx_aload_n C dL_law_259 2 rfl rfl ?_
  refine lx_aload_n C dL_law_260 0 rfl rfl ?_
  refine lx_iload C dL_law_261 rfl ?_
  refine lx_iconst (v := nI 1) C dL_law_263 (by decide) ?_
  refine lx_iadd C dL_law_264 ?_
  refine lx_sld (j := 6 * j + 1) C hX hbl (nI_add _ _) (by omega) (by omega) dL_law_265 ?_
  refine lx_aload_n C dL_law_266 0 rfl rfl ?_
  refine lx_iload C dL_law_267 rfl ?_
  refine lx_iconst (v := nI 2) C dL_law_269 (by decide) ?_
  refine lx_iadd C dL_law_270 ?_
  refine lx_sld (j := 6 * j + 2) C hX hbl (nI_add _ _) (by omega) (by omega) dL_law_271 ?_
  refine lx_callV (As := [.int (xs (6 * j + 1)), .int (xs (6 * j + 2))]) (rest := []) (ci := 5) C mf_X5_link (ct_X5_link hM) q_m_L_91 (by omega) rfl rfl ⟨_, rfl⟩ rfl rfl (Nat.le_of_ble_eq_true rfl) ⟨(Nat.le_of_ble_eq_true rfl), (Nat.le_of_ble_eq_true rfl)⟩ ⟨Nat.le_trans (by omega) hr.1, Nat.le_trans (by omega) hr.2⟩ dL_law_272 ?_
  refine lx_istore C dL_law_275 (by omega) ?_
  refine lx_aload_n C dL_law_277 2 rfl rfl ?_
  refine lx_callV (As := []) (rest := []) (ci := 5) C mf_X5_thrown ct_X5_thrown q_m_L_84 (by omega) rfl rfl ⟨_, rfl⟩ rfl rfl (Nat.le_of_ble_eq_true rfl) ⟨(Nat.le_of_ble_eq_true rfl), (Nat.le_of_ble_eq_true rfl)⟩ ⟨Nat.le_trans (by omega) hr.1, Nat.le_trans (by omega) hr.2⟩ dL_law_278 ?_
  refine lx_iload C dL_law_281 rfl ?_
  refine lx_icmp_eq C dL_law_283 288 (by decide) (fun _ => ?_) (fun z => absurd e1 z)
  refine lx_iload C dL_law_288 rfl ?_
  refine lx_if_ne C dL_law_290 305 (by decide) (fun _ => ?_) (fun hv => ?_)
  · refine lx_goto C dL_law_305 1461 (by decide) ?_
    exact ww_lv (lv0 g b (nI (6 * j))) ⟨rfl, rfl, rfl, rfl, rfl, trivial⟩ (ww_wide _ _ (by omega) (by omega) (kk _ (hP.mono (by omega))))
  · refine lx_aload_n C dL_law_293 3 rfl rfl ?_
    refine lx_iconst (v := 0) C dL_law_294 (by decide) ?_
    refine lx_lald C rfl dL_law_295 ?_
    refine lx_iload C dL_law_296 rfl ?_
    refine lx_i2l C dL_law_298 ?_
    refine lx_lcmp C dL_law_299 ?_
    refine lx_if_eq C dL_law_300 305 (by decide) (fun _ => ?_) (fun z => absurd (by rw [e2 hv]; exact lg_self _) z)
    refine lx_goto C dL_law_305 1461 (by decide) ?_
    exact ww_lv (lv0 g b (nI (6 * j))) ⟨rfl, rfl, rfl, rfl, rfl, trivial⟩ (ww_wide _ _ (by omega) (by omega) (kk _ (hP.mono (by omega))))
set_option maxRecDepth 100000 in
set_option maxHeartbeats 1600000 in
theorem law_puddle {g : gW} {p : Program} {l : Launch} {e : Env} {s : State} {m : MethodId} {below : List Frame} {meth : Method} {c : Code} {b L j n f t q cells slots : Nat} {xs : Nat → Int32} {h : Hp} {Q : State → Prop} (hst : l.stackTraces = false) (Z : LC g p s m b meth c L xs) (hj : 6 * j + 6 ≤ L) (T : TOP n f t q h) (ht : t + 400 < 2 ^ 31) (hr : cells + 100 ≤ room_1.cells ∧ slots + 1000 ≤ room_1.slots)
    (kk : ∀ h2, PT (t + 100) h2 → WW g p l e room_1 s m #[.ref b] below meth c 9 [] h2 (lv0 g b (nI (6 * j))) (cells + 100) (slots + 1000) Q 1461 []) : WW g p l e room_1 s m #[.ref b] below meth c 9 [] h (lv0 g b (nI (6 * j))) cells slots Q 308 [] := by
  obtain ⟨C, hE, hN, hKX, hX, hbl, hL⟩ := Z
  obtain ⟨v, h2, hLR, ⟨hM, hM0, hMC⟩, e1, e2, hP⟩ := res_puddle (p := xs (6 * j + 1)) (c := xs (6 * j + 2)) T
  dsimp only at e1 e2 hP
  refine lx_aload_n C dL_law_308 1 rfl rfl ?_
  refine lx_aload_n C dL_law_309 0 rfl rfl ?_
  refine lx_iload C dL_law_310 rfl ?_
  refine lx_iconst (v := nI 1) C dL_law_312 (by decide) ?_
  refine lx_iadd C dL_law_313 ?_
  refine lx_sld (j := 6 * j + 1) C hX hbl (nI_add _ _) (by omega) (by omega) dL_law_314 ?_
  refine lx_aload_n C dL_law_315 0 rfl rfl ?_
  refine lx_iload C dL_law_316 rfl ?_
  refine lx_iconst (v := nI 2) C dL_law_318 (by decide) ?_
  refine lx_iadd C dL_law_319 ?_
  refine lx_sld (j := 6 * j + 2) C hX hbl (nI_add _ _) (by omega) (by omega) dL_law_320 ?_
  refine lx_aload_n C dL_law_321 3 rfl rfl ?_
  refine lx_callW (n := 4) (As := [.ref (gB g + 0), .int (xs (6 * j + 1)), .int (xs (6 * j + 2)), .ref (gB g + 70)]) C hE hN q_x_L_puddle q_n_L q_t_L_puddle (by decide +kernel) (lt_puddle (xt_X4_puddle hst T.2.1) hLR) q_m_L_92 rfl rfl (Nat.le_of_ble_eq_true rfl) ⟨(Nat.le_of_ble_eq_true rfl), (Nat.le_of_ble_eq_true rfl)⟩ ⟨Nat.le_trans (by omega) hr.1, Nat.le_trans (by omega) hr.2⟩ dL_law_322 ?_
  refine lx_istore C dL_law_325 (by omega) ?_
  refine lx_aload_n C dL_law_327 2 rfl rfl ?_
  refine lx_aload_n C dL_law_328 0 rfl rfl ?_
  refine lx_iload C dL_law_329 rfl ?_
  refine lx_iconst (v := nI 1) C dL_law_331 (by decide) ?_
  refine lx_iadd C dL_law_332 ?_
  refine lx_sld (j := 6 * j + 1) C hX hbl (nI_add _ _) (by omega) (by omega) dL_law_333 ?_
  refine lx_aload_n C dL_law_334 0 rfl rfl ?_
  refine lx_iload C dL_law_335 rfl ?_
  refine lx_iconst (v := nI 2) C dL_law_337 (by decide) ?_
  refine lx_iadd C dL_law_338 ?_
  refine lx_sld (j := 6 * j + 2) C hX hbl (nI_add _ _) (by omega) (by omega) dL_law_339 ?_
  refine lx_callV (As := [.int (xs (6 * j + 1)), .int (xs (6 * j + 2))]) (rest := []) (ci := 5) C mf_X5_puddle (ct_X5_puddle hM) q_m_L_94 (by omega) rfl rfl ⟨_, rfl⟩ rfl rfl (Nat.le_of_ble_eq_true rfl) ⟨(Nat.le_of_ble_eq_true rfl), (Nat.le_of_ble_eq_true rfl)⟩ ⟨Nat.le_trans (by omega) hr.1, Nat.le_trans (by omega) hr.2⟩ dL_law_340 ?_
  refine lx_istore C dL_law_343 (by omega) ?_
  refine lx_aload_n C dL_law_345 2 rfl rfl ?_
  refine lx_callV (As := []) (rest := []) (ci := 5) C mf_X5_thrown ct_X5_thrown q_m_L_84 (by omega) rfl rfl ⟨_, rfl⟩ rfl rfl (Nat.le_of_ble_eq_true rfl) ⟨(Nat.le_of_ble_eq_true rfl), (Nat.le_of_ble_eq_true rfl)⟩ ⟨Nat.le_trans (by omega) hr.1, Nat.le_trans (by omega) hr.2⟩ dL_law_346 ?_
  refine lx_iload C dL_law_349 rfl ?_
  refine lx_icmp_eq C dL_law_351 356 (by decide) (fun _ => ?_) (fun z => absurd e1 z)
  refine lx_iload C dL_law_356 rfl ?_
  refine lx_if_ne C dL_law_358 373 (by decide) (fun _ => ?_) (fun hv => ?_)
  · refine lx_goto C dL_law_373 1461 (by decide) ?_
    exact ww_lv (lv0 g b (nI (6 * j))) ⟨rfl, rfl, rfl, rfl, rfl, trivial⟩ (ww_wide _ _ (by omega) (by omega) (kk _ (hP.mono (by omega))))
  · refine lx_aload_n C dL_law_361 3 rfl rfl ?_
    refine lx_iconst (v := 0) C dL_law_362 (by decide) ?_
    refine lx_lald C rfl dL_law_363 ?_
    refine lx_iload C dL_law_364 rfl ?_
    refine lx_i2l C dL_law_366 ?_
    refine lx_lcmp C dL_law_367 ?_
    refine lx_if_eq C dL_law_368 373 (by decide) (fun _ => ?_) (fun z => absurd (by rw [e2 hv]; exact lg_self _) z)
    refine lx_goto C dL_law_373 1461 (by decide) ?_
    exact ww_lv (lv0 g b (nI (6 * j))) ⟨rfl, rfl, rfl, rfl, rfl, trivial⟩ (ww_wide _ _ (by omega) (by omega) (kk _ (hP.mono (by omega))))
set_option maxRecDepth 100000 in
set_option maxHeartbeats 1600000 in
theorem law_strew {g : gW} {p : Program} {l : Launch} {e : Env} {s : State} {m : MethodId} {below : List Frame} {meth : Method} {c : Code} {b L j n f t q cells slots : Nat} {xs : Nat → Int32} {h : Hp} {Q : State → Prop} (hst : l.stackTraces = false) (Z : LC g p s m b meth c L xs) (hj : 6 * j + 6 ≤ L) (T : TOP n f t q h) (ht : t + 400 < 2 ^ 31) (hr : cells + 100 ≤ room_1.cells ∧ slots + 1000 ≤ room_1.slots)
    (kk : ∀ h2, PT (t + 100) h2 → WW g p l e room_1 s m #[.ref b] below meth c 9 [] h2 (lv0 g b (nI (6 * j))) (cells + 100) (slots + 1000) Q 1461 []) : WW g p l e room_1 s m #[.ref b] below meth c 9 [] h (lv0 g b (nI (6 * j))) cells slots Q 376 [] := by
  obtain ⟨C, hE, hN, hKX, hX, hbl, hL⟩ := Z
  obtain ⟨v, h2, hLR, ⟨hM, hM0, hMC⟩, e1, e2, hP⟩ := res_strew (p := xs (6 * j + 1)) (b := bz (xs (6 * j + 2))) T bz_01
  dsimp only at e1 e2 hP
  refine lx_aload_n C dL_law_376 1 rfl rfl ?_
  refine lx_aload_n C dL_law_377 0 rfl rfl ?_
  refine lx_iload C dL_law_378 rfl ?_
  refine lx_iconst (v := nI 1) C dL_law_380 (by decide) ?_
  refine lx_iadd C dL_law_381 ?_
  refine lx_sld (j := 6 * j + 1) C hX hbl (nI_add _ _) (by omega) (by omega) dL_law_382 ?_
  refine lx_aload_n C dL_law_383 0 rfl rfl ?_
  refine lx_iload C dL_law_384 rfl ?_
  refine lx_iconst (v := nI 2) C dL_law_386 (by decide) ?_
  refine lx_iadd C dL_law_387 ?_
  refine lx_sld (j := 6 * j + 2) C hX hbl (nI_add _ _) (by omega) (by omega) dL_law_388 ?_
  refine lx_bool C dL_law_389 dL_law_392 dL_law_393 dL_law_396 ?_
  refine lx_aload_n C dL_law_397 3 rfl rfl ?_
  refine lx_callW (n := 4) (As := [.ref (gB g + 0), .int (xs (6 * j + 1)), .int (bz (xs (6 * j + 2))), .ref (gB g + 70)]) C hE hN q_x_L_strew q_n_L q_t_L_strew (by decide +kernel) (lt_strew (xt_X4_strew hst T.2.1 bz_01) hLR) q_m_L_95 rfl rfl (Nat.le_of_ble_eq_true rfl) ⟨(Nat.le_of_ble_eq_true rfl), (Nat.le_of_ble_eq_true rfl)⟩ ⟨Nat.le_trans (by omega) hr.1, Nat.le_trans (by omega) hr.2⟩ dL_law_398 ?_
  refine lx_istore C dL_law_401 (by omega) ?_
  refine lx_aload_n C dL_law_403 2 rfl rfl ?_
  refine lx_aload_n C dL_law_404 0 rfl rfl ?_
  refine lx_iload C dL_law_405 rfl ?_
  refine lx_iconst (v := nI 1) C dL_law_407 (by decide) ?_
  refine lx_iadd C dL_law_408 ?_
  refine lx_sld (j := 6 * j + 1) C hX hbl (nI_add _ _) (by omega) (by omega) dL_law_409 ?_
  refine lx_aload_n C dL_law_410 0 rfl rfl ?_
  refine lx_iload C dL_law_411 rfl ?_
  refine lx_iconst (v := nI 2) C dL_law_413 (by decide) ?_
  refine lx_iadd C dL_law_414 ?_
  refine lx_sld (j := 6 * j + 2) C hX hbl (nI_add _ _) (by omega) (by omega) dL_law_415 ?_
  refine lx_bool C dL_law_416 dL_law_419 dL_law_420 dL_law_423 ?_
  refine lx_callV (As := [.int (xs (6 * j + 1)), .int (bz (xs (6 * j + 2)))]) (rest := []) (ci := 5) C mf_X5_strew (ct_X5_strew hM) q_m_L_98 (by omega) rfl rfl ⟨_, rfl⟩ rfl rfl (Nat.le_of_ble_eq_true rfl) ⟨(Nat.le_of_ble_eq_true rfl), (Nat.le_of_ble_eq_true rfl)⟩ ⟨Nat.le_trans (by omega) hr.1, Nat.le_trans (by omega) hr.2⟩ dL_law_424 ?_
  refine lx_istore C dL_law_427 (by omega) ?_
  refine lx_aload_n C dL_law_429 2 rfl rfl ?_
  refine lx_callV (As := []) (rest := []) (ci := 5) C mf_X5_thrown ct_X5_thrown q_m_L_84 (by omega) rfl rfl ⟨_, rfl⟩ rfl rfl (Nat.le_of_ble_eq_true rfl) ⟨(Nat.le_of_ble_eq_true rfl), (Nat.le_of_ble_eq_true rfl)⟩ ⟨Nat.le_trans (by omega) hr.1, Nat.le_trans (by omega) hr.2⟩ dL_law_430 ?_
  refine lx_iload C dL_law_433 rfl ?_
  refine lx_icmp_eq C dL_law_435 440 (by decide) (fun _ => ?_) (fun z => absurd e1 z)
  refine lx_iload C dL_law_440 rfl ?_
  refine lx_if_ne C dL_law_442 464 (by decide) (fun _ => ?_) (fun hv => ?_)
  · refine lx_goto C dL_law_464 1461 (by decide) ?_
    exact ww_lv (lv0 g b (nI (6 * j))) ⟨rfl, rfl, rfl, rfl, rfl, trivial⟩ (ww_wide _ _ (by omega) (by omega) (kk _ (hP.mono (by omega))))
  · refine lx_aload_n C dL_law_445 3 rfl rfl ?_
    refine lx_iconst (v := 0) C dL_law_446 (by decide) ?_
    refine lx_lald C rfl dL_law_447 ?_
    refine lx_iload C dL_law_448 rfl ?_
    refine lx_boolL C dL_law_450 dL_law_453 dL_law_454 dL_law_457 ?_
    refine lx_lcmp C dL_law_458 ?_
    refine lx_if_eq C dL_law_459 464 (by decide) (fun _ => ?_) (fun z => absurd (by rw [e2 hv]; exact lg_self _) z)
    refine lx_goto C dL_law_464 1461 (by decide) ?_
    exact ww_lv (lv0 g b (nI (6 * j))) ⟨rfl, rfl, rfl, rfl, rfl, trivial⟩ (ww_wide _ _ (by omega) (by omega) (kk _ (hP.mono (by omega))))
set_option maxRecDepth 100000 in
set_option maxHeartbeats 1600000 in
theorem law_pour {g : gW} {p : Program} {l : Launch} {e : Env} {s : State} {m : MethodId} {below : List Frame} {meth : Method} {c : Code} {b L j n f t q cells slots : Nat} {xs : Nat → Int32} {h : Hp} {Q : State → Prop} (hst : l.stackTraces = false) (Z : LC g p s m b meth c L xs) (hj : 6 * j + 6 ≤ L) (T : TOP n f t q h) (ht : t + 400 < 2 ^ 31) (hr : cells + 100 ≤ room_1.cells ∧ slots + 1000 ≤ room_1.slots)
    (kk : ∀ h2, PT (t + 100) h2 → WW g p l e room_1 s m #[.ref b] below meth c 9 [] h2 (lv0 g b (nI (6 * j))) (cells + 100) (slots + 1000) Q 1461 []) : WW g p l e room_1 s m #[.ref b] below meth c 9 [] h (lv0 g b (nI (6 * j))) cells slots Q 467 [] := by
  obtain ⟨C, hE, hN, hKX, hX, hbl, hL⟩ := Z
  obtain ⟨v, h2, hLR, ⟨hM, hM0, hMC⟩, e1, e2, hP⟩ := res_pour (p := xs (6 * j + 1)) (b := xs (6 * j + 2)) T
  dsimp only at e1 e2 hP
  refine lx_aload_n C dL_law_467 1 rfl rfl ?_
  refine lx_aload_n C dL_law_468 0 rfl rfl ?_
  refine lx_iload C dL_law_469 rfl ?_
  refine lx_iconst (v := nI 1) C dL_law_471 (by decide) ?_
  refine lx_iadd C dL_law_472 ?_
  refine lx_sld (j := 6 * j + 1) C hX hbl (nI_add _ _) (by omega) (by omega) dL_law_473 ?_
  refine lx_aload_n C dL_law_474 0 rfl rfl ?_
  refine lx_iload C dL_law_475 rfl ?_
  refine lx_iconst (v := nI 2) C dL_law_477 (by decide) ?_
  refine lx_iadd C dL_law_478 ?_
  refine lx_sld (j := 6 * j + 2) C hX hbl (nI_add _ _) (by omega) (by omega) dL_law_479 ?_
  refine lx_aload_n C dL_law_480 3 rfl rfl ?_
  refine lx_callW (n := 4) (As := [.ref (gB g + 0), .int (xs (6 * j + 1)), .int (xs (6 * j + 2)), .ref (gB g + 70)]) C hE hN q_x_L_pour q_n_L q_t_L_pour (by decide +kernel) (lt_pour (xt_X4_pour hst T.2.1) hLR) q_m_L_99 rfl rfl (Nat.le_of_ble_eq_true rfl) ⟨(Nat.le_of_ble_eq_true rfl), (Nat.le_of_ble_eq_true rfl)⟩ ⟨Nat.le_trans (by omega) hr.1, Nat.le_trans (by omega) hr.2⟩ dL_law_481 ?_
  refine lx_istore C dL_law_484 (by omega) ?_
  refine lx_aload_n C dL_law_486 2 rfl rfl ?_
  refine lx_aload_n C dL_law_487 0 rfl rfl ?_
  refine lx_iload C dL_law_488 rfl ?_
  refine lx_iconst (v := nI 1) C dL_law_490 (by decide) ?_
  refine lx_iadd C dL_law_491 ?_
  refine lx_sld (j := 6 * j + 1) C hX hbl (nI_add _ _) (by omega) (by omega) dL_law_492 ?_
  refine lx_aload_n C dL_law_493 0 rfl rfl ?_
  refine lx_iload C dL_law_494 rfl ?_
  refine lx_iconst (v := nI 2) C dL_law_496 (by decide) ?_
  refine lx_iadd C dL_law_497 ?_
  refine lx_sld (j := 6 * j + 2) C hX hbl (nI_add _ _) (by omega) (by omega) dL_law_498 ?_
  refine lx_callV (As := [.int (xs (6 * j + 1)), .int (xs (6 * j + 2))]) (rest := []) (ci := 5) C mf_X5_pour (ct_X5_pour hM) q_m_L_101 (by omega) rfl rfl ⟨_, rfl⟩ rfl rfl (Nat.le_of_ble_eq_true rfl) ⟨(Nat.le_of_ble_eq_true rfl), (Nat.le_of_ble_eq_true rfl)⟩ ⟨Nat.le_trans (by omega) hr.1, Nat.le_trans (by omega) hr.2⟩ dL_law_499 ?_
  refine lx_istore C dL_law_502 (by omega) ?_
  refine lx_aload_n C dL_law_504 2 rfl rfl ?_
  refine lx_callV (As := []) (rest := []) (ci := 5) C mf_X5_thrown ct_X5_thrown q_m_L_84 (by omega) rfl rfl ⟨_, rfl⟩ rfl rfl (Nat.le_of_ble_eq_true rfl) ⟨(Nat.le_of_ble_eq_true rfl), (Nat.le_of_ble_eq_true rfl)⟩ ⟨Nat.le_trans (by omega) hr.1, Nat.le_trans (by omega) hr.2⟩ dL_law_505 ?_
  refine lx_iload C dL_law_508 rfl ?_
  refine lx_icmp_eq C dL_law_510 515 (by decide) (fun _ => ?_) (fun z => absurd e1 z)
  refine lx_iload C dL_law_515 rfl ?_
  refine lx_if_ne C dL_law_517 532 (by decide) (fun _ => ?_) (fun hv => ?_)
  · refine lx_goto C dL_law_532 1461 (by decide) ?_
    exact ww_lv (lv0 g b (nI (6 * j))) ⟨rfl, rfl, rfl, rfl, rfl, trivial⟩ (ww_wide _ _ (by omega) (by omega) (kk _ (hP.mono (by omega))))
  · refine lx_aload_n C dL_law_520 3 rfl rfl ?_
    refine lx_iconst (v := 0) C dL_law_521 (by decide) ?_
    refine lx_lald C rfl dL_law_522 ?_
    refine lx_iload C dL_law_523 rfl ?_
    refine lx_i2l C dL_law_525 ?_
    refine lx_lcmp C dL_law_526 ?_
    refine lx_if_eq C dL_law_527 532 (by decide) (fun _ => ?_) (fun z => absurd (by rw [e2 hv]; exact lg_self _) z)
    refine lx_goto C dL_law_532 1461 (by decide) ?_
    exact ww_lv (lv0 g b (nI (6 * j))) ⟨rfl, rfl, rfl, rfl, rfl, trivial⟩ (ww_wide _ _ (by omega) (by omega) (kk _ (hP.mono (by omega))))
set_option maxRecDepth 100000 in
set_option maxHeartbeats 1600000 in
theorem law_pond {g : gW} {p : Program} {l : Launch} {e : Env} {s : State} {m : MethodId} {below : List Frame} {meth : Method} {c : Code} {b L j n f t q cells slots : Nat} {xs : Nat → Int32} {h : Hp} {Q : State → Prop} (hst : l.stackTraces = false) (Z : LC g p s m b meth c L xs) (hj : 6 * j + 6 ≤ L) (T : TOP n f t q h) (ht : t + 400 < 2 ^ 31) (hr : cells + 100 ≤ room_1.cells ∧ slots + 1000 ≤ room_1.slots)
    (kk : ∀ h2, PT (t + 100) h2 → WW g p l e room_1 s m #[.ref b] below meth c 9 [] h2 (lv0 g b (nI (6 * j))) (cells + 100) (slots + 1000) Q 1461 []) : WW g p l e room_1 s m #[.ref b] below meth c 9 [] h (lv0 g b (nI (6 * j))) cells slots Q 535 [] := by
  obtain ⟨C, hE, hN, hKX, hX, hbl, hL⟩ := Z
  obtain ⟨v, h2, hLR, ⟨hM, hM0, hMC⟩, e1, e2, hP⟩ := res_pond (p := xs (6 * j + 1)) (b := xs (6 * j + 2)) T
  dsimp only at e1 e2 hP
  refine lx_aload_n C dL_law_535 1 rfl rfl ?_
  refine lx_aload_n C dL_law_536 0 rfl rfl ?_
  refine lx_iload C dL_law_537 rfl ?_
  refine lx_iconst (v := nI 1) C dL_law_539 (by decide) ?_
  refine lx_iadd C dL_law_540 ?_
  refine lx_sld (j := 6 * j + 1) C hX hbl (nI_add _ _) (by omega) (by omega) dL_law_541 ?_
  refine lx_aload_n C dL_law_542 0 rfl rfl ?_
  refine lx_iload C dL_law_543 rfl ?_
  refine lx_iconst (v := nI 2) C dL_law_545 (by decide) ?_
  refine lx_iadd C dL_law_546 ?_
  refine lx_sld (j := 6 * j + 2) C hX hbl (nI_add _ _) (by omega) (by omega) dL_law_547 ?_
  refine lx_aload_n C dL_law_548 3 rfl rfl ?_
  refine lx_callW (n := 4) (As := [.ref (gB g + 0), .int (xs (6 * j + 1)), .int (xs (6 * j + 2)), .ref (gB g + 70)]) C hE hN q_x_L_pond q_n_L q_t_L_pond (by decide +kernel) (lt_pond (xt_X4_pond hst T.2.1) hLR) q_m_L_102 rfl rfl (Nat.le_of_ble_eq_true rfl) ⟨(Nat.le_of_ble_eq_true rfl), (Nat.le_of_ble_eq_true rfl)⟩ ⟨Nat.le_trans (by omega) hr.1, Nat.le_trans (by omega) hr.2⟩ dL_law_549 ?_
  refine lx_istore C dL_law_552 (by omega) ?_
  refine lx_aload_n C dL_law_554 2 rfl rfl ?_
  refine lx_aload_n C dL_law_555 0 rfl rfl ?_
  refine lx_iload C dL_law_556 rfl ?_
  refine lx_iconst (v := nI 1) C dL_law_558 (by decide) ?_
  refine lx_iadd C dL_law_559 ?_
  refine lx_sld (j := 6 * j + 1) C hX hbl (nI_add _ _) (by omega) (by omega) dL_law_560 ?_
  refine lx_aload_n C dL_law_561 0 rfl rfl ?_
  refine lx_iload C dL_law_562 rfl ?_
  refine lx_iconst (v := nI 2) C dL_law_564 (by decide) ?_
  refine lx_iadd C dL_law_565 ?_
  refine lx_sld (j := 6 * j + 2) C hX hbl (nI_add _ _) (by omega) (by omega) dL_law_566 ?_
  refine lx_callV (As := [.int (xs (6 * j + 1)), .int (xs (6 * j + 2))]) (rest := []) (ci := 5) C mf_X5_pond (ct_X5_pond hM hMC) q_m_L_104 (by omega) rfl rfl ⟨_, rfl⟩ rfl rfl (Nat.le_of_ble_eq_true rfl) ⟨(Nat.le_of_ble_eq_true rfl), (Nat.le_of_ble_eq_true rfl)⟩ ⟨Nat.le_trans (by omega) hr.1, Nat.le_trans (by omega) hr.2⟩ dL_law_567 ?_
  refine lx_istore C dL_law_570 (by omega) ?_
  refine lx_aload_n C dL_law_572 2 rfl rfl ?_
  refine lx_callV (As := []) (rest := []) (ci := 5) C mf_X5_thrown ct_X5_thrown q_m_L_84 (by omega) rfl rfl ⟨_, rfl⟩ rfl rfl (Nat.le_of_ble_eq_true rfl) ⟨(Nat.le_of_ble_eq_true rfl), (Nat.le_of_ble_eq_true rfl)⟩ ⟨Nat.le_trans (by omega) hr.1, Nat.le_trans (by omega) hr.2⟩ dL_law_573 ?_
  refine lx_iload C dL_law_576 rfl ?_
  refine lx_icmp_eq C dL_law_578 583 (by decide) (fun _ => ?_) (fun z => absurd e1 z)
  refine lx_iload C dL_law_583 rfl ?_
  refine lx_if_ne C dL_law_585 600 (by decide) (fun _ => ?_) (fun hv => ?_)
  · refine lx_goto C dL_law_600 1461 (by decide) ?_
    exact ww_lv (lv0 g b (nI (6 * j))) ⟨rfl, rfl, rfl, rfl, rfl, trivial⟩ (ww_wide _ _ (by omega) (by omega) (kk _ (hP.mono (by omega))))
  · refine lx_aload_n C dL_law_588 3 rfl rfl ?_
    refine lx_iconst (v := 0) C dL_law_589 (by decide) ?_
    refine lx_lald C rfl dL_law_590 ?_
    refine lx_iload C dL_law_591 rfl ?_
    refine lx_i2l C dL_law_593 ?_
    refine lx_lcmp C dL_law_594 ?_
    refine lx_if_eq C dL_law_595 600 (by decide) (fun _ => ?_) (fun z => absurd (by rw [e2 hv]; exact lg_self _) z)
    refine lx_goto C dL_law_600 1461 (by decide) ?_
    exact ww_lv (lv0 g b (nI (6 * j))) ⟨rfl, rfl, rfl, rfl, rfl, trivial⟩ (ww_wide _ _ (by omega) (by omega) (kk _ (hP.mono (by omega))))
set_option maxRecDepth 100000 in
set_option maxHeartbeats 1600000 in
theorem law_setWeather {g : gW} {p : Program} {l : Launch} {e : Env} {s : State} {m : MethodId} {below : List Frame} {meth : Method} {c : Code} {b L j n f t q cells slots : Nat} {xs : Nat → Int32} {h : Hp} {Q : State → Prop} (hst : l.stackTraces = false) (Z : LC g p s m b meth c L xs) (hj : 6 * j + 6 ≤ L) (T : TOP n f t q h) (ht : t + 400 < 2 ^ 31) (hr : cells + 100 ≤ room_1.cells ∧ slots + 1000 ≤ room_1.slots)
    (kk : ∀ h2, PT (t + 100) h2 → WW g p l e room_1 s m #[.ref b] below meth c 9 [] h2 (lv0 g b (nI (6 * j))) (cells + 100) (slots + 1000) Q 1461 []) : WW g p l e room_1 s m #[.ref b] below meth c 9 [] h (lv0 g b (nI (6 * j))) cells slots Q 603 [] := by
  obtain ⟨C, hE, hN, hKX, hX, hbl, hL⟩ := Z
  obtain ⟨v, h2, hLR, ⟨hM, hM0, hMC⟩, e1, e2, hP⟩ := res_setWeather (x := xs (6 * j + 1)) (a := xs (6 * j + 2)) (b := xs (6 * j + 3)) (d := xs (6 * j + 4)) T
  dsimp only at e1 e2 hP
  refine lx_aload_n C dL_law_603 1 rfl rfl ?_
  refine lx_aload_n C dL_law_604 0 rfl rfl ?_
  refine lx_iload C dL_law_605 rfl ?_
  refine lx_iconst (v := nI 1) C dL_law_607 (by decide) ?_
  refine lx_iadd C dL_law_608 ?_
  refine lx_sld (j := 6 * j + 1) C hX hbl (nI_add _ _) (by omega) (by omega) dL_law_609 ?_
  refine lx_aload_n C dL_law_610 0 rfl rfl ?_
  refine lx_iload C dL_law_611 rfl ?_
  refine lx_iconst (v := nI 2) C dL_law_613 (by decide) ?_
  refine lx_iadd C dL_law_614 ?_
  refine lx_sld (j := 6 * j + 2) C hX hbl (nI_add _ _) (by omega) (by omega) dL_law_615 ?_
  refine lx_aload_n C dL_law_616 0 rfl rfl ?_
  refine lx_iload C dL_law_617 rfl ?_
  refine lx_iconst (v := nI 3) C dL_law_619 (by decide) ?_
  refine lx_iadd C dL_law_620 ?_
  refine lx_sld (j := 6 * j + 3) C hX hbl (nI_add _ _) (by omega) (by omega) dL_law_621 ?_
  refine lx_aload_n C dL_law_622 0 rfl rfl ?_
  refine lx_iload C dL_law_623 rfl ?_
  refine lx_iconst (v := nI 4) C dL_law_625 (by decide) ?_
  refine lx_iadd C dL_law_626 ?_
  refine lx_sld (j := 6 * j + 4) C hX hbl (nI_add _ _) (by omega) (by omega) dL_law_627 ?_
  refine lx_aload_n C dL_law_628 3 rfl rfl ?_
  refine lx_callW (n := 6) (As := [.ref (gB g + 0), .int (xs (6 * j + 1)), .int (xs (6 * j + 2)), .int (xs (6 * j + 3)), .int (xs (6 * j + 4)), .ref (gB g + 70)]) C hE hN q_x_L_setWeather q_n_L q_t_L_setWeather (by decide +kernel) (lt_setWeather (xt_X4_setWeather hst) hLR) q_m_L_105 rfl rfl (Nat.le_of_ble_eq_true rfl) ⟨(Nat.le_of_ble_eq_true rfl), (Nat.le_of_ble_eq_true rfl)⟩ ⟨Nat.le_trans (by omega) hr.1, Nat.le_trans (by omega) hr.2⟩ dL_law_629 ?_
  refine lx_istore C dL_law_632 (by omega) ?_
  refine lx_aload_n C dL_law_634 2 rfl rfl ?_
  refine lx_aload_n C dL_law_635 0 rfl rfl ?_
  refine lx_iload C dL_law_636 rfl ?_
  refine lx_iconst (v := nI 1) C dL_law_638 (by decide) ?_
  refine lx_iadd C dL_law_639 ?_
  refine lx_sld (j := 6 * j + 1) C hX hbl (nI_add _ _) (by omega) (by omega) dL_law_640 ?_
  refine lx_aload_n C dL_law_641 0 rfl rfl ?_
  refine lx_iload C dL_law_642 rfl ?_
  refine lx_iconst (v := nI 2) C dL_law_644 (by decide) ?_
  refine lx_iadd C dL_law_645 ?_
  refine lx_sld (j := 6 * j + 2) C hX hbl (nI_add _ _) (by omega) (by omega) dL_law_646 ?_
  refine lx_aload_n C dL_law_647 0 rfl rfl ?_
  refine lx_iload C dL_law_648 rfl ?_
  refine lx_iconst (v := nI 3) C dL_law_650 (by decide) ?_
  refine lx_iadd C dL_law_651 ?_
  refine lx_sld (j := 6 * j + 3) C hX hbl (nI_add _ _) (by omega) (by omega) dL_law_652 ?_
  refine lx_aload_n C dL_law_653 0 rfl rfl ?_
  refine lx_iload C dL_law_654 rfl ?_
  refine lx_iconst (v := nI 4) C dL_law_656 (by decide) ?_
  refine lx_iadd C dL_law_657 ?_
  refine lx_sld (j := 6 * j + 4) C hX hbl (nI_add _ _) (by omega) (by omega) dL_law_658 ?_
  refine lx_callV (As := [.int (xs (6 * j + 1)), .int (xs (6 * j + 2)), .int (xs (6 * j + 3)), .int (xs (6 * j + 4))]) (rest := []) (ci := 5) C mf_X5_setWeather (ct_X5_setWeather hM) q_m_L_108 (by omega) rfl rfl ⟨_, rfl⟩ rfl rfl (Nat.le_of_ble_eq_true rfl) ⟨(Nat.le_of_ble_eq_true rfl), (Nat.le_of_ble_eq_true rfl)⟩ ⟨Nat.le_trans (by omega) hr.1, Nat.le_trans (by omega) hr.2⟩ dL_law_659 ?_
  refine lx_istore C dL_law_662 (by omega) ?_
  refine lx_aload_n C dL_law_664 2 rfl rfl ?_
  refine lx_callV (As := []) (rest := []) (ci := 5) C mf_X5_thrown ct_X5_thrown q_m_L_84 (by omega) rfl rfl ⟨_, rfl⟩ rfl rfl (Nat.le_of_ble_eq_true rfl) ⟨(Nat.le_of_ble_eq_true rfl), (Nat.le_of_ble_eq_true rfl)⟩ ⟨Nat.le_trans (by omega) hr.1, Nat.le_trans (by omega) hr.2⟩ dL_law_665 ?_
  refine lx_iload C dL_law_668 rfl ?_
  refine lx_icmp_eq C dL_law_670 675 (by decide) (fun _ => ?_) (fun z => absurd e1 z)
  refine lx_iload C dL_law_675 rfl ?_
  refine lx_if_ne C dL_law_677 692 (by decide) (fun _ => ?_) (fun hv => ?_)
  · refine lx_goto C dL_law_692 1461 (by decide) ?_
    exact ww_lv (lv0 g b (nI (6 * j))) ⟨rfl, rfl, rfl, rfl, rfl, trivial⟩ (ww_wide _ _ (by omega) (by omega) (kk _ (hP.mono (by omega))))
  · refine lx_aload_n C dL_law_680 3 rfl rfl ?_
    refine lx_iconst (v := 0) C dL_law_681 (by decide) ?_
    refine lx_lald C rfl dL_law_682 ?_
    refine lx_iload C dL_law_683 rfl ?_
    refine lx_i2l C dL_law_685 ?_
    refine lx_lcmp C dL_law_686 ?_
    refine lx_if_eq C dL_law_687 692 (by decide) (fun _ => ?_) (fun z => absurd (by rw [e2 hv]; exact lg_self _) z)
    refine lx_goto C dL_law_692 1461 (by decide) ?_
    exact ww_lv (lv0 g b (nI (6 * j))) ⟨rfl, rfl, rfl, rfl, rfl, trivial⟩ (ww_wide _ _ (by omega) (by omega) (kk _ (hP.mono (by omega))))
set_option maxRecDepth 100000 in
set_option maxHeartbeats 1600000 in
theorem law_bring {g : gW} {p : Program} {l : Launch} {e : Env} {s : State} {m : MethodId} {below : List Frame} {meth : Method} {c : Code} {b L j n f t q cells slots : Nat} {xs : Nat → Int32} {h : Hp} {Q : State → Prop} (hst : l.stackTraces = false) (Z : LC g p s m b meth c L xs) (hj : 6 * j + 6 ≤ L) (T : TOP n f t q h) (ht : t + 400 < 2 ^ 31) (hr : cells + 100 ≤ room_1.cells ∧ slots + 1000 ≤ room_1.slots)
    (kk : ∀ h2, PT (t + 100) h2 → WW g p l e room_1 s m #[.ref b] below meth c 9 [] h2 (lv0 g b (nI (6 * j))) (cells + 100) (slots + 1000) Q 1461 []) : WW g p l e room_1 s m #[.ref b] below meth c 9 [] h (lv0 g b (nI (6 * j))) cells slots Q 695 [] := by
  obtain ⟨C, hE, hN, hKX, hX, hbl, hL⟩ := Z
  obtain ⟨v, h2, hLR, ⟨hM, hM0, hMC⟩, e1, e2, hP⟩ := res_bring (b := xs (6 * j + 1)) T
  dsimp only at e1 e2 hP
  refine lx_aload_n C dL_law_695 1 rfl rfl ?_
  refine lx_aload_n C dL_law_696 0 rfl rfl ?_
  refine lx_iload C dL_law_697 rfl ?_
  refine lx_iconst (v := nI 1) C dL_law_699 (by decide) ?_
  refine lx_iadd C dL_law_700 ?_
  refine lx_sld (j := 6 * j + 1) C hX hbl (nI_add _ _) (by omega) (by omega) dL_law_701 ?_
  refine lx_aload_n C dL_law_702 3 rfl rfl ?_
  refine lx_callW (n := 3) (As := [.ref (gB g + 0), .int (xs (6 * j + 1)), .ref (gB g + 70)]) C hE hN q_x_L_bring q_n_L q_t_L_bring (by decide +kernel) (lt_bring (xt_X4_bring hst T.2.1) hLR) q_m_L_109 rfl rfl (Nat.le_of_ble_eq_true rfl) ⟨(Nat.le_of_ble_eq_true rfl), (Nat.le_of_ble_eq_true rfl)⟩ ⟨Nat.le_trans (by omega) hr.1, Nat.le_trans (by omega) hr.2⟩ dL_law_703 ?_
  refine lx_istore C dL_law_706 (by omega) ?_
  refine lx_aload_n C dL_law_708 2 rfl rfl ?_
  refine lx_aload_n C dL_law_709 0 rfl rfl ?_
  refine lx_iload C dL_law_710 rfl ?_
  refine lx_iconst (v := nI 1) C dL_law_712 (by decide) ?_
  refine lx_iadd C dL_law_713 ?_
  refine lx_sld (j := 6 * j + 1) C hX hbl (nI_add _ _) (by omega) (by omega) dL_law_714 ?_
  refine lx_callV (As := [.int (xs (6 * j + 1))]) (rest := []) (ci := 5) C mf_X5_bring (ct_X5_bring hM) q_m_L_112 (by omega) rfl rfl ⟨_, rfl⟩ rfl rfl (Nat.le_of_ble_eq_true rfl) ⟨(Nat.le_of_ble_eq_true rfl), (Nat.le_of_ble_eq_true rfl)⟩ ⟨Nat.le_trans (by omega) hr.1, Nat.le_trans (by omega) hr.2⟩ dL_law_715 ?_
  refine lx_istore C dL_law_718 (by omega) ?_
  refine lx_aload_n C dL_law_720 2 rfl rfl ?_
  refine lx_callV (As := []) (rest := []) (ci := 5) C mf_X5_thrown ct_X5_thrown q_m_L_84 (by omega) rfl rfl ⟨_, rfl⟩ rfl rfl (Nat.le_of_ble_eq_true rfl) ⟨(Nat.le_of_ble_eq_true rfl), (Nat.le_of_ble_eq_true rfl)⟩ ⟨Nat.le_trans (by omega) hr.1, Nat.le_trans (by omega) hr.2⟩ dL_law_721 ?_
  refine lx_iload C dL_law_724 rfl ?_
  refine lx_icmp_eq C dL_law_726 731 (by decide) (fun _ => ?_) (fun z => absurd e1 z)
  refine lx_iload C dL_law_731 rfl ?_
  refine lx_if_ne C dL_law_733 748 (by decide) (fun _ => ?_) (fun hv => ?_)
  · refine lx_goto C dL_law_748 1461 (by decide) ?_
    exact ww_lv (lv0 g b (nI (6 * j))) ⟨rfl, rfl, rfl, rfl, rfl, trivial⟩ (ww_wide _ _ (by omega) (by omega) (kk _ (hP.mono (by omega))))
  · refine lx_aload_n C dL_law_736 3 rfl rfl ?_
    refine lx_iconst (v := 0) C dL_law_737 (by decide) ?_
    refine lx_lald C rfl dL_law_738 ?_
    refine lx_iload C dL_law_739 rfl ?_
    refine lx_i2l C dL_law_741 ?_
    refine lx_lcmp C dL_law_742 ?_
    refine lx_if_eq C dL_law_743 748 (by decide) (fun _ => ?_) (fun z => absurd (by rw [e2 hv]; exact lg_self _) z)
    refine lx_goto C dL_law_748 1461 (by decide) ?_
    exact ww_lv (lv0 g b (nI (6 * j))) ⟨rfl, rfl, rfl, rfl, rfl, trivial⟩ (ww_wide _ _ (by omega) (by omega) (kk _ (hP.mono (by omega))))
set_option maxRecDepth 100000 in
set_option maxHeartbeats 1600000 in
theorem law_addFlock {g : gW} {p : Program} {l : Launch} {e : Env} {s : State} {m : MethodId} {below : List Frame} {meth : Method} {c : Code} {b L j n f t q cells slots : Nat} {xs : Nat → Int32} {h : Hp} {Q : State → Prop} (hst : l.stackTraces = false) (Z : LC g p s m b meth c L xs) (hj : 6 * j + 6 ≤ L) (T : TOP n f t q h) (ht : t + 400 < 2 ^ 31) (hr : cells + 100 ≤ room_1.cells ∧ slots + 1000 ≤ room_1.slots)
    (kk : ∀ h2, PT (t + 100) h2 → WW g p l e room_1 s m #[.ref b] below meth c 9 [] h2 (lv0 g b (nI (6 * j))) (cells + 100) (slots + 1000) Q 1461 []) : WW g p l e room_1 s m #[.ref b] below meth c 9 [] h (lv0 g b (nI (6 * j))) cells slots Q 751 [] := by
  obtain ⟨C, hE, hN, hKX, hX, hbl, hL⟩ := Z
  obtain ⟨v, h2, hLR, ⟨hM, hM0, hMC⟩, e1, e2, hP⟩ := res_addFlock (p := xs (6 * j + 1)) (s := xs (6 * j + 2)) T
  dsimp only at e1 e2 hP
  refine lx_aload_n C dL_law_751 1 rfl rfl ?_
  refine lx_aload_n C dL_law_752 0 rfl rfl ?_
  refine lx_iload C dL_law_753 rfl ?_
  refine lx_iconst (v := nI 1) C dL_law_755 (by decide) ?_
  refine lx_iadd C dL_law_756 ?_
  refine lx_sld (j := 6 * j + 1) C hX hbl (nI_add _ _) (by omega) (by omega) dL_law_757 ?_
  refine lx_aload_n C dL_law_758 0 rfl rfl ?_
  refine lx_iload C dL_law_759 rfl ?_
  refine lx_iconst (v := nI 2) C dL_law_761 (by decide) ?_
  refine lx_iadd C dL_law_762 ?_
  refine lx_sld (j := 6 * j + 2) C hX hbl (nI_add _ _) (by omega) (by omega) dL_law_763 ?_
  refine lx_aload_n C dL_law_764 3 rfl rfl ?_
  refine lx_callW (n := 4) (As := [.ref (gB g + 0), .int (xs (6 * j + 1)), .int (xs (6 * j + 2)), .ref (gB g + 70)]) C hE hN q_x_L_addFlock q_n_L q_t_L_addFlock (by decide +kernel) (lt_addFlock (xt_X4_addFlock hst T.2.1) hLR) q_m_L_113 rfl rfl (Nat.le_of_ble_eq_true rfl) ⟨(Nat.le_of_ble_eq_true rfl), (Nat.le_of_ble_eq_true rfl)⟩ ⟨Nat.le_trans (by omega) hr.1, Nat.le_trans (by omega) hr.2⟩ dL_law_765 ?_
  refine lx_istore C dL_law_768 (by omega) ?_
  refine lx_aload_n C dL_law_770 2 rfl rfl ?_
  refine lx_aload_n C dL_law_771 0 rfl rfl ?_
  refine lx_iload C dL_law_772 rfl ?_
  refine lx_iconst (v := nI 1) C dL_law_774 (by decide) ?_
  refine lx_iadd C dL_law_775 ?_
  refine lx_sld (j := 6 * j + 1) C hX hbl (nI_add _ _) (by omega) (by omega) dL_law_776 ?_
  refine lx_aload_n C dL_law_777 0 rfl rfl ?_
  refine lx_iload C dL_law_778 rfl ?_
  refine lx_iconst (v := nI 2) C dL_law_780 (by decide) ?_
  refine lx_iadd C dL_law_781 ?_
  refine lx_sld (j := 6 * j + 2) C hX hbl (nI_add _ _) (by omega) (by omega) dL_law_782 ?_
  refine lx_callV (As := [.int (xs (6 * j + 1)), .int (xs (6 * j + 2))]) (rest := []) (ci := 5) C mf_X5_addFlock (ct_X5_addFlock hM T.2.2.2.1) q_m_L_115 (by omega) rfl rfl ⟨_, rfl⟩ rfl rfl (Nat.le_of_ble_eq_true rfl) ⟨(Nat.le_of_ble_eq_true rfl), (Nat.le_of_ble_eq_true rfl)⟩ ⟨Nat.le_trans (by omega) hr.1, Nat.le_trans (by omega) hr.2⟩ dL_law_783 ?_
  refine lx_istore C dL_law_786 (by omega) ?_
  refine lx_aload_n C dL_law_788 2 rfl rfl ?_
  refine lx_callV (As := []) (rest := []) (ci := 5) C mf_X5_thrown ct_X5_thrown q_m_L_84 (by omega) rfl rfl ⟨_, rfl⟩ rfl rfl (Nat.le_of_ble_eq_true rfl) ⟨(Nat.le_of_ble_eq_true rfl), (Nat.le_of_ble_eq_true rfl)⟩ ⟨Nat.le_trans (by omega) hr.1, Nat.le_trans (by omega) hr.2⟩ dL_law_789 ?_
  refine lx_iload C dL_law_792 rfl ?_
  refine lx_icmp_eq C dL_law_794 799 (by decide) (fun _ => ?_) (fun z => absurd e1 z)
  refine lx_iload C dL_law_799 rfl ?_
  refine lx_if_ne C dL_law_801 816 (by decide) (fun _ => ?_) (fun hv => ?_)
  · refine lx_goto C dL_law_816 1461 (by decide) ?_
    exact ww_lv (lv0 g b (nI (6 * j))) ⟨rfl, rfl, rfl, rfl, rfl, trivial⟩ (ww_wide _ _ (by omega) (by omega) (kk _ (hP.mono (by omega))))
  · refine lx_aload_n C dL_law_804 3 rfl rfl ?_
    refine lx_iconst (v := 0) C dL_law_805 (by decide) ?_
    refine lx_lald C rfl dL_law_806 ?_
    refine lx_iload C dL_law_807 rfl ?_
    refine lx_i2l C dL_law_809 ?_
    refine lx_lcmp C dL_law_810 ?_
    refine lx_if_eq C dL_law_811 816 (by decide) (fun _ => ?_) (fun z => absurd (by rw [e2 hv]; exact lg_self _) z)
    refine lx_goto C dL_law_816 1461 (by decide) ?_
    exact ww_lv (lv0 g b (nI (6 * j))) ⟨rfl, rfl, rfl, rfl, rfl, trivial⟩ (ww_wide _ _ (by omega) (by omega) (kk _ (hP.mono (by omega))))
set_option maxRecDepth 100000 in
set_option maxHeartbeats 1600000 in
theorem law_drive {g : gW} {p : Program} {l : Launch} {e : Env} {s : State} {m : MethodId} {below : List Frame} {meth : Method} {c : Code} {b L j n f t q cells slots : Nat} {xs : Nat → Int32} {h : Hp} {Q : State → Prop} (hst : l.stackTraces = false) (Z : LC g p s m b meth c L xs) (hj : 6 * j + 6 ≤ L) (T : TOP n f t q h) (ht : t + 400 < 2 ^ 31) (hr : cells + 100 ≤ room_1.cells ∧ slots + 1000 ≤ room_1.slots)
    (kk : ∀ h2, PT (t + 100) h2 → WW g p l e room_1 s m #[.ref b] below meth c 9 [] h2 (lv0 g b (nI (6 * j))) (cells + 100) (slots + 1000) Q 1461 []) : WW g p l e room_1 s m #[.ref b] below meth c 9 [] h (lv0 g b (nI (6 * j))) cells slots Q 819 [] := by
  obtain ⟨C, hE, hN, hKX, hX, hbl, hL⟩ := Z
  obtain ⟨v, h2, hLR, ⟨hM, hM0, hMC⟩, e1, e2, hP⟩ := res_drive (p := xs (6 * j + 1)) (b := xs (6 * j + 2)) T
  dsimp only at e1 e2 hP
  refine lx_aload_n C dL_law_819 1 rfl rfl ?_
  refine lx_aload_n C dL_law_820 0 rfl rfl ?_
  refine lx_iload C dL_law_821 rfl ?_
  refine lx_iconst (v := nI 1) C dL_law_823 (by decide) ?_
  refine lx_iadd C dL_law_824 ?_
  refine lx_sld (j := 6 * j + 1) C hX hbl (nI_add _ _) (by omega) (by omega) dL_law_825 ?_
  refine lx_aload_n C dL_law_826 0 rfl rfl ?_
  refine lx_iload C dL_law_827 rfl ?_
  refine lx_iconst (v := nI 2) C dL_law_829 (by decide) ?_
  refine lx_iadd C dL_law_830 ?_
  refine lx_sld (j := 6 * j + 2) C hX hbl (nI_add _ _) (by omega) (by omega) dL_law_831 ?_
  refine lx_aload_n C dL_law_832 3 rfl rfl ?_
  refine lx_callW (n := 4) (As := [.ref (gB g + 0), .int (xs (6 * j + 1)), .int (xs (6 * j + 2)), .ref (gB g + 70)]) C hE hN q_x_L_drive q_n_L q_t_L_drive (by decide +kernel) (lt_drive (xt_X4_drive hst T.2.1) hLR) q_m_L_116 rfl rfl (Nat.le_of_ble_eq_true rfl) ⟨(Nat.le_of_ble_eq_true rfl), (Nat.le_of_ble_eq_true rfl)⟩ ⟨Nat.le_trans (by omega) hr.1, Nat.le_trans (by omega) hr.2⟩ dL_law_833 ?_
  refine lx_istore C dL_law_836 (by omega) ?_
  refine lx_aload_n C dL_law_838 2 rfl rfl ?_
  refine lx_aload_n C dL_law_839 0 rfl rfl ?_
  refine lx_iload C dL_law_840 rfl ?_
  refine lx_iconst (v := nI 1) C dL_law_842 (by decide) ?_
  refine lx_iadd C dL_law_843 ?_
  refine lx_sld (j := 6 * j + 1) C hX hbl (nI_add _ _) (by omega) (by omega) dL_law_844 ?_
  refine lx_aload_n C dL_law_845 0 rfl rfl ?_
  refine lx_iload C dL_law_846 rfl ?_
  refine lx_iconst (v := nI 2) C dL_law_848 (by decide) ?_
  refine lx_iadd C dL_law_849 ?_
  refine lx_sld (j := 6 * j + 2) C hX hbl (nI_add _ _) (by omega) (by omega) dL_law_850 ?_
  refine lx_callV (As := [.int (xs (6 * j + 1)), .int (xs (6 * j + 2))]) (rest := []) (ci := 5) C mf_X5_drive (ct_X5_drive hM T.2.2.2.1) q_m_L_118 (by omega) rfl rfl ⟨_, rfl⟩ rfl rfl (Nat.le_of_ble_eq_true rfl) ⟨(Nat.le_of_ble_eq_true rfl), (Nat.le_of_ble_eq_true rfl)⟩ ⟨Nat.le_trans (by omega) hr.1, Nat.le_trans (by omega) hr.2⟩ dL_law_851 ?_
  refine lx_istore C dL_law_854 (by omega) ?_
  refine lx_aload_n C dL_law_856 2 rfl rfl ?_
  refine lx_callV (As := []) (rest := []) (ci := 5) C mf_X5_thrown ct_X5_thrown q_m_L_84 (by omega) rfl rfl ⟨_, rfl⟩ rfl rfl (Nat.le_of_ble_eq_true rfl) ⟨(Nat.le_of_ble_eq_true rfl), (Nat.le_of_ble_eq_true rfl)⟩ ⟨Nat.le_trans (by omega) hr.1, Nat.le_trans (by omega) hr.2⟩ dL_law_857 ?_
  refine lx_iload C dL_law_860 rfl ?_
  refine lx_icmp_eq C dL_law_862 867 (by decide) (fun _ => ?_) (fun z => absurd e1 z)
  refine lx_iload C dL_law_867 rfl ?_
  refine lx_if_ne C dL_law_869 884 (by decide) (fun _ => ?_) (fun hv => ?_)
  · refine lx_goto C dL_law_884 1461 (by decide) ?_
    exact ww_lv (lv0 g b (nI (6 * j))) ⟨rfl, rfl, rfl, rfl, rfl, trivial⟩ (ww_wide _ _ (by omega) (by omega) (kk _ (hP.mono (by omega))))
  · refine lx_aload_n C dL_law_872 3 rfl rfl ?_
    refine lx_iconst (v := 0) C dL_law_873 (by decide) ?_
    refine lx_lald C rfl dL_law_874 ?_
    refine lx_iload C dL_law_875 rfl ?_
    refine lx_i2l C dL_law_877 ?_
    refine lx_lcmp C dL_law_878 ?_
    refine lx_if_eq C dL_law_879 884 (by decide) (fun _ => ?_) (fun z => absurd (by rw [e2 hv]; exact lg_self _) z)
    refine lx_goto C dL_law_884 1461 (by decide) ?_
    exact ww_lv (lv0 g b (nI (6 * j))) ⟨rfl, rfl, rfl, rfl, rfl, trivial⟩ (ww_wide _ _ (by omega) (by omega) (kk _ (hP.mono (by omega))))
set_option maxRecDepth 100000 in
set_option maxHeartbeats 1600000 in
theorem law_setRoams {g : gW} {p : Program} {l : Launch} {e : Env} {s : State} {m : MethodId} {below : List Frame} {meth : Method} {c : Code} {b L j n f t q cells slots : Nat} {xs : Nat → Int32} {h : Hp} {Q : State → Prop} (hst : l.stackTraces = false) (Z : LC g p s m b meth c L xs) (hj : 6 * j + 6 ≤ L) (T : TOP n f t q h) (ht : t + 400 < 2 ^ 31) (hr : cells + 100 ≤ room_1.cells ∧ slots + 1000 ≤ room_1.slots)
    (kk : ∀ h2, PT (t + 100) h2 → WW g p l e room_1 s m #[.ref b] below meth c 9 [] h2 (lv0 g b (nI (6 * j))) (cells + 100) (slots + 1000) Q 1461 []) : WW g p l e room_1 s m #[.ref b] below meth c 9 [] h (lv0 g b (nI (6 * j))) cells slots Q 887 [] := by
  obtain ⟨C, hE, hN, hKX, hX, hbl, hL⟩ := Z
  obtain ⟨v, h2, hLR, ⟨hM, hM0, hMC⟩, e1, e2, hP⟩ := res_setRoams (p := xs (6 * j + 1)) (b := bz (xs (6 * j + 2))) T bz_01
  dsimp only at e1 e2 hP
  refine lx_aload_n C dL_law_887 1 rfl rfl ?_
  refine lx_aload_n C dL_law_888 0 rfl rfl ?_
  refine lx_iload C dL_law_889 rfl ?_
  refine lx_iconst (v := nI 1) C dL_law_891 (by decide) ?_
  refine lx_iadd C dL_law_892 ?_
  refine lx_sld (j := 6 * j + 1) C hX hbl (nI_add _ _) (by omega) (by omega) dL_law_893 ?_
  refine lx_aload_n C dL_law_894 0 rfl rfl ?_
  refine lx_iload C dL_law_895 rfl ?_
  refine lx_iconst (v := nI 2) C dL_law_897 (by decide) ?_
  refine lx_iadd C dL_law_898 ?_
  refine lx_sld (j := 6 * j + 2) C hX hbl (nI_add _ _) (by omega) (by omega) dL_law_899 ?_
  refine lx_bool C dL_law_900 dL_law_903 dL_law_904 dL_law_907 ?_
  refine lx_aload_n C dL_law_908 3 rfl rfl ?_
  refine lx_callW (n := 4) (As := [.ref (gB g + 0), .int (xs (6 * j + 1)), .int (bz (xs (6 * j + 2))), .ref (gB g + 70)]) C hE hN q_x_L_setRoams q_n_L q_t_L_setRoams (by decide +kernel) (lt_setRoams (xt_X4_setRoams hst T.2.1 bz_01) hLR) q_m_L_119 rfl rfl (Nat.le_of_ble_eq_true rfl) ⟨(Nat.le_of_ble_eq_true rfl), (Nat.le_of_ble_eq_true rfl)⟩ ⟨Nat.le_trans (by omega) hr.1, Nat.le_trans (by omega) hr.2⟩ dL_law_909 ?_
  refine lx_istore C dL_law_912 (by omega) ?_
  refine lx_aload_n C dL_law_914 2 rfl rfl ?_
  refine lx_aload_n C dL_law_915 0 rfl rfl ?_
  refine lx_iload C dL_law_916 rfl ?_
  refine lx_iconst (v := nI 1) C dL_law_918 (by decide) ?_
  refine lx_iadd C dL_law_919 ?_
  refine lx_sld (j := 6 * j + 1) C hX hbl (nI_add _ _) (by omega) (by omega) dL_law_920 ?_
  refine lx_aload_n C dL_law_921 0 rfl rfl ?_
  refine lx_iload C dL_law_922 rfl ?_
  refine lx_iconst (v := nI 2) C dL_law_924 (by decide) ?_
  refine lx_iadd C dL_law_925 ?_
  refine lx_sld (j := 6 * j + 2) C hX hbl (nI_add _ _) (by omega) (by omega) dL_law_926 ?_
  refine lx_bool C dL_law_927 dL_law_930 dL_law_931 dL_law_934 ?_
  refine lx_callV (As := [.int (xs (6 * j + 1)), .int (bz (xs (6 * j + 2)))]) (rest := []) (ci := 5) C mf_X5_setRoams (ct_X5_setRoams hM T.2.2.2.1) q_m_L_121 (by omega) rfl rfl ⟨_, rfl⟩ rfl rfl (Nat.le_of_ble_eq_true rfl) ⟨(Nat.le_of_ble_eq_true rfl), (Nat.le_of_ble_eq_true rfl)⟩ ⟨Nat.le_trans (by omega) hr.1, Nat.le_trans (by omega) hr.2⟩ dL_law_935 ?_
  refine lx_istore C dL_law_938 (by omega) ?_
  refine lx_aload_n C dL_law_940 2 rfl rfl ?_
  refine lx_callV (As := []) (rest := []) (ci := 5) C mf_X5_thrown ct_X5_thrown q_m_L_84 (by omega) rfl rfl ⟨_, rfl⟩ rfl rfl (Nat.le_of_ble_eq_true rfl) ⟨(Nat.le_of_ble_eq_true rfl), (Nat.le_of_ble_eq_true rfl)⟩ ⟨Nat.le_trans (by omega) hr.1, Nat.le_trans (by omega) hr.2⟩ dL_law_941 ?_
  refine lx_iload C dL_law_944 rfl ?_
  refine lx_icmp_eq C dL_law_946 951 (by decide) (fun _ => ?_) (fun z => absurd e1 z)
  refine lx_iload C dL_law_951 rfl ?_
  refine lx_if_ne C dL_law_953 975 (by decide) (fun _ => ?_) (fun hv => ?_)
  · refine lx_goto C dL_law_975 1461 (by decide) ?_
    exact ww_lv (lv0 g b (nI (6 * j))) ⟨rfl, rfl, rfl, rfl, rfl, trivial⟩ (ww_wide _ _ (by omega) (by omega) (kk _ (hP.mono (by omega))))
  · refine lx_aload_n C dL_law_956 3 rfl rfl ?_
    refine lx_iconst (v := 0) C dL_law_957 (by decide) ?_
    refine lx_lald C rfl dL_law_958 ?_
    refine lx_iload C dL_law_959 rfl ?_
    refine lx_boolL C dL_law_961 dL_law_964 dL_law_965 dL_law_968 ?_
    refine lx_lcmp C dL_law_969 ?_
    refine lx_if_eq C dL_law_970 975 (by decide) (fun _ => ?_) (fun z => absurd (by rw [e2 hv]; exact lg_self _) z)
    refine lx_goto C dL_law_975 1461 (by decide) ?_
    exact ww_lv (lv0 g b (nI (6 * j))) ⟨rfl, rfl, rfl, rfl, rfl, trivial⟩ (ww_wide _ _ (by omega) (by omega) (kk _ (hP.mono (by omega))))
set_option maxRecDepth 100000 in
set_option maxHeartbeats 1600000 in
theorem law_flock {g : gW} {p : Program} {l : Launch} {e : Env} {s : State} {m : MethodId} {below : List Frame} {meth : Method} {c : Code} {b L j n f t q cells slots : Nat} {xs : Nat → Int32} {h : Hp} {Q : State → Prop} (hst : l.stackTraces = false) (Z : LC g p s m b meth c L xs) (hj : 6 * j + 6 ≤ L) (T : TOP n f t q h) (ht : t + 400 < 2 ^ 31) (hr : cells + 100 ≤ room_1.cells ∧ slots + 1000 ≤ room_1.slots)
    (kk : ∀ h2, PT (t + 100) h2 → WW g p l e room_1 s m #[.ref b] below meth c 9 [] h2 (lv0 g b (nI (6 * j))) (cells + 100) (slots + 1000) Q 1461 []) : WW g p l e room_1 s m #[.ref b] below meth c 9 [] h (lv0 g b (nI (6 * j))) cells slots Q 978 [] := by
  obtain ⟨C, hE, hN, hKX, hX, hbl, hL⟩ := Z
  obtain ⟨v, h2, hLR, ⟨hM, hM0, hMC⟩, e1, e2, hP⟩ := res_flock (p := xs (6 * j + 1)) (b := xs (6 * j + 2)) T
  dsimp only at e1 e2 hP
  refine lx_aload_n C dL_law_978 1 rfl rfl ?_
  refine lx_aload_n C dL_law_979 0 rfl rfl ?_
  refine lx_iload C dL_law_980 rfl ?_
  refine lx_iconst (v := nI 1) C dL_law_982 (by decide) ?_
  refine lx_iadd C dL_law_983 ?_
  refine lx_sld (j := 6 * j + 1) C hX hbl (nI_add _ _) (by omega) (by omega) dL_law_984 ?_
  refine lx_aload_n C dL_law_985 0 rfl rfl ?_
  refine lx_iload C dL_law_986 rfl ?_
  refine lx_iconst (v := nI 2) C dL_law_988 (by decide) ?_
  refine lx_iadd C dL_law_989 ?_
  refine lx_sld (j := 6 * j + 2) C hX hbl (nI_add _ _) (by omega) (by omega) dL_law_990 ?_
  refine lx_aload_n C dL_law_991 3 rfl rfl ?_
  refine lx_callW (n := 4) (As := [.ref (gB g + 0), .int (xs (6 * j + 1)), .int (xs (6 * j + 2)), .ref (gB g + 70)]) C hE hN q_x_L_flock q_n_L q_t_L_flock (by decide +kernel) (lt_flock (xt_X4_flock hst T.2.1) hLR) q_m_L_122 rfl rfl (Nat.le_of_ble_eq_true rfl) ⟨(Nat.le_of_ble_eq_true rfl), (Nat.le_of_ble_eq_true rfl)⟩ ⟨Nat.le_trans (by omega) hr.1, Nat.le_trans (by omega) hr.2⟩ dL_law_992 ?_
  refine lx_istore C dL_law_995 (by omega) ?_
  refine lx_aload_n C dL_law_997 2 rfl rfl ?_
  refine lx_aload_n C dL_law_998 0 rfl rfl ?_
  refine lx_iload C dL_law_999 rfl ?_
  refine lx_iconst (v := nI 1) C dL_law_1001 (by decide) ?_
  refine lx_iadd C dL_law_1002 ?_
  refine lx_sld (j := 6 * j + 1) C hX hbl (nI_add _ _) (by omega) (by omega) dL_law_1003 ?_
  refine lx_aload_n C dL_law_1004 0 rfl rfl ?_
  refine lx_iload C dL_law_1005 rfl ?_
  refine lx_iconst (v := nI 2) C dL_law_1007 (by decide) ?_
  refine lx_iadd C dL_law_1008 ?_
  refine lx_sld (j := 6 * j + 2) C hX hbl (nI_add _ _) (by omega) (by omega) dL_law_1009 ?_
  refine lx_callV (As := [.int (xs (6 * j + 1)), .int (xs (6 * j + 2))]) (rest := []) (ci := 5) C mf_X5_flock (ct_X5_flock hM) q_m_L_124 (by omega) rfl rfl ⟨_, rfl⟩ rfl rfl (Nat.le_of_ble_eq_true rfl) ⟨(Nat.le_of_ble_eq_true rfl), (Nat.le_of_ble_eq_true rfl)⟩ ⟨Nat.le_trans (by omega) hr.1, Nat.le_trans (by omega) hr.2⟩ dL_law_1010 ?_
  refine lx_istore C dL_law_1013 (by omega) ?_
  refine lx_aload_n C dL_law_1015 2 rfl rfl ?_
  refine lx_callV (As := []) (rest := []) (ci := 5) C mf_X5_thrown ct_X5_thrown q_m_L_84 (by omega) rfl rfl ⟨_, rfl⟩ rfl rfl (Nat.le_of_ble_eq_true rfl) ⟨(Nat.le_of_ble_eq_true rfl), (Nat.le_of_ble_eq_true rfl)⟩ ⟨Nat.le_trans (by omega) hr.1, Nat.le_trans (by omega) hr.2⟩ dL_law_1016 ?_
  refine lx_iload C dL_law_1019 rfl ?_
  refine lx_icmp_eq C dL_law_1021 1026 (by decide) (fun _ => ?_) (fun z => absurd e1 z)
  refine lx_iload C dL_law_1026 rfl ?_
  refine lx_if_ne C dL_law_1028 1043 (by decide) (fun _ => ?_) (fun hv => ?_)
  · refine lx_goto C dL_law_1043 1461 (by decide) ?_
    exact ww_lv (lv0 g b (nI (6 * j))) ⟨rfl, rfl, rfl, rfl, rfl, trivial⟩ (ww_wide _ _ (by omega) (by omega) (kk _ (hP.mono (by omega))))
  · refine lx_aload_n C dL_law_1031 3 rfl rfl ?_
    refine lx_iconst (v := 0) C dL_law_1032 (by decide) ?_
    refine lx_lald C rfl dL_law_1033 ?_
    refine lx_iload C dL_law_1034 rfl ?_
    refine lx_i2l C dL_law_1036 ?_
    refine lx_lcmp C dL_law_1037 ?_
    refine lx_if_eq C dL_law_1038 1043 (by decide) (fun _ => ?_) (fun z => absurd (by rw [e2 hv]; exact lg_self _) z)
    refine lx_goto C dL_law_1043 1461 (by decide) ?_
    exact ww_lv (lv0 g b (nI (6 * j))) ⟨rfl, rfl, rfl, rfl, rfl, trivial⟩ (ww_wide _ _ (by omega) (by omega) (kk _ (hP.mono (by omega))))
set_option maxRecDepth 100000 in
set_option maxHeartbeats 1600000 in
theorem law_pass {g : gW} {p : Program} {l : Launch} {e : Env} {s : State} {m : MethodId} {below : List Frame} {meth : Method} {c : Code} {b L j n f t q cells slots : Nat} {xs : Nat → Int32} {h : Hp} {Q : State → Prop} (hst : l.stackTraces = false) (Z : LC g p s m b meth c L xs) (hj : 6 * j + 6 ≤ L) (T : TOP n f t q h) (ht : t + 400 < 2 ^ 31) (hr : cells + 100 ≤ room_1.cells ∧ slots + 1000 ≤ room_1.slots)
    (kk : ∀ h2, PT (t + 100) h2 → WW g p l e room_1 s m #[.ref b] below meth c 9 [] h2 (lv0 g b (nI (6 * j))) (cells + 100) (slots + 1000) Q 1461 []) : WW g p l e room_1 s m #[.ref b] below meth c 9 [] h (lv0 g b (nI (6 * j))) cells slots Q 1046 [] := by
  obtain ⟨C, hE, hN, hKX, hX, hbl, hL⟩ := Z
  obtain ⟨v, h2, hLR, ⟨hM, hM0, hMC⟩, e1, e2, hP⟩ := res_pass (k := xs (6 * j + 1)) T
  dsimp only at e1 e2 hP
  refine lx_aload_n C dL_law_1046 1 rfl rfl ?_
  refine lx_aload_n C dL_law_1047 0 rfl rfl ?_
  refine lx_iload C dL_law_1048 rfl ?_
  refine lx_iconst (v := nI 1) C dL_law_1050 (by decide) ?_
  refine lx_iadd C dL_law_1051 ?_
  refine lx_sld (j := 6 * j + 1) C hX hbl (nI_add _ _) (by omega) (by omega) dL_law_1052 ?_
  refine lx_aload_n C dL_law_1053 3 rfl rfl ?_
  refine lx_callW (n := 3) (As := [.ref (gB g + 0), .int (xs (6 * j + 1)), .ref (gB g + 70)]) C hE hN q_x_L_pass q_n_L q_t_L_pass (by decide +kernel) (lt_pass (xt_X4_pass hst T.2.1 T.2.2.2.2.1 (by omega)) hLR) q_m_L_125 rfl rfl (Nat.le_of_ble_eq_true rfl) ⟨(Nat.le_of_ble_eq_true rfl), (Nat.le_of_ble_eq_true rfl)⟩ ⟨Nat.le_trans (by omega) hr.1, Nat.le_trans (by omega) hr.2⟩ dL_law_1054 ?_
  refine lx_istore C dL_law_1057 (by omega) ?_
  refine lx_aload_n C dL_law_1059 2 rfl rfl ?_
  refine lx_aload_n C dL_law_1060 0 rfl rfl ?_
  refine lx_iload C dL_law_1061 rfl ?_
  refine lx_iconst (v := nI 1) C dL_law_1063 (by decide) ?_
  refine lx_iadd C dL_law_1064 ?_
  refine lx_sld (j := 6 * j + 1) C hX hbl (nI_add _ _) (by omega) (by omega) dL_law_1065 ?_
  refine lx_callV (As := [.int (xs (6 * j + 1))]) (rest := []) (ci := 5) C mf_X5_pass (ct_X5_pass hM hM0 (by omega)) q_m_L_127 (by omega) rfl rfl ⟨_, rfl⟩ rfl rfl (Nat.le_of_ble_eq_true rfl) ⟨(Nat.le_of_ble_eq_true rfl), (Nat.le_of_ble_eq_true rfl)⟩ ⟨Nat.le_trans (by omega) hr.1, Nat.le_trans (by omega) hr.2⟩ dL_law_1066 ?_
  refine lx_istore C dL_law_1069 (by omega) ?_
  refine lx_aload_n C dL_law_1071 2 rfl rfl ?_
  refine lx_callV (As := []) (rest := []) (ci := 5) C mf_X5_thrown ct_X5_thrown q_m_L_84 (by omega) rfl rfl ⟨_, rfl⟩ rfl rfl (Nat.le_of_ble_eq_true rfl) ⟨(Nat.le_of_ble_eq_true rfl), (Nat.le_of_ble_eq_true rfl)⟩ ⟨Nat.le_trans (by omega) hr.1, Nat.le_trans (by omega) hr.2⟩ dL_law_1072 ?_
  refine lx_iload C dL_law_1075 rfl ?_
  refine lx_icmp_eq C dL_law_1077 1082 (by decide) (fun _ => ?_) (fun z => absurd e1 z)
  refine lx_iload C dL_law_1082 rfl ?_
  refine lx_if_ne C dL_law_1084 1099 (by decide) (fun _ => ?_) (fun hv => ?_)
  · refine lx_goto C dL_law_1099 1461 (by decide) ?_
    exact ww_lv (lv0 g b (nI (6 * j))) ⟨rfl, rfl, rfl, rfl, rfl, trivial⟩ (ww_wide _ _ (by omega) (by omega) (kk _ (hP.mono (by omega))))
  · refine lx_aload_n C dL_law_1087 3 rfl rfl ?_
    refine lx_iconst (v := 0) C dL_law_1088 (by decide) ?_
    refine lx_lald C rfl dL_law_1089 ?_
    refine lx_iload C dL_law_1090 rfl ?_
    refine lx_i2l C dL_law_1092 ?_
    refine lx_lcmp C dL_law_1093 ?_
    refine lx_if_eq C dL_law_1094 1099 (by decide) (fun _ => ?_) (fun z => absurd (by rw [e2 hv]; exact lg_self _) z)
    refine lx_goto C dL_law_1099 1461 (by decide) ?_
    exact ww_lv (lv0 g b (nI (6 * j))) ⟨rfl, rfl, rfl, rfl, rfl, trivial⟩ (ww_wide _ _ (by omega) (by omega) (kk _ (hP.mono (by omega))))
set_option maxRecDepth 100000 in
set_option maxHeartbeats 1600000 in
theorem law_count {g : gW} {p : Program} {l : Launch} {e : Env} {s : State} {m : MethodId} {below : List Frame} {meth : Method} {c : Code} {b L j n f t q cells slots : Nat} {xs : Nat → Int32} {h : Hp} {Q : State → Prop} (hst : l.stackTraces = false) (Z : LC g p s m b meth c L xs) (hj : 6 * j + 6 ≤ L) (T : TOP n f t q h) (ht : t + 400 < 2 ^ 31) (hr : cells + 100 ≤ room_1.cells ∧ slots + 1000 ≤ room_1.slots)
    (kk : ∀ h2, PT (t + 100) h2 → WW g p l e room_1 s m #[.ref b] below meth c 9 [] h2 (lv0 g b (nI (6 * j))) (cells + 100) (slots + 1000) Q 1461 []) : WW g p l e room_1 s m #[.ref b] below meth c 9 [] h (lv0 g b (nI (6 * j))) cells slots Q 1102 [] := by
  obtain ⟨C, hE, hN, hKX, hX, hbl, hL⟩ := Z
  obtain ⟨v, h2, hLR, ⟨hM, hM0, hMC⟩, e1, e2, hP⟩ := res_count (b := xs (6 * j + 1)) T
  dsimp only at e1 e2 hP
  refine lx_aload_n C dL_law_1102 1 rfl rfl ?_
  refine lx_aload_n C dL_law_1103 0 rfl rfl ?_
  refine lx_iload C dL_law_1104 rfl ?_
  refine lx_iconst (v := nI 1) C dL_law_1106 (by decide) ?_
  refine lx_iadd C dL_law_1107 ?_
  refine lx_sld (j := 6 * j + 1) C hX hbl (nI_add _ _) (by omega) (by omega) dL_law_1108 ?_
  refine lx_aload_n C dL_law_1109 3 rfl rfl ?_
  refine lx_callW (n := 3) (As := [.ref (gB g + 0), .int (xs (6 * j + 1)), .ref (gB g + 70)]) C hE hN q_x_L_count q_n_L q_t_L_count (by decide +kernel) (lt_count (xt_X4_count hst T.2.1) hLR) q_m_L_128 rfl rfl (Nat.le_of_ble_eq_true rfl) ⟨(Nat.le_of_ble_eq_true rfl), (Nat.le_of_ble_eq_true rfl)⟩ ⟨Nat.le_trans (by omega) hr.1, Nat.le_trans (by omega) hr.2⟩ dL_law_1110 ?_
  refine lx_istore C dL_law_1113 (by omega) ?_
  refine lx_aload_n C dL_law_1115 2 rfl rfl ?_
  refine lx_aload_n C dL_law_1116 0 rfl rfl ?_
  refine lx_iload C dL_law_1117 rfl ?_
  refine lx_iconst (v := nI 1) C dL_law_1119 (by decide) ?_
  refine lx_iadd C dL_law_1120 ?_
  refine lx_sld (j := 6 * j + 1) C hX hbl (nI_add _ _) (by omega) (by omega) dL_law_1121 ?_
  refine lx_callV (As := [.int (xs (6 * j + 1))]) (rest := []) (ci := 5) C mf_X5_count (ct_X5_count hM) q_m_L_130 (by omega) rfl rfl ⟨_, rfl⟩ rfl rfl (Nat.le_of_ble_eq_true rfl) ⟨(Nat.le_of_ble_eq_true rfl), (Nat.le_of_ble_eq_true rfl)⟩ ⟨Nat.le_trans (by omega) hr.1, Nat.le_trans (by omega) hr.2⟩ dL_law_1122 ?_
  refine lx_istore C dL_law_1125 (by omega) ?_
  refine lx_aload_n C dL_law_1127 2 rfl rfl ?_
  refine lx_callV (As := []) (rest := []) (ci := 5) C mf_X5_thrown ct_X5_thrown q_m_L_84 (by omega) rfl rfl ⟨_, rfl⟩ rfl rfl (Nat.le_of_ble_eq_true rfl) ⟨(Nat.le_of_ble_eq_true rfl), (Nat.le_of_ble_eq_true rfl)⟩ ⟨Nat.le_trans (by omega) hr.1, Nat.le_trans (by omega) hr.2⟩ dL_law_1128 ?_
  refine lx_iload C dL_law_1131 rfl ?_
  refine lx_icmp_eq C dL_law_1133 1138 (by decide) (fun _ => ?_) (fun z => absurd e1 z)
  refine lx_iload C dL_law_1138 rfl ?_
  refine lx_if_ne C dL_law_1140 1155 (by decide) (fun _ => ?_) (fun hv => ?_)
  · refine lx_goto C dL_law_1155 1461 (by decide) ?_
    exact ww_lv (lv0 g b (nI (6 * j))) ⟨rfl, rfl, rfl, rfl, rfl, trivial⟩ (ww_wide _ _ (by omega) (by omega) (kk _ (hP.mono (by omega))))
  · refine lx_aload_n C dL_law_1143 3 rfl rfl ?_
    refine lx_iconst (v := 0) C dL_law_1144 (by decide) ?_
    refine lx_lald C rfl dL_law_1145 ?_
    refine lx_iload C dL_law_1146 rfl ?_
    refine lx_i2l C dL_law_1148 ?_
    refine lx_lcmp C dL_law_1149 ?_
    refine lx_if_eq C dL_law_1150 1155 (by decide) (fun _ => ?_) (fun z => absurd (by rw [e2 hv]; exact lg_self _) z)
    refine lx_goto C dL_law_1155 1461 (by decide) ?_
    exact ww_lv (lv0 g b (nI (6 * j))) ⟨rfl, rfl, rfl, rfl, rfl, trivial⟩ (ww_wide _ _ (by omega) (by omega) (kk _ (hP.mono (by omega))))
set_option maxRecDepth 100000 in
set_option maxHeartbeats 1600000 in
theorem law_foresee {g : gW} {p : Program} {l : Launch} {e : Env} {s : State} {m : MethodId} {below : List Frame} {meth : Method} {c : Code} {b L j n f t q cells slots : Nat} {xs : Nat → Int32} {h : Hp} {Q : State → Prop} (hst : l.stackTraces = false) (Z : LC g p s m b meth c L xs) (hj : 6 * j + 6 ≤ L) (T : TOP n f t q h) (ht : t + 400 < 2 ^ 31) (hr : cells + 100 ≤ room_1.cells ∧ slots + 1000 ≤ room_1.slots)
    (kk : ∀ h2, PT (t + 100) h2 → WW g p l e room_1 s m #[.ref b] below meth c 9 [] h2 (lv0 g b (nI (6 * j))) (cells + 100) (slots + 1000) Q 1461 []) : WW g p l e room_1 s m #[.ref b] below meth c 9 [] h (lv0 g b (nI (6 * j))) cells slots Q 1158 [] := by
  obtain ⟨C, hE, hN, hKX, hX, hbl, hL⟩ := Z
  obtain ⟨v, h2, hLR, ⟨hM, hM0, hMC⟩, e1, e2, hP⟩ := res_foresee (p := xs (6 * j + 1)) (k := xs (6 * j + 2)) T
  dsimp only at e1 e2 hP
  refine lx_aload_n C dL_law_1158 1 rfl rfl ?_
  refine lx_aload_n C dL_law_1159 0 rfl rfl ?_
  refine lx_iload C dL_law_1160 rfl ?_
  refine lx_iconst (v := nI 1) C dL_law_1162 (by decide) ?_
  refine lx_iadd C dL_law_1163 ?_
  refine lx_sld (j := 6 * j + 1) C hX hbl (nI_add _ _) (by omega) (by omega) dL_law_1164 ?_
  refine lx_aload_n C dL_law_1165 0 rfl rfl ?_
  refine lx_iload C dL_law_1166 rfl ?_
  refine lx_iconst (v := nI 2) C dL_law_1168 (by decide) ?_
  refine lx_iadd C dL_law_1169 ?_
  refine lx_sld (j := 6 * j + 2) C hX hbl (nI_add _ _) (by omega) (by omega) dL_law_1170 ?_
  refine lx_aload_n C dL_law_1171 3 rfl rfl ?_
  refine lx_callW (n := 4) (As := [.ref (gB g + 0), .int (xs (6 * j + 1)), .int (xs (6 * j + 2)), .ref (gB g + 70)]) C hE hN q_x_L_foresee q_n_L q_t_L_foresee (by decide +kernel) (lt_foresee (xt_X4_foresee hst T.2.1 T.2.2.2.2.1 (by omega)) hLR) q_m_L_131 rfl rfl (Nat.le_of_ble_eq_true rfl) ⟨(Nat.le_of_ble_eq_true rfl), (Nat.le_of_ble_eq_true rfl)⟩ ⟨Nat.le_trans (by omega) hr.1, Nat.le_trans (by omega) hr.2⟩ dL_law_1172 ?_
  refine lx_istore C dL_law_1175 (by omega) ?_
  refine lx_aload_n C dL_law_1177 2 rfl rfl ?_
  refine lx_aload_n C dL_law_1178 0 rfl rfl ?_
  refine lx_iload C dL_law_1179 rfl ?_
  refine lx_iconst (v := nI 1) C dL_law_1181 (by decide) ?_
  refine lx_iadd C dL_law_1182 ?_
  refine lx_sld (j := 6 * j + 1) C hX hbl (nI_add _ _) (by omega) (by omega) dL_law_1183 ?_
  refine lx_aload_n C dL_law_1184 0 rfl rfl ?_
  refine lx_iload C dL_law_1185 rfl ?_
  refine lx_iconst (v := nI 2) C dL_law_1187 (by decide) ?_
  refine lx_iadd C dL_law_1188 ?_
  refine lx_sld (j := 6 * j + 2) C hX hbl (nI_add _ _) (by omega) (by omega) dL_law_1189 ?_
  refine lx_callK (As := [.int (xs (6 * j + 1)), .int (xs (6 * j + 2))]) (rest := []) (ci := 5) C hKX mf_X5_foresee (ct_X5_foresee hM hM0 (by omega)) q_m_L_133 (by omega) rfl rfl ⟨_, rfl⟩ rfl rfl (Nat.le_of_ble_eq_true rfl) ⟨(Nat.le_of_ble_eq_true rfl), (Nat.le_of_ble_eq_true rfl)⟩ ⟨Nat.le_trans (by omega) hr.1, Nat.le_trans (by omega) hr.2⟩ dL_law_1190 ?_
  refine lx_istore C dL_law_1193 (by omega) ?_
  refine lx_aload_n C dL_law_1195 2 rfl rfl ?_
  refine lx_callV (As := []) (rest := []) (ci := 5) C mf_X5_thrown ct_X5_thrown q_m_L_84 (by omega) rfl rfl ⟨_, rfl⟩ rfl rfl (Nat.le_of_ble_eq_true rfl) ⟨(Nat.le_of_ble_eq_true rfl), (Nat.le_of_ble_eq_true rfl)⟩ ⟨Nat.le_trans (by omega) hr.1, Nat.le_trans (by omega) hr.2⟩ dL_law_1196 ?_
  refine lx_iload C dL_law_1199 rfl ?_
  refine lx_icmp_eq C dL_law_1201 1206 (by decide) (fun _ => ?_) (fun z => absurd e1 z)
  refine lx_iload C dL_law_1206 rfl ?_
  refine lx_if_ne C dL_law_1208 1223 (by decide) (fun _ => ?_) (fun hv => ?_)
  · refine lx_goto C dL_law_1223 1461 (by decide) ?_
    exact ww_lv (lv0 g b (nI (6 * j))) ⟨rfl, rfl, rfl, rfl, rfl, trivial⟩ (ww_wide _ _ (by omega) (by omega) (kk _ (hP.mono (by omega))))
  · refine lx_aload_n C dL_law_1211 3 rfl rfl ?_
    refine lx_iconst (v := 0) C dL_law_1212 (by decide) ?_
    refine lx_lald C rfl dL_law_1213 ?_
    refine lx_iload C dL_law_1214 rfl ?_
    refine lx_i2l C dL_law_1216 ?_
    refine lx_lcmp C dL_law_1217 ?_
    refine lx_if_eq C dL_law_1218 1223 (by decide) (fun _ => ?_) (fun z => absurd (by rw [e2 hv]; exact lg_self _) z)
    refine lx_goto C dL_law_1223 1461 (by decide) ?_
    exact ww_lv (lv0 g b (nI (6 * j))) ⟨rfl, rfl, rfl, rfl, rfl, trivial⟩ (ww_wide _ _ (by omega) (by omega) (kk _ (hP.mono (by omega))))
set_option maxRecDepth 100000 in
set_option maxHeartbeats 1600000 in
theorem law_lasts {g : gW} {p : Program} {l : Launch} {e : Env} {s : State} {m : MethodId} {below : List Frame} {meth : Method} {c : Code} {b L j n f t q cells slots : Nat} {xs : Nat → Int32} {h : Hp} {Q : State → Prop} (hst : l.stackTraces = false) (Z : LC g p s m b meth c L xs) (hj : 6 * j + 6 ≤ L) (T : TOP n f t q h) (ht : t + 400 < 2 ^ 31) (hr : cells + 100 ≤ room_1.cells ∧ slots + 1000 ≤ room_1.slots)
    (kk : ∀ h2, PT (t + 100) h2 → WW g p l e room_1 s m #[.ref b] below meth c 9 [] h2 (lv0 g b (nI (6 * j))) (cells + 100) (slots + 1000) Q 1461 []) : WW g p l e room_1 s m #[.ref b] below meth c 9 [] h (lv0 g b (nI (6 * j))) cells slots Q 1226 [] := by
  obtain ⟨C, hE, hN, hKX, hX, hbl, hL⟩ := Z
  obtain ⟨v, h2, hLR, ⟨hM, hM0, hMC⟩, e1, e2, hP⟩ := res_lasts (p := xs (6 * j + 1)) T
  dsimp only at e1 e2 hP
  refine lx_aload_n C dL_law_1226 1 rfl rfl ?_
  refine lx_aload_n C dL_law_1227 0 rfl rfl ?_
  refine lx_iload C dL_law_1228 rfl ?_
  refine lx_iconst (v := nI 1) C dL_law_1230 (by decide) ?_
  refine lx_iadd C dL_law_1231 ?_
  refine lx_sld (j := 6 * j + 1) C hX hbl (nI_add _ _) (by omega) (by omega) dL_law_1232 ?_
  refine lx_aload_n C dL_law_1233 3 rfl rfl ?_
  refine lx_callW (n := 3) (As := [.ref (gB g + 0), .int (xs (6 * j + 1)), .ref (gB g + 70)]) C hE hN q_x_L_lasts q_n_L q_t_L_lasts (by decide +kernel) (lt_lasts (xt_X4_lasts hst T.2.1 T.2.2.2.2.1 (by omega)) hLR) q_m_L_134 rfl rfl (Nat.le_of_ble_eq_true rfl) ⟨(Nat.le_of_ble_eq_true rfl), (Nat.le_of_ble_eq_true rfl)⟩ ⟨Nat.le_trans (by omega) hr.1, Nat.le_trans (by omega) hr.2⟩ dL_law_1234 ?_
  refine lx_istore C dL_law_1237 (by omega) ?_
  refine lx_aload_n C dL_law_1239 2 rfl rfl ?_
  refine lx_aload_n C dL_law_1240 0 rfl rfl ?_
  refine lx_iload C dL_law_1241 rfl ?_
  refine lx_iconst (v := nI 1) C dL_law_1243 (by decide) ?_
  refine lx_iadd C dL_law_1244 ?_
  refine lx_sld (j := 6 * j + 1) C hX hbl (nI_add _ _) (by omega) (by omega) dL_law_1245 ?_
  refine lx_callK (As := [.int (xs (6 * j + 1))]) (rest := []) (ci := 5) C hKX mf_X5_lasts (ct_X5_lasts hM hM0 (by omega)) q_m_L_136 (by omega) rfl rfl ⟨_, rfl⟩ rfl rfl (Nat.le_of_ble_eq_true rfl) ⟨(Nat.le_of_ble_eq_true rfl), (Nat.le_of_ble_eq_true rfl)⟩ ⟨Nat.le_trans (by omega) hr.1, Nat.le_trans (by omega) hr.2⟩ dL_law_1246 ?_
  refine lx_istore C dL_law_1249 (by omega) ?_
  refine lx_aload_n C dL_law_1251 2 rfl rfl ?_
  refine lx_callV (As := []) (rest := []) (ci := 5) C mf_X5_thrown ct_X5_thrown q_m_L_84 (by omega) rfl rfl ⟨_, rfl⟩ rfl rfl (Nat.le_of_ble_eq_true rfl) ⟨(Nat.le_of_ble_eq_true rfl), (Nat.le_of_ble_eq_true rfl)⟩ ⟨Nat.le_trans (by omega) hr.1, Nat.le_trans (by omega) hr.2⟩ dL_law_1252 ?_
  refine lx_iload C dL_law_1255 rfl ?_
  refine lx_icmp_eq C dL_law_1257 1262 (by decide) (fun _ => ?_) (fun z => absurd e1 z)
  refine lx_iload C dL_law_1262 rfl ?_
  refine lx_if_ne C dL_law_1264 1279 (by decide) (fun _ => ?_) (fun hv => ?_)
  · refine lx_goto C dL_law_1279 1461 (by decide) ?_
    exact ww_lv (lv0 g b (nI (6 * j))) ⟨rfl, rfl, rfl, rfl, rfl, trivial⟩ (ww_wide _ _ (by omega) (by omega) (kk _ (hP.mono (by omega))))
  · refine lx_aload_n C dL_law_1267 3 rfl rfl ?_
    refine lx_iconst (v := 0) C dL_law_1268 (by decide) ?_
    refine lx_lald C rfl dL_law_1269 ?_
    refine lx_iload C dL_law_1270 rfl ?_
    refine lx_i2l C dL_law_1272 ?_
    refine lx_lcmp C dL_law_1273 ?_
    refine lx_if_eq C dL_law_1274 1279 (by decide) (fun _ => ?_) (fun z => absurd (by rw [e2 hv]; exact lg_self _) z)
    refine lx_goto C dL_law_1279 1461 (by decide) ?_
    exact ww_lv (lv0 g b (nI (6 * j))) ⟨rfl, rfl, rfl, rfl, rfl, trivial⟩ (ww_wide _ _ (by omega) (by omega) (kk _ (hP.mono (by omega))))
set_option maxRecDepth 100000 in
set_option maxHeartbeats 1600000 in
theorem law_keep {g : gW} {p : Program} {l : Launch} {e : Env} {s : State} {m : MethodId} {below : List Frame} {meth : Method} {c : Code} {b L j n f t q cells slots : Nat} {xs : Nat → Int32} {h : Hp} {Q : State → Prop} (hst : l.stackTraces = false) (Z : LC g p s m b meth c L xs) (hj : 6 * j + 6 ≤ L) (T : TOP n f t q h) (ht : t + 400 < 2 ^ 31) (hr : cells + 100 ≤ room_1.cells ∧ slots + 1000 ≤ room_1.slots)
    (kk : ∀ h2, PT (t + 100) h2 → WW g p l e room_1 s m #[.ref b] below meth c 9 [] h2 (lv0 g b (nI (6 * j))) (cells + 100) (slots + 1000) Q 1461 []) : WW g p l e room_1 s m #[.ref b] below meth c 9 [] h (lv0 g b (nI (6 * j))) cells slots Q 1282 [] := by
  obtain ⟨C, hE, hN, hKX, hX, hbl, hL⟩ := Z
  obtain ⟨v, h2, hLR, ⟨hM, hM0, hMC⟩, e1, e2, hP⟩ := res_keep (p := xs (6 * j + 1)) (k := xs (6 * j + 2)) T
  dsimp only at e1 e2 hP
  refine lx_aload_n C dL_law_1282 1 rfl rfl ?_
  refine lx_aload_n C dL_law_1283 0 rfl rfl ?_
  refine lx_iload C dL_law_1284 rfl ?_
  refine lx_iconst (v := nI 1) C dL_law_1286 (by decide) ?_
  refine lx_iadd C dL_law_1287 ?_
  refine lx_sld (j := 6 * j + 1) C hX hbl (nI_add _ _) (by omega) (by omega) dL_law_1288 ?_
  refine lx_aload_n C dL_law_1289 0 rfl rfl ?_
  refine lx_iload C dL_law_1290 rfl ?_
  refine lx_iconst (v := nI 2) C dL_law_1292 (by decide) ?_
  refine lx_iadd C dL_law_1293 ?_
  refine lx_sld (j := 6 * j + 2) C hX hbl (nI_add _ _) (by omega) (by omega) dL_law_1294 ?_
  refine lx_aload_n C dL_law_1295 3 rfl rfl ?_
  refine lx_callW (n := 4) (As := [.ref (gB g + 0), .int (xs (6 * j + 1)), .int (xs (6 * j + 2)), .ref (gB g + 70)]) C hE hN q_x_L_keep q_n_L q_t_L_keep (by decide +kernel) (lt_keep (xt_X4_keep hst T.2.1 T.2.2.2.2.1 (by omega)) hLR) q_m_L_137 rfl rfl (Nat.le_of_ble_eq_true rfl) ⟨(Nat.le_of_ble_eq_true rfl), (Nat.le_of_ble_eq_true rfl)⟩ ⟨Nat.le_trans (by omega) hr.1, Nat.le_trans (by omega) hr.2⟩ dL_law_1296 ?_
  refine lx_istore C dL_law_1299 (by omega) ?_
  refine lx_aload_n C dL_law_1301 2 rfl rfl ?_
  refine lx_aload_n C dL_law_1302 0 rfl rfl ?_
  refine lx_iload C dL_law_1303 rfl ?_
  refine lx_iconst (v := nI 1) C dL_law_1305 (by decide) ?_
  refine lx_iadd C dL_law_1306 ?_
  refine lx_sld (j := 6 * j + 1) C hX hbl (nI_add _ _) (by omega) (by omega) dL_law_1307 ?_
  refine lx_aload_n C dL_law_1308 0 rfl rfl ?_
  refine lx_iload C dL_law_1309 rfl ?_
  refine lx_iconst (v := nI 2) C dL_law_1311 (by decide) ?_
  refine lx_iadd C dL_law_1312 ?_
  refine lx_sld (j := 6 * j + 2) C hX hbl (nI_add _ _) (by omega) (by omega) dL_law_1313 ?_
  refine lx_callK (As := [.int (xs (6 * j + 1)), .int (xs (6 * j + 2))]) (rest := []) (ci := 5) C hKX mf_X5_keep (ct_X5_keep hM T.2.2.2.1 hM0 (by omega)) q_m_L_139 (by omega) rfl rfl ⟨_, rfl⟩ rfl rfl (Nat.le_of_ble_eq_true rfl) ⟨(Nat.le_of_ble_eq_true rfl), (Nat.le_of_ble_eq_true rfl)⟩ ⟨Nat.le_trans (by omega) hr.1, Nat.le_trans (by omega) hr.2⟩ dL_law_1314 ?_
  refine lx_istore C dL_law_1317 (by omega) ?_
  refine lx_aload_n C dL_law_1319 2 rfl rfl ?_
  refine lx_callV (As := []) (rest := []) (ci := 5) C mf_X5_thrown ct_X5_thrown q_m_L_84 (by omega) rfl rfl ⟨_, rfl⟩ rfl rfl (Nat.le_of_ble_eq_true rfl) ⟨(Nat.le_of_ble_eq_true rfl), (Nat.le_of_ble_eq_true rfl)⟩ ⟨Nat.le_trans (by omega) hr.1, Nat.le_trans (by omega) hr.2⟩ dL_law_1320 ?_
  refine lx_iload C dL_law_1323 rfl ?_
  refine lx_icmp_eq C dL_law_1325 1330 (by decide) (fun _ => ?_) (fun z => absurd e1 z)
  refine lx_iload C dL_law_1330 rfl ?_
  refine lx_if_ne C dL_law_1332 1347 (by decide) (fun _ => ?_) (fun hv => ?_)
  · refine lx_goto C dL_law_1347 1461 (by decide) ?_
    exact ww_lv (lv0 g b (nI (6 * j))) ⟨rfl, rfl, rfl, rfl, rfl, trivial⟩ (ww_wide _ _ (by omega) (by omega) (kk _ (hP.mono (by omega))))
  · refine lx_aload_n C dL_law_1335 3 rfl rfl ?_
    refine lx_iconst (v := 0) C dL_law_1336 (by decide) ?_
    refine lx_lald C rfl dL_law_1337 ?_
    refine lx_iload C dL_law_1338 rfl ?_
    refine lx_i2l C dL_law_1340 ?_
    refine lx_lcmp C dL_law_1341 ?_
    refine lx_if_eq C dL_law_1342 1347 (by decide) (fun _ => ?_) (fun z => absurd (by rw [e2 hv]; exact lg_self _) z)
    refine lx_goto C dL_law_1347 1461 (by decide) ?_
    exact ww_lv (lv0 g b (nI (6 * j))) ⟨rfl, rfl, rfl, rfl, rfl, trivial⟩ (ww_wide _ _ (by omega) (by omega) (kk _ (hP.mono (by omega))))
set_option maxRecDepth 100000 in
set_option maxHeartbeats 1600000 in
theorem law_advise {g : gW} {p : Program} {l : Launch} {e : Env} {s : State} {m : MethodId} {below : List Frame} {meth : Method} {c : Code} {b L j n f t q cells slots : Nat} {xs : Nat → Int32} {h : Hp} {Q : State → Prop} (hst : l.stackTraces = false) (Z : LC g p s m b meth c L xs) (hj : 6 * j + 6 ≤ L) (T : TOP n f t q h) (ht : t + 400 < 2 ^ 31) (hr : cells + 100 ≤ room_1.cells ∧ slots + 1000 ≤ room_1.slots)
    (kk : ∀ h2, PT (t + 100) h2 → WW g p l e room_1 s m #[.ref b] below meth c 9 [] h2 (lv0 g b (nI (6 * j))) (cells + 100) (slots + 1000) Q 1461 []) : WW g p l e room_1 s m #[.ref b] below meth c 9 [] h (lv0 g b (nI (6 * j))) cells slots Q 1350 [] := by
  obtain ⟨C, hE, hN, hKX, hX, hbl, hL⟩ := Z
  obtain ⟨v, h2, hLR, ⟨hM, hM0, hMC⟩, e1, e2, hP⟩ := res_advise (k := xs (6 * j + 1)) T
  dsimp only at e1 e2 hP
  refine lx_aload_n C dL_law_1350 1 rfl rfl ?_
  refine lx_aload_n C dL_law_1351 0 rfl rfl ?_
  refine lx_iload C dL_law_1352 rfl ?_
  refine lx_iconst (v := nI 1) C dL_law_1354 (by decide) ?_
  refine lx_iadd C dL_law_1355 ?_
  refine lx_sld (j := 6 * j + 1) C hX hbl (nI_add _ _) (by omega) (by omega) dL_law_1356 ?_
  refine lx_aload_n C dL_law_1357 3 rfl rfl ?_
  refine lx_callW (n := 3) (As := [.ref (gB g + 0), .int (xs (6 * j + 1)), .ref (gB g + 70)]) C hE hN q_x_L_advise q_n_L q_t_L_advise (by decide +kernel) (lt_advise (xt_X4_advise hst T.2.1 T.2.2.2.2.1 (by omega)) hLR) q_m_L_140 rfl rfl (Nat.le_of_ble_eq_true rfl) ⟨(Nat.le_of_ble_eq_true rfl), (Nat.le_of_ble_eq_true rfl)⟩ ⟨Nat.le_trans (by omega) hr.1, Nat.le_trans (by omega) hr.2⟩ dL_law_1358 ?_
  refine lx_istore C dL_law_1361 (by omega) ?_
  refine lx_aload_n C dL_law_1363 2 rfl rfl ?_
  refine lx_aload_n C dL_law_1364 0 rfl rfl ?_
  refine lx_iload C dL_law_1365 rfl ?_
  refine lx_iconst (v := nI 1) C dL_law_1367 (by decide) ?_
  refine lx_iadd C dL_law_1368 ?_
  refine lx_sld (j := 6 * j + 1) C hX hbl (nI_add _ _) (by omega) (by omega) dL_law_1369 ?_
  refine lx_callK (As := [.int (xs (6 * j + 1))]) (rest := []) (ci := 5) C hKX mf_X5_advise (ct_X5_advise hM hM0 (by omega)) q_m_L_142 (by omega) rfl rfl ⟨_, rfl⟩ rfl rfl (Nat.le_of_ble_eq_true rfl) ⟨(Nat.le_of_ble_eq_true rfl), (Nat.le_of_ble_eq_true rfl)⟩ ⟨Nat.le_trans (by omega) hr.1, Nat.le_trans (by omega) hr.2⟩ dL_law_1370 ?_
  refine lx_istore C dL_law_1373 (by omega) ?_
  refine lx_aload_n C dL_law_1375 2 rfl rfl ?_
  refine lx_callV (As := []) (rest := []) (ci := 5) C mf_X5_thrown ct_X5_thrown q_m_L_84 (by omega) rfl rfl ⟨_, rfl⟩ rfl rfl (Nat.le_of_ble_eq_true rfl) ⟨(Nat.le_of_ble_eq_true rfl), (Nat.le_of_ble_eq_true rfl)⟩ ⟨Nat.le_trans (by omega) hr.1, Nat.le_trans (by omega) hr.2⟩ dL_law_1376 ?_
  refine lx_iload C dL_law_1379 rfl ?_
  refine lx_icmp_eq C dL_law_1381 1386 (by decide) (fun _ => ?_) (fun z => absurd e1 z)
  refine lx_iload C dL_law_1386 rfl ?_
  refine lx_if_ne C dL_law_1388 1403 (by decide) (fun _ => ?_) (fun hv => ?_)
  · refine lx_goto C dL_law_1403 1461 (by decide) ?_
    exact ww_lv (lv0 g b (nI (6 * j))) ⟨rfl, rfl, rfl, rfl, rfl, trivial⟩ (ww_wide _ _ (by omega) (by omega) (kk _ (hP.mono (by omega))))
  · refine lx_aload_n C dL_law_1391 3 rfl rfl ?_
    refine lx_iconst (v := 0) C dL_law_1392 (by decide) ?_
    refine lx_lald C rfl dL_law_1393 ?_
    refine lx_iload C dL_law_1394 rfl ?_
    refine lx_i2l C dL_law_1396 ?_
    refine lx_lcmp C dL_law_1397 ?_
    refine lx_if_eq C dL_law_1398 1403 (by decide) (fun _ => ?_) (fun z => absurd (by rw [e2 hv]; exact lg_self _) z)
    refine lx_goto C dL_law_1403 1461 (by decide) ?_
    exact ww_lv (lv0 g b (nI (6 * j))) ⟨rfl, rfl, rfl, rfl, rfl, trivial⟩ (ww_wide _ _ (by omega) (by omega) (kk _ (hP.mono (by omega))))
