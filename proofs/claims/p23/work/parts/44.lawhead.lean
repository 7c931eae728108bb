/-! small things of the law's walks -/
abbrev wc (g : gW) (h : Hp) : va_W := (List.range 64).map (fun o => (gB g + o, ce g (h o) o))
section GGH
variable {g : gW} {p : Program} {l : Launch} {e : Env} {R : Room} {s : State} {m : MethodId} {args : Array Value} {below : List Frame} {meth : Method} {c : Code} {cc : ByteArray} {nL : Nat} {own : String} {L : va_W} {F : Nat → Prop} {lv : List (Nat × Value)} {cells slots : Nat} {Q : State → Prop} {pc : Nat} {st : List Value}
theorem gg_tabIn (C : CG g p s m args meth c cc nL own) {dflt lo hi : Int} {offs : Array Int} {len : Nat} {x : Int32} (hd : decode cc pc = .ok (.tableswitch dflt lo hi offs, len)) (off : Int) (tgt : Nat) (h1 : ¬ x.toInt < lo) (h2 : ¬ hi < x.toInt) (ho : offs[(x.toInt - lo).toNat]? = some off) (ht : (pc : Int) + off = (tgt : Int)) (k : GW g p l e R s m args below meth c nL L F lv cells slots Q tgt st) : GW g p l e R s m args below meth c nL L F lv cells slots Q pc (.int x :: st) :=
  fun H locs ls hP hD hS hl => lv_tableIn C.1 C.2.1 hd h1 h2 ho ht (k H locs ls hP hD hS hl)
theorem gg_tabOut (C : CG g p s m args meth c cc nL own) {dflt lo hi : Int} {offs : Array Int} {len : Nat} {x : Int32} (hd : decode cc pc = .ok (.tableswitch dflt lo hi offs, len)) (tgt : Nat) (h1 : x.toInt < lo ∨ hi < x.toInt) (ht : (pc : Int) + dflt = (tgt : Int)) (k : GW g p l e R s m args below meth c nL L F lv cells slots Q tgt st) : GW g p l e R s m args below meth c nL L F lv cells slots Q pc (.int x :: st) :=
  fun H locs ls hP hD hS hl => lv_tableOut C.1 C.2.1 hd h1 ht (k H locs ls hP hD hS hl)
/-- a call that touches no cell -/
theorem gg_callP (C : CG g p s m args meth c cc nL own) {y : MethodName} {cY : ByteArray} {nLY k n idx : Nat} {rt : Option FieldType} {As rest : List Value} {E : State → Prop} {v : Int32} (hF : MFs y cY nLY rt n) (hM : GT g l y cY nLY rt k 0 0 As E [] (fun _ => False) (fun w L2 N => w = some (.int v) ∧ L2 = [] ∧ N = [])) (hEb : EB E) (hE : EM s F E) (hfr : ∀ q, s.heap.size ≤ q → F q) (hlink : Cond.methodLink own idx y ∈ TT)
    (hAs : As.length = n) (hst : st = As.reverse ++ rest) (hcat : (rest.map fun v => v.category).sum ≤ 8) (hk : k + 1 ≤ R.frames ∧ 8 + (nLY + 11) + 28 * k ≤ R.locals) (hr : cells + 0 ≤ R.cells ∧ slots + 0 ≤ R.slots) (hd : decode cc pc = .ok (.invokestatic idx, 3))
    (kk : GW g p l e R s m args below meth c nL L F lv cells slots Q (pc + 3) (.int v :: rest)) : GW g p l e R s m args below meth c nL L F lv cells slots Q pc st := by
  refine gg_ls (L ++ ([] ++ [])) (by rw [List.append_nil, List.append_nil]) ?_
  refine gg_callS (A := L) (B := []) C hF hM hEb hE (fun x hx => by cases hx) (fun _ q hq => hq.elim False.elim (hfr q)) (fun _ _ _ => id) hlink hAs hst hcat hk hr hd (fun w L2 N hp => ?_)
  obtain ⟨rfl, rfl, rfl⟩ := hp
  exact gg_ls L (by rw [List.append_nil, List.append_nil, List.append_nil]) kk
end GGH
theorem bel_is {x : Int32} {N : Nat} (hN : 1 ≤ N) (h31 : N < 2 ^ 31) : ∃ a, a < N ∧ bel x (nI N) = nI a := by
  obtain ⟨v, hv, e⟩ : ∃ v : Nat, v < 2 ^ 31 ∧ x &&& 2147483647 = nI v := by
    refine ⟨x.toBitVec.toNat % 2 ^ 31, Nat.mod_lt _ (by decide), ?_⟩
    apply Int32.toBitVec_inj.1
    apply BitVec.eq_of_toNat_eq
    show (x.toBitVec &&& 2147483647#32).toNat = (BitVec.ofNat 32 (x.toBitVec.toNat % 2 ^ 31)).toNat
    rw [BitVec.toNat_and, BitVec.toNat_ofNat, BitVec.toNat_ofNat, show (2147483647 : Nat) % 2 ^ 32 = 2 ^ 31 - 1 from by decide, Nat.and_two_pow_sub_one_eq_mod, Nat.mod_eq_of_lt (a := x.toBitVec.toNat % 2 ^ 31) (Nat.lt_of_lt_of_le (Nat.mod_lt _ (by decide)) (by decide))]
  have hle : v / N * N ≤ v := Nat.div_mul_le_self v N
  have hdm : v / N ≤ v := Nat.div_le_self v N
  refine ⟨v % N, Nat.mod_lt _ hN, ?_⟩
  unfold bel
  rw [e, pk_div hv hN h31, pk_mul, pk_sub hle]
  congr 1
  have := Nat.div_add_mod v N
  have h2 : v / N * N = N * (v / N) := Nat.mul_comm _ _
  omega
/-- what ran over stays small -/
def OV (n t : Nat) (r : Hp) : Prop := ∀ j, j < n → ∃ o : Nat, o ≤ 70000 * t ∧ r (15 + j) 9 = nI o
theorem OV.up {n t o k : Nat} {r : Hp} {v : Int32} (h : OV n t r) (hk : k ≠ 9) : OV n t (hp_up r o k v) := fun j hj => by
  rw [hp_off (Or.inr (by omega))]; exact h j hj
theorem OV.keep {n t o : Nat} {r : Hp} {φ : Nat → Int32} (h : OV n t r) (ho : o < 15 ∨ 15 + n ≤ o) : OV n t (hp_row r o φ) := fun j hj => by
  rw [hp_row_ne (by omega)]; exact h j hj
theorem OV.new {n t : Nat} {r : Hp} {φ : Nat → Int32} (h : OV n t r) (e : φ 9 = 0) : OV (n + 1) t (hp_row r (15 + n) φ) := fun j hj => by
  by_cases c : j = n
  · subst c; rw [hp_row_eq]; exact ⟨0, Nat.zero_le _, e⟩
  · rw [hp_row_ne (by omega)]; exact h j (by omega)
/-- the law's two sides at the same point -/
def TS (n f t q : Nat) (h r : Hp) : Prop := TOP n f t q h ∧ SR n f h r ∧ OV n t r
