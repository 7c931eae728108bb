abbrev RS : Type := (Option Value × Hp) ⊕ String
def rI (v : Int32) (h : Hp) : RS := .inl (some (.int v), h)
/-- x is one of the first n numbers, as the class asks it -/
def inN (n : Nat) (x : Int32) : Prop := ¬ x < 0 ∧ x < nI n
abbrev pd (x : Int32) : Nat := 1 + 14 + x.toNatClampNeg
abbrev fl (x : Int32) : Nat := 1 + 25 + x.toNatClampNeg
abbrev wd (x : Int32) : Nat := 1 + 2 + x.toNatClampNeg
theorem inN_is {n : Nat} {x : Int32} (hn : n < 2 ^ 31) (h : inN n x) : isN n x := isN_of rfl hn h.1 h.2
theorem is_inN {n : Nat} {x : Int32} (hn : n < 2 ^ 31) (h : isN n x) : inN n x := by
  obtain ⟨q, hq, rfl⟩ := h
  exact ⟨nI_pos (by omega), (nI_ltI (by omega) hn).mpr hq⟩
def x_dig (n : Nat) (h : Hp) (x y ht sz dp : Int32) : RS := if bI (0 ≤ x ∧ x ≤ 40) = 0 then .inr E_A else if bI (0 ≤ y ∧ y ≤ 40) = 0 then .inr E_A else if bI (0 ≤ ht ∧ ht ≤ 300) = 0 then .inr E_A else if bI (1 ≤ sz ∧ sz ≤ 60) = 0 then .inr E_A else if bI (1 ≤ dp ∧ dp ≤ 9) = 0 then .inr E_A else d_makeR 1 n h x y ht sz dp
def x_link (n : Nat) (h : Hp) (p o : Int32) : RS := if ¬ p < 0 ∧ p < nI n then (if o = -1 then rI (h (pd p) 8) (hp_up h (pd p) 8 o) else if ¬ o < 0 ∧ o < nI n then (if h (pd o) 2 < h (pd p) 2 then rI (h (pd p) 8) (hp_up h (pd p) 8 o) else .inr E_A) else .inr E_I) else .inr E_I
def x_puddle (n : Nat) (h : Hp) (p cl : Int32) : RS := if ¬ p < 0 ∧ p < nI n then (if bI (1 ≤ cl ∧ cl ≤ 100) = 0 then .inr E_A else if bI (h (pd p) 5 ≤ p_holds h (pd p) / 4) = 0 then .inr E_S else rI (p_use h (pd p) (mnI cl (h 1 7))) (hp_up (p_line h (pd p) (mnI cl (h 1 7))) 1 7 (p_line h (pd p) (mnI cl (h 1 7)) 1 7 - p_use h (pd p) (mnI cl (h 1 7))))) else .inr E_I
def x_strew (n : Nat) (h : Hp) (p b : Int32) : RS := if ¬ p < 0 ∧ p < nI n then rI (h (pd p) 7) (hp_up h (pd p) 7 b) else .inr E_I
def x_pourH (h : Hp) (o : Nat) (b : Int32) : Hp := hp_up h o 5 (mxI 0 (mnI (h o 5 + b) (p_holds h o)))
def x_pour (n : Nat) (h : Hp) (p b : Int32) : RS := if ¬ p < 0 ∧ p < nI n then (if bI (-10000 ≤ b ∧ b ≤ 10000) = 0 then .inr E_A else rI (x_pourH h (pd p) b (pd p) 5) (x_pourH h (pd p) b)) else .inr E_I
/-- what pond(p, k) tells -/
def x_pondV (n f : Nat) (h : Hp) (p : Int32) : Nat → Int32
  | 0 => h (pd p) 0
  | 1 => h (pd p) 1
  | 2 => h (pd p) 2
  | 3 => h (pd p) 3
  | 4 => p_holds h (pd p)
  | 5 => h (pd p) 5
  | 6 => h (pd p) 6
  | 7 => if h (pd p) 7 = 0 then 0 else 1
  | 8 => h (pd p) 8
  | 9 => d_at h 1 f p
  | 10 => h (pd p) 9
  | _ => d_src h 1 p n
def x_pond (n f : Nat) (h : Hp) (p w : Int32) : RS := if ¬ p < 0 ∧ p < nI n then (if ¬ w < 0 ∧ w < nI 12 then rI (x_pondV n f h p w.toNatClampNeg) h else .inr E_I) else .inr E_I
def x_setW (h : Hp) (day mi ra su : Int32) : RS := if ¬ day < 0 ∧ day < nI 10 then (if bI (0 ≤ mi ∧ mi ≤ 9) = 0 then .inr E_A else if bI (0 ≤ ra ∧ ra ≤ 9) = 0 then .inr E_A else if bI (0 ≤ su ∧ su ≤ 9) = 0 then .inr E_A else rI (w_num h (wd day)) (hp_up (hp_up (hp_up h (wd day) 0 mi) (wd day) 1 ra) (wd day) 2 su)) else .inr E_I
def x_bring (h : Hp) (cl : Int32) : RS := if bI (1 ≤ cl ∧ cl ≤ 100) = 0 then .inr E_A else if h 1 7 + cl ≤ 500 then rI (hp_up h 1 7 (h 1 7 + cl) 1 7) (hp_up h 1 7 (h 1 7 + cl)) else .inr E_S
def x_addFlock (n f : Nat) (h : Hp) (p s : Int32) : RS := if ¬ p < 0 ∧ p < nI n then (if bI (1 ≤ s ∧ s ≤ 80) = 0 then .inr E_A else d_mkFR 1 f h p s) else .inr E_I
def x_drive (n f : Nat) (h : Hp) (a p : Int32) : RS := if ¬ a < 0 ∧ a < nI f then (if ¬ p < 0 ∧ p < nI n then (if bI (10 ≤ h (fl a) 2) = 0 then rI (p_dist h (pd (h (fl a) 1)) (pd p)) (hp_up h (fl a) 1 p) else .inr E_S) else .inr E_I) else .inr E_I
def x_setRoams (f : Nat) (h : Hp) (a b : Int32) : RS := if ¬ a < 0 ∧ a < nI f then rI (h (fl a) 3) (hp_up h (fl a) 3 b) else .inr E_I
/-- what flock(a, k) tells -/
def x_flockV (h : Hp) (a : Int32) : Nat → Int32
  | 0 => h (fl a) 0
  | 1 => h (fl a) 1
  | 2 => h (fl a) 2
  | 3 => if h (fl a) 3 = 0 then 0 else 1
  | 4 => if bI (10 ≤ h (fl a) 2) = 0 then 0 else 1
  | _ => h (fl a) 4
def x_flock (f : Nat) (h : Hp) (a w : Int32) : RS := if ¬ a < 0 ∧ a < nI f then (if ¬ w < 0 ∧ w < nI 6 then rI (x_flockV h a w.toNatClampNeg) h else .inr E_I) else .inr E_I
def x_pass (n f t : Nat) (h : Hp) (k : Int32) : RS := if bI (1 ≤ k ∧ k ≤ 100) = 0 then .inr E_A else rI (d_daysU 1 n f t h k.toNatClampNeg) (d_days 1 n f t h k.toNatClampNeg)
/-- what count(k) tells -/
def x_countV (n f : Nat) (h : Hp) : Nat → Int32
  | 0 => h 1 6
  | 1 => h 1 4
  | 2 => h 1 5
  | 3 => d_lost h 1 f
  | 4 => h 1 7
  | 5 => d_all h 1 n
  | 6 => d_dry h 1 n
  | _ => d_sheep h 1 f
def x_count (n f : Nat) (h : Hp) (w : Int32) : RS := if ¬ w < 0 ∧ w < nI 8 then rI (x_countV n f h w.toNatClampNeg) h else .inr E_I
def x_days (n f t : Nat) (h : Hp) (k : Int32) : Hp := d_days 32 n f t (d_like n f h) k.toNatClampNeg
def x_foresee (n f t : Nat) (h : Hp) (p k : Int32) : RS := if ¬ p < 0 ∧ p < nI n then (if bI (1 ≤ k ∧ k ≤ 100) = 0 then .inr E_A else rI (x_days n f t h k (32 + 14 + p.toNatClampNeg) 5) (x_days n f t h k)) else .inr E_I
/-- a switch: one of the first numbers, or another -/
theorem sw_cases {n : Nat} {x : Int32} (hn : n < 2 ^ 31) (h : ¬ x < 0 ∧ x < nI n) : ∃ k, k < n ∧ x = nI k ∧ x.toNatClampNeg = k := by
  obtain ⟨q, hq, rfl⟩ := inN_is hn h
  exact ⟨q, hq, rfl, nI_clamp (by omega)⟩
theorem sw_out {n : Nat} {x : Int32} {hi : Int} (hn : n < 2 ^ 31) (hh : hi = (n : Int) - 1) (h : ¬ (¬ x < 0 ∧ x < nI n)) : x.toInt < 0 ∨ hi < x.toInt := by
  by_cases h0 : x < 0
  · exact Or.inl (by have := Int32.lt_iff_toInt_lt.mp h0; simpa using this)
  · right
    have h1 : ¬ x < nI n := fun z => h ⟨h0, z⟩
    have h2 := Int32.le_iff_toInt_le.mp (Int32.not_lt.mp h1)
    rw [nI_toInt hn] at h2
    omega
section GWS
variable {g : gW} {p : Program} {l : Launch} {e : Env} {R : Room} {s : State} {m : MethodId} {args : Array Value} {below : List Frame} {meth : Method} {c : Code} {cc : ByteArray} {nL : Nat} {own : String} {X : va_W} {h : Hp} {lv : List (Nat × Value)} {cells slots : Nat} {Q : State → Prop} {pc : Nat} {st : List Value}
theorem ww_tabIn (C : CX g p s m args meth c cc nL own) {dflt lo hi : Int} {offs : Array Int} {len : Nat} {x : Int32} (hd : decode cc pc = .ok (.tableswitch dflt lo hi offs, len)) (off : Int) (tgt : Nat) (h1 : ¬ x.toInt < lo) (h2 : ¬ hi < x.toInt) (ho : offs[(x.toInt - lo).toNat]? = some off) (ht : (pc : Int) + off = (tgt : Int)) (k : WW g p l e R s m args below meth c nL X h lv cells slots Q tgt st) : WW g p l e R s m args below meth c nL X h lv cells slots Q pc (.int x :: st) :=
  fun H locs ls hP hD hS hl => lv_tableIn C.1 C.2.1 hd h1 h2 ho ht (k H locs ls hP hD hS hl)
theorem ww_tabOut (C : CX g p s m args meth c cc nL own) {dflt lo hi : Int} {offs : Array Int} {len : Nat} {x : Int32} (hd : decode cc pc = .ok (.tableswitch dflt lo hi offs, len)) (tgt : Nat) (h1 : x.toInt < lo ∨ hi < x.toInt) (ht : (pc : Int) + dflt = (tgt : Int)) (k : WW g p l e R s m args below meth c nL X h lv cells slots Q tgt st) : WW g p l e R s m args below meth c nL X h lv cells slots Q pc (.int x :: st) :=
  fun H locs ls hP hD hS hl => lv_tableOut C.1 C.2.1 hd h1 ht (k H locs ls hP hD hS hl)
end GWS
