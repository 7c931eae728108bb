/-! what the small methods of the class do to the numbers: h o k is the slot k of the object o -/
def bI (c : Prop) [Decidable c] : Int32 := if c then 1 else 0
theorem bI_01 (c : Prop) [Decidable c] : bI c = 0 ∨ bI c = 1 := by unfold bI; split <;> simp
def cpk (h : Hp) (o o2 k : Nat) : Hp := hp_up h o k (h o2 k)
def p_holds (h : Hp) (o : Nat) : Int32 := h o 3 * h o 4 * 10
def p_dist (h : Hp) (o o2 : Nat) : Int32 := abI (h o 0 - h o2 0) + abI (h o 1 - h o2 1)
def p_copy (h : Hp) (o o2 : Nat) : Hp := cpk (cpk (cpk (cpk (cpk (cpk (cpk (cpk (cpk (cpk h o o2 0) o o2 1) o o2 2) o o2 3) o o2 4) o o2 5) o o2 6) o o2 7) o o2 8) o o2 9
def p_use (h : Hp) (o : Nat) (clay : Int32) : Int32 := mnI clay (100 - h o 6)
def p_line (h : Hp) (o : Nat) (clay : Int32) : Hp := hp_up h o 6 (h o 6 + p_use h o clay)
def p_mist (h : Hp) (o : Nat) (mist : Int32) : Hp := hp_up h o 5 (h o 5 + if h o 2 < 150 then mist * h o 3 / 4 else 2 * (mist * h o 3 / 4))
def p_rain (h : Hp) (o : Nat) (rain : Int32) : Hp := hp_up h o 5 (h o 5 + rain * h o 3 / 2)
def p_give (h : Hp) (o : Nat) (need : Int32) : Hp := hp_up h o 5 (h o 5 - mnI need (h o 5))
def p_tread (h : Hp) (o : Nat) (sheep : Int32) : Hp := if h o 7 = 0 then hp_up h o 6 (mxI 0 (h o 6 - sheep / 10)) else h
def p_dry (h : Hp) (o : Nat) (sun : Int32) : Hp := hp_up h o 5 (h o 5 - mnI (h o 5) (if h o 7 = 0 then sun * h o 3 / 5 else sun * h o 3 / 5 / 2))
def p_leak (h : Hp) (o : Nat) : Hp := hp_up h o 5 (h o 5 - h o 5 * (100 - h o 6) / 200)
def p_over (h : Hp) (o : Nat) : Int32 := mxI 0 (h o 5 - p_holds h o)
def p_spill (h : Hp) (o : Nat) : Hp := hp_up (hp_up h o 5 (h o 5 - p_over h o)) o 9 (hp_up h o 5 (h o 5 - p_over h o) o 9 + p_over h o)
def f_copy (h : Hp) (o o2 : Nat) : Hp := cpk (cpk (cpk (cpk (cpk h o o2 0) o o2 1) o o2 2) o o2 3) o o2 4
def f_start (h : Hp) (o : Nat) (place heads : Int32) : Hp := hp_up (hp_up (hp_up (hp_up (hp_up h o 0 heads) o 1 place) o 2 0) o 3 0) o 4 0
def f_need (h : Hp) (o : Nat) : Int32 := 2 * h o 0
def f_drinkA (h : Hp) (o : Nat) (w : Int32) : Hp := hp_up h o 4 (h o 4 + w)
def f_drink (h : Hp) (o : Nat) (w : Int32) : Hp := if w < f_need (f_drinkA h o w) o then hp_up (f_drinkA h o w) o 2 (mnI 10 (f_drinkA h o w o 2 + 3)) else hp_up (f_drinkA h o w) o 2 (mxI 0 (f_drinkA h o w o 2 - 2))
def w_copy (h : Hp) (o o2 : Nat) : Hp := cpk (cpk (cpk h o o2 0) o o2 1) o o2 2
def w_num (h : Hp) (o : Nat) : Int32 := 100 * h o 0 + 10 * h o 1 + h o 2
