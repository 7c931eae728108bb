/-! KEPT AND BROUGHT BACK: three rows in a row of rows, made by the call -/
def kpR (a0 a1 a2 : Nat) : Nat → Option Nat := va_up (va_up (va_up (fun _ => none) 0 (some a0)) 1 (some a1)) 2 (some a2)
def m_back (h hk : Hp) : Hp := hp_row (hp_row (hp_row h 67 (va_cpy (hk 67) (h 67) 0 0 50)) 68 (va_cpy (hk 68) (h 68) 0 0 35)) 69 (va_cpy (hk 69) (h 69) 0 0 2)
