def mg_1 (n f : Nat) (h : Hp) : Nat → Int64 := fd (fun s k => dgS s (m_cnV n f h k)) 587
def mg_2 (n f : Nat) (h : Hp) : Nat → Int64 := fd (fun s j => dgS s (m_wt h j)) (mg_1 n f h 8)
def mg_P (n f : Nat) (h : Hp) (j : Nat) (s : Int64) : Nat → Int64 := fd (fun s k => dgS s (m_pondV n f h (nI j) k)) s
def mg_3 (n f : Nat) (h : Hp) : Nat → Int64 := fd (fun s j => mg_P n f h j s 12) (mg_2 n f h 10)
def mg_F (h : Hp) (j : Nat) (s : Int64) : Nat → Int64 := fd (fun s k => dgS s (m_flV h (nI j) k)) s
def mg_4 (n f : Nat) (h : Hp) : Nat → Int64 := fd (fun s j => mg_F h j s 6) (mg_3 n f h n)
theorem mg_1_0 {n f : Nat} {h : Hp} : mg_1 n f h 0 = 587 := by unfold mg_1; exact fd_0
theorem mg_2_0 {n f : Nat} {h : Hp} : mg_2 n f h 0 = mg_1 n f h 8 := by unfold mg_2; exact fd_0
theorem mg_3_0 {n f : Nat} {h : Hp} : mg_3 n f h 0 = mg_2 n f h 10 := by unfold mg_3; exact fd_0
theorem mg_4_0 {n f : Nat} {h : Hp} : mg_4 n f h 0 = mg_3 n f h n := by unfold mg_4; exact fd_0
theorem mg_P_0 {n f j : Nat} {h : Hp} {s : Int64} : mg_P n f h j s 0 = s := by unfold mg_P; exact fd_0
theorem mg_F_0 {j : Nat} {h : Hp} {s : Int64} : mg_F h j s 0 = s := by unfold mg_F; exact fd_0
theorem mg_1_s {n f j : Nat} {h : Hp} : mg_1 n f h (j + 1) = mg_1 n f h j * 31 + (m_cnV n f h j).toInt64 := by unfold mg_1; rw [fd_s]; unfold dgS; exact Eq.refl _
theorem mg_2_s {n f j : Nat} {h : Hp} : mg_2 n f h (j + 1) = mg_2 n f h j * 31 + (m_wt h j).toInt64 := by unfold mg_2; rw [fd_s]; unfold dgS; exact Eq.refl _
theorem mg_P_s {n f i j : Nat} {h : Hp} {s : Int64} : mg_P n f h i s (j + 1) = mg_P n f h i s j * 31 + (m_pondV n f h (nI i) j).toInt64 := by unfold mg_P; rw [fd_s]; unfold dgS; exact Eq.refl _
theorem mg_F_s {i j : Nat} {h : Hp} {s : Int64} : mg_F h i s (j + 1) = mg_F h i s j * 31 + (m_flV h (nI i) j).toInt64 := by unfold mg_F; rw [fd_s]; unfold dgS; exact Eq.refl _
theorem mg_3_s {n f j : Nat} {h : Hp} : mg_3 n f h (j + 1) = mg_P n f h j (mg_3 n f h j) 12 := by unfold mg_3; rw [fd_s]
theorem mg_4_s {n f j : Nat} {h : Hp} : mg_4 n f h (j + 1) = mg_F h j (mg_4 n f h j) 6 := by unfold mg_4; rw [fd_s]
