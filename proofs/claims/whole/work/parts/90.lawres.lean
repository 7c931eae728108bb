/-! what the law sees of a call: the wrapper's number, the reference's answer, the picture behind both -/
theorem REL.row70 {d n f : Nat} {c m : Hp} {v w : Int32} (hd : d = 1) (hn : n ≤ 10) (hf : f ≤ 6) (R : REL d n f c m) : REL d n f (s70 c v) (s70 m w) := by
  obtain ⟨r1, r2, r3, r4, r5⟩ := R
  subst hd
  refine ⟨fun j k hj hk => ?_, fun j k hj hk => ?_, fun j k hj hk => ?_, fun j k hj hk => ?_, ?_⟩
  · rw [sr_lo (by omega), sr_65]; exact r1 j k hj hk
  · rw [sr_lo (by omega), sr_67]; exact r2 j k hj hk
  · rw [sr_lo (by omega), sr_68]; exact r3 j k hj hk
  · rw [sr_lo (by omega), sr_66]; exact r4 j k hj hk
  · rw [sr_lo (by omega), sr_69]; exact r5
theorem TOP.row70 {n f t q : Nat} {h : Hp} (w : Int32) (T : TOP n f t q h) : TOP n f t q (s70 h w) := by
  obtain ⟨S, K, M, hf, ht, hq, hc, hm, F⟩ := T
  have hn := K.2.1
  have hlo : ∀ o, o < 32 → s70 h w o = h o := fun o ho => sr_lo (by omega)
  have S1 : SIM 1 n f (s70 h w) h := S.ccongr hn hf hlo
  refine ⟨⟨?_, S1.2⟩, K.lo hlo, ?_, hf, by rw [hlo 1 (by omega)]; exact ht, hq, by rw [hlo 1 (by omega)]; exact hc, by rw [sr_69]; exact hm, fun j h1 h2 => ?_⟩
  · exact S.1.row70 rfl hn hf
  · obtain ⟨a1, a2, a3, a4, a5, a6⟩ := M
    exact ⟨by rw [sr_64]; exact a1, a2, by rw [sr_64]; exact a3, a4, fun j hj => by rw [sr_67]; exact a5 j hj, fun j hj => by rw [sr_68]; exact a6 j hj⟩
  · rw [hlo _ (by omega), sr_67]
    exact F j h1 h2
def PT (T : Nat) (z : Hp) : Prop := ∃ n f t q, TOP n f t q z ∧ t ≤ T
theorem PT.row70 {T : Nat} {z : Hp} (w : Int32) (h : PT T z) : PT T (s70 z w) := by
  obtain ⟨n, f, t, q, a, b⟩ := h
  exact ⟨n, f, t, q, a.row70 w, b⟩
theorem PT.mono {T T2 : Nat} {z : Hp} (h : PT T z) (hT : T ≤ T2) : PT T2 z := by
  obtain ⟨n, f, t, q, a, b⟩ := h
  exact ⟨n, f, t, q, a, by omega⟩
theorem s_m_ch {h : Hp} {w : Int32} : ∀ (k : Nat) (x : Int32), m_ch h k x → m_ch (s70 h w) k x
  | 0, _, z => z
  | k + 1, _, z => z.elim Or.inl (fun y => Or.inr (by rw [s_m_po]; exact s_m_ch k _ y))
/-- what a call of the reference needs -/
def MOK (n f t : Nat) (z : Hp) : Prop := OM n f z ∧ z 69 0 = nI t ∧ HCh n (y0 z)
theorem mok_top {n f t q : Nat} {z : Hp} (T : TOP n f t q z) : MOK n f t z := by
  have T0 := top_y0 T
  refine ⟨T.2.2.1, ?_, ch_ten T.2.1.2.1 T0.1.1 T0.1.2.2.1⟩
  rw [← T.1.1.2.2.2.2]
  exact T.2.2.2.2.1
theorem mok_same {n f t q : Nat} {h z : Hp} (T : TOP n f t q h) (hz : ∀ o, 64 ≤ o → z o = h o) : MOK n f t z := by
  obtain ⟨a1, a2, a3⟩ := mok_top T
  have S0 : SIM 1 n f h (y0 z) := T.1.mcongr (fun o ho => by rw [y0_ne (by omega)]; exact hz o (by omega))
  refine ⟨a1.mcg (fun o ho => hz o (by omega)) (by rw [hz 64 (by omega)]) (by rw [hz 64 (by omega)]), by rw [hz 69 (by omega)]; exact a2, ch_ten T.2.1.2.1 S0.1 S0.2.2.1⟩
theorem mok_s70 {n f t : Nat} {z : Hp} (w : Int32) (M : MOK n f t z) : MOK n f t (s70 z w) := by
  obtain ⟨⟨a1, a2, a3, a4, a5, a6⟩, b, c⟩ := M
  refine ⟨⟨by rw [sr_64]; exact a1, a2, by rw [sr_64]; exact a3, a4, fun j hj => by rw [sr_67]; exact a5 j hj, fun j hj => by rw [sr_68]; exact a6 j hj⟩, by rw [sr_69]; exact b, fun j hj => ?_⟩
  rw [s_y0, s_m_po]
  exact s_m_ch 10 _ (c j hj)
def RESV (ks : List (String × Int32)) (X : RS) (h : Hp) (Y : Hp → Int32 × Hp) (n f t T : Nat) : Prop := ∃ v h2, LR ks X h v h2 ∧ MOK n f t h2 ∧ (Y h2).2 64 0 = v ∧ (v = 0 → (Y h2).2 70 0 = (Y h2).1) ∧ PT T (Y h2).2
def RESB (ks : List (String × Int32)) (X : RS) (h : Hp) (Y : Hp → Int32 × Hp) (n f t T : Nat) : Prop := ∃ v h2, LRb ks X h v h2 ∧ MOK n f t h2 ∧ (Y h2).2 64 0 = v ∧ (v = 0 → (Y h2).2 70 0 = if (Y h2).1 = 0 then 0 else 1) ∧ PT T (Y h2).2
theorem s70_at {z : Hp} {w : Int32} : s70 z w 70 0 = w := by unfold s70; rw [hp_eq]; unfold upd; rw [if_pos rfl]
theorem resv {ks : List (String × Int32)} {X : RS} {h : Hp} {Y : Hp → Int32 × Hp} {n f t q T : Nat} (T0 : TOP n f t q h) (hT : t ≤ T) (hY : ∀ z w, Y (s70 z w) = ((Y z).1, s70 (Y z).2 w))
    (hR : (∃ w z, X = rI w z ∧ MOK n f t z ∧ (Y z).1 = w ∧ (Y z).2 64 0 = 0 ∧ PT T (Y z).2) ∨ ∃ E k, X = .inr E ∧ (E, k) ∈ ks ∧ ¬ k = 0 ∧ (Y h).2 64 0 = k ∧ PT T (Y h).2) : RESV ks X h Y n f t T := by
  rcases hR with ⟨w, z, e1, e2, e3, e4, e5⟩ | ⟨E, k, e1, e2, e4, e3, e5⟩
  · refine ⟨0, s70 z w, Or.inl ⟨w, z, e1, rfl, rfl⟩, mok_s70 w e2, ?_, fun _ => ?_, ?_⟩
    · rw [hY]
      show s70 (Y z).2 w 64 0 = 0
      rw [sr_64]; exact e4
    · rw [hY]
      show s70 (Y z).2 w 70 0 = (Y z).1
      exact s70_at.trans e3.symm
    · rw [hY]; exact e5.row70 w
  · refine ⟨k, h, Or.inr ⟨E, e1, e2, rfl⟩, mok_top T0, e3, fun z => absurd z e4, e5⟩
theorem resb {ks : List (String × Int32)} {X : RS} {h : Hp} {Y : Hp → Int32 × Hp} {n f t q T : Nat} (T0 : TOP n f t q h) (hT : t ≤ T) (hY : ∀ z w, Y (s70 z w) = ((Y z).1, s70 (Y z).2 w))
    (hR : (∃ w z, X = rI w z ∧ MOK n f t z ∧ (Y z).1 = w ∧ (Y z).2 64 0 = 0 ∧ PT T (Y z).2) ∨ ∃ E k, X = .inr E ∧ (E, k) ∈ ks ∧ ¬ k = 0 ∧ (Y h).2 64 0 = k ∧ PT T (Y h).2) : RESB ks X h Y n f t T := by
  rcases hR with ⟨w, z, e1, e2, e3, e4, e5⟩ | ⟨E, k, e1, e2, e4, e3, e5⟩
  · refine ⟨0, s70 z (if w = 0 then 0 else 1), Or.inl ⟨w, z, e1, rfl, rfl⟩, mok_s70 _ e2, ?_, fun _ => ?_, ?_⟩
    · rw [hY]
      show s70 (Y z).2 (if w = 0 then 0 else 1) 64 0 = 0
      rw [sr_64]; exact e4
    · rw [hY]
      show s70 (Y z).2 (if w = 0 then 0 else 1) 70 0 = if (Y z).1 = 0 then 0 else 1
      rw [e3]; exact s70_at
    · rw [hY]; exact e5.row70 _
  · refine ⟨k, h, Or.inr ⟨E, e1, e2, rfl⟩, mok_top T0, e3, fun z => absurd z e4, e5⟩
theorem pd_lt {n : Nat} {p : Int32} (hn : n ≤ 10) (c : ¬ p < 0 ∧ p < nI n) : pd p < 64 := by
  obtain ⟨j, hj, e⟩ := inN_is (by omega) c
  subst e
  show 1 + 14 + (nI j).toNatClampNeg < 64
  rw [nI_clamp (by omega)]
  omega
theorem yF_pt {n f t q T : Nat} {h : Hp} {P : Int32 × Hp} {k : Int32} (T0 : TOP n f t q h) (hT : t ≤ T) (e : P = yF h k) : P.2 64 0 = k ∧ PT T P.2 := by
  rw [e]
  exact ⟨yF_0, n, f, t, q, top_fail T0, hT⟩
theorem y0_pt {n f t q T : Nat} {z : Hp} {P : Int32 × Hp} {v : Int32} (T0 : TOP n f t q z) (hT : t ≤ T) (e : P = (v, y0 z)) : P.1 = v ∧ P.2 64 0 = 0 ∧ PT T P.2 := by
  rw [e]
  exact ⟨rfl, y0_0 (h := z), n, f, t, q, top_y0 T0, hT⟩
