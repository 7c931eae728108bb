section
-- ===== PART A: goes FIRST, ahead of the names: the tables' words, and 'selects' of the private methods out of them =====
/-- a private method of a class that the tables say can be made, by its rows of tables_1 -/
def lw_okq (q : MethodName × Nat) : Prop := (q.1.cls ≠ "java/lang/invoke/MethodHandle" ∧ q.1.cls ≠ "java/lang/invoke/VarHandle") ∧ Cond.instantiable q.1.cls q.2 ∈ tables_1 ∧ Cond.privateMethod q.1 ∈ tables_1 ∧ Cond.instanceMethod q.1 ∈ tables_1
theorem lw_p0 : lw_okq (⟨"java/lang/Throwable", "fillInStackTrace", "(I)Ljava/lang/Throwable;"⟩, 6) := ⟨⟨by decide +kernel, by decide +kernel⟩, List.mem_of_getElem? (i := 260) (by decide +kernel), List.mem_of_getElem? (i := 258) (by decide +kernel), List.mem_of_getElem? (i := 259) (by decide +kernel)⟩
theorem lw_p1 : lw_okq (⟨"DewPond$Downs", "runsDownTo", "(II)Z"⟩, 8) := ⟨⟨by decide +kernel, by decide +kernel⟩, List.mem_of_getElem? (i := 24) (by decide +kernel), List.mem_of_getElem? (i := 319) (by decide +kernel), List.mem_of_getElem? (i := 320) (by decide +kernel)⟩
theorem lw_p2 : lw_okq (⟨"DewPond$Downs", "isTaken", "(II)Z"⟩, 8) := ⟨⟨by decide +kernel, by decide +kernel⟩, List.mem_of_getElem? (i := 24) (by decide +kernel), List.mem_of_getElem? (i := 385) (by decide +kernel), List.mem_of_getElem? (i := 386) (by decide +kernel)⟩
theorem lw_p3 : lw_okq (⟨"DewPond$Downs", "waterFlocks", "()I"⟩, 8) := ⟨⟨by decide +kernel, by decide +kernel⟩, List.mem_of_getElem? (i := 24) (by decide +kernel), List.mem_of_getElem? (i := 530) (by decide +kernel), List.mem_of_getElem? (i := 531) (by decide +kernel)⟩
theorem lw_p4 : lw_okq (⟨"DewPond$Downs", "nearestWaterFor", "(LDewPond$Flock;)I"⟩, 8) := ⟨⟨by decide +kernel, by decide +kernel⟩, List.mem_of_getElem? (i := 24) (by decide +kernel), List.mem_of_getElem? (i := 534) (by decide +kernel), List.mem_of_getElem? (i := 535) (by decide +kernel)⟩
theorem lw_p5 : lw_okq (⟨"DewPond$Downs", "runOver", "()V"⟩, 8) := ⟨⟨by decide +kernel, by decide +kernel⟩, List.mem_of_getElem? (i := 24) (by decide +kernel), List.mem_of_getElem? (i := 568) (by decide +kernel), List.mem_of_getElem? (i := 569) (by decide +kernel)⟩
theorem lw_p6 : lw_okq (⟨"DewPond$Downs", "rotStraw", "()V"⟩, 8) := ⟨⟨by decide +kernel, by decide +kernel⟩, List.mem_of_getElem? (i := 24) (by decide +kernel), List.mem_of_getElem? (i := 576) (by decide +kernel), List.mem_of_getElem? (i := 577) (by decide +kernel)⟩
theorem lw_p7 : lw_okq (⟨"DewPond", "canKeep", "(III)Z"⟩, 2) := ⟨⟨by decide +kernel, by decide +kernel⟩, List.mem_of_getElem? (i := 16) (by decide +kernel), List.mem_of_getElem? (i := 624) (by decide +kernel), List.mem_of_getElem? (i := 625) (by decide +kernel)⟩
theorem lw_p8 : lw_okq (⟨"DewPond", "waterBehind", "(II)I"⟩, 2) := ⟨⟨by decide +kernel, by decide +kernel⟩, List.mem_of_getElem? (i := 16) (by decide +kernel), List.mem_of_getElem? (i := 635) (by decide +kernel), List.mem_of_getElem? (i := 636) (by decide +kernel)⟩
theorem lw_p9 : lw_okq (⟨"DewPondModel", "fail", "(I)I"⟩, 8) := ⟨⟨by decide +kernel, by decide +kernel⟩, List.mem_of_getElem? (i := 639) (by decide +kernel), List.mem_of_getElem? (i := 681) (by decide +kernel), List.mem_of_getElem? (i := 682) (by decide +kernel)⟩
theorem lw_p10 : lw_okq (⟨"DewPondModel", "fx", "(II)I"⟩, 8) := ⟨⟨by decide +kernel, by decide +kernel⟩, List.mem_of_getElem? (i := 639) (by decide +kernel), List.mem_of_getElem? (i := 685) (by decide +kernel), List.mem_of_getElem? (i := 686) (by decide +kernel)⟩
theorem lw_p11 : lw_okq (⟨"DewPondModel", "set", "(III)V"⟩, 8) := ⟨⟨by decide +kernel, by decide +kernel⟩, List.mem_of_getElem? (i := 639) (by decide +kernel), List.mem_of_getElem? (i := 692) (by decide +kernel), List.mem_of_getElem? (i := 693) (by decide +kernel)⟩
theorem lw_p12 : lw_okq (⟨"DewPondModel", "isPond", "(I)Z"⟩, 8) := ⟨⟨by decide +kernel, by decide +kernel⟩, List.mem_of_getElem? (i := 639) (by decide +kernel), List.mem_of_getElem? (i := 700) (by decide +kernel), List.mem_of_getElem? (i := 701) (by decide +kernel)⟩
theorem lw_p13 : lw_okq (⟨"DewPondModel", "po", "(II)I"⟩, 8) := ⟨⟨by decide +kernel, by decide +kernel⟩, List.mem_of_getElem? (i := 639) (by decide +kernel), List.mem_of_getElem? (i := 704) (by decide +kernel), List.mem_of_getElem? (i := 705) (by decide +kernel)⟩
theorem lw_p14 : lw_okq (⟨"DewPondModel", "isLow", "(I)Z"⟩, 8) := ⟨⟨by decide +kernel, by decide +kernel⟩, List.mem_of_getElem? (i := 639) (by decide +kernel), List.mem_of_getElem? (i := 712) (by decide +kernel), List.mem_of_getElem? (i := 713) (by decide +kernel)⟩
theorem lw_p15 : lw_okq (⟨"DewPondModel", "holds", "(I)I"⟩, 8) := ⟨⟨by decide +kernel, by decide +kernel⟩, List.mem_of_getElem? (i := 639) (by decide +kernel), List.mem_of_getElem? (i := 716) (by decide +kernel), List.mem_of_getElem? (i := 717) (by decide +kernel)⟩
def lw_privs_1 : List (MethodName × Nat) := [(⟨"java/lang/Throwable", "fillInStackTrace", "(I)Ljava/lang/Throwable;"⟩, 6), (⟨"DewPond$Downs", "runsDownTo", "(II)Z"⟩, 8), (⟨"DewPond$Downs", "isTaken", "(II)Z"⟩, 8), (⟨"DewPond$Downs", "waterFlocks", "()I"⟩, 8), (⟨"DewPond$Downs", "nearestWaterFor", "(LDewPond$Flock;)I"⟩, 8), (⟨"DewPond$Downs", "runOver", "()V"⟩, 8), (⟨"DewPond$Downs", "rotStraw", "()V"⟩, 8), (⟨"DewPond", "canKeep", "(III)Z"⟩, 2), (⟨"DewPond", "waterBehind", "(II)I"⟩, 2), (⟨"DewPondModel", "fail", "(I)I"⟩, 8), (⟨"DewPondModel", "fx", "(II)I"⟩, 8), (⟨"DewPondModel", "set", "(III)V"⟩, 8), (⟨"DewPondModel", "isPond", "(I)Z"⟩, 8), (⟨"DewPondModel", "po", "(II)I"⟩, 8), (⟨"DewPondModel", "isLow", "(I)Z"⟩, 8), (⟨"DewPondModel", "holds", "(I)I"⟩, 8)]
theorem lw_r1 : ∀ q ∈ lw_privs_1, lw_okq q := List.forall_mem_cons.mpr ⟨lw_p0, List.forall_mem_cons.mpr ⟨lw_p1, List.forall_mem_cons.mpr ⟨lw_p2, List.forall_mem_cons.mpr ⟨lw_p3, List.forall_mem_cons.mpr ⟨lw_p4, List.forall_mem_cons.mpr ⟨lw_p5, List.forall_mem_cons.mpr ⟨lw_p6, List.forall_mem_cons.mpr ⟨lw_p7, List.forall_mem_cons.mpr ⟨lw_p8, List.forall_mem_cons.mpr ⟨lw_p9, List.forall_mem_cons.mpr ⟨lw_p10, List.forall_mem_cons.mpr ⟨lw_p11, List.forall_mem_cons.mpr ⟨lw_p12, List.forall_mem_cons.mpr ⟨lw_p13, List.forall_mem_cons.mpr ⟨lw_p14, List.forall_mem_cons.mpr ⟨lw_p15, fun _ h => absurd h List.not_mem_nil⟩⟩⟩⟩⟩⟩⟩⟩⟩⟩⟩⟩⟩⟩⟩⟩
theorem lw_p16 : lw_okq (⟨"DewPondModel", "use", "(II)I"⟩, 8) := ⟨⟨by decide +kernel, by decide +kernel⟩, List.mem_of_getElem? (i := 639) (by decide +kernel), List.mem_of_getElem? (i := 720) (by decide +kernel), List.mem_of_getElem? (i := 721) (by decide +kernel)⟩
theorem lw_p17 : lw_okq (⟨"DewPondModel", "pondTold", "(II)I"⟩, 8) := ⟨⟨by decide +kernel, by decide +kernel⟩, List.mem_of_getElem? (i := 639) (by decide +kernel), List.mem_of_getElem? (i := 738) (by decide +kernel), List.mem_of_getElem? (i := 739) (by decide +kernel)⟩
theorem lw_p18 : lw_okq (⟨"DewPondModel", "flocksAt", "(I)I"⟩, 8) := ⟨⟨by decide +kernel, by decide +kernel⟩, List.mem_of_getElem? (i := 639) (by decide +kernel), List.mem_of_getElem? (i := 742) (by decide +kernel), List.mem_of_getElem? (i := 743) (by decide +kernel)⟩
theorem lw_p19 : lw_okq (⟨"DewPondModel", "fl", "(II)I"⟩, 8) := ⟨⟨by decide +kernel, by decide +kernel⟩, List.mem_of_getElem? (i := 639) (by decide +kernel), List.mem_of_getElem? (i := 746) (by decide +kernel), List.mem_of_getElem? (i := 747) (by decide +kernel)⟩
theorem lw_p20 : lw_okq (⟨"DewPondModel", "isLost", "(I)Z"⟩, 8) := ⟨⟨by decide +kernel, by decide +kernel⟩, List.mem_of_getElem? (i := 639) (by decide +kernel), List.mem_of_getElem? (i := 750) (by decide +kernel), List.mem_of_getElem? (i := 751) (by decide +kernel)⟩
theorem lw_p21 : lw_okq (⟨"DewPondModel", "above", "(I)I"⟩, 8) := ⟨⟨by decide +kernel, by decide +kernel⟩, List.mem_of_getElem? (i := 639) (by decide +kernel), List.mem_of_getElem? (i := 754) (by decide +kernel), List.mem_of_getElem? (i := 755) (by decide +kernel)⟩
theorem lw_p22 : lw_okq (⟨"DewPondModel", "weatherTold", "(I)I"⟩, 8) := ⟨⟨by decide +kernel, by decide +kernel⟩, List.mem_of_getElem? (i := 639) (by decide +kernel), List.mem_of_getElem? (i := 762) (by decide +kernel), List.mem_of_getElem? (i := 763) (by decide +kernel)⟩
theorem lw_p23 : lw_okq (⟨"DewPondModel", "putFlock", "(II)V"⟩, 8) := ⟨⟨by decide +kernel, by decide +kernel⟩, List.mem_of_getElem? (i := 639) (by decide +kernel), List.mem_of_getElem? (i := 774) (by decide +kernel), List.mem_of_getElem? (i := 775) (by decide +kernel)⟩
theorem lw_p24 : lw_okq (⟨"DewPondModel", "isFlock", "(I)Z"⟩, 8) := ⟨⟨by decide +kernel, by decide +kernel⟩, List.mem_of_getElem? (i := 639) (by decide +kernel), List.mem_of_getElem? (i := 782) (by decide +kernel), List.mem_of_getElem? (i := 783) (by decide +kernel)⟩
theorem lw_p25 : lw_okq (⟨"DewPondModel", "far", "(II)I"⟩, 8) := ⟨⟨by decide +kernel, by decide +kernel⟩, List.mem_of_getElem? (i := 639) (by decide +kernel), List.mem_of_getElem? (i := 786) (by decide +kernel), List.mem_of_getElem? (i := 787) (by decide +kernel)⟩
theorem lw_p26 : lw_okq (⟨"DewPondModel", "setFl", "(III)V"⟩, 8) := ⟨⟨by decide +kernel, by decide +kernel⟩, List.mem_of_getElem? (i := 639) (by decide +kernel), List.mem_of_getElem? (i := 791) (by decide +kernel), List.mem_of_getElem? (i := 792) (by decide +kernel)⟩
theorem lw_p27 : lw_okq (⟨"DewPondModel", "flockTold", "(II)I"⟩, 8) := ⟨⟨by decide +kernel, by decide +kernel⟩, List.mem_of_getElem? (i := 639) (by decide +kernel), List.mem_of_getElem? (i := 803) (by decide +kernel), List.mem_of_getElem? (i := 804) (by decide +kernel)⟩
theorem lw_p28 : lw_okq (⟨"DewPondModel", "dayOn", "()I"⟩, 8) := ⟨⟨by decide +kernel, by decide +kernel⟩, List.mem_of_getElem? (i := 639) (by decide +kernel), List.mem_of_getElem? (i := 811) (by decide +kernel), List.mem_of_getElem? (i := 812) (by decide +kernel)⟩
theorem lw_p29 : lw_okq (⟨"DewPondModel", "change", "(II)V"⟩, 8) := ⟨⟨by decide +kernel, by decide +kernel⟩, List.mem_of_getElem? (i := 639) (by decide +kernel), List.mem_of_getElem? (i := 815) (by decide +kernel), List.mem_of_getElem? (i := 816) (by decide +kernel)⟩
theorem lw_p30 : lw_okq (⟨"DewPondModel", "drink", "(I)I"⟩, 8) := ⟨⟨by decide +kernel, by decide +kernel⟩, List.mem_of_getElem? (i := 639) (by decide +kernel), List.mem_of_getElem? (i := 819) (by decide +kernel), List.mem_of_getElem? (i := 820) (by decide +kernel)⟩
theorem lw_p31 : lw_okq (⟨"DewPondModel", "roam", "(I)V"⟩, 8) := ⟨⟨by decide +kernel, by decide +kernel⟩, List.mem_of_getElem? (i := 639) (by decide +kernel), List.mem_of_getElem? (i := 823) (by decide +kernel), List.mem_of_getElem? (i := 824) (by decide +kernel)⟩
def lw_privs_2 : List (MethodName × Nat) := [(⟨"DewPondModel", "use", "(II)I"⟩, 8), (⟨"DewPondModel", "pondTold", "(II)I"⟩, 8), (⟨"DewPondModel", "flocksAt", "(I)I"⟩, 8), (⟨"DewPondModel", "fl", "(II)I"⟩, 8), (⟨"DewPondModel", "isLost", "(I)Z"⟩, 8), (⟨"DewPondModel", "above", "(I)I"⟩, 8), (⟨"DewPondModel", "weatherTold", "(I)I"⟩, 8), (⟨"DewPondModel", "putFlock", "(II)V"⟩, 8), (⟨"DewPondModel", "isFlock", "(I)Z"⟩, 8), (⟨"DewPondModel", "far", "(II)I"⟩, 8), (⟨"DewPondModel", "setFl", "(III)V"⟩, 8), (⟨"DewPondModel", "flockTold", "(II)I"⟩, 8), (⟨"DewPondModel", "dayOn", "()I"⟩, 8), (⟨"DewPondModel", "change", "(II)V"⟩, 8), (⟨"DewPondModel", "drink", "(I)I"⟩, 8), (⟨"DewPondModel", "roam", "(I)V"⟩, 8)]
theorem lw_r2 : ∀ q ∈ lw_privs_2, lw_okq q := List.forall_mem_cons.mpr ⟨lw_p16, List.forall_mem_cons.mpr ⟨lw_p17, List.forall_mem_cons.mpr ⟨lw_p18, List.forall_mem_cons.mpr ⟨lw_p19, List.forall_mem_cons.mpr ⟨lw_p20, List.forall_mem_cons.mpr ⟨lw_p21, List.forall_mem_cons.mpr ⟨lw_p22, List.forall_mem_cons.mpr ⟨lw_p23, List.forall_mem_cons.mpr ⟨lw_p24, List.forall_mem_cons.mpr ⟨lw_p25, List.forall_mem_cons.mpr ⟨lw_p26, List.forall_mem_cons.mpr ⟨lw_p27, List.forall_mem_cons.mpr ⟨lw_p28, List.forall_mem_cons.mpr ⟨lw_p29, List.forall_mem_cons.mpr ⟨lw_p30, List.forall_mem_cons.mpr ⟨lw_p31, fun _ h => absurd h List.not_mem_nil⟩⟩⟩⟩⟩⟩⟩⟩⟩⟩⟩⟩⟩⟩⟩⟩
theorem lw_p32 : lw_okq (⟨"DewPondModel", "runOver", "()V"⟩, 8) := ⟨⟨by decide +kernel, by decide +kernel⟩, List.mem_of_getElem? (i := 639) (by decide +kernel), List.mem_of_getElem? (i := 827) (by decide +kernel), List.mem_of_getElem? (i := 828) (by decide +kernel)⟩
theorem lw_p33 : lw_okq (⟨"DewPondModel", "counted", "(I)I"⟩, 8) := ⟨⟨by decide +kernel, by decide +kernel⟩, List.mem_of_getElem? (i := 639) (by decide +kernel), List.mem_of_getElem? (i := 835) (by decide +kernel), List.mem_of_getElem? (i := 836) (by decide +kernel)⟩
theorem lw_p34 : lw_okq (⟨"DewPondModel", "allWater", "()I"⟩, 8) := ⟨⟨by decide +kernel, by decide +kernel⟩, List.mem_of_getElem? (i := 639) (by decide +kernel), List.mem_of_getElem? (i := 839) (by decide +kernel), List.mem_of_getElem? (i := 840) (by decide +kernel)⟩
theorem lw_p35 : lw_okq (⟨"DewPondModel", "kept", "()[[I"⟩, 8) := ⟨⟨by decide +kernel, by decide +kernel⟩, List.mem_of_getElem? (i := 639) (by decide +kernel), List.mem_of_getElem? (i := 847) (by decide +kernel), List.mem_of_getElem? (i := 848) (by decide +kernel)⟩
theorem lw_p36 : lw_okq (⟨"DewPondModel", "bringBack", "([[I)V"⟩, 8) := ⟨⟨by decide +kernel, by decide +kernel⟩, List.mem_of_getElem? (i := 639) (by decide +kernel), List.mem_of_getElem? (i := 859) (by decide +kernel), List.mem_of_getElem? (i := 860) (by decide +kernel)⟩
theorem lw_p37 : lw_okq (⟨"DewPondModel", "waterBy", "(I)I"⟩, 8) := ⟨⟨by decide +kernel, by decide +kernel⟩, List.mem_of_getElem? (i := 639) (by decide +kernel), List.mem_of_getElem? (i := 875) (by decide +kernel), List.mem_of_getElem? (i := 876) (by decide +kernel)⟩
def lw_privs_3 : List (MethodName × Nat) := [(⟨"DewPondModel", "runOver", "()V"⟩, 8), (⟨"DewPondModel", "counted", "(I)I"⟩, 8), (⟨"DewPondModel", "allWater", "()I"⟩, 8), (⟨"DewPondModel", "kept", "()[[I"⟩, 8), (⟨"DewPondModel", "bringBack", "([[I)V"⟩, 8), (⟨"DewPondModel", "waterBy", "(I)I"⟩, 8)]
theorem lw_r3 : ∀ q ∈ lw_privs_3, lw_okq q := List.forall_mem_cons.mpr ⟨lw_p32, List.forall_mem_cons.mpr ⟨lw_p33, List.forall_mem_cons.mpr ⟨lw_p34, List.forall_mem_cons.mpr ⟨lw_p35, List.forall_mem_cons.mpr ⟨lw_p36, List.forall_mem_cons.mpr ⟨lw_p37, fun _ h => absurd h List.not_mem_nil⟩⟩⟩⟩⟩⟩
def lw_privs : List (MethodName × Nat) := lw_privs_1 ++ (lw_privs_2 ++ (lw_privs_3))
def lw_tbl : List Cond := k2_sels lw_privs ++ tables_1
theorem lw_privs_ok : ∀ q ∈ lw_privs, lw_okq q := by
  show ∀ q ∈ lw_privs_1 ++ (lw_privs_2 ++ (lw_privs_3)), lw_okq q
  exact List.forall_mem_append.mpr ⟨lw_r1, List.forall_mem_append.mpr ⟨lw_r2, lw_r3⟩⟩
/-- the streams that the claim lets the run draw from -/
abbrev lw_cs : List Choice := [Jvm.Choice.named "NaN.bits"]
theorem lw_bits : nanBits ∈ lw_cs := by first | decide | exact List.mem_cons_self | simp [lw_cs, nanBits]
-- ===== end of PART A; then your names; then what follows =====
/-! ===== BEGIN words of one list among another's, by their places ===== -/
theorem goodIn_r {big : List Cond} (ws : List Cond) (ps : List Nat) (hp : ws = ps.filterMap (fun i => big[i]?)) (h : ws.all goodWord = true) : GoodIn big ws := by
  intro w hw
  have h1 := List.all_eq_true.mp h w hw
  rw [hp] at hw
  obtain ⟨i, -, hi⟩ := List.mem_filterMap.mp hw
  have hm : w ∈ big := by first | exact List.mem_of_getElem? hi | exact List.getElem?_mem hi
  exact ⟨hm, good_of_word h1⟩
theorem goodIn_app {big a b : List Cond} (ha : GoodIn big a) (hb : GoodIn big b) : GoodIn big (a ++ b) := fun w h => (List.mem_append.mp h).elim (ha w) (hb w)
theorem goodIn_ca {big a b : List Cond} {c : Cond} (ha : GoodIn big (c :: a)) (hb : GoodIn big b) : GoodIn big (c :: (a ++ b)) := fun w h => (List.mem_cons.mp h).elim (fun e => ha w (List.mem_cons.mpr (Or.inl e))) (fun h => (List.mem_append.mp h).elim (fun h => ha w (List.mem_cons.mpr (Or.inr h))) (hb w))
theorem goodIn_sub {big ws : List Cond} (hm : ∀ w ∈ ws, w ∈ big) (h : ws.all goodWord = true) : GoodIn big ws := fun w hw => ⟨hm w hw, good_of_word (List.all_eq_true.mp h w hw)⟩
/-! ===== END ===== -/

/-! ===== BEGIN exceptions that leave a method, and their catching by the caller (launches without stack traces) ===== -/
section VXA
/-! The laws vx_back, vx_callV, vx_callS, vx_callSW, vx_throw0, vx_throwS follow proofs of the library, with one case more: JvmDerived/Free/Laws.lean (Back.of_free), Shelf42/LK1.lean (callV, callS), Shelf/KitTraced.lean (throwNew0V, throwNewS). -/
/-- where a method has thrown q: the class by its name, the cell, what was written, the world -/
def vx_T (XC : String → State → State → Prop) (st : State) (q : Addr) (t : State) (mc ms : Nat) (free : Addr → Prop) : Prop :=
  ∃ (E : String) (ce : Cell) (L : List Loc), XC E st t ∧ t.heap[q]? = some ce ∧ ce.vm = .none ∧ st.vm.findClass E = some ce.cls ∧ st.WarmedH t.vm ∧ st.sameButNew ({ t with vm := st.vm } : State) L mc ms ∧ ∀ z ∈ L, free z.base
def vx_Q (Qc : Array Value → State → Outcome → State → Prop) (XC : String → State → State → Prop) (mc ms : Nat) (free : Addr → Prop) : Array Value → State → Outcome → State → Prop := fun a st o t =>
  (Qc a st o t ∧ ∃ L, FrameEnd st o t L mc ms ∧ ∀ q ∈ L, free q.base) ∨ ∃ q, o = .threw q ∧ vx_T XC st q t mc ms free
/-- a callee that returns or throws -/
def vx_Met (l : Launch) (y : MethodName) (ws : List Cond) (rm : Room) (Pc : Array Value → State → Prop) (Qc : Array Value → State → Outcome → State → Prop) (XC : String → State → State → Prop) (mc ms : Nat) (free : Addr → Prop) : Prop :=
  MetFree l y (headSpec ws rm) Pc (fun _ _ _ _ _ => True) (vx_Q Qc XC mc ms free)
def vx_Post (XC : String → State → State → Prop) (mc ms : Nat) (free : Addr → Prop) : Pt → Array Value → Addr → Pt → Prop := fun A a q B =>
  ∃ (g : JFrame) (mk : MethodId) (t : State) (L : List Loc) (E : String) (ce : Cell), B.U.heap = t.heap ∧ B.U.vm = t.vm ∧ XC E (A.U.calling g mk a) t ∧ t.heap[q]? = some ce ∧ ce.vm = .none ∧ A.U.vm.findClass E = some ce.cls ∧ B.locs = A.locs ++ L ∧ (∀ z ∈ L, free z.base) ∧ B.cells = A.cells + mc ∧ B.slots = A.slots + ms
def vx_Back (l : Launch) (R : Room) (p : Program) (e : Env) (below : List Frame) (s : State) (sargs : Array Value) (y : MethodName) (len W9 : Nat)
    (Pre : Pt → Array Value → Prop) (Post : Pt → Array Value → Option Value → Pt → Prop) (PostX : Pt → Array Value → Addr → Pt → Prop) : Prop :=
  ∀ (m : MethodId) (meth : Method) (c : Code) (A : Pt) (g : JFrame) (ig : Instr) (mk : MethodId) (a : Array Value),
    Stand p l e R s m sargs below meth c A.U A.locs A.cells A.slots → g.method = m → g.locals.size = c.maxLocals → decode c.code g.pc = .ok (ig, len) →
    2 * g.monitorRoom + (g.stack.map fun v => v.category).sum ≤ W9 → A.U.methodNamed? y = some mk → Pre A a →
    (∃ (v : Option Value) (B : Pt), Stand p l e R s m sargs below meth c B.U B.locs B.cells B.slots ∧ Post A a v B ∧
      Steps p.tables e below (doInvoke e (A.U.setTop g) [] mk a).1 (B.U.setTop { g with pc := g.pc + len, stack := v.toList ++ g.stack })) ∨
    (∃ (q : Addr) (B : Pt), Stand p l e R s m sargs below meth c B.U B.locs B.cells B.slots ∧ PostX A a q B ∧
      Steps p.tables e below (doInvoke e (A.U.setTop g) [] mk a).1 ((B.U.setTop g).pushFrame (.throwing q)))
section Payer
variable {l : Launch} {R : Room} {p : Program} {e : Env} {below : List Frame} {s : State} {sargs : Array Value} {y : MethodName} {len W9 : Nat}
theorem vx_back {ws : List Cond} {rm : Room} {Pc : Array Value → State → Prop} {Qc : Array Value → State → Outcome → State → Prop} {XC : String → State → State → Prop} {mc ms : Nat} {free : Addr → Prop} {bytes : ByteArray} {maxL : Nat} {ret : Option FieldType}
    (hM : vx_Met l y ws rm Pc Qc XC mc ms free) (hblind : FrameBlind Pc) (hrc : rm.cells = mc) (hrs : rm.slots = ms)
    (hframes : rm.frames + 1 ≤ R.frames) (hlocals : W9 + (maxL + 11) + rm.locals ≤ R.locals)
    (hws : ∀ w ∈ ws, ∀ a' U, s.WarmedH U.vm → w.before a' U = true) (hcode : Cond.code y bytes maxL ret ∈ ws) (hinit : ∀ a' U, s.WarmedH U.vm → (Cond.initialized y.cls).before a' U = true) :
    vx_Back l R p e below s sargs y len W9 (PreOf R mc ms Pc) (PostOf Qc mc ms free) (vx_Post XC mc ms free) := by
  intro m meth c A g ig mk a X hg hsize hdg hW hn hp
  have h1 : (headSpec ws rm).pre.before a A.U = true := atoms_intro fun w hw => hws w hw _ _ X.warmed
  have h2 : (Cond.code y bytes maxL ret).before a A.U = true := hws _ hcode _ _ X.warmed
  have h3 : (Cond.initialized y.cls).before a A.U = true := hinit _ _ X.warmed
  have h4 : A.cells + (headSpec ws rm).room.cells ≤ R.cells := by rw [show (headSpec ws rm).room.cells = mc from hrc]; exact hp.1
  have h5 : A.slots + (headSpec ws rm).room.slots ≤ R.slots := by rw [show (headSpec ws rm).room.slots = ms from hrs]; exact hp.2.1
  have hPc : Pc a (A.U.calling g mk a) := hblind _ _ _ _ hp.2.2
  obtain ⟨U, Ls, c0, s0⟩ := A
  dsimp only [Pt.U, Pt.locs, Pt.cells, Pt.slots] at h1 h2 h3 h4 h5 X hn hPc ⊢
  obtain ⟨methY, cY, hmY, hcY, -, hlY, -, -, -, -⟩ := Cond.code_spec hn h2
  obtain ⟨kY, hkY, -⟩ := className_of_methodNamed hn
  have hinitY : kY.init = .initialized := Cond.initialized_spec (findClass_of_methodNamed hn) hkY h3
  have h : At U g.method c below := by rw [hg]; exact X.here
  have hlocals9 : W9 + (maxL + 11) + (headSpec ws rm).room.locals ≤ R.locals := hlocals
  have happ : (headSpec ws rm).appliesLoose y e.platform (U.calling g mk a) = true :=
    Spec.appliesLoose_calling (g := g) h hdg hn hkY hinitY
      (X.room_calling (g := g) (R' := (headSpec ws rm).room) hsize hmY hcY hframes (by rw [hlY]; omega) h4 h5) h1
  obtain ⟨mid, hmid⟩ := h.above
  have hfr : (U.setTop g).frames = (.java g :: mid) ++ below := by rw [State.frames_setTop' g h.top, hmid]; rfl
  obtain ⟨o, s₂, hsteps, -, hend, hq⟩ := Steps.callFree hM p X.admits X.cas X.clock (acts := []) hfr happ hPc trivial
  have hq' : vx_Q Qc XC mc ms free a (U.calling g mk a) o s₂ := hq
  rw [State.frames_setTop' g h.top] at hend
  obtain ⟨g₀, hg0⟩ := Option.isSome_iff_exists.mp h.top
  obtain ⟨r, hr⟩ := State.topJava?_eq_some.mp hg0
  have hr' : (({ U with heap := s₂.heap, slotsUsed := s₂.slotsUsed } : State).setVm s₂.vm).frames = .java g₀ :: r := hr
  rcases hq' with ⟨hqc, L, hfe, hL⟩ | ⟨q, rfl, E, ce, L, hx, hce, hcv, hcl, hW₂, hsm, hL⟩
  · obtain ⟨⟨v, rfl⟩, hW₂, e2, q2, q3, q4, q5, q6⟩ := id hfe
    have e3 : s₂ = ({ (U.calling g mk a).setFrames s₂.frames with heap := s₂.heap, slotsUsed := s₂.slotsUsed } : State).setVm s₂.vm := by
      have : s₂ = ({ s₂ with vm := (U.calling g mk a).vm } : State).setVm s₂.vm := rfl
      rw [e2] at this
      exact this
    obtain ⟨c₂, i₂, len₂, hc₂, hd₂, hf₂⟩ := hend
    have hW' : U.WarmedH s₂.vm := hW₂
    have hcc : c₂ = c := by
      have h1 : s₂.code? g.method = U.code? g.method := by
        rw [State.code?_eq, State.code?_eq, hW'.alike.method?]
      exact Option.some.inj (hc₂.symm.trans (h1.trans h.code))
    subst hcc
    have hlen : len₂ = len := by rw [hdg] at hd₂; cases hd₂; rfl
    subst hlen
    have hs₂ : s₂ = (({ U with heap := s₂.heap, slotsUsed := s₂.slotsUsed } : State).setVm s₂.vm).setTop { g with pc := g.pc + len₂, stack := v.toList ++ g.stack } := by
      refine e3.trans ?_
      rw [hf₂, State.calling_eq h.top, State.setFrames_setFrames, State.setTop_of_frames _ hr', hr]
      rfl
    have hsame : U.sameButNew ({ U with heap := s₂.heap, slotsUsed := s₂.slotsUsed } : State) L mc ms := by
      refine ⟨?_, q2, q3, q4, q5, q6⟩
      obtain ⟨t, ht, -⟩ := State.frames_cons hr
      show ({ U with heap := s₂.heap, slotsUsed := s₂.slotsUsed } : State) = { U.setFrames U.frames with heap := s₂.heap, slotsUsed := s₂.slotsUsed }
      rw [State.setFrames_self ht]
    subst hg
    refine Or.inl ⟨v, ⟨(({ U with heap := s₂.heap, slotsUsed := s₂.slotsUsed } : State).setVm s₂.vm), Ls ++ L, c0 + mc, s0 + ms⟩,
      ⟨X.admits, X.cas, X.clock, X.frames, X.room, X.hears, X.method, X.code, (X.here.setHeapUsed s₂.heap s₂.slotsUsed).setVm hW'.alike, X.tail, State.WarmedH.trans X.warmed hW', X.limits, X.bytes, X.same.trans (hsame.setVm s.vm)⟩,
      ⟨g, mk, s₂, L, rfl, rfl, hqc, rfl, hL, rfl, rfl⟩, ?_⟩
    show Steps p.tables e below _ ((({ U with heap := s₂.heap, slotsUsed := s₂.slotsUsed } : State).setVm s₂.vm).setTop { g with pc := g.pc + len₂, stack := v.toList ++ g.stack })
    rw [← hs₂]
    exact hsteps
  · obtain ⟨e2, q2, q3, q4, q5, q6⟩ := id hsm
    have e3 : s₂ = ({ (U.calling g mk a).setFrames s₂.frames with heap := s₂.heap, slotsUsed := s₂.slotsUsed } : State).setVm s₂.vm := by
      have : s₂ = ({ s₂ with vm := (U.calling g mk a).vm } : State).setVm s₂.vm := rfl
      rw [e2] at this
      exact this
    have hf₂ : s₂.frames = .throwing q :: .java g :: U.frames.tail := hend
    have hW' : U.WarmedH s₂.vm := hW₂
    have hs₂ : s₂ = ((({ U with heap := s₂.heap, slotsUsed := s₂.slotsUsed } : State).setVm s₂.vm).setTop g).pushFrame (.throwing q) := by
      refine e3.trans ?_
      rw [hf₂, State.calling_eq h.top, State.setFrames_setFrames, State.pushFrame, State.frames_setTop _ hr', State.setTop_of_frames _ hr', State.setFrames_setFrames, hr]
      rfl
    have hsame : U.sameButNew ({ U with heap := s₂.heap, slotsUsed := s₂.slotsUsed } : State) L mc ms := by
      refine ⟨?_, q2, q3, q4, q5, q6⟩
      obtain ⟨t, ht, -⟩ := State.frames_cons hr
      show ({ U with heap := s₂.heap, slotsUsed := s₂.slotsUsed } : State) = { U.setFrames U.frames with heap := s₂.heap, slotsUsed := s₂.slotsUsed }
      rw [State.setFrames_self ht]
    subst hg
    refine Or.inr ⟨q, ⟨(({ U with heap := s₂.heap, slotsUsed := s₂.slotsUsed } : State).setVm s₂.vm), Ls ++ L, c0 + mc, s0 + ms⟩,
      ⟨X.admits, X.cas, X.clock, X.frames, X.room, X.hears, X.method, X.code, (X.here.setHeapUsed s₂.heap s₂.slotsUsed).setVm hW'.alike, X.tail, State.WarmedH.trans X.warmed hW', X.limits, X.bytes, X.same.trans (hsame.setVm s.vm)⟩,
      ⟨g, mk, s₂, L, E, ce, rfl, rfl, hx, hce, hcv, hcl, rfl, hL, rfl, rfl⟩, ?_⟩
    show Steps p.tables e below _ (((({ U with heap := s₂.heap, slotsUsed := s₂.slotsUsed } : State).setVm s₂.vm).setTop g).pushFrame (.throwing q))
    rw [← hs₂]
    exact hsteps
end Payer
section Calls
variable {p : Program} {l : Launch} {e : Env} {R : Room} {s : State} {m : MethodId} {args : Array Value} {below : List Frame} {meth : Method} {c : Code} {T : State} {locs : List Loc} {cells slots : Nat}
theorem vx_callV (X : Stand p l e R s m args below meth c T locs cells slots) (hexec : p.tables.exec = Jvm.exec) {own C : String} {index : Nat} {y : MethodName} {bytes : ByteArray} {maxL : Nat} {ret : Option FieldType}
    (hown : s.vm.findClass own = some m.cls) (hlink : (Cond.methodLink own index y).before args s = true) (hinst : (Cond.instanceMethod y).before args s = true) (hsel : (Cond.selects C y y).before args s = true)
    (hcode : (Cond.code y bytes maxL ret).before args s = true) (hy : y.cls ≠ "java/lang/invoke/MethodHandle" ∧ y.cls ≠ "java/lang/invoke/VarHandle")
    {W9 : Nat} {Pre : Pt → Array Value → Prop} {Post : Pt → Array Value → Option Value → Pt → Prop} {PostX : Pt → Array Value → Addr → Pt → Prop} (hK : vx_Back l R p e below s args y 3 W9 Pre Post PostX)
    {b : Addr} {cellB : Cell} (hcell : T.heap[b]? = some cellB) (hobj : cellB.vm.isStatics = false) (hcls : s.vm.findClass C = some cellB.cls)
    {g : JFrame} (hg : g.method = m) (hsize : g.locals.size = c.maxLocals) {argsL rest : List Value} (hlen : ∀ sig, parseMethodDescriptor y.desc = some sig → argsL.length = sig.parameters.length)
    (hstack : g.stack = argsL.reverse ++ .ref b :: rest) (hW : 2 * g.monitorRoom + (rest.map fun v => v.category).sum ≤ W9) (hdg : decode c.code g.pc = .ok (.invokevirtual index, 3))
    (hpre : ∀ vm₁, s.WarmedH vm₁ → Pre ⟨T.setVm vm₁, locs, cells, slots⟩ (Value.ref b :: argsL).toArray) :
    (∃ (v : Option Value) (vm₁ : Vm) (B : Pt), s.WarmedH vm₁ ∧ Stand p l e R s m args below meth c B.U B.locs B.cells B.slots ∧ Post ⟨T.setVm vm₁, locs, cells, slots⟩ (Value.ref b :: argsL).toArray v B ∧
      ∀ target, Steps p.tables e below (B.U.setTop { g with pc := g.pc + 3, stack := v.toList ++ rest }) target → Steps p.tables e below (T.setTop g) target) ∨
    (∃ (q : Addr) (vm₁ : Vm) (B : Pt), s.WarmedH vm₁ ∧ Stand p l e R s m args below meth c B.U B.locs B.cells B.slots ∧ PostX ⟨T.setVm vm₁, locs, cells, slots⟩ (Value.ref b :: argsL).toArray q B ∧
      Steps p.tables e below (T.setTop g) ((B.U.setTop { g with stack := rest }).pushFrame (.throwing q))) := by
  obtain ⟨mk, methM, hnamed, hmethM, hstM, habM⟩ := Cond.instanceMethod_spec hinst
  obtain ⟨methM', cM, hmethM', -, -, -, -, -, -, hsigM⟩ := Cond.code_spec hnamed hcode
  cases hmethM.symm.trans hmethM'
  obtain ⟨c2, r2, m2, q1, q2, q3, q4, kP, hkP, hkPi⟩ := Cond.selects_spec hsel
  cases hcls.symm.trans q1
  cases (State.methodFound?_of_named hnamed hy).symm.trans q2
  cases hnamed.symm.trans q3
  have hselP : selectMethod e.platform s.vm cellB.cls mk = .method mk := by rw [Launch.admits_selectMethod X.admits]; exact q4
  obtain ⟨vm₁, X₁, hstep₁⟩ := X.invokevirtual hexec hown hlink hnamed hmethM hstM hkP hkPi hy (a := b) (cell := cellB) hcell
    (fun z h => by rw [h] at hobj; cases hobj) hselP hmethM habM hkP hkPi (g := g) hg (argsL := argsL) (rest := rest) (hlen _ hsigM) hstack hdg
  rcases hK m meth c ⟨T.setVm vm₁, locs, cells, slots⟩ { g with stack := rest } (.invokevirtual index) mk (Value.ref b :: argsL).toArray X₁ hg hsize hdg hW (X₁.named hnamed) (hpre vm₁ X₁.warmed) with ⟨v, B, X', hpost, hsteps⟩ | ⟨q, B, X', hpost, hsteps⟩
  · exact Or.inl ⟨v, vm₁, B, X₁.warmed, X', hpost, fun target h => hstep₁ _ fun acts => by rw [doInvoke_state]; exact hsteps.trans h⟩
  · exact Or.inr ⟨q, vm₁, B, X₁.warmed, X', hpost, hstep₁ _ fun acts => by rw [doInvoke_state]; exact hsteps⟩
theorem vx_callS (X : Stand p l e R s m args below meth c T locs cells slots) (hexec : p.tables.exec = Jvm.exec) {own : String} {index : Nat} {y : MethodName} {bytes : ByteArray} {maxL : Nat} {ret : Option FieldType}
    (hown : s.vm.findClass own = some m.cls) (hlink : (Cond.methodLink own index y).before args s = true) (hstat : (Cond.static y).before args s = true) (hinit : (Cond.initialized y.cls).before args s = true)
    (hcode : (Cond.code y bytes maxL ret).before args s = true) (hy : y.cls ≠ "java/lang/invoke/MethodHandle" ∧ y.cls ≠ "java/lang/invoke/VarHandle")
    {W9 : Nat} {Pre : Pt → Array Value → Prop} {Post : Pt → Array Value → Option Value → Pt → Prop} {PostX : Pt → Array Value → Addr → Pt → Prop} (hK : vx_Back l R p e below s args y 3 W9 Pre Post PostX)
    {g : JFrame} (hg : g.method = m) (hsize : g.locals.size = c.maxLocals) {argsL rest : List Value} (hlen : ∀ sig, parseMethodDescriptor y.desc = some sig → argsL.length = sig.parameters.length)
    (hstack : g.stack = argsL.reverse ++ rest) (hW : 2 * g.monitorRoom + (rest.map fun v => v.category).sum ≤ W9) (hdg : decode c.code g.pc = .ok (.invokestatic index, 3))
    (hpre : ∀ vm₁, s.WarmedH vm₁ → Pre ⟨T.setVm vm₁, locs, cells, slots⟩ argsL.toArray) :
    (∃ (v : Option Value) (vm₁ : Vm) (B : Pt), s.WarmedH vm₁ ∧ Stand p l e R s m args below meth c B.U B.locs B.cells B.slots ∧ Post ⟨T.setVm vm₁, locs, cells, slots⟩ argsL.toArray v B ∧
      ∀ target, Steps p.tables e below (B.U.setTop { g with pc := g.pc + 3, stack := v.toList ++ rest }) target → Steps p.tables e below (T.setTop g) target) ∨
    (∃ (q : Addr) (vm₁ : Vm) (B : Pt), s.WarmedH vm₁ ∧ Stand p l e R s m args below meth c B.U B.locs B.cells B.slots ∧ PostX ⟨T.setVm vm₁, locs, cells, slots⟩ argsL.toArray q B ∧
      Steps p.tables e below (T.setTop g) ((B.U.setTop { g with stack := rest }).pushFrame (.throwing q))) := by
  obtain ⟨mk, hnamed⟩ := Cond.code_named hcode
  obtain ⟨methM, cM, hmethM, -, -, -, -, -, -, hsigM⟩ := Cond.code_spec hnamed hcode
  have hstatic : methM.isStatic = true := Cond.static_spec hnamed hmethM hstat
  obtain ⟨kP, hkP, -⟩ := className_of_methodNamed hnamed
  have hinitP : kP.init = .initialized := Cond.initialized_spec (findClass_of_methodNamed hnamed) hkP hinit
  obtain ⟨vm₁, X₁, hstep₁⟩ := X.invokestatic hexec hown hlink hnamed hmethM hstatic hkP hinitP hy (g := g) hg (argsL := argsL) (rest := rest) (hlen _ hsigM) hstack hdg
  rcases hK m meth c ⟨T.setVm vm₁, locs, cells, slots⟩ { g with stack := rest } (.invokestatic index) mk argsL.toArray X₁ hg hsize hdg hW (X₁.named hnamed) (hpre vm₁ X₁.warmed) with ⟨v, B, X', hpost, hsteps⟩ | ⟨q, B, X', hpost, hsteps⟩
  · exact Or.inl ⟨v, vm₁, B, X₁.warmed, X', hpost, fun target h => hstep₁ _ fun acts => by rw [doInvoke_state]; exact hsteps.trans h⟩
  · exact Or.inr ⟨q, vm₁, B, X₁.warmed, X', hpost, hstep₁ _ fun acts => by rw [doInvoke_state]; exact hsteps⟩
end Calls
theorem vx_cls {s : State} {T : State} {vm₁ : Vm} {E : String} {k : ClassId} (hW : s.WarmedH vm₁) (h : (T.setVm vm₁).vm.findClass E = some k) : s.vm.findClass E = some k := by
  have h1 : vm₁.findClass E = some k := h
  rw [hW.alike.findClass] at h1
  exact h1
/-- the method's frame g, with q thrown over it -/
def vx_W (p : Program) (l : Launch) (e : Env) (R : Room) (s : State) (m : MethodId) (args : Array Value) (below : List Frame) (meth : Method) (c : Code) (H : Heap) (locs : List Loc) (cells slots : Nat) (Q : State → Prop) (g : JFrame) (q : Addr) : Prop :=
  ∀ T : State, T.heap = H → Stand p l e R s m args below meth c T locs cells slots → ∃ t, Steps p.tables e below ((T.setTop g).pushFrame (.throwing q)) t ∧ Q t
def vx_Run (p : Program) (l : Launch) (e : Env) (R : Room) (s : State) (m : MethodId) (args : Array Value) (below : List Frame) (meth : Method) (c : Code) (H : Heap) (locs : List Loc) (cells slots mc ms : Nat) (g : JFrame) (rest : List Value) (Qa : State → Outcome → State → Prop) (XC : String → State → State → Prop) (free : Addr → Prop) : Prop :=
  ∀ T : State, T.heap = H → Stand p l e R s m args below meth c T locs cells slots →
    (∃ (v : Option Value) (st₀ t T' : State) (L : List Loc), st₀.heap = H ∧ Stand p l e R s m args below meth c T' (locs ++ L) (cells + mc) (slots + ms) ∧ (∀ q ∈ L, free q.base) ∧ T'.heap = t.heap ∧ T'.vm = t.vm ∧ Qa st₀ (.returned v) t ∧
      Goes p e below T g T' { g with pc := g.pc + 3, stack := v.toList ++ rest }) ∨
    (∃ (q : Addr) (st₀ t T' : State) (L : List Loc) (E : String) (ce : Cell), st₀.heap = H ∧ Stand p l e R s m args below meth c T' (locs ++ L) (cells + mc) (slots + ms) ∧ (∀ z ∈ L, free z.base) ∧ T'.heap = t.heap ∧ T'.vm = t.vm ∧ XC E st₀ t ∧ t.heap[q]? = some ce ∧ ce.vm = .none ∧ s.vm.findClass E = some ce.cls ∧
      Steps p.tables e below (T.setTop g) ((T'.setTop { g with stack := rest }).pushFrame (.throwing q)))
def vx_X {S : Type} (px : S → Prop) (B : String → S → State → Prop) (A : Nat → Prop) : String → State → State → Prop := fun E st t => ∃ u : S, px u ∧ B E u t ∧ va_F A st t
section Runs
variable {p : Program} {l : Launch} {e : Env} {R : Room} {s : State} {m : MethodId} {args : Array Value} {below : List Frame} {meth : Method} {c : Code} {H : Heap} {locs : List Loc} {cells slots : Nat}
variable {y : MethodName} {bytes cc : ByteArray} {maxL nL mc ms n index : Nat} {ret : Option FieldType} {ws : List Cond} {rm : Room} {Pc : Array Value → State → Prop} {Qc : Array Value → State → Outcome → State → Prop} {XC : String → State → State → Prop} {free : Addr → Prop} {Ts : List Cond} {own C : String} {b : Addr} {As rest : List Value} {g : JFrame}
theorem vx_callBack (cb : CallB R s args own index y bytes maxL ret ws rm mc ms n) (hM : vx_Met l y ws rm Pc Qc XC mc ms free) (hbl : FrameBlind Pc) : vx_Back l R p e below s args y 3 8 (PreOf R mc ms Pc) (PostOf Qc mc ms free) (vx_Post XC mc ms free) := by
  obtain ⟨hrc, hrs, hfr, hlo, hws, hcw, -, hini, -⟩ := cb
  exact vx_back (bytes := bytes) (maxL := maxL) (ret := ret) hM hbl hrc hrs hfr hlo hws hcw (fun a' U hW => word_at hW (Or.inl (by first | rfl | simp [Cond.onTables, Cond.keeps, Cond.steady])) hini)
theorem vx_runV (S : CallFix p m c cc nL s args Ts own) (hM : vx_Met l y ws rm Pc Qc XC mc ms free) (cw : CallW R s args own C index y bytes maxL ret ws rm mc ms n) (hp : PreV s H C b Pc As)
    (hg : g.method = m) (hn : As.length = n) (hsize : g.locals.size = nL) (hstack : g.stack = As.reverse ++ .ref b :: rest) (hW : 2 * g.monitorRoom + (rest.map fun v => v.category).sum ≤ 8) (hdg : decode cc g.pc = .ok (.invokevirtual index, 3)) (hf : cells + mc ≤ R.cells ∧ slots + ms ≤ R.slots) :
    vx_Run p l e R s m args below meth c H locs cells slots mc ms g rest (Qc (Value.ref b :: As).toArray) XC free := by
  have hK : vx_Back l R p e below s args y 3 8 (PreOf R mc ms Pc) (PostOf Qc mc ms free) (vx_Post XC mc ms free) := vx_callBack cw.1 hM hp.1
  obtain ⟨⟨-, -, -, -, -, -, hcode, -, hy, hlen, hl⟩, hin, hse⟩ := cw
  obtain ⟨hx, hb, hml, ho, -⟩ := S
  obtain ⟨-, ⟨cellB, hcB, hoB, hclB⟩, hPc⟩ := hp
  intro T hT X
  rcases vx_callV X hx (C := C) (bytes := bytes) (maxL := maxL) (ret := ret) ho hl hin hse hcode hy hK (by rw [hT]; exact hcB) hoB hclB hg (hsize.trans hml.symm) (argsL := As) (rest := rest) (fun sig h => hn.trans (hlen sig h)) hstack hW (by rw [hb]; exact hdg)
    (fun vm₁ hW₁ => ⟨hf.1, hf.2, hPc (T.setVm vm₁) hT hW₁⟩) with ⟨v, vm₁, ⟨U', l2, c2, s2⟩, hW₁, X', ⟨g', mk, t, L, e1, e2, hq, h1, hL, h2, h3⟩, st⟩ | ⟨q, vm₁, ⟨U', l2, c2, s2⟩, hW₁, X', ⟨g', mk, t, L, E, ce, e1, e2, hq, hce, hcv, hcl, h1, hL, h2, h3⟩, st⟩
  · dsimp only [Pt.U, Pt.locs, Pt.cells, Pt.slots] at X' e1 e2 h1 h2 h3 st
    subst h1; subst h2; subst h3
    exact Or.inl ⟨v, (T.setVm vm₁).calling g' mk (Value.ref b :: As).toArray, t, U', L, hT, X', hL, e1, e2, hq, st⟩
  · dsimp only [Pt.U, Pt.locs, Pt.cells, Pt.slots] at X' e1 e2 h1 h2 h3 st hcl
    subst h1; subst h2; subst h3
    exact Or.inr ⟨q, (T.setVm vm₁).calling g' mk (Value.ref b :: As).toArray, t, U', L, E, ce, hT, X', hL, e1, e2, hq, hce, hcv, vx_cls hW₁ hcl, st⟩
theorem vx_runS (S : CallFix p m c cc nL s args Ts own) (hM : vx_Met l y ws rm Pc Qc XC mc ms free) (cw : CallB R s args own index y bytes maxL ret ws rm mc ms n ∧ (Cond.static y).before args s = true) (hp : PreS s H Pc As)
    (hg : g.method = m) (hn : As.length = n) (hsize : g.locals.size = nL) (hstack : g.stack = As.reverse ++ rest) (hW : 2 * g.monitorRoom + (rest.map fun v => v.category).sum ≤ 8) (hdg : decode cc g.pc = .ok (.invokestatic index, 3)) (hf : cells + mc ≤ R.cells ∧ slots + ms ≤ R.slots) :
    vx_Run p l e R s m args below meth c H locs cells slots mc ms g rest (Qc As.toArray) XC free := by
  have hK : vx_Back l R p e below s args y 3 8 (PreOf R mc ms Pc) (PostOf Qc mc ms free) (vx_Post XC mc ms free) := vx_callBack cw.1 hM hp.1
  obtain ⟨⟨-, -, -, -, -, -, hcode, hini, hy, hlen, hl⟩, hstt⟩ := cw
  obtain ⟨hx, hb, hml, ho, -⟩ := S
  intro T hT X
  rcases vx_callS X hx (bytes := bytes) (maxL := maxL) (ret := ret) ho hl hstt hini hcode hy hK hg (hsize.trans hml.symm) (argsL := As) (rest := rest) (fun sig h => hn.trans (hlen sig h)) hstack hW (by rw [hb]; exact hdg)
    (fun vm₁ hW₁ => ⟨hf.1, hf.2, hp.2 (T.setVm vm₁) hT hW₁⟩) with ⟨v, vm₁, ⟨U', l2, c2, s2⟩, hW₁, X', ⟨g', mk, t, L, e1, e2, hq, h1, hL, h2, h3⟩, st⟩ | ⟨q, vm₁, ⟨U', l2, c2, s2⟩, hW₁, X', ⟨g', mk, t, L, E, ce, e1, e2, hq, hce, hcv, hcl, h1, hL, h2, h3⟩, st⟩
  · dsimp only [Pt.U, Pt.locs, Pt.cells, Pt.slots] at X' e1 e2 h1 h2 h3 st
    subst h1; subst h2; subst h3
    exact Or.inl ⟨v, (T.setVm vm₁).calling g' mk As.toArray, t, U', L, hT, X', hL, e1, e2, hq, st⟩
  · dsimp only [Pt.U, Pt.locs, Pt.cells, Pt.slots] at X' e1 e2 h1 h2 h3 st hcl
    subst h1; subst h2; subst h3
    exact Or.inr ⟨q, (T.setVm vm₁).calling g' mk As.toArray, t, U', L, E, ce, hT, X', hL, e1, e2, hq, hce, hcv, vx_cls hW₁ hcl, st⟩
end Runs
section Rows
variable {p : Program} {l : Launch} {e : Env} {R : Room} {s : State} {m : MethodId} {args : Array Value} {below : List Frame} {meth : Method} {c : Code} {H : Heap} {locs : List Loc} {cells slots : Nat} {Q : State → Prop}
variable {mc ms : Nat} {free : Addr → Prop} {A0 A1 : Nat → Prop} {H0 : Heap} {a : Array Value} {pc : Nat} {ls : Array Slot} {st0 rest : List Value}
theorem vx_keep {st₀ t T' : State} {L : List Loc} (h0 : st₀.heap = H) (e1 : T'.heap = t.heap) (hS : va_S A0 H0 H locs) (hA : ∀ q, q < H.size → A1 q → A0 q) (hf : ∀ q, free q → A0 q) (hL : ∀ q ∈ L, free q.base) (hF : va_F A1 st₀ t) :
    H.size ≤ T'.heap.size ∧ (∀ q : Nat, q < H.size → ¬ A1 q → T'.heap[q]? = H[q]?) ∧ va_S A0 H0 T'.heap (locs ++ L) := by
  obtain ⟨hz, hk⟩ := hF
  rw [h0] at hz hk
  exact ⟨by rw [e1]; exact hz, fun q h1 h2 => by rw [e1]; exact hk q h1 h2,
    ⟨Nat.le_trans hS.1 (by rw [e1]; exact hz), fun q h1 h2 => by rw [e1, hk q (Nat.lt_of_lt_of_le h1 hS.1) (fun z => h2 (hA q (Nat.lt_of_lt_of_le h1 hS.1) z))]; exact hS.2.1 q h1 h2, fun q hq => by
      rcases List.mem_append.mp hq with h | h
      · exact hS.2.2 q h
      · exact hf _ (hL q h)⟩⟩
theorem vx_calli {S SX : Type} {post : Int32 → S → Prop} {px : SX → Prop} {B : S → State → Prop} {BX : String → SX → State → Prop} {AX : Nat → Prop} (hr : vx_Run p l e R s m args below meth c H locs cells slots mc ms (F0 m pc ls st0) rest (va_Qi post B A1 a) (vx_X px BX AX) free) (hS : va_S A0 H0 H locs) (hA : ∀ q, q < H.size → A1 q → A0 q) (hf : ∀ q, free q → A0 q) (hAX : ∀ q, q < H.size → AX q → A0 q)
    (kx : ∀ (E : String) (ce : Cell) (q9 : Addr) (u : SX) (t : State) (H1 : Heap) (locs1 : List Loc), t.heap = H1 → s.vm.Alike t.vm → px u → BX E u t → H.size ≤ H1.size → (∀ q : Nat, q < H.size → ¬ AX q → H1[q]? = H[q]?) → va_S A0 H0 H1 locs1 → H1[q9]? = some ce → ce.vm = .none → s.vm.findClass E = some ce.cls → vx_W p l e R s m args below meth c H1 locs1 (cells + mc) (slots + ms) Q (F0 m pc ls rest) q9)
    (kk : ∀ (r : Int32) (u : S) (t : State) (H1 : Heap) (locs1 : List Loc), t.heap = H1 → s.vm.Alike t.vm → post r u → B u t → H.size ≤ H1.size → (∀ q : Nat, q < H.size → ¬ A1 q → H1[q]? = H[q]?) → va_S A0 H0 H1 locs1 → W p l e R s m args below meth c H1 locs1 (cells + mc) (slots + ms) Q (F0 m (pc + 3) ls (.int r :: rest))) : W p l e R s m args below meth c H locs cells slots Q (F0 m pc ls st0) := by
  intro T hT X
  rcases hr T hT X with ⟨v, st₀, t, T', L, h0, X', hL, e1, e2, ⟨⟨r, u, hv, hp, hb⟩, hF⟩, st⟩ | ⟨q, st₀, t, T', L, E, ce, h0, X', hL, e1, e2, ⟨u, hp, hb, hF⟩, hce, hcv, hcl, st⟩
  · cases hv
    obtain ⟨k1, k2, k3⟩ := vx_keep h0 e1 hS hA hf hL hF
    obtain ⟨t2, a1, b1⟩ := kk r u t T'.heap (locs ++ L) e1.symm (by rw [← e2]; exact X'.warmed.alike) hp hb k1 k2 k3 T' rfl X'
    exact ⟨t2, st t2 a1, b1⟩
  · obtain ⟨k1, k2, k3⟩ := vx_keep h0 e1 hS hAX hf hL hF
    obtain ⟨t2, a1, b1⟩ := kx E ce q u t T'.heap (locs ++ L) e1.symm (by rw [← e2]; exact X'.warmed.alike) hp hb k1 k2 k3 (by rw [e1]; exact hce) hcv hcl T' rfl X'
    exact ⟨t2, st.trans a1, b1⟩
theorem vx_calll {S SX : Type} {post : Int64 → S → Prop} {px : SX → Prop} {B : S → State → Prop} {BX : String → SX → State → Prop} {AX : Nat → Prop} (hr : vx_Run p l e R s m args below meth c H locs cells slots mc ms (F0 m pc ls st0) rest (va_Ql post B A1 a) (vx_X px BX AX) free) (hS : va_S A0 H0 H locs) (hA : ∀ q, q < H.size → A1 q → A0 q) (hf : ∀ q, free q → A0 q) (hAX : ∀ q, q < H.size → AX q → A0 q)
    (kx : ∀ (E : String) (ce : Cell) (q9 : Addr) (u : SX) (t : State) (H1 : Heap) (locs1 : List Loc), t.heap = H1 → s.vm.Alike t.vm → px u → BX E u t → H.size ≤ H1.size → (∀ q : Nat, q < H.size → ¬ AX q → H1[q]? = H[q]?) → va_S A0 H0 H1 locs1 → H1[q9]? = some ce → ce.vm = .none → s.vm.findClass E = some ce.cls → vx_W p l e R s m args below meth c H1 locs1 (cells + mc) (slots + ms) Q (F0 m pc ls rest) q9)
    (kk : ∀ (r : Int64) (u : S) (t : State) (H1 : Heap) (locs1 : List Loc), t.heap = H1 → s.vm.Alike t.vm → post r u → B u t → H.size ≤ H1.size → (∀ q : Nat, q < H.size → ¬ A1 q → H1[q]? = H[q]?) → va_S A0 H0 H1 locs1 → W p l e R s m args below meth c H1 locs1 (cells + mc) (slots + ms) Q (F0 m (pc + 3) ls (.long r :: rest))) : W p l e R s m args below meth c H locs cells slots Q (F0 m pc ls st0) := by
  intro T hT X
  rcases hr T hT X with ⟨v, st₀, t, T', L, h0, X', hL, e1, e2, ⟨⟨r, u, hv, hp, hb⟩, hF⟩, st⟩ | ⟨q, st₀, t, T', L, E, ce, h0, X', hL, e1, e2, ⟨u, hp, hb, hF⟩, hce, hcv, hcl, st⟩
  · cases hv
    obtain ⟨k1, k2, k3⟩ := vx_keep h0 e1 hS hA hf hL hF
    obtain ⟨t2, a1, b1⟩ := kk r u t T'.heap (locs ++ L) e1.symm (by rw [← e2]; exact X'.warmed.alike) hp hb k1 k2 k3 T' rfl X'
    exact ⟨t2, st t2 a1, b1⟩
  · obtain ⟨k1, k2, k3⟩ := vx_keep h0 e1 hS hAX hf hL hF
    obtain ⟨t2, a1, b1⟩ := kx E ce q u t T'.heap (locs ++ L) e1.symm (by rw [← e2]; exact X'.warmed.alike) hp hb k1 k2 k3 (by rw [e1]; exact hce) hcv hcl T' rfl X'
    exact ⟨t2, st.trans a1, b1⟩
theorem vx_callf {S SX : Type} {post : UInt32 → S → Prop} {px : SX → Prop} {B : S → State → Prop} {BX : String → SX → State → Prop} {AX : Nat → Prop} (hr : vx_Run p l e R s m args below meth c H locs cells slots mc ms (F0 m pc ls st0) rest (va_Qf post B A1 a) (vx_X px BX AX) free) (hS : va_S A0 H0 H locs) (hA : ∀ q, q < H.size → A1 q → A0 q) (hf : ∀ q, free q → A0 q) (hAX : ∀ q, q < H.size → AX q → A0 q)
    (kx : ∀ (E : String) (ce : Cell) (q9 : Addr) (u : SX) (t : State) (H1 : Heap) (locs1 : List Loc), t.heap = H1 → s.vm.Alike t.vm → px u → BX E u t → H.size ≤ H1.size → (∀ q : Nat, q < H.size → ¬ AX q → H1[q]? = H[q]?) → va_S A0 H0 H1 locs1 → H1[q9]? = some ce → ce.vm = .none → s.vm.findClass E = some ce.cls → vx_W p l e R s m args below meth c H1 locs1 (cells + mc) (slots + ms) Q (F0 m pc ls rest) q9)
    (kk : ∀ (r : UInt32) (u : S) (t : State) (H1 : Heap) (locs1 : List Loc), t.heap = H1 → s.vm.Alike t.vm → post r u → B u t → H.size ≤ H1.size → (∀ q : Nat, q < H.size → ¬ A1 q → H1[q]? = H[q]?) → va_S A0 H0 H1 locs1 → W p l e R s m args below meth c H1 locs1 (cells + mc) (slots + ms) Q (F0 m (pc + 3) ls (.float r :: rest))) : W p l e R s m args below meth c H locs cells slots Q (F0 m pc ls st0) := by
  intro T hT X
  rcases hr T hT X with ⟨v, st₀, t, T', L, h0, X', hL, e1, e2, ⟨⟨r, u, hv, hp, hb⟩, hF⟩, st⟩ | ⟨q, st₀, t, T', L, E, ce, h0, X', hL, e1, e2, ⟨u, hp, hb, hF⟩, hce, hcv, hcl, st⟩
  · cases hv
    obtain ⟨k1, k2, k3⟩ := vx_keep h0 e1 hS hA hf hL hF
    obtain ⟨t2, a1, b1⟩ := kk r u t T'.heap (locs ++ L) e1.symm (by rw [← e2]; exact X'.warmed.alike) hp hb k1 k2 k3 T' rfl X'
    exact ⟨t2, st t2 a1, b1⟩
  · obtain ⟨k1, k2, k3⟩ := vx_keep h0 e1 hS hAX hf hL hF
    obtain ⟨t2, a1, b1⟩ := kx E ce q u t T'.heap (locs ++ L) e1.symm (by rw [← e2]; exact X'.warmed.alike) hp hb k1 k2 k3 (by rw [e1]; exact hce) hcv hcl T' rfl X'
    exact ⟨t2, st.trans a1, b1⟩
theorem vx_calld {S SX : Type} {post : UInt64 → S → Prop} {px : SX → Prop} {B : S → State → Prop} {BX : String → SX → State → Prop} {AX : Nat → Prop} (hr : vx_Run p l e R s m args below meth c H locs cells slots mc ms (F0 m pc ls st0) rest (va_Qd post B A1 a) (vx_X px BX AX) free) (hS : va_S A0 H0 H locs) (hA : ∀ q, q < H.size → A1 q → A0 q) (hf : ∀ q, free q → A0 q) (hAX : ∀ q, q < H.size → AX q → A0 q)
    (kx : ∀ (E : String) (ce : Cell) (q9 : Addr) (u : SX) (t : State) (H1 : Heap) (locs1 : List Loc), t.heap = H1 → s.vm.Alike t.vm → px u → BX E u t → H.size ≤ H1.size → (∀ q : Nat, q < H.size → ¬ AX q → H1[q]? = H[q]?) → va_S A0 H0 H1 locs1 → H1[q9]? = some ce → ce.vm = .none → s.vm.findClass E = some ce.cls → vx_W p l e R s m args below meth c H1 locs1 (cells + mc) (slots + ms) Q (F0 m pc ls rest) q9)
    (kk : ∀ (r : UInt64) (u : S) (t : State) (H1 : Heap) (locs1 : List Loc), t.heap = H1 → s.vm.Alike t.vm → post r u → B u t → H.size ≤ H1.size → (∀ q : Nat, q < H.size → ¬ A1 q → H1[q]? = H[q]?) → va_S A0 H0 H1 locs1 → W p l e R s m args below meth c H1 locs1 (cells + mc) (slots + ms) Q (F0 m (pc + 3) ls (.double r :: rest))) : W p l e R s m args below meth c H locs cells slots Q (F0 m pc ls st0) := by
  intro T hT X
  rcases hr T hT X with ⟨v, st₀, t, T', L, h0, X', hL, e1, e2, ⟨⟨r, u, hv, hp, hb⟩, hF⟩, st⟩ | ⟨q, st₀, t, T', L, E, ce, h0, X', hL, e1, e2, ⟨u, hp, hb, hF⟩, hce, hcv, hcl, st⟩
  · cases hv
    obtain ⟨k1, k2, k3⟩ := vx_keep h0 e1 hS hA hf hL hF
    obtain ⟨t2, a1, b1⟩ := kk r u t T'.heap (locs ++ L) e1.symm (by rw [← e2]; exact X'.warmed.alike) hp hb k1 k2 k3 T' rfl X'
    exact ⟨t2, st t2 a1, b1⟩
  · obtain ⟨k1, k2, k3⟩ := vx_keep h0 e1 hS hAX hf hL hF
    obtain ⟨t2, a1, b1⟩ := kx E ce q u t T'.heap (locs ++ L) e1.symm (by rw [← e2]; exact X'.warmed.alike) hp hb k1 k2 k3 (by rw [e1]; exact hce) hcv hcl T' rfl X'
    exact ⟨t2, st.trans a1, b1⟩
theorem vx_callv {S SX : Type} {post : S → Prop} {px : SX → Prop} {B : S → State → Prop} {BX : String → SX → State → Prop} {AX : Nat → Prop} (hr : vx_Run p l e R s m args below meth c H locs cells slots mc ms (F0 m pc ls st0) rest (va_Qv post B A1 a) (vx_X px BX AX) free) (hS : va_S A0 H0 H locs) (hA : ∀ q, q < H.size → A1 q → A0 q) (hf : ∀ q, free q → A0 q) (hAX : ∀ q, q < H.size → AX q → A0 q)
    (kx : ∀ (E : String) (ce : Cell) (q9 : Addr) (u : SX) (t : State) (H1 : Heap) (locs1 : List Loc), t.heap = H1 → s.vm.Alike t.vm → px u → BX E u t → H.size ≤ H1.size → (∀ q : Nat, q < H.size → ¬ AX q → H1[q]? = H[q]?) → va_S A0 H0 H1 locs1 → H1[q9]? = some ce → ce.vm = .none → s.vm.findClass E = some ce.cls → vx_W p l e R s m args below meth c H1 locs1 (cells + mc) (slots + ms) Q (F0 m pc ls rest) q9)
    (kk : ∀ (u : S) (t : State) (H1 : Heap) (locs1 : List Loc), t.heap = H1 → s.vm.Alike t.vm → post u → B u t → H.size ≤ H1.size → (∀ q : Nat, q < H.size → ¬ A1 q → H1[q]? = H[q]?) → va_S A0 H0 H1 locs1 → W p l e R s m args below meth c H1 locs1 (cells + mc) (slots + ms) Q (F0 m (pc + 3) ls (rest))) : W p l e R s m args below meth c H locs cells slots Q (F0 m pc ls st0) := by
  intro T hT X
  rcases hr T hT X with ⟨v, st₀, t, T', L, h0, X', hL, e1, e2, ⟨⟨u, hv, hp, hb⟩, hF⟩, st⟩ | ⟨q, st₀, t, T', L, E, ce, h0, X', hL, e1, e2, ⟨u, hp, hb, hF⟩, hce, hcv, hcl, st⟩
  · cases hv
    obtain ⟨k1, k2, k3⟩ := vx_keep h0 e1 hS hA hf hL hF
    obtain ⟨t2, a1, b1⟩ := kk u t T'.heap (locs ++ L) e1.symm (by rw [← e2]; exact X'.warmed.alike) hp hb k1 k2 k3 T' rfl X'
    exact ⟨t2, st t2 a1, b1⟩
  · obtain ⟨k1, k2, k3⟩ := vx_keep h0 e1 hS hAX hf hL hF
    obtain ⟨t2, a1, b1⟩ := kx E ce q u t T'.heap (locs ++ L) e1.symm (by rw [← e2]; exact X'.warmed.alike) hp hb k1 k2 k3 (by rw [e1]; exact hce) hcv hcl T' rfl X'
    exact ⟨t2, st.trans a1, b1⟩
/-- caught by the row x of this method's table; the rows ahead don't take it -/
theorem vx_catch {own name : String} {E : String} {ce : Cell} {q : Addr} (hown : s.vm.findClass own = some m.cls) (pre : List ExceptionTableEntry) (x : ExceptionTableEntry) (suf : List ExceptionTableEntry) (hsplit : c.exceptionTable.toList = pre ++ x :: suf)
    (hpass : ∀ z ∈ pre, covers z pc = false ∨ (z.catchType ≠ 0 ∧ ∃ nm : String, (Cond.classLink own z.catchType nm).before args s = true ∧ va_Nc E nm s)) (hx : covers x pc = true) (h0 : x.catchType ≠ 0)
    (hlink : (Cond.classLink own x.catchType name).before args s = true) (hcast : (Cond.castable E name).before args s = true) (hcell : H[q]? = some ce) (hv : ce.vm = .none) (hcl : s.vm.findClass E = some ce.cls)
    (kk : W p l e R s m args below meth c H locs cells slots Q (F0 m x.handlerPc ls [.ref q])) : vx_W p l e R s m args below meth c H locs cells slots Q (F0 m pc ls rest) q := by
  intro T hT X
  have hpl : e.platform.magicAccessors = ({} : Platform).magicAccessors := by rw [X.admits.platform]
  obtain ⟨c3, c4, hc3, hc4, hasg⟩ := Cond.castable_spec hcast
  cases Option.some.inj (hc3.symm.trans hcl)
  obtain ⟨c5, hc5, hcl5⟩ := Cond.classLink_spec hown hlink e.platform hpl
  cases Option.some.inj (hc4.symm.trans hc5)
  obtain ⟨vm', X', st⟩ := X.thenCaughtThrough q (g := F0 m pc ls rest) rfl (Steps.refl _) (by rw [hT]; exact hcell) (by rw [hv]; rfl) (by obtain ⟨k9, h9, -⟩ := Vm.findClass_spec hcl; exact ⟨k9, h9⟩) pre x suf hsplit
    (fun z hz => by
      rcases hpass z hz with h | ⟨hz0, nm, hl1, hn1⟩
      · exact Or.inl h
      · obtain ⟨c6, hc6, hcl6⟩ := Cond.classLink_spec hown hl1 e.platform hpl
        obtain ⟨a8, b8, h1, h2, h3⟩ := hn1
        cases Option.some.inj (h1.symm.trans hcl)
        cases Option.some.inj (h2.symm.trans hc6)
        exact Or.inr ⟨hz0, _, hcl6, h3⟩) hx (Or.inr ⟨h0, c4, hcl5, hasg⟩)
  obtain ⟨t, a1, b1⟩ := kk (T.setVm vm') hT X'
  exact ⟨t, st.trans a1, b1⟩
end Rows
section Ends
variable {p : Program} {l : Launch} {e : Env} {R : Room} {s : State} {m : MethodId} {args : Array Value} {below : List Frame} {meth : Method} {c : Code} {H : Heap} {locs : List Loc} {cells slots : Nat} {Q : State → Prop}
variable {mc ms : Nat} {free : Addr → Prop} {A0 A1 : Nat → Prop} {H0 : Heap} {a : Array Value} {ls : Array Slot} {st0 rest : List Value}
variable {Qc : Array Value → State → Outcome → State → Prop} {XC : String → State → State → Prop}
/-- what a body that may throw owes at its end -/
def vx_MQ (below : List Frame) (Qc : Array Value → State → Outcome → State → Prop) (XC : String → State → State → Prop) (a : Array Value) (s : State) (mc ms : Nat) (free : Addr → Prop) : State → Prop := fun t =>
  ∃ o, t.status = .running ∧ Ended t below o ∧ vx_Q Qc XC mc ms free a s o t
theorem vx_ret {g : JFrame} {mc ms : Nat} (k : W p l e R s m args below meth c H locs cells slots (MQ below Qc args s mc ms free) g) : W p l e R s m args below meth c H locs cells slots (vx_MQ below Qc XC args s mc ms free) g := by
  intro T hT X
  obtain ⟨t, a1, o, b1, b2, b3, b4⟩ := k T hT X
  exact ⟨t, a1, o, b1, b2, Or.inl ⟨b3, b4⟩⟩
/-- not caught here: it goes on to the caller -/
theorem vx_widen {g : JFrame} {q : Addr} {k n : Nat} (h1 : cells ≤ k) (h2 : slots ≤ n) (kk : vx_W p l e R s m args below meth c H locs k n Q g q) : vx_W p l e R s m args below meth c H locs cells slots Q g q := fun T hT X => kk T hT (stand_widen X h1 h2)
theorem vx_out {pc : Nat} {E : String} {ce : Cell} {q : Addr} {mc ms : Nat} (hout : ∀ x ∈ c.exceptionTable.toList, covers x pc = false) (hlocks : meth.locks = false) (hcell : H[q]? = some ce) (hv : ce.vm = .none) (hcl : s.vm.findClass E = some ce.cls)
    (hx : ∀ t : State, t.heap = H → s.vm.Alike t.vm → XC E s t) (hf : ∀ z ∈ locs, free z.base) (hc : cells ≤ mc) (hs : slots ≤ ms) :
    vx_W p l e R s m args below meth c H locs cells slots (vx_MQ below Qc XC args s mc ms free) (F0 m pc ls rest) q := by
  intro T hT X
  obtain ⟨st1, hrun, hend, hW, hsm⟩ := X.leaveThrown q (g := F0 m pc ls rest) rfl rfl rfl hout hlocks
  have hcell9 : (T.setFrames (.throwing q :: below)).heap[q]? = some ce := by
    show T.heap[q]? = some ce
    rw [hT]; exact hcell
  exact ⟨_, st1, .threw q, hrun, hend, Or.inr ⟨q, rfl, E, ce, locs, hx _ hT hW.alike, hcell9, hv, hcl, hW, hsm.mono hc hs, hf⟩⟩
theorem vx_frame {U : State} {k n : Nat} (h : s.sameButNew ({ U with vm := s.vm } : State) locs k n) : s.heap.size ≤ U.heap.size ∧ ∀ q : Nat, q < s.heap.size → (∀ z ∈ locs, z.base ≠ q) → U.heap[q]? = s.heap[q]? := by
  obtain ⟨-, h2, -, -, -, h6⟩ := h
  refine ⟨h2, fun q hq hz => ?_⟩
  obtain ⟨c9, e1, e2, e3, e4⟩ := h6 q _ (Array.getElem?_eq_getElem hq)
  have hs : c9.slots = (s.heap[q]).slots := Array.ext_getElem? fun i => e4 i fun hm => hz _ hm rfl
  have h9 : c9 = s.heap[q] := by
    rw [hs] at e2
    exact e2
  have e5 : U.heap[q]? = some c9 := e1
  rw [e5, h9, Array.getElem?_eq_getElem hq]
/-- the words of a throw but the four that speak of the heap -/
def vx_no (w : Cond) : Bool := decide (w ≠ .isRef (.static Bundle.tN "UNASSIGNED_STACK" Bundle.steD)) && decide (w ≠ .isRef (.static Bundle.tN "SUPPRESSED_SENTINEL" Bundle.listD)) && decide (w ≠ .laysStatic Bundle.tN "UNASSIGNED_STACK" Bundle.steD) && decide (w ≠ .laysStatic Bundle.tN "SUPPRESSED_SENTINEL" Bundle.listD)
def vx_at0 (own : String) (ic : Nat) (X : String) (names : List String) : List Cond := (Bundle.ownAtoms0 own ic X names).filter vx_no
def vx_atS (own : String) (ic : Nat) (X : String) (names : List String) : List Cond := (Bundle.ownAtoms own ic X names).filter vx_no
/-- a word that the tables alone decide, or a good one -/
def vx_ot (w : Cond) : Bool := w.onTables || goodWord w
theorem vx_ot_at {args a' : Array Value} {s U : State} {w : Cond} (hW : s.WarmedH U.vm) (hvm : s.vm = U.vm) (hg : vx_ot w = true) (h : w.before args s = true) : w.before a' U = true := by
  simp only [vx_ot, Bool.or_eq_true] at hg
  rcases hg with hg | hg
  · exact va_tabs hg hvm h
  · exact word_at hW (good_of_word hg) h
/-- a list's words: the good ones out of the method's own list, the others by premises of their own -/
theorem vx_hat {args : Array Value} {s : State} {L B : List Cond} (h1 : ∀ w ∈ L.filter goodWord, w.before args s = true) (h2 : ∀ w ∈ L.filter (fun w => !goodWord w), w ∈ B) (h3 : ∀ w ∈ B, w.before args s = true) : ∀ w ∈ L, w.before args s = true := by
  intro w hw
  by_cases g : goodWord w = true
  · exact h1 w (List.mem_filter.mpr ⟨hw, g⟩)
  · refine h3 w (h2 w (List.mem_filter.mpr ⟨hw, ?_⟩))
    show (!goodWord w) = true
    cases hgw : goodWord w
    · rfl
    · exact absurd hgw g
theorem vx_c {args : Array Value} {s : State} {w : Cond} {B : List Cond} (h : w.before args s = true) (t : ∀ w ∈ B, w.before args s = true) : ∀ w' ∈ w :: B, w'.before args s = true := fun w' h' => (List.mem_cons.mp h').elim (fun e => by rw [e]; exact h) (t w')
theorem vx_n {args : Array Value} {s : State} : ∀ w ∈ ([] : List Cond), w.before args s = true := fun _ h => nomatch h
theorem vx_own {args : Array Value} {s : State} {L : List Cond} (h1 : ∀ w ∈ L.filter vx_no, w.before args s = true)
    (hU : (Cond.isRef (.static Bundle.tN "UNASSIGNED_STACK" Bundle.steD)).before args s = true) (hN : (Cond.isRef (.static Bundle.tN "SUPPRESSED_SENTINEL" Bundle.listD)).before args s = true)
    (lU : (Cond.laysStatic Bundle.tN "UNASSIGNED_STACK" Bundle.steD).before args s = true) (lN : (Cond.laysStatic Bundle.tN "SUPPRESSED_SENTINEL" Bundle.listD).before args s = true) : ∀ w ∈ L, w.before args s = true := by
  intro w hw
  by_cases e1 : w = .isRef (.static Bundle.tN "UNASSIGNED_STACK" Bundle.steD)
  · rw [e1]; exact hU
  · by_cases e2 : w = .isRef (.static Bundle.tN "SUPPRESSED_SENTINEL" Bundle.listD)
    · rw [e2]; exact hN
    · by_cases e3 : w = .laysStatic Bundle.tN "UNASSIGNED_STACK" Bundle.steD
      · rw [e3]; exact lU
      · by_cases e4 : w = .laysStatic Bundle.tN "SUPPRESSED_SENTINEL" Bundle.listD
        · rw [e4]; exact lN
        · exact h1 w (List.mem_filter.mpr ⟨hw, by unfold vx_no; rw [decide_eq_true e1, decide_eq_true e2, decide_eq_true e3, decide_eq_true e4]; rfl⟩)
/-- where a static field lies, its class's statics cell in H -/
def vx_L (C n d : String) (A : Nat → Prop) (U : State) (H : Heap) : Prop := ∃ (c : ClassId) (k : Class) (i : Nat) (f : Field) (a : Nat) (cell : Cell), U.vm.findClass C = some c ∧ U.fieldFound? C n d = some (c, k, i, f) ∧ f.isStatic = true ∧ k.statics = some a ∧ H[a]? = some cell ∧ cell.vm.isStatics = true ∧ cell.cls = c ∧ f.slot < cell.slots.size ∧ k.staticTypes[f.slot]? = some f.type ∧ ¬ A a
theorem vx_L.moved {C n d : String} {A : Nat → Prop} {u U : State} {H : Heap} (hvm : u.vm.Alike U.vm) (h : vx_L C n d A u H) : vx_L C n d A U H := by
  obtain ⟨c, k, i, f, a, cell, h1, h2, h3, h4, h5, h6, h7, h8, h9, h10⟩ := h
  obtain ⟨k', hi', he⟩ := State.fieldFound?_setVm hvm h2
  exact ⟨c, k', i, f, a, cell, by rw [hvm.findClass]; exact h1, hi', h3, by rw [he]; exact h4, h5, h6, h7, h8, by rw [he]; exact h9, h10⟩
theorem vx_L.kept {C n d : String} {A : Nat → Prop} {U : State} {H H1 : Heap} (h : vx_L C n d A U H) (hq : ∀ a : Nat, a < H.size → ¬ A a → H1[a]? = H[a]?) : vx_L C n d A U H1 := by
  obtain ⟨c, k, i, f, a, cell, h1, h2, h3, h4, h5, h6, h7, h8, h9, h10⟩ := h
  exact ⟨c, k, i, f, a, cell, h1, h2, h3, h4, by rw [hq a (Array.getElem?_eq_some_iff.mp h5).1 h10]; exact h5, h6, h7, h8, h9, h10⟩
theorem vx_L.narrow {C n d : String} {A B : Nat → Prop} {U : State} {H : Heap} (h : vx_L C n d A U H) (hAB : ∀ q, B q → A q) : vx_L C n d B U H := by
  obtain ⟨c, k, i, f, a, cell, h1, h2, h3, h4, h5, h6, h7, h8, h9, h10⟩ := h
  exact ⟨c, k, i, f, a, cell, h1, h2, h3, h4, h5, h6, h7, h8, h9, fun z => h10 (hAB _ z)⟩
theorem vx_L.word {C n d : String} {A : Nat → Prop} {s : State} {args : Array Value} (h : vx_L C n d A s s.heap) : (Cond.laysStatic C n d).before args s = true := by
  obtain ⟨c, k, i, f, a, cell, h1, h2, h3, h4, h5, h6, h7, h8, h9, -⟩ := h
  show (Cond.laysStatic C n d).holds args s none s [] = true
  exact Cond.laysStatic_of h1 h2 h3 h4 h5 h6 h7 h8 h9
/-- .. and what it holds: null or some reference -/
def vx_Zq (C n d : String) (A : Nat → Prop) (U : State) (H : Heap) : Prop := va_Zq C n d A U H ∧ vx_L C n d A U H
theorem vx_Zq.moved {C n d : String} {A : Nat → Prop} {u U : State} {H : Heap} (hvm : u.vm.Alike U.vm) (h : vx_Zq C n d A u H) : vx_Zq C n d A U H := ⟨va_Zq.moved hvm h.1, vx_L.moved hvm h.2⟩
theorem vx_Zq.kept {C n d : String} {A : Nat → Prop} {U : State} {H H1 : Heap} (h : vx_Zq C n d A U H) (hq : ∀ a : Nat, a < H.size → ¬ A a → H1[a]? = H[a]?) : vx_Zq C n d A U H1 := ⟨va_Zq.kept h.1 hq, vx_L.kept h.2 hq⟩
theorem vx_Zq.narrow {C n d : String} {A B : Nat → Prop} {U : State} {H : Heap} (h : vx_Zq C n d A U H) (hAB : ∀ q, B q → A q) : vx_Zq C n d B U H := ⟨va_Zq.narrow h.1 hAB, vx_L.narrow h.2 hAB⟩
theorem vx_Zqof {args : Array Value} {s : State} {C n d : String} {A : Nat → Prop} (hl : (Cond.laysStatic C n d).before args s = true) (hini : (Cond.initialized C).before args s = true) (h : (Cond.isRef (.static C n d)).before args s = true) (hA : ∀ a : Nat, a < s.heap.size → ¬ A a) : vx_Zq C n d A s s.heap := by
  refine ⟨va_Zqof hl hini h hA, ?_⟩
  obtain ⟨c, k, i, f, a, cell, h1, h2, h3, h4, h5, h6, h7, h8, h9⟩ := Cond.laysStatic_spec hl
  exact ⟨c, k, i, f, a, cell, h1, h2, h3, h4, h5, h6, h7, h8, h9, hA a (Array.getElem?_eq_some_iff.mp h5).1⟩
theorem vx_isRef {C n d : String} {v : Value} {A : Nat → Prop} {s : State} {args : Array Value} (h : va_Z C n d v A s s.heap) (hv : v.isRef = true) : (Cond.isRef (.static C n d)).before args s = true := by
  obtain ⟨cf, kf, fi, f, a, cell, h1, h2, h3, h4, h5, h6, h7, -⟩ := h
  have he : (Term.static C n d).eval args s none [] s = some v := by
    simp [Term.eval, State.fieldNamed?, h1, h2, h4, h5, h6, h7]
  simp only [Cond.before, Cond.holds, Cond.value, he]
  cases v <;> simp_all [Value.isRef]
theorem vx_isRefq {C n d : String} {A : Nat → Prop} {s : State} {args : Array Value} (h : va_Zq C n d A s s.heap) : (Cond.isRef (.static C n d)).before args s = true := by
  rcases h with h | ⟨t, h⟩
  · exact vx_isRef h rfl
  · exact vx_isRef h rfl
/-- the same frame, seen from here: as if the method were called anew in this heap -/
theorem vx_rebase {T : State} (X : Stand p l e R s m args below meth c T locs cells slots) {R' : Room} (hf : R'.frames ≤ R.frames) (hl : R'.locals ≤ R.locals) (hc : cells + R'.cells ≤ R.cells) (hs : slots + R'.slots ≤ R.slots) :
    Stand p l e R' ((T.setVm s.vm).setFrames (.invoking m args :: below)) m args below meth c T [] 0 0 := by
  have htop : (T.setVm s.vm).topJava?.isSome := X.here.top
  have hF : ((T.setVm s.vm).setFrames (.invoking m args :: below)).frames = .invoking m args :: below := State.frames_setFrames _ (State.cur_lt_of_top htop)
  obtain ⟨g₀, hg0⟩ := Option.isSome_iff_exists.mp htop
  obtain ⟨r, hr⟩ := State.topJava?_eq_some.mp hg0
  have hl9 : e.platform.stackLimits (T.setVm s.vm).me = e.platform.stackLimits s.me := X.limits
  have hb9 : (T.setVm s.vm).me.stackBytes = s.me.stackBytes := X.bytes
  refine ⟨X.admits, X.cas, X.clock, hF, ?_, X.hears, X.method, X.code, X.here, X.tail, X.warmed, ?_, ?_, ?_⟩
  · have h := X.room
    have hU : ((T.setVm s.vm).setFrames (.invoking m args :: below)).localsInUse = s.localsInUse := by
      rw [State.localsInUse_invoking hF (meth := meth) (c := c) X.method X.code, State.localsInUse_invoking X.frames X.method X.code]
    simp only [State.hasRoom, Bool.and_eq_true, decide_eq_true_eq] at h ⊢
    obtain ⟨⟨⟨⟨h1, h2, h3, h4, h5, h6⟩, h7⟩, h8⟩, h9⟩ := h
    rw [X.frames, List.length_cons] at h2 h3
    have q1 := X.heapSize
    have q2 := X.used
    simp only [hF, hU, List.length_cons, State.stackLimits_setFrames, State.stackBytes_setFrames, hl9, hb9]
    refine ⟨⟨⟨⟨by omega, by omega, by omega, by omega, by omega, h6⟩, ?_⟩, ?_⟩, X.book⟩
    · show T.heap.size + R'.cells ≤ e.platform.maxCells
      omega
    · show T.slotsUsed + R'.slots ≤ e.platform.maxSlots
      omega
  · rw [State.stackLimits_setFrames]; rfl
  · rw [State.stackBytes_setFrames]; rfl
  · refine ⟨?_, Nat.le_refl _, Nat.le_refl _, ?_, ?_, fun a c9 h9 => ⟨c9, h9, rfl, rfl, fun _ _ => rfl⟩⟩
    · obtain ⟨t, ht, -⟩ := State.frames_cons hr
      show T.setVm s.vm = { ((T.setVm s.vm).setFrames (.invoking m args :: below)).setFrames (T.setVm s.vm).frames with heap := T.heap, slotsUsed := T.slotsUsed }
      rw [State.setFrames_setFrames, State.setFrames_self ht]
      rfl
    · show T.slotsUsed = T.slotsUsed + ((T.heap.toList.drop T.heap.size).map (·.slots.size)).sum
      rw [List.drop_eq_nil_of_le (Nat.le_of_eq Array.length_toList)]
      rfl
    · show ((T.heap.toList.drop T.heap.size).map (·.slots.size)).sum ≤ 0
      rw [List.drop_eq_nil_of_le (Nat.le_of_eq Array.length_toList)]
      exact Nat.le_refl _
/-- 'throw new E()': new; dup; invokespecial; athrow -/
theorem vx_throw0 {cc : ByteArray} {pc : Nat} (hexec : p.tables.exec = Jvm.exec) (hb : c.code = cc) (hl : l.stackTraces = false) {own cls : String} {names : List String} {ik ic mc ms : Nat} {A : Nat → Prop}
    (hown : s.vm.findClass own = some m.cls) (hcls : Bundle.fit cls = true) (hnames : ∀ n ∈ names, Bundle.fit n = true)
    (hk : (Cond.classLink own ik cls).before args s = true) (hini : (Cond.initialized cls).before args s = true) (hat : ∀ w ∈ vx_at0 own ic cls names, w.before args s = true)
    (hgood : ∀ w ∈ Cond.classLink own ik cls :: Cond.initialized cls :: vx_at0 own ic cls names, vx_ot w = true)
    (hU : vx_Zq Bundle.tN "UNASSIGNED_STACK" Bundle.steD A s s.heap) (hN : vx_Zq Bundle.tN "SUPPRESSED_SENTINEL" Bundle.listD A s s.heap) (hS : va_S A s.heap H locs) (hsize : ls.size = c.maxLocals)
    (d0 : decode cc pc = .ok (.new ik, 3)) (d3 : decode cc (pc + 3) = .ok (.dup, 1)) (d4 : decode cc (pc + 4) = .ok (.invokespecial ic, 3)) (d7 : decode cc (pc + 7) = .ok (.athrow, 1))
    (hout : ∀ x ∈ c.exceptionTable.toList, covers x (pc + 7) = false)
    (hRframes : names.length + 3 < R.frames) (hRlocals : (rest.map fun v => v.category).sum + (13 * (names.length + 1) + 42) ≤ R.locals) (hRcells : cells + 1 ≤ R.cells) (hRslots : slots + 6 ≤ R.slots) (hlocks : meth.locks = false)
    (hx : ∀ t : State, s.vm.Alike t.vm → H.size ≤ t.heap.size → (∀ q : Nat, q < H.size → t.heap[q]? = H[q]?) → XC cls s t)
    (hf : ∀ z ∈ locs, free z.base) (hc : cells + 1 ≤ mc) (hs : slots + 6 ≤ ms) :
    W p l e R s m args below meth c H locs cells slots (vx_MQ below Qc XC args s mc ms free) (F0 m pc ls rest) := by
  intro T hT X
  have htr : e.platform.stackTraces = false := (show e.platform.stackTraces = l.stackTraces by rw [X.admits.platform]).trans hl
  have Y := vx_rebase X (R' := { frames := R.frames, locals := R.locals, cells := 1, slots := 6 }) (Nat.le_refl _) (Nat.le_refl _) hRcells hRslots
  obtain ⟨s', hA⟩ : ∃ z, z = (T.setVm s.vm).setFrames (.invoking m args :: below) := ⟨_, rfl⟩
  rw [← hA] at Y
  have hvm : s'.vm = s.vm := by rw [hA]; rfl
  have hhp : s'.heap = H := by rw [hA]; exact hT
  have hW0 : s.WarmedH s'.vm := by rw [hvm]; exact State.WarmedH.refl s
  have hat' : ∀ w ∈ vx_at0 own ic cls names, w.before args s' = true := fun w hw => vx_ot_at hW0 hvm.symm (hgood w (List.mem_cons_of_mem _ (List.mem_cons_of_mem _ hw))) (hat w hw)
  have hk' : (Cond.classLink own ik cls).before args s' = true := vx_ot_at hW0 hvm.symm (hgood _ List.mem_cons_self) hk
  have hini' : (Cond.initialized cls).before args s' = true := vx_ot_at hW0 hvm.symm (hgood _ (List.mem_cons_of_mem _ List.mem_cons_self)) hini
  have hU' : vx_Zq Bundle.tN "UNASSIGNED_STACK" Bundle.steD A s' s'.heap := by rw [hhp]; exact vx_Zq.moved hW0.alike (hU.kept hS.2.1)
  have hN' : vx_Zq Bundle.tN "SUPPRESSED_SENTINEL" Bundle.listD A s' s'.heap := by rw [hhp]; exact vx_Zq.moved hW0.alike (hN.kept hS.2.1)
  have h : ∀ w ∈ Bundle.ownAtoms0 own ic cls names, w.before args s' = true := vx_own hat' (vx_isRefq hU'.1) (vx_isRefq hN'.1) hU'.2.word hN'.2.word
  have hown' : s'.vm.findClass own = some m.cls := by rw [hvm]; exact hown
  have hins : (Cond.instantiable cls 6).before args s' = true := h _ (by simp [Bundle.ownAtoms0])
  obtain ⟨vm₁, cX, kX, hfX, hkX, -, -, X₁, st1⟩ := Y.newCold hexec (own := own) (C := cls) (index := ik) (n := 6) hown' hk' hins hini'
    (g := F0 m pc ls rest) rfl (by rw [hb]; exact d0) (Nat.le_refl _) (Nat.le_refl _)
  generalize hT1 : (T.setVm vm₁).pushCell { cls := cX, slots := kX.instanceTypes.map defaultValue, vm := .none } = T1 at X₁ st1
  have hcat : (Value.ref T.heap.size).category = 1 := rfl
  have hcellA : T1.heap[T.heap.size]? = some (freshCell cX kX) := by rw [← hT1]; exact State.heap_pushCell_size _ _
  have d3' : decode c.code (pc + 3) = .ok (.dup, 1) := by rw [hb]; exact d3
  obtain ⟨U, hsteps, hrun, hend, hW, hsame, ce, hce, hO⟩ := X₁.ctorThrow0 hexec htr (own := own) (cls := cls) (names := names) (ic := ic) hown' hcls hnames h (fun x hx => nomatch hx) hfX hkX hcellA (by rw [hhp, hT]; exact Nat.le_refl _)
    (g := { method := m, pc := pc + 4, locals := ls, stack := .ref T.heap.size :: .ref T.heap.size :: rest, locked := none }) rfl hsize rfl rfl (rest := rest) rfl
    (by rw [hb]; exact d4) (by rw [hb]; exact d7) hout hRframes (by simp only [List.map_cons, List.sum_cons, hcat]; omega) hlocks
  obtain ⟨f1, f2⟩ := vx_frame hsame
  rw [hhp] at f1 f2
  have hWs : s.WarmedH U.vm := State.WarmedH.trans hW0 hW
  have hcl : s.vm.findClass cls = some ce.cls := by
    have h9 := hO.cls
    rw [hvm] at h9
    exact h9
  have hall : s.sameButNew ({ U with vm := s.vm } : State) locs mc ms := by
    subst hA
    obtain ⟨e1, e2⟩ := hsame
    rw [State.setFrames_setFrames] at e1
    have h2 : (T.setVm s.vm).sameButNew ({ U with vm := s.vm } : State) [] (0 + 1) (0 + 6) := ⟨e1, e2⟩
    have h3 := X.same.trans h2
    rw [List.append_nil] at h3
    exact h3.mono hc hs
  refine ⟨U, ?_, .threw T.heap.size, hrun, hend, Or.inr ⟨T.heap.size, rfl, cls, ce, locs, hx U hWs.alike f1 (fun q hq => f2 q hq (fun z hz => nomatch hz)), hce, hO.vm, hcl, hWs, hall, hf⟩⟩
  refine st1 _ ?_
  show Steps p.tables e below (T1.setTop { method := m, pc := pc + 3, locals := ls, stack := .ref T.heap.size :: rest, locked := none }) _
  jvm_step X₁.here [X₁.here.top, hexec, d3', Value.category]
  exact hsteps
/-- 'throw new E("text")': new; dup; ldc; invokespecial; athrow -/
theorem vx_throwS {cc : ByteArray} {pc : Nat} (hexec : p.tables.exec = Jvm.exec) (hb : c.code = cc) (hl : l.stackTraces = false) {own cls text : String} {names : List String} {ik is ic mc ms sa : Nat} {A : Nat → Prop}
    (hown : s.vm.findClass own = some m.cls) (hcls : Bundle.fit cls = true) (hnames : ∀ n ∈ names, Bundle.fit n = true)
    (hk : (Cond.classLink own ik cls).before args s = true) (hini : (Cond.initialized cls).before args s = true) (hstr : vk_R own is text sa s) (hat : ∀ w ∈ vx_atS own ic cls names, w.before args s = true)
    (hgood : ∀ w ∈ Cond.classLink own ik cls :: Cond.initialized cls :: vx_atS own ic cls names, vx_ot w = true)
    (hU : vx_Zq Bundle.tN "UNASSIGNED_STACK" Bundle.steD A s s.heap) (hN : vx_Zq Bundle.tN "SUPPRESSED_SENTINEL" Bundle.listD A s s.heap) (hS : va_S A s.heap H locs) (hsize : ls.size = c.maxLocals)
    (d0 : decode cc pc = .ok (.new ik, 3)) (d3 : decode cc (pc + 3) = .ok (.dup, 1)) (d4 : decode cc (pc + 4) = .ok (.ldc is, 2)) (d6 : decode cc (pc + 6) = .ok (.invokespecial ic, 3)) (d9 : decode cc (pc + 9) = .ok (.athrow, 1))
    (hout : ∀ x ∈ c.exceptionTable.toList, covers x (pc + 9) = false)
    (hRframes : names.length + 3 < R.frames) (hRlocals : (rest.map fun v => v.category).sum + (13 * (names.length + 1) + 43) ≤ R.locals) (hRcells : cells + 1 ≤ R.cells) (hRslots : slots + 6 ≤ R.slots) (hlocks : meth.locks = false)
    (hx : ∀ t : State, s.vm.Alike t.vm → H.size ≤ t.heap.size → (∀ q : Nat, q < H.size → t.heap[q]? = H[q]?) → XC cls s t)
    (hf : ∀ z ∈ locs, free z.base) (hc : cells + 1 ≤ mc) (hs : slots + 6 ≤ ms) :
    W p l e R s m args below meth c H locs cells slots (vx_MQ below Qc XC args s mc ms free) (F0 m pc ls rest) := by
  intro T hT X
  have htr : e.platform.stackTraces = false := (show e.platform.stackTraces = l.stackTraces by rw [X.admits.platform]).trans hl
  have Y := vx_rebase X (R' := { frames := R.frames, locals := R.locals, cells := 1, slots := 6 }) (Nat.le_refl _) (Nat.le_refl _) hRcells hRslots
  obtain ⟨s', hA⟩ : ∃ z, z = (T.setVm s.vm).setFrames (.invoking m args :: below) := ⟨_, rfl⟩
  rw [← hA] at Y
  have hvm : s'.vm = s.vm := by rw [hA]; rfl
  have hhp : s'.heap = H := by rw [hA]; exact hT
  have hW0 : s.WarmedH s'.vm := by rw [hvm]; exact State.WarmedH.refl s
  have hat' : ∀ w ∈ vx_atS own ic cls names, w.before args s' = true := fun w hw => vx_ot_at hW0 hvm.symm (hgood w (List.mem_cons_of_mem _ (List.mem_cons_of_mem _ hw))) (hat w hw)
  have hk' : (Cond.classLink own ik cls).before args s' = true := vx_ot_at hW0 hvm.symm (hgood _ List.mem_cons_self) hk
  have hini' : (Cond.initialized cls).before args s' = true := vx_ot_at hW0 hvm.symm (hgood _ (List.mem_cons_of_mem _ List.mem_cons_self)) hini
  have hU' : vx_Zq Bundle.tN "UNASSIGNED_STACK" Bundle.steD A s' s'.heap := by rw [hhp]; exact vx_Zq.moved hW0.alike (hU.kept hS.2.1)
  have hN' : vx_Zq Bundle.tN "SUPPRESSED_SENTINEL" Bundle.listD A s' s'.heap := by rw [hhp]; exact vx_Zq.moved hW0.alike (hN.kept hS.2.1)
  have h : ∀ w ∈ Bundle.ownAtoms own ic cls names, w.before args s' = true := vx_own hat' (vx_isRefq hU'.1) (vx_isRefq hN'.1) hU'.2.word hN'.2.word
  have hown' : s'.vm.findClass own = some m.cls := by rw [hvm]; exact hown
  have hins : (Cond.instantiable cls 6).before args s' = true := h _ (by simp [Bundle.ownAtoms])
  obtain ⟨vm₁, cX, kX, hfX, hkX, -, -, X₁, st1⟩ := Y.newCold hexec (own := own) (C := cls) (index := ik) (n := 6) hown' hk' hins hini'
    (g := F0 m pc ls rest) rfl (by rw [hb]; exact d0) (Nat.le_refl _) (Nat.le_refl _)
  generalize hT1 : (T.setVm vm₁).pushCell { cls := cX, slots := kX.instanceTypes.map defaultValue, vm := .none } = T1 at X₁ st1
  have hcat : (Value.ref T.heap.size).category = 1 := rfl
  have hcellA : T1.heap[T.heap.size]? = some (freshCell cX kX) := by rw [← hT1]; exact State.heap_pushCell_size _ _
  have d3' : decode c.code (pc + 3) = .ok (.dup, 1) := by rw [hb]; exact d3
  have d4' : decode c.code (pc + 4) = .ok (.ldc is, 2) := by rw [hb]; exact d4
  have hstr' : vk_R own is text sa s' := vk_R.warm hW0 hstr
  obtain ⟨U, hsteps, hrun, hend, hW, hsame, ce, hce, hO⟩ := X₁.ctorThrowS hexec htr (own := own) (cls := cls) (names := names) (ic := ic) hown' hcls hnames h (fun x hx => nomatch hx) hfX hkX hcellA (by rw [hhp, hT]; exact Nat.le_refl _) (msg := .ref sa) rfl
    (g := { method := m, pc := pc + 6, locals := ls, stack := .ref sa :: .ref T.heap.size :: .ref T.heap.size :: rest, locked := none }) rfl hsize rfl rfl (rest := rest) rfl
    (by rw [hb]; exact d6) (by rw [hb]; exact d9) hout hRframes (by simp only [List.map_cons, List.sum_cons, hcat]; omega) hlocks
  obtain ⟨f1, f2⟩ := vx_frame hsame
  rw [hhp] at f1 f2
  have hWs : s.WarmedH U.vm := State.WarmedH.trans hW0 hW
  have hcl : s.vm.findClass cls = some ce.cls := by
    have h9 := hO.cls
    rw [hvm] at h9
    exact h9
  have hall : s.sameButNew ({ U with vm := s.vm } : State) locs mc ms := by
    subst hA
    obtain ⟨e1, e2⟩ := hsame
    rw [State.setFrames_setFrames] at e1
    have h2 : (T.setVm s.vm).sameButNew ({ U with vm := s.vm } : State) [] (0 + 1) (0 + 6) := ⟨e1, e2⟩
    have h3 := X.same.trans h2
    rw [List.append_nil] at h3
    exact h3.mono hc hs
  refine ⟨U, ?_, .threw T.heap.size, hrun, hend, Or.inr ⟨T.heap.size, rfl, cls, ce, locs, hx U hWs.alike f1 (fun q hq => f2 q hq (fun z hz => nomatch hz)), hce, hO.vm, hcl, hWs, hall, hf⟩⟩
  refine st1 _ ?_
  show Steps p.tables e below (T1.setTop { method := m, pc := pc + 3, locals := ls, stack := .ref T.heap.size :: rest, locked := none }) _
  jvm_step X₁.here [X₁.here.top, hexec, d3', Value.category]
  exact X₁.ldcString hexec (own := own) (text := text) (index := is) (a := sa) hown' hstr'.1 hstr'.2
    (g := { method := m, pc := pc + 4, locals := ls, stack := .ref T.heap.size :: .ref T.heap.size :: rest, locked := none }) rfl d4' _ hsteps
/-- 'throw new E("text")', the text by a wide index -/
theorem vx_throwSW {cc : ByteArray} {pc : Nat} (hexec : p.tables.exec = Jvm.exec) (hb : c.code = cc) (hl : l.stackTraces = false) {own cls text : String} {names : List String} {ik is ic mc ms sa : Nat} {A : Nat → Prop}
    (hown : s.vm.findClass own = some m.cls) (hcls : Bundle.fit cls = true) (hnames : ∀ n ∈ names, Bundle.fit n = true)
    (hk : (Cond.classLink own ik cls).before args s = true) (hini : (Cond.initialized cls).before args s = true) (hstr : vk_R own is text sa s) (hat : ∀ w ∈ vx_atS own ic cls names, w.before args s = true)
    (hgood : ∀ w ∈ Cond.classLink own ik cls :: Cond.initialized cls :: vx_atS own ic cls names, vx_ot w = true)
    (hU : vx_Zq Bundle.tN "UNASSIGNED_STACK" Bundle.steD A s s.heap) (hN : vx_Zq Bundle.tN "SUPPRESSED_SENTINEL" Bundle.listD A s s.heap) (hS : va_S A s.heap H locs) (hsize : ls.size = c.maxLocals)
    (d0 : decode cc pc = .ok (.new ik, 3)) (d3 : decode cc (pc + 3) = .ok (.dup, 1)) (d4 : decode cc (pc + 4) = .ok (.ldc_w is, 3)) (d7 : decode cc (pc + 7) = .ok (.invokespecial ic, 3)) (d10 : decode cc (pc + 10) = .ok (.athrow, 1))
    (hout : ∀ x ∈ c.exceptionTable.toList, covers x (pc + 10) = false)
    (hRframes : names.length + 3 < R.frames) (hRlocals : (rest.map fun v => v.category).sum + (13 * (names.length + 1) + 43) ≤ R.locals) (hRcells : cells + 1 ≤ R.cells) (hRslots : slots + 6 ≤ R.slots) (hlocks : meth.locks = false)
    (hx : ∀ t : State, s.vm.Alike t.vm → H.size ≤ t.heap.size → (∀ q : Nat, q < H.size → t.heap[q]? = H[q]?) → XC cls s t)
    (hf : ∀ z ∈ locs, free z.base) (hc : cells + 1 ≤ mc) (hs : slots + 6 ≤ ms) :
    W p l e R s m args below meth c H locs cells slots (vx_MQ below Qc XC args s mc ms free) (F0 m pc ls rest) := by
  intro T hT X
  have htr : e.platform.stackTraces = false := (show e.platform.stackTraces = l.stackTraces by rw [X.admits.platform]).trans hl
  have Y := vx_rebase X (R' := { frames := R.frames, locals := R.locals, cells := 1, slots := 6 }) (Nat.le_refl _) (Nat.le_refl _) hRcells hRslots
  obtain ⟨s', hA⟩ : ∃ z, z = (T.setVm s.vm).setFrames (.invoking m args :: below) := ⟨_, rfl⟩
  rw [← hA] at Y
  have hvm : s'.vm = s.vm := by rw [hA]; rfl
  have hhp : s'.heap = H := by rw [hA]; exact hT
  have hW0 : s.WarmedH s'.vm := by rw [hvm]; exact State.WarmedH.refl s
  have hat' : ∀ w ∈ vx_atS own ic cls names, w.before args s' = true := fun w hw => vx_ot_at hW0 hvm.symm (hgood w (List.mem_cons_of_mem _ (List.mem_cons_of_mem _ hw))) (hat w hw)
  have hk' : (Cond.classLink own ik cls).before args s' = true := vx_ot_at hW0 hvm.symm (hgood _ List.mem_cons_self) hk
  have hini' : (Cond.initialized cls).before args s' = true := vx_ot_at hW0 hvm.symm (hgood _ (List.mem_cons_of_mem _ List.mem_cons_self)) hini
  have hU' : vx_Zq Bundle.tN "UNASSIGNED_STACK" Bundle.steD A s' s'.heap := by rw [hhp]; exact vx_Zq.moved hW0.alike (hU.kept hS.2.1)
  have hN' : vx_Zq Bundle.tN "SUPPRESSED_SENTINEL" Bundle.listD A s' s'.heap := by rw [hhp]; exact vx_Zq.moved hW0.alike (hN.kept hS.2.1)
  have h : ∀ w ∈ Bundle.ownAtoms own ic cls names, w.before args s' = true := vx_own hat' (vx_isRefq hU'.1) (vx_isRefq hN'.1) hU'.2.word hN'.2.word
  have hown' : s'.vm.findClass own = some m.cls := by rw [hvm]; exact hown
  have hins : (Cond.instantiable cls 6).before args s' = true := h _ (by simp [Bundle.ownAtoms])
  obtain ⟨vm₁, cX, kX, hfX, hkX, -, -, X₁, st1⟩ := Y.newCold hexec (own := own) (C := cls) (index := ik) (n := 6) hown' hk' hins hini'
    (g := F0 m pc ls rest) rfl (by rw [hb]; exact d0) (Nat.le_refl _) (Nat.le_refl _)
  generalize hT1 : (T.setVm vm₁).pushCell { cls := cX, slots := kX.instanceTypes.map defaultValue, vm := .none } = T1 at X₁ st1
  have hcat : (Value.ref T.heap.size).category = 1 := rfl
  have hcellA : T1.heap[T.heap.size]? = some (freshCell cX kX) := by rw [← hT1]; exact State.heap_pushCell_size _ _
  have d3' : decode c.code (pc + 3) = .ok (.dup, 1) := by rw [hb]; exact d3
  have d4' : decode c.code (pc + 4) = .ok (.ldc_w is, 3) := by rw [hb]; exact d4
  have hstr' : vk_R own is text sa s' := vk_R.warm hW0 hstr
  obtain ⟨U, hsteps, hrun, hend, hW, hsame, ce, hce, hO⟩ := X₁.ctorThrowS hexec htr (own := own) (cls := cls) (names := names) (ic := ic) hown' hcls hnames h (fun x hx => nomatch hx) hfX hkX hcellA (by rw [hhp, hT]; exact Nat.le_refl _) (msg := .ref sa) rfl
    (g := { method := m, pc := pc + 7, locals := ls, stack := .ref sa :: .ref T.heap.size :: .ref T.heap.size :: rest, locked := none }) rfl hsize rfl rfl (rest := rest) rfl
    (by rw [hb]; exact d7) (by rw [hb]; exact d10) hout hRframes (by simp only [List.map_cons, List.sum_cons, hcat]; omega) hlocks
  obtain ⟨f1, f2⟩ := vx_frame hsame
  rw [hhp] at f1 f2
  have hWs : s.WarmedH U.vm := State.WarmedH.trans hW0 hW
  have hcl : s.vm.findClass cls = some ce.cls := by
    have h9 := hO.cls
    rw [hvm] at h9
    exact h9
  have hall : s.sameButNew ({ U with vm := s.vm } : State) locs mc ms := by
    subst hA
    obtain ⟨e1, e2⟩ := hsame
    rw [State.setFrames_setFrames] at e1
    have h2 : (T.setVm s.vm).sameButNew ({ U with vm := s.vm } : State) [] (0 + 1) (0 + 6) := ⟨e1, e2⟩
    have h3 := X.same.trans h2
    rw [List.append_nil] at h3
    exact h3.mono hc hs
  refine ⟨U, ?_, .threw T.heap.size, hrun, hend, Or.inr ⟨T.heap.size, rfl, cls, ce, locs, hx U hWs.alike f1 (fun q hq => f2 q hq (fun z hz => nomatch hz)), hce, hO.vm, hcl, hWs, hall, hf⟩⟩
  refine st1 _ ?_
  show Steps p.tables e below (T1.setTop { method := m, pc := pc + 3, locals := ls, stack := .ref T.heap.size :: rest, locked := none }) _
  jvm_step X₁.here [X₁.here.top, hexec, d3', Value.category]
  exact X₁.ldcStringW hexec (own := own) (text := text) (index := is) (a := sa) hown' hstr'.1 hstr'.2
    (g := { method := m, pc := pc + 4, locals := ls, stack := .ref T.heap.size :: .ref T.heap.size :: rest, locked := none }) rfl d4' _ hsteps
end Ends
section Bodies
variable {l : Launch}
theorem vx_ofW {y : MethodName} {ws ws' : List Cond} {rm : Room} {Pc : Array Value → State → Prop} {Qc : Array Value → State → Outcome → State → Prop} {XC : String → State → State → Prop} {mc ms : Nat} {free : Addr → Prop} {cc : ByteArray} {maxL : Nat} {ret : Option FieldType}
    (hy : plainName y.cls = true) (hw : ws = Cond.code y cc maxL ret :: ws')
    (body : ∀ p e s m args below meth c s₁, BodyLoose p l y (headSpec ws rm) cc maxL ret e s m args below meth c s₁ → c.maxLocals = maxL → (∀ x ∈ c.exceptionTable.toList, False) → Pc args s →
      W p l e (headSpec ws rm).room s m args below meth c s.heap [] 0 0 (vx_MQ below Qc XC args s mc ms free) (entryFrame m args maxL)) : vx_Met l y ws rm Pc Qc XC mc ms free := by
  refine MetFree.of_bodyS (code := cc) (maxLocals := maxL) (ret := ret) hy ?_ ?_
  · intro args s m h hn
    obtain ⟨meth, c, h1, h2, h3, h4, h5, h6, -, -⟩ := Cond.code_spec hn (atoms_spec (ws := ws) h _ (by rw [hw]; exact List.mem_cons_self))
    exact ⟨meth, c, h1, h2, h3, h4, h5, h6⟩
  · intro p e s m args below meth c s₁ B hml hP _
    have hh0 : s₁.heap = s.heap := by rw [B.state]; rfl
    have ht : ∀ x ∈ c.exceptionTable.toList, False := by
      obtain ⟨meth9, c9, h1, h2, -, -, -, -, h7, -⟩ := Cond.code_spec B.named (atoms_spec (ws := ws) B.pre _ (by rw [hw]; exact List.mem_cons_self))
      cases Option.some.inj (h1.symm.trans B.method)
      cases Option.some.inj (h2.symm.trans (Stand.of_body B).code)
      intro x hx
      rw [Array.isEmpty_iff.mp h7] at hx
      cases hx
    obtain ⟨t, a1, o, b1, b2, b3⟩ := body p e s m args below meth c s₁ B hml ht hP s₁ hh0 (Stand.of_body B)
    exact ⟨t, o, a1, b1, b2, b3⟩
/-- the table of a body with handlers -/
theorem vx_table {p : Program} {x y : MethodName} {S : Spec} {cc bytes : ByteArray} {maxL maxL' : Nat} {ret ret' : Option FieldType} {e : Env} {s s₁ : State} {m : MethodId} {args : Array Value} {below : List Frame} {meth : Method} {c : Code} {hh : List (Nat × Nat × Nat × Nat)}
    (B : BodyLoose p l y S cc maxL ret e s m args below meth c s₁) (h : (Cond.codeWith y bytes maxL' ret' hh).before args s = true) : c.exceptionTable.toList = tableOf hh := by
  obtain ⟨m9, meth9, c9, hn9, h1, h2, -, -, h6, -⟩ := Cond.codeWith_spec h
  cases Option.some.inj (hn9.symm.trans B.named)
  cases Option.some.inj (h1.symm.trans B.method)
  cases Option.some.inj (h2.symm.trans (Stand.of_body B).code)
  rw [← h6, table_eq]
end Bodies
end VXA
/-! ===== END ===== -/
/-! ===== BEGIN a static call of a method with an exception table ===== -/
section VXS
variable {p : Program} {l : Launch} {e : Env} {R : Room} {s : State} {m : MethodId} {args : Array Value} {below : List Frame} {meth : Method} {c : Code} {T : State} {H : Heap} {locs : List Loc} {cells slots : Nat}
abbrev vx_CSW (R : Room) (s : State) (args : Array Value) (own : String) (index : Nat) (y : MethodName) (bytes : ByteArray) (maxL : Nat) (ret : Option FieldType) (hh : List (Nat × Nat × Nat × Nat)) (ws : List Cond) (rm : Room) (mc ms n : Nat) : Prop :=
  (rm.cells = mc ∧ rm.slots = ms ∧ rm.frames + 1 ≤ R.frames ∧ 8 + (maxL + 11) + rm.locals ≤ R.locals ∧ (∀ w ∈ ws, ∀ (a' : Array Value) (U : State), s.WarmedH U.vm → w.before a' U = true) ∧ Cond.codeWith y bytes maxL ret hh ∈ ws) ∧
  (Cond.codeWith y bytes maxL ret hh).before args s = true ∧ (Cond.initialized y.cls).before args s = true ∧ (y.cls ≠ "java/lang/invoke/MethodHandle" ∧ y.cls ≠ "java/lang/invoke/VarHandle") ∧
  (∀ sig, parseMethodDescriptor y.desc = some sig → n = sig.parameters.length) ∧ (Cond.methodLink own index y).before args s = true ∧ (Cond.static y).before args s = true
theorem vx_cwSW {own : String} {index maxL mc ms : Nat} {y : MethodName} {bytes : ByteArray} {ret : Option FieldType} {hh : List (Nat × Nat × Nat × Nat)} {Ts ws ws' : List Cond} {rm : Room} (n : Nat) (ht : ∀ w ∈ Ts, w.before args s = true) (hT : GoodIn Ts (va_wsS own index y ws)) (hw : ws = Cond.codeWith y bytes maxL ret hh :: ws') (hrc : rm.cells = mc) (hrs : rm.slots = ms)
    (hd : y.cls ≠ "java/lang/invoke/MethodHandle" ∧ y.cls ≠ "java/lang/invoke/VarHandle" ∧ (parseMethodDescriptor y.desc).map (fun d => d.parameters.length) = some n) (hR : rm.frames + 1 ≤ R.frames ∧ 8 + (maxL + 11) + rm.locals ≤ R.locals) :
    vx_CSW R s args own index y bytes maxL ret hh ws rm mc ms n := by
  have ok : ∀ w ∈ va_wsS own index y ws, w.before args s = true := fun w h => ht w (hT w h).1
  have hG : GoodIn Ts ws := fun w h => hT w (by unfold va_wsS; exact List.mem_append_right _ h)
  have hc : Cond.codeWith y bytes maxL ret hh ∈ ws := by rw [hw]; exact List.mem_cons_self
  refine ⟨⟨hrc, hrs, hR.1, hR.2, pay_in ht hG, hc⟩, ht _ (hG _ hc).1, ok _ (by simp [va_wsS]), ⟨hd.1, hd.2.1⟩, fun sig h => ?_, ok _ (by simp [va_wsS]), ok _ (by simp [va_wsS])⟩
  have h2 := hd.2.2
  rw [h] at h2
  exact (Option.some.inj h2).symm
theorem vx_callSW (X : Stand p l e R s m args below meth c T locs cells slots) (hexec : p.tables.exec = Jvm.exec) {own : String} {index : Nat} {y : MethodName} {bytes : ByteArray} {maxL : Nat} {ret : Option FieldType} {hh : List (Nat × Nat × Nat × Nat)}
    (hown : s.vm.findClass own = some m.cls) (hlink : (Cond.methodLink own index y).before args s = true) (hstat : (Cond.static y).before args s = true) (hinit : (Cond.initialized y.cls).before args s = true)
    (hcode : (Cond.codeWith y bytes maxL ret hh).before args s = true) (hy : y.cls ≠ "java/lang/invoke/MethodHandle" ∧ y.cls ≠ "java/lang/invoke/VarHandle")
    {W9 : Nat} {Pre : Pt → Array Value → Prop} {Post : Pt → Array Value → Option Value → Pt → Prop} (hK : Back l R p e below s args y 3 W9 Pre Post)
    {g : JFrame} (hg : g.method = m) (hsize : g.locals.size = c.maxLocals) {argsL rest : List Value} (hlen : ∀ sig, parseMethodDescriptor y.desc = some sig → argsL.length = sig.parameters.length)
    (hstack : g.stack = argsL.reverse ++ rest) (hW : 2 * g.monitorRoom + (rest.map fun v => v.category).sum ≤ W9) (hdg : decode c.code g.pc = .ok (.invokestatic index, 3))
    (hpre : ∀ vm₁, s.WarmedH vm₁ → Pre ⟨T.setVm vm₁, locs, cells, slots⟩ argsL.toArray) :
    ∃ (v : Option Value) (vm₁ : Vm) (B : Pt), s.WarmedH vm₁ ∧ Stand p l e R s m args below meth c B.U B.locs B.cells B.slots ∧ Post ⟨T.setVm vm₁, locs, cells, slots⟩ argsL.toArray v B ∧
      ∀ target, Steps p.tables e below (B.U.setTop { g with pc := g.pc + 3, stack := v.toList ++ rest }) target → Steps p.tables e below (T.setTop g) target := by
  obtain ⟨mk, methM, cM, hnamed, hmethM, -, -, -, -, -, -, hsigM⟩ := Cond.codeWith_spec hcode
  have hstatic : methM.isStatic = true := Cond.static_spec hnamed hmethM hstat
  obtain ⟨kP, hkP, -⟩ := className_of_methodNamed hnamed
  have hinitP : kP.init = .initialized := Cond.initialized_spec (findClass_of_methodNamed hnamed) hkP hinit
  obtain ⟨vm₁, X₁, hstep₁⟩ := X.invokestatic hexec hown hlink hnamed hmethM hstatic hkP hinitP hy (g := g) hg (argsL := argsL) (rest := rest) (hlen _ hsigM) hstack hdg
  obtain ⟨v, B, X', hpost, hsteps⟩ := hK m meth c ⟨T.setVm vm₁, locs, cells, slots⟩ { g with stack := rest } (.invokestatic index) mk argsL.toArray X₁ hg hsize hdg hW (X₁.named hnamed) (hpre vm₁ X₁.warmed)
  exact ⟨v, vm₁, B, X₁.warmed, X', hpost, fun target h => hstep₁ _ fun acts => by rw [doInvoke_state]; exact hsteps.trans h⟩
theorem vx_runSW {y : MethodName} {bytes cc : ByteArray} {maxL nL mc ms n index : Nat} {ret : Option FieldType} {hh : List (Nat × Nat × Nat × Nat)} {ws : List Cond} {rm : Room} {Pc : Array Value → State → Prop} {Qc : Array Value → State → Outcome → State → Prop} {free : Addr → Prop} {Ts : List Cond} {own : String} {As rest : List Value} {g : JFrame}
    (S : CallFix p m c cc nL s args Ts own) (hM : Met l y ws rm Pc Qc mc ms free) (cw : vx_CSW R s args own index y bytes maxL ret hh ws rm mc ms n) (hp : PreS s H Pc As)
    (hg : g.method = m) (hn : As.length = n) (hsize : g.locals.size = nL) (hstack : g.stack = As.reverse ++ rest) (hW : 2 * g.monitorRoom + (rest.map fun v => v.category).sum ≤ 8) (hdg : decode cc g.pc = .ok (.invokestatic index, 3)) (hf : cells + mc ≤ R.cells ∧ slots + ms ≤ R.slots) :
    va_Run p l e R s m args below meth c H locs cells slots mc ms g rest (Qc As.toArray) (free) := by
  obtain ⟨⟨hrc, hrs, hfr, hlo, hws, hcw⟩, hcode, hini, hy, hlen, hl, hstt⟩ := cw
  have hK : Back l R p e below s args y 3 8 (PreOf R mc ms Pc) (PostOf Qc mc ms free) := va_backW (hh := hh) (bytes := bytes) (maxL := maxL) (ret := ret) hM hp.1 hrc hrs hfr hlo hws hcw (fun a' U hW => word_at hW (Or.inl (by first | rfl | simp [Cond.onTables, Cond.keeps, Cond.steady])) hini)
  obtain ⟨hx, hb, hml, ho, -⟩ := S
  intro T hT X
  obtain ⟨v, vm₁, ⟨U', l2, c2, s2⟩, hW₁, X', ⟨g', mk, t, L, e1, e2, hq, h1, hL, h2, h3⟩, st⟩ := vx_callSW X hx (hh := hh) (bytes := bytes) (maxL := maxL) (ret := ret) ho hl hstt hini hcode hy hK hg (hsize.trans hml.symm) (argsL := As) (rest := rest) (fun sig h => hn.trans (hlen sig h)) hstack hW (by rw [hb]; exact hdg)
    (fun vm₁ hW₁ => ⟨hf.1, hf.2, hp.2 (T.setVm vm₁) hT hW₁⟩)
  dsimp only [Pt.U, Pt.locs, Pt.cells, Pt.slots] at X' e1 e2 h1 h2 h3 st
  subst h1; subst h2; subst h3
  exact ⟨v, (T.setVm vm₁).calling g' mk As.toArray, t, U', L, hT, X', hL, e1, e2, hq, st⟩
/-- not caught here, past rows that name other classes: it goes on to the caller -/
theorem vx_outP {p : Program} {l : Launch} {e : Env} {R : Room} {s : State} {m : MethodId} {args : Array Value} {below : List Frame} {meth : Method} {c : Code} {H : Heap} {locs : List Loc} {cells slots : Nat} {free : Addr → Prop} {ls : Array Slot} {rest : List Value} {Qc : Array Value → State → Outcome → State → Prop} {XC : String → State → State → Prop}
    {pc : Nat} {own E : String} {ce : Cell} {q : Addr} {mc ms : Nat} (hown : s.vm.findClass own = some m.cls) (hlocks : meth.locks = false)
    (hpass : ∀ z ∈ c.exceptionTable.toList, covers z pc = false ∨ (z.catchType ≠ 0 ∧ ∃ nm : String, (Cond.classLink own z.catchType nm).before args s = true ∧ va_Nc E nm s)) (hcell : H[q]? = some ce) (hv : ce.vm = .none) (hcl : s.vm.findClass E = some ce.cls)
    (hx : ∀ t : State, t.heap = H → s.vm.Alike t.vm → XC E s t) (hf : ∀ z ∈ locs, free z.base) (hc : cells ≤ mc) (hs : slots ≤ ms) :
    vx_W p l e R s m args below meth c H locs cells slots (vx_MQ below Qc XC args s mc ms free) (F0 m pc ls rest) q := by
  intro T hT X
  have hpl : e.platform.magicAccessors = ({} : Platform).magicAccessors := by rw [X.admits.platform]
  obtain ⟨vm', hW', X', st⟩ := X.outThrough hlocks q (g := F0 m pc ls rest) rfl rfl rfl (cell := ce) (by rw [hT]; exact hcell) (by rw [hv]; rfl)
    (by obtain ⟨k9, h9, -⟩ := Vm.findClass_spec hcl; exact ⟨k9, h9⟩) (fun z hz => by
      rcases hpass z hz with h | ⟨hz0, nm, hl1, hn1⟩
      · exact Or.inl h
      · obtain ⟨c6, hc6, hcl6⟩ := Cond.classLink_spec hown hl1 e.platform hpl
        obtain ⟨a8, b8, h1, h2, h3⟩ := hn1
        cases Option.some.inj (h1.symm.trans hcl)
        cases Option.some.inj (h2.symm.trans hc6)
        exact Or.inr ⟨hz0, _, hcl6, h3⟩)
  obtain ⟨g₀, hfr⟩ := X'.frames_eq
  have hcell9 : ((T.setVm vm').setFrames (.throwing q :: below)).heap[q]? = some ce := by
    show T.heap[q]? = some ce
    rw [hT]; exact hcell
  have hend : Ended ((T.setVm vm').setFrames (.throwing q :: below)) below (.threw q) := State.frames_setFrames _ (State.cur_lt_of_frames hfr)
  refine ⟨(T.setVm vm').setFrames (.throwing q :: below), ?_, .threw q, X'.here.running, hend, Or.inr ⟨q, rfl, E, ce, locs, hx _ hT (X'.ends _).1.alike, hcell9, hv, hcl, (X'.ends _).1, (X'.ends _).2.mono hc hs, hf⟩⟩
  rw [X.pushThrowing_eq]
  exact st
/-- a thing of a world lies in the heap -/
theorem vx_lt {D : va_G} {cl : List vw_C} {ws : va_W} {H1 : Heap} (h : va_P D cl ws H1) {k : Nat} {q : Nat × va_E} (hk : ws[k]? = some q) : q.1 < H1.size := (h k q hk).lt
end VXS
/-! ===== END ===== -/
/-! ===== BEGIN methods with a table of their own: called by a name, returning or throwing ===== -/
section VXH
/-! vx_backW, vx_callVX, vx_callSX, vx_callVW, vx_runVW, vx_runVX, vx_runSX, vx_ofWH follow the same proofs as their sisters above (Free/Laws.lean, Shelf42/LK1.lean); vx_outP calls Shelf42/NT130.lean (outThrough). -/
section
variable {l : Launch} {R : Room} {p : Program} {e : Env} {below : List Frame} {s : State} {sargs : Array Value} {y : MethodName} {len W9 : Nat}
theorem vx_backW {ws : List Cond} {rm : Room} {Pc : Array Value → State → Prop} {Qc : Array Value → State → Outcome → State → Prop} {XC : String → State → State → Prop} {mc ms : Nat} {free : Addr → Prop} {bytes : ByteArray} {maxL : Nat} {ret : Option FieldType} {hh : List (Nat × Nat × Nat × Nat)}
    (hM : vx_Met l y ws rm Pc Qc XC mc ms free) (hblind : FrameBlind Pc) (hrc : rm.cells = mc) (hrs : rm.slots = ms)
    (hframes : rm.frames + 1 ≤ R.frames) (hlocals : W9 + (maxL + 11) + rm.locals ≤ R.locals)
    (hws : ∀ w ∈ ws, ∀ a' U, s.WarmedH U.vm → w.before a' U = true) (hcode : Cond.codeWith y bytes maxL ret hh ∈ ws) (hinit : ∀ a' U, s.WarmedH U.vm → (Cond.initialized y.cls).before a' U = true) :
    vx_Back l R p e below s sargs y len W9 (PreOf R mc ms Pc) (PostOf Qc mc ms free) (vx_Post XC mc ms free) := by
  intro m meth c A g ig mk a X hg hsize hdg hW hn hp
  have h1 : (headSpec ws rm).pre.before a A.U = true := atoms_intro fun w hw => hws w hw _ _ X.warmed
  have h2 : (Cond.codeWith y bytes maxL ret hh).before a A.U = true := hws _ hcode _ _ X.warmed
  have h3 : (Cond.initialized y.cls).before a A.U = true := hinit _ _ X.warmed
  have h4 : A.cells + (headSpec ws rm).room.cells ≤ R.cells := by rw [show (headSpec ws rm).room.cells = mc from hrc]; exact hp.1
  have h5 : A.slots + (headSpec ws rm).room.slots ≤ R.slots := by rw [show (headSpec ws rm).room.slots = ms from hrs]; exact hp.2.1
  have hPc : Pc a (A.U.calling g mk a) := hblind _ _ _ _ hp.2.2
  obtain ⟨U, Ls, c0, s0⟩ := A
  dsimp only [Pt.U, Pt.locs, Pt.cells, Pt.slots] at h1 h2 h3 h4 h5 X hn hPc ⊢
  obtain ⟨m9, methY, cY, hn9, hmY, hcY, -, hlY, -⟩ := Cond.codeWith_spec h2
  cases Option.some.inj (hn9.symm.trans hn)
  obtain ⟨kY, hkY, -⟩ := className_of_methodNamed hn
  have hinitY : kY.init = .initialized := Cond.initialized_spec (findClass_of_methodNamed hn) hkY h3
  have h : At U g.method c below := by rw [hg]; exact X.here
  have hlocals9 : W9 + (maxL + 11) + (headSpec ws rm).room.locals ≤ R.locals := hlocals
  have happ : (headSpec ws rm).appliesLoose y e.platform (U.calling g mk a) = true :=
    Spec.appliesLoose_calling (g := g) h hdg hn hkY hinitY
      (X.room_calling (g := g) (R' := (headSpec ws rm).room) hsize hmY hcY hframes (by rw [hlY]; omega) h4 h5) h1
  obtain ⟨mid, hmid⟩ := h.above
  have hfr : (U.setTop g).frames = (.java g :: mid) ++ below := by rw [State.frames_setTop' g h.top, hmid]; rfl
  obtain ⟨o, s₂, hsteps, -, hend, hq⟩ := Steps.callFree hM p X.admits X.cas X.clock (acts := []) hfr happ hPc trivial
  have hq' : vx_Q Qc XC mc ms free a (U.calling g mk a) o s₂ := hq
  rw [State.frames_setTop' g h.top] at hend
  obtain ⟨g₀, hg0⟩ := Option.isSome_iff_exists.mp h.top
  obtain ⟨r, hr⟩ := State.topJava?_eq_some.mp hg0
  have hr' : (({ U with heap := s₂.heap, slotsUsed := s₂.slotsUsed } : State).setVm s₂.vm).frames = .java g₀ :: r := hr
  rcases hq' with ⟨hqc, L, hfe, hL⟩ | ⟨q, rfl, E, ce, L, hx, hce, hcv, hcl, hW₂, hsm, hL⟩
  · obtain ⟨⟨v, rfl⟩, hW₂, e2, q2, q3, q4, q5, q6⟩ := id hfe
    have e3 : s₂ = ({ (U.calling g mk a).setFrames s₂.frames with heap := s₂.heap, slotsUsed := s₂.slotsUsed } : State).setVm s₂.vm := by
      have : s₂ = ({ s₂ with vm := (U.calling g mk a).vm } : State).setVm s₂.vm := rfl
      rw [e2] at this
      exact this
    obtain ⟨c₂, i₂, len₂, hc₂, hd₂, hf₂⟩ := hend
    have hW' : U.WarmedH s₂.vm := hW₂
    have hcc : c₂ = c := by
      have h1 : s₂.code? g.method = U.code? g.method := by
        rw [State.code?_eq, State.code?_eq, hW'.alike.method?]
      exact Option.some.inj (hc₂.symm.trans (h1.trans h.code))
    subst hcc
    have hlen : len₂ = len := by rw [hdg] at hd₂; cases hd₂; rfl
    subst hlen
    have hs₂ : s₂ = (({ U with heap := s₂.heap, slotsUsed := s₂.slotsUsed } : State).setVm s₂.vm).setTop { g with pc := g.pc + len₂, stack := v.toList ++ g.stack } := by
      refine e3.trans ?_
      rw [hf₂, State.calling_eq h.top, State.setFrames_setFrames, State.setTop_of_frames _ hr', hr]
      rfl
    have hsame : U.sameButNew ({ U with heap := s₂.heap, slotsUsed := s₂.slotsUsed } : State) L mc ms := by
      refine ⟨?_, q2, q3, q4, q5, q6⟩
      obtain ⟨t, ht, -⟩ := State.frames_cons hr
      show ({ U with heap := s₂.heap, slotsUsed := s₂.slotsUsed } : State) = { U.setFrames U.frames with heap := s₂.heap, slotsUsed := s₂.slotsUsed }
      rw [State.setFrames_self ht]
    subst hg
    refine Or.inl ⟨v, ⟨(({ U with heap := s₂.heap, slotsUsed := s₂.slotsUsed } : State).setVm s₂.vm), Ls ++ L, c0 + mc, s0 + ms⟩,
      ⟨X.admits, X.cas, X.clock, X.frames, X.room, X.hears, X.method, X.code, (X.here.setHeapUsed s₂.heap s₂.slotsUsed).setVm hW'.alike, X.tail, State.WarmedH.trans X.warmed hW', X.limits, X.bytes, X.same.trans (hsame.setVm s.vm)⟩,
      ⟨g, mk, s₂, L, rfl, rfl, hqc, rfl, hL, rfl, rfl⟩, ?_⟩
    show Steps p.tables e below _ ((({ U with heap := s₂.heap, slotsUsed := s₂.slotsUsed } : State).setVm s₂.vm).setTop { g with pc := g.pc + len₂, stack := v.toList ++ g.stack })
    rw [← hs₂]
    exact hsteps
  · obtain ⟨e2, q2, q3, q4, q5, q6⟩ := id hsm
    have e3 : s₂ = ({ (U.calling g mk a).setFrames s₂.frames with heap := s₂.heap, slotsUsed := s₂.slotsUsed } : State).setVm s₂.vm := by
      have : s₂ = ({ s₂ with vm := (U.calling g mk a).vm } : State).setVm s₂.vm := rfl
      rw [e2] at this
      exact this
    have hf₂ : s₂.frames = .throwing q :: .java g :: U.frames.tail := hend
    have hW' : U.WarmedH s₂.vm := hW₂
    have hs₂ : s₂ = ((({ U with heap := s₂.heap, slotsUsed := s₂.slotsUsed } : State).setVm s₂.vm).setTop g).pushFrame (.throwing q) := by
      refine e3.trans ?_
      rw [hf₂, State.calling_eq h.top, State.setFrames_setFrames, State.pushFrame, State.frames_setTop _ hr', State.setTop_of_frames _ hr', State.setFrames_setFrames, hr]
      rfl
    have hsame : U.sameButNew ({ U with heap := s₂.heap, slotsUsed := s₂.slotsUsed } : State) L mc ms := by
      refine ⟨?_, q2, q3, q4, q5, q6⟩
      obtain ⟨t, ht, -⟩ := State.frames_cons hr
      show ({ U with heap := s₂.heap, slotsUsed := s₂.slotsUsed } : State) = { U.setFrames U.frames with heap := s₂.heap, slotsUsed := s₂.slotsUsed }
      rw [State.setFrames_self ht]
    subst hg
    refine Or.inr ⟨q, ⟨(({ U with heap := s₂.heap, slotsUsed := s₂.slotsUsed } : State).setVm s₂.vm), Ls ++ L, c0 + mc, s0 + ms⟩,
      ⟨X.admits, X.cas, X.clock, X.frames, X.room, X.hears, X.method, X.code, (X.here.setHeapUsed s₂.heap s₂.slotsUsed).setVm hW'.alike, X.tail, State.WarmedH.trans X.warmed hW', X.limits, X.bytes, X.same.trans (hsame.setVm s.vm)⟩,
      ⟨g, mk, s₂, L, E, ce, rfl, rfl, hx, hce, hcv, hcl, rfl, hL, rfl, rfl⟩, ?_⟩
    show Steps p.tables e below _ (((({ U with heap := s₂.heap, slotsUsed := s₂.slotsUsed } : State).setVm s₂.vm).setTop g).pushFrame (.throwing q))
    rw [← hs₂]
    exact hsteps
end
variable {p : Program} {l : Launch} {e : Env} {R : Room} {s : State} {m : MethodId} {args : Array Value} {below : List Frame} {meth : Method} {c : Code} {T : State} {H : Heap} {locs : List Loc} {cells slots : Nat}
theorem vx_callVX (X : Stand p l e R s m args below meth c T locs cells slots) (hexec : p.tables.exec = Jvm.exec) {own C : String} {index : Nat} {y : MethodName} {bytes : ByteArray} {maxL : Nat} {ret : Option FieldType} {hh : List (Nat × Nat × Nat × Nat)}
    (hown : s.vm.findClass own = some m.cls) (hlink : (Cond.methodLink own index y).before args s = true) (hinst : (Cond.instanceMethod y).before args s = true) (hsel : (Cond.selects C y y).before args s = true)
    (hcode : (Cond.codeWith y bytes maxL ret hh).before args s = true) (hy : y.cls ≠ "java/lang/invoke/MethodHandle" ∧ y.cls ≠ "java/lang/invoke/VarHandle")
    {W9 : Nat} {Pre : Pt → Array Value → Prop} {Post : Pt → Array Value → Option Value → Pt → Prop} {PostX : Pt → Array Value → Addr → Pt → Prop} (hK : vx_Back l R p e below s args y 3 W9 Pre Post PostX)
    {b : Addr} {cellB : Cell} (hcell : T.heap[b]? = some cellB) (hobj : cellB.vm.isStatics = false) (hcls : s.vm.findClass C = some cellB.cls)
    {g : JFrame} (hg : g.method = m) (hsize : g.locals.size = c.maxLocals) {argsL rest : List Value} (hlen : ∀ sig, parseMethodDescriptor y.desc = some sig → argsL.length = sig.parameters.length)
    (hstack : g.stack = argsL.reverse ++ .ref b :: rest) (hW : 2 * g.monitorRoom + (rest.map fun v => v.category).sum ≤ W9) (hdg : decode c.code g.pc = .ok (.invokevirtual index, 3))
    (hpre : ∀ vm₁, s.WarmedH vm₁ → Pre ⟨T.setVm vm₁, locs, cells, slots⟩ (Value.ref b :: argsL).toArray) :
    (∃ (v : Option Value) (vm₁ : Vm) (B : Pt), s.WarmedH vm₁ ∧ Stand p l e R s m args below meth c B.U B.locs B.cells B.slots ∧ Post ⟨T.setVm vm₁, locs, cells, slots⟩ (Value.ref b :: argsL).toArray v B ∧
      ∀ target, Steps p.tables e below (B.U.setTop { g with pc := g.pc + 3, stack := v.toList ++ rest }) target → Steps p.tables e below (T.setTop g) target) ∨
    (∃ (q : Addr) (vm₁ : Vm) (B : Pt), s.WarmedH vm₁ ∧ Stand p l e R s m args below meth c B.U B.locs B.cells B.slots ∧ PostX ⟨T.setVm vm₁, locs, cells, slots⟩ (Value.ref b :: argsL).toArray q B ∧
      Steps p.tables e below (T.setTop g) ((B.U.setTop { g with stack := rest }).pushFrame (.throwing q))) := by
  obtain ⟨mk, methM, hnamed, hmethM, hstM, habM⟩ := Cond.instanceMethod_spec hinst
  obtain ⟨m8, methM', cM, hn8, hmethM', -, -, -, -, -, -, hsigM⟩ := Cond.codeWith_spec hcode
  cases Option.some.inj (hn8.symm.trans hnamed)
  cases hmethM.symm.trans hmethM'
  obtain ⟨c2, r2, m2, q1, q2, q3, q4, kP, hkP, hkPi⟩ := Cond.selects_spec hsel
  cases hcls.symm.trans q1
  cases (State.methodFound?_of_named hnamed hy).symm.trans q2
  cases hnamed.symm.trans q3
  have hselP : selectMethod e.platform s.vm cellB.cls mk = .method mk := by rw [Launch.admits_selectMethod X.admits]; exact q4
  obtain ⟨vm₁, X₁, hstep₁⟩ := X.invokevirtual hexec hown hlink hnamed hmethM hstM hkP hkPi hy (a := b) (cell := cellB) hcell
    (fun z h => by rw [h] at hobj; cases hobj) hselP hmethM habM hkP hkPi (g := g) hg (argsL := argsL) (rest := rest) (hlen _ hsigM) hstack hdg
  rcases hK m meth c ⟨T.setVm vm₁, locs, cells, slots⟩ { g with stack := rest } (.invokevirtual index) mk (Value.ref b :: argsL).toArray X₁ hg hsize hdg hW (X₁.named hnamed) (hpre vm₁ X₁.warmed) with ⟨v, B, X', hpost, hsteps⟩ | ⟨q, B, X', hpost, hsteps⟩
  · exact Or.inl ⟨v, vm₁, B, X₁.warmed, X', hpost, fun target h => hstep₁ _ fun acts => by rw [doInvoke_state]; exact hsteps.trans h⟩
  · exact Or.inr ⟨q, vm₁, B, X₁.warmed, X', hpost, hstep₁ _ fun acts => by rw [doInvoke_state]; exact hsteps⟩
theorem vx_callSX (X : Stand p l e R s m args below meth c T locs cells slots) (hexec : p.tables.exec = Jvm.exec) {own : String} {index : Nat} {y : MethodName} {bytes : ByteArray} {maxL : Nat} {ret : Option FieldType} {hh : List (Nat × Nat × Nat × Nat)}
    (hown : s.vm.findClass own = some m.cls) (hlink : (Cond.methodLink own index y).before args s = true) (hstat : (Cond.static y).before args s = true) (hinit : (Cond.initialized y.cls).before args s = true)
    (hcode : (Cond.codeWith y bytes maxL ret hh).before args s = true) (hy : y.cls ≠ "java/lang/invoke/MethodHandle" ∧ y.cls ≠ "java/lang/invoke/VarHandle")
    {W9 : Nat} {Pre : Pt → Array Value → Prop} {Post : Pt → Array Value → Option Value → Pt → Prop} {PostX : Pt → Array Value → Addr → Pt → Prop} (hK : vx_Back l R p e below s args y 3 W9 Pre Post PostX)
    {g : JFrame} (hg : g.method = m) (hsize : g.locals.size = c.maxLocals) {argsL rest : List Value} (hlen : ∀ sig, parseMethodDescriptor y.desc = some sig → argsL.length = sig.parameters.length)
    (hstack : g.stack = argsL.reverse ++ rest) (hW : 2 * g.monitorRoom + (rest.map fun v => v.category).sum ≤ W9) (hdg : decode c.code g.pc = .ok (.invokestatic index, 3))
    (hpre : ∀ vm₁, s.WarmedH vm₁ → Pre ⟨T.setVm vm₁, locs, cells, slots⟩ argsL.toArray) :
    (∃ (v : Option Value) (vm₁ : Vm) (B : Pt), s.WarmedH vm₁ ∧ Stand p l e R s m args below meth c B.U B.locs B.cells B.slots ∧ Post ⟨T.setVm vm₁, locs, cells, slots⟩ argsL.toArray v B ∧
      ∀ target, Steps p.tables e below (B.U.setTop { g with pc := g.pc + 3, stack := v.toList ++ rest }) target → Steps p.tables e below (T.setTop g) target) ∨
    (∃ (q : Addr) (vm₁ : Vm) (B : Pt), s.WarmedH vm₁ ∧ Stand p l e R s m args below meth c B.U B.locs B.cells B.slots ∧ PostX ⟨T.setVm vm₁, locs, cells, slots⟩ argsL.toArray q B ∧
      Steps p.tables e below (T.setTop g) ((B.U.setTop { g with stack := rest }).pushFrame (.throwing q))) := by
  obtain ⟨mk, methM, cM, hnamed, hmethM, -, -, -, -, -, -, hsigM⟩ := Cond.codeWith_spec hcode
  have hstatic : methM.isStatic = true := Cond.static_spec hnamed hmethM hstat
  obtain ⟨kP, hkP, -⟩ := className_of_methodNamed hnamed
  have hinitP : kP.init = .initialized := Cond.initialized_spec (findClass_of_methodNamed hnamed) hkP hinit
  obtain ⟨vm₁, X₁, hstep₁⟩ := X.invokestatic hexec hown hlink hnamed hmethM hstatic hkP hinitP hy (g := g) hg (argsL := argsL) (rest := rest) (hlen _ hsigM) hstack hdg
  rcases hK m meth c ⟨T.setVm vm₁, locs, cells, slots⟩ { g with stack := rest } (.invokestatic index) mk argsL.toArray X₁ hg hsize hdg hW (X₁.named hnamed) (hpre vm₁ X₁.warmed) with ⟨v, B, X', hpost, hsteps⟩ | ⟨q, B, X', hpost, hsteps⟩
  · exact Or.inl ⟨v, vm₁, B, X₁.warmed, X', hpost, fun target h => hstep₁ _ fun acts => by rw [doInvoke_state]; exact hsteps.trans h⟩
  · exact Or.inr ⟨q, vm₁, B, X₁.warmed, X', hpost, hstep₁ _ fun acts => by rw [doInvoke_state]; exact hsteps⟩
theorem vx_callVW (X : Stand p l e R s m args below meth c T locs cells slots) (hexec : p.tables.exec = Jvm.exec) {own C : String} {index : Nat} {y : MethodName} {bytes : ByteArray} {maxL : Nat} {ret : Option FieldType} {hh : List (Nat × Nat × Nat × Nat)}
    (hown : s.vm.findClass own = some m.cls) (hlink : (Cond.methodLink own index y).before args s = true) (hinst : (Cond.instanceMethod y).before args s = true) (hsel : (Cond.selects C y y).before args s = true)
    (hcode : (Cond.codeWith y bytes maxL ret hh).before args s = true) (hy : y.cls ≠ "java/lang/invoke/MethodHandle" ∧ y.cls ≠ "java/lang/invoke/VarHandle")
    {W9 : Nat} {Pre : Pt → Array Value → Prop} {Post : Pt → Array Value → Option Value → Pt → Prop} (hK : Back l R p e below s args y 3 W9 Pre Post)
    {b : Addr} {cellB : Cell} (hcell : T.heap[b]? = some cellB) (hobj : cellB.vm.isStatics = false) (hcls : s.vm.findClass C = some cellB.cls)
    {g : JFrame} (hg : g.method = m) (hsize : g.locals.size = c.maxLocals) {argsL rest : List Value} (hlen : ∀ sig, parseMethodDescriptor y.desc = some sig → argsL.length = sig.parameters.length)
    (hstack : g.stack = argsL.reverse ++ .ref b :: rest) (hW : 2 * g.monitorRoom + (rest.map fun v => v.category).sum ≤ W9) (hdg : decode c.code g.pc = .ok (.invokevirtual index, 3))
    (hpre : ∀ vm₁, s.WarmedH vm₁ → Pre ⟨T.setVm vm₁, locs, cells, slots⟩ (Value.ref b :: argsL).toArray) :
    ∃ (v : Option Value) (vm₁ : Vm) (B : Pt), s.WarmedH vm₁ ∧ Stand p l e R s m args below meth c B.U B.locs B.cells B.slots ∧ Post ⟨T.setVm vm₁, locs, cells, slots⟩ (Value.ref b :: argsL).toArray v B ∧
      ∀ target, Steps p.tables e below (B.U.setTop { g with pc := g.pc + 3, stack := v.toList ++ rest }) target → Steps p.tables e below (T.setTop g) target := by
  obtain ⟨mk, methM, hnamed, hmethM, hstM, habM⟩ := Cond.instanceMethod_spec hinst
  obtain ⟨m8, methM', cM, hn8, hmethM', -, -, -, -, -, -, hsigM⟩ := Cond.codeWith_spec hcode
  cases Option.some.inj (hn8.symm.trans hnamed)
  cases hmethM.symm.trans hmethM'
  obtain ⟨c2, r2, m2, q1, q2, q3, q4, kP, hkP, hkPi⟩ := Cond.selects_spec hsel
  cases hcls.symm.trans q1
  cases (State.methodFound?_of_named hnamed hy).symm.trans q2
  cases hnamed.symm.trans q3
  have hselP : selectMethod e.platform s.vm cellB.cls mk = .method mk := by rw [Launch.admits_selectMethod X.admits]; exact q4
  obtain ⟨vm₁, X₁, hstep₁⟩ := X.invokevirtual hexec hown hlink hnamed hmethM hstM hkP hkPi hy (a := b) (cell := cellB) hcell
    (fun z h => by rw [h] at hobj; cases hobj) hselP hmethM habM hkP hkPi (g := g) hg (argsL := argsL) (rest := rest) (hlen _ hsigM) hstack hdg
  obtain ⟨v, B, X', hpost, hsteps⟩ := hK m meth c ⟨T.setVm vm₁, locs, cells, slots⟩ { g with stack := rest } (.invokevirtual index) mk (Value.ref b :: argsL).toArray X₁ hg hsize hdg hW (X₁.named hnamed) (hpre vm₁ X₁.warmed)
  exact ⟨v, vm₁, B, X₁.warmed, X', hpost, fun target h => hstep₁ _ fun acts => by rw [doInvoke_state]; exact hsteps.trans h⟩
abbrev vx_CVW (R : Room) (s : State) (args : Array Value) (own C : String) (index : Nat) (y : MethodName) (bytes : ByteArray) (maxL : Nat) (ret : Option FieldType) (hh : List (Nat × Nat × Nat × Nat)) (ws : List Cond) (rm : Room) (mc ms n : Nat) : Prop :=
  (rm.cells = mc ∧ rm.slots = ms ∧ rm.frames + 1 ≤ R.frames ∧ 8 + (maxL + 11) + rm.locals ≤ R.locals ∧ (∀ w ∈ ws, ∀ (a' : Array Value) (U : State), s.WarmedH U.vm → w.before a' U = true) ∧ Cond.codeWith y bytes maxL ret hh ∈ ws) ∧
  (Cond.codeWith y bytes maxL ret hh).before args s = true ∧ (Cond.initialized y.cls).before args s = true ∧ (y.cls ≠ "java/lang/invoke/MethodHandle" ∧ y.cls ≠ "java/lang/invoke/VarHandle") ∧
  (∀ sig, parseMethodDescriptor y.desc = some sig → n = sig.parameters.length) ∧ (Cond.methodLink own index y).before args s = true ∧ (Cond.instanceMethod y).before args s = true ∧ (Cond.selects C y y).before args s = true
theorem vx_cwVW {own C : String} {index maxL mc ms : Nat} {y : MethodName} {bytes : ByteArray} {ret : Option FieldType} {hh : List (Nat × Nat × Nat × Nat)} {Ts ws ws' : List Cond} {rm : Room} (n : Nat) (ht : ∀ w ∈ Ts, w.before args s = true) (hT : GoodIn Ts (wsV own index C y ws)) (hw : ws = Cond.codeWith y bytes maxL ret hh :: ws') (hrc : rm.cells = mc) (hrs : rm.slots = ms)
    (hd : y.cls = C ∧ y.cls ≠ "java/lang/invoke/MethodHandle" ∧ y.cls ≠ "java/lang/invoke/VarHandle" ∧ (parseMethodDescriptor y.desc).map (fun d => d.parameters.length) = some n) (hR : rm.frames + 1 ≤ R.frames ∧ 8 + (maxL + 11) + rm.locals ≤ R.locals) :
    vx_CVW R s args own C index y bytes maxL ret hh ws rm mc ms n := by
  obtain ⟨hC, hd⟩ := hd
  subst hC
  have ok : ∀ w ∈ wsV own index y.cls y ws, w.before args s = true := fun w h => ht w (hT w h).1
  have hG : GoodIn Ts ws := fun w h => hT w (by unfold wsV; exact List.mem_append_right _ h)
  have hc : Cond.codeWith y bytes maxL ret hh ∈ ws := by rw [hw]; exact List.mem_cons_self
  refine ⟨⟨hrc, hrs, hR.1, hR.2, pay_in ht hG, hc⟩, ht _ (hG _ hc).1, ok _ (by simp [wsV]), ⟨hd.1, hd.2.1⟩, fun sig h => ?_, ok _ (by simp [wsV]), ok _ (by simp [wsV]), ok _ (by simp [wsV])⟩
  have h2 := hd.2.2
  rw [h] at h2
  exact (Option.some.inj h2).symm
theorem vx_runVW {y : MethodName} {bytes cc : ByteArray} {maxL nL mc ms n index : Nat} {ret : Option FieldType} {hh : List (Nat × Nat × Nat × Nat)} {ws : List Cond} {rm : Room} {Pc : Array Value → State → Prop} {Qc : Array Value → State → Outcome → State → Prop} {free : Addr → Prop} {Ts : List Cond} {own C : String} {b : Addr} {As rest : List Value} {g : JFrame}
    (S : CallFix p m c cc nL s args Ts own) (hM : Met l y ws rm Pc Qc mc ms free) (cw : vx_CVW R s args own C index y bytes maxL ret hh ws rm mc ms n) (hp : PreV s H C b Pc As)
    (hg : g.method = m) (hn : As.length = n) (hsize : g.locals.size = nL) (hstack : g.stack = As.reverse ++ .ref b :: rest) (hW : 2 * g.monitorRoom + (rest.map fun v => v.category).sum ≤ 8) (hdg : decode cc g.pc = .ok (.invokevirtual index, 3)) (hf : cells + mc ≤ R.cells ∧ slots + ms ≤ R.slots) :
    va_Run p l e R s m args below meth c H locs cells slots mc ms g rest (Qc (Value.ref b :: As).toArray) free := by
  obtain ⟨⟨hrc, hrs, hfr, hlo, hws, hcw⟩, hcode, hini, hy, hlen, hl, hin, hse⟩ := cw
  have hK : Back l R p e below s args y 3 8 (PreOf R mc ms Pc) (PostOf Qc mc ms free) := va_backW (hh := hh) (bytes := bytes) (maxL := maxL) (ret := ret) hM hp.1 hrc hrs hfr hlo hws hcw (fun a' U hW => word_at hW (Or.inl (by first | rfl | simp [Cond.onTables, Cond.keeps, Cond.steady])) hini)
  obtain ⟨hx, hb, hml, ho, -⟩ := S
  obtain ⟨-, ⟨cellB, hcB, hoB, hclB⟩, hPc⟩ := hp
  intro T hT X
  obtain ⟨v, vm₁, ⟨U', l2, c2, s2⟩, hW₁, X', ⟨g', mk, t, L, e1, e2, hq, h1, hL, h2, h3⟩, st⟩ := vx_callVW X hx (C := C) (hh := hh) (bytes := bytes) (maxL := maxL) (ret := ret) ho hl hin hse hcode hy hK (by rw [hT]; exact hcB) hoB hclB hg (hsize.trans hml.symm) (argsL := As) (rest := rest) (fun sig h => hn.trans (hlen sig h)) hstack hW (by rw [hb]; exact hdg)
    (fun vm₁ hW₁ => ⟨hf.1, hf.2, hPc (T.setVm vm₁) hT hW₁⟩)
  dsimp only [Pt.U, Pt.locs, Pt.cells, Pt.slots] at X' e1 e2 h1 h2 h3 st
  subst h1; subst h2; subst h3
  exact ⟨v, (T.setVm vm₁).calling g' mk (Value.ref b :: As).toArray, t, U', L, hT, X', hL, e1, e2, hq, st⟩
section
variable {y : MethodName} {bytes cc : ByteArray} {maxL nL mc ms n index : Nat} {ret : Option FieldType} {ws : List Cond} {rm : Room} {Pc : Array Value → State → Prop} {Qc : Array Value → State → Outcome → State → Prop} {XC : String → State → State → Prop} {free : Addr → Prop} {Ts : List Cond} {own C : String} {b : Addr} {As rest : List Value} {g : JFrame}
theorem vx_runVX {hh : List (Nat × Nat × Nat × Nat)} (S : CallFix p m c cc nL s args Ts own) (hM : vx_Met l y ws rm Pc Qc XC mc ms free) (cw : vx_CVW R s args own C index y bytes maxL ret hh ws rm mc ms n) (hp : PreV s H C b Pc As)
    (hg : g.method = m) (hn : As.length = n) (hsize : g.locals.size = nL) (hstack : g.stack = As.reverse ++ .ref b :: rest) (hW : 2 * g.monitorRoom + (rest.map fun v => v.category).sum ≤ 8) (hdg : decode cc g.pc = .ok (.invokevirtual index, 3)) (hf : cells + mc ≤ R.cells ∧ slots + ms ≤ R.slots) :
    vx_Run p l e R s m args below meth c H locs cells slots mc ms g rest (Qc (Value.ref b :: As).toArray) XC free := by
  obtain ⟨⟨hrc, hrs, hfr, hlo, hws, hcw⟩, hcode, hini, hy, hlen, hl, hin, hse⟩ := cw
  have hK : vx_Back l R p e below s args y 3 8 (PreOf R mc ms Pc) (PostOf Qc mc ms free) (vx_Post XC mc ms free) := vx_backW (hh := hh) (bytes := bytes) (maxL := maxL) (ret := ret) hM hp.1 hrc hrs hfr hlo hws hcw (fun a' U hW => word_at hW (Or.inl (by first | rfl | simp [Cond.onTables, Cond.keeps, Cond.steady])) hini)
  obtain ⟨hx, hb, hml, ho, -⟩ := S
  obtain ⟨-, ⟨cellB, hcB, hoB, hclB⟩, hPc⟩ := hp
  intro T hT X
  rcases vx_callVX X hx (C := C) (hh := hh) (bytes := bytes) (maxL := maxL) (ret := ret) ho hl hin hse hcode hy hK (by rw [hT]; exact hcB) hoB hclB hg (hsize.trans hml.symm) (argsL := As) (rest := rest) (fun sig h => hn.trans (hlen sig h)) hstack hW (by rw [hb]; exact hdg)
    (fun vm₁ hW₁ => ⟨hf.1, hf.2, hPc (T.setVm vm₁) hT hW₁⟩) with ⟨v, vm₁, ⟨U', l2, c2, s2⟩, hW₁, X', ⟨g', mk, t, L, e1, e2, hq, h1, hL, h2, h3⟩, st⟩ | ⟨q, vm₁, ⟨U', l2, c2, s2⟩, hW₁, X', ⟨g', mk, t, L, E, ce, e1, e2, hq, hce, hcv, hcl, h1, hL, h2, h3⟩, st⟩
  · dsimp only [Pt.U, Pt.locs, Pt.cells, Pt.slots] at X' e1 e2 h1 h2 h3 st
    subst h1; subst h2; subst h3
    exact Or.inl ⟨v, (T.setVm vm₁).calling g' mk (Value.ref b :: As).toArray, t, U', L, hT, X', hL, e1, e2, hq, st⟩
  · dsimp only [Pt.U, Pt.locs, Pt.cells, Pt.slots] at X' e1 e2 h1 h2 h3 st hcl
    subst h1; subst h2; subst h3
    exact Or.inr ⟨q, (T.setVm vm₁).calling g' mk (Value.ref b :: As).toArray, t, U', L, E, ce, hT, X', hL, e1, e2, hq, hce, hcv, vx_cls hW₁ hcl, st⟩
theorem vx_runSX {hh : List (Nat × Nat × Nat × Nat)} (S : CallFix p m c cc nL s args Ts own) (hM : vx_Met l y ws rm Pc Qc XC mc ms free) (cw : vx_CSW R s args own index y bytes maxL ret hh ws rm mc ms n) (hp : PreS s H Pc As)
    (hg : g.method = m) (hn : As.length = n) (hsize : g.locals.size = nL) (hstack : g.stack = As.reverse ++ rest) (hW : 2 * g.monitorRoom + (rest.map fun v => v.category).sum ≤ 8) (hdg : decode cc g.pc = .ok (.invokestatic index, 3)) (hf : cells + mc ≤ R.cells ∧ slots + ms ≤ R.slots) :
    vx_Run p l e R s m args below meth c H locs cells slots mc ms g rest (Qc As.toArray) XC free := by
  obtain ⟨⟨hrc, hrs, hfr, hlo, hws, hcw⟩, hcode, hini, hy, hlen, hl, hstt⟩ := cw
  have hK : vx_Back l R p e below s args y 3 8 (PreOf R mc ms Pc) (PostOf Qc mc ms free) (vx_Post XC mc ms free) := vx_backW (hh := hh) (bytes := bytes) (maxL := maxL) (ret := ret) hM hp.1 hrc hrs hfr hlo hws hcw (fun a' U hW => word_at hW (Or.inl (by first | rfl | simp [Cond.onTables, Cond.keeps, Cond.steady])) hini)
  obtain ⟨hx, hb, hml, ho, -⟩ := S
  intro T hT X
  rcases vx_callSX X hx (hh := hh) (bytes := bytes) (maxL := maxL) (ret := ret) ho hl hstt hini hcode hy hK hg (hsize.trans hml.symm) (argsL := As) (rest := rest) (fun sig h => hn.trans (hlen sig h)) hstack hW (by rw [hb]; exact hdg)
    (fun vm₁ hW₁ => ⟨hf.1, hf.2, hp.2 (T.setVm vm₁) hT hW₁⟩) with ⟨v, vm₁, ⟨U', l2, c2, s2⟩, hW₁, X', ⟨g', mk, t, L, e1, e2, hq, h1, hL, h2, h3⟩, st⟩ | ⟨q, vm₁, ⟨U', l2, c2, s2⟩, hW₁, X', ⟨g', mk, t, L, E, ce, e1, e2, hq, hce, hcv, hcl, h1, hL, h2, h3⟩, st⟩
  · dsimp only [Pt.U, Pt.locs, Pt.cells, Pt.slots] at X' e1 e2 h1 h2 h3 st
    subst h1; subst h2; subst h3
    exact Or.inl ⟨v, (T.setVm vm₁).calling g' mk As.toArray, t, U', L, hT, X', hL, e1, e2, hq, st⟩
  · dsimp only [Pt.U, Pt.locs, Pt.cells, Pt.slots] at X' e1 e2 h1 h2 h3 st hcl
    subst h1; subst h2; subst h3
    exact Or.inr ⟨q, (T.setVm vm₁).calling g' mk As.toArray, t, U', L, E, ce, hT, X', hL, e1, e2, hq, hce, hcv, vx_cls hW₁ hcl, st⟩
end
end VXH
theorem vx_ofWH {l : Launch} {y : MethodName} {ws ws' : List Cond} {rm : Room} {Pc : Array Value → State → Prop} {Qc : Array Value → State → Outcome → State → Prop} {XC : String → State → State → Prop} {mc ms : Nat} {free : Addr → Prop} {cc : ByteArray} {maxL : Nat} {ret : Option FieldType} {hh : List (Nat × Nat × Nat × Nat)}
    (hy : plainName y.cls = true) (hw : ws = Cond.codeWith y cc maxL ret hh :: ws')
    (body : ∀ p e s m args below meth c s₁, BodyLoose p l y (headSpec ws rm) cc maxL ret e s m args below meth c s₁ → c.maxLocals = maxL → Pc args s →
      W p l e (headSpec ws rm).room s m args below meth c s.heap [] 0 0 (vx_MQ below Qc XC args s mc ms free) (entryFrame m args maxL)) : vx_Met l y ws rm Pc Qc XC mc ms free := by
  refine MetFree.of_bodyS (code := cc) (maxLocals := maxL) (ret := ret) hy ?_ ?_
  · intro args s m h hn
    obtain ⟨m9, meth, c, hn9, h1, h2, h3, h4, -, h5, h6, -⟩ := Cond.codeWith_spec (atoms_spec (ws := ws) h _ (by rw [hw]; exact List.mem_cons_self))
    cases hn.symm.trans hn9
    exact ⟨meth, c, h1, h2, h3, h4, h5, h6⟩
  · intro p e s m args below meth c s₁ B hml hP _
    have hh0 : s₁.heap = s.heap := by rw [B.state]; rfl
    obtain ⟨t, a1, o, b1, b2, b3⟩ := body p e s m args below meth c s₁ B hml hP s₁ hh0 (Stand.of_body B)
    exact ⟨t, o, a1, b1, b2, b3⟩
/-! ===== END ===== -/
end
section
/-! ===== BEGIN printed: names, fields, word lists, decode rows ===== -/
def RX0 : String := "DewPond$Downs"
def TX0 : u_T := fun k => match k with
  | 0 => ("DewPond$Downs", "weather", "[LDewPond$Weather;", true)
  | 1 => ("DewPond$Downs", "ponds", "[LDewPond$Pond;", true)
  | 2 => ("DewPond$Downs", "byHeight", "[I", true)
  | 3 => ("DewPond$Downs", "flocks", "[LDewPond$Flock;", true)
  | 4 => ("DewPond$Downs", "pondCount", "I", false)
  | 5 => ("DewPond$Downs", "flockCount", "I", false)
  | 6 => ("DewPond$Downs", "day", "I", false)
  | _ => ("DewPond$Downs", "clay", "I", false)
def tyX0 : Nat → FieldType := fun k => match k with
  | 0 => .array (.object "DewPond$Weather")
  | 1 => .array (.object "DewPond$Pond")
  | 2 => .array .int
  | 3 => .array (.object "DewPond$Flock")
  | 4 => .int
  | 5 => .int
  | 6 => .int
  | _ => .int
abbrev wsX00 : List Cond := u_ws RX0 TX0 8
theorem nmX0 : ∀ a, a < 8 → ∀ b, b < 8 → a ≠ b → (TX0 a).2.1 ≠ (TX0 b).2.1 := by decide +kernel
theorem tyX0_ok : ∀ k, k < 8 → parseFieldDescriptor (TX0 k).2.2.1 = some (tyX0 k) := by decide +kernel
abbrev cX0_init : ByteArray := prog_2_method_1_code
def yX0_init : MethodName := ⟨RX0, "<init>", "(I)V"⟩
abbrev cX0_becomeLike : ByteArray := prog_2_method_2_code
def yX0_becomeLike : MethodName := ⟨RX0, "becomeLike", "(LDewPond$Downs;)V"⟩
abbrev cX0_weatherAt : ByteArray := prog_2_method_3_code
def yX0_weatherAt : MethodName := ⟨RX0, "weatherAt", "(I)LDewPond$Weather;"⟩
abbrev cX0_pondAt : ByteArray := prog_2_method_4_code
def yX0_pondAt : MethodName := ⟨RX0, "pondAt", "(I)LDewPond$Pond;"⟩
abbrev cX0_flockAt : ByteArray := prog_2_method_5_code
def yX0_flockAt : MethodName := ⟨RX0, "flockAt", "(I)LDewPond$Flock;"⟩
abbrev cX0_makePond : ByteArray := prog_2_method_6_code
def yX0_makePond : MethodName := ⟨RX0, "makePond", "(IIIII)I"⟩
abbrev cX0_makeFlock : ByteArray := prog_2_method_7_code
def yX0_makeFlock : MethodName := ⟨RX0, "makeFlock", "(II)I"⟩
abbrev cX0_liveDays : ByteArray := prog_2_method_8_code
def yX0_liveDays : MethodName := ⟨RX0, "liveDays", "(I)I"⟩
abbrev cX0_liveDay : ByteArray := prog_2_method_9_code
def yX0_liveDay : MethodName := ⟨RX0, "liveDay", "()I"⟩
abbrev cX0_waterFlocks : ByteArray := prog_2_method_10_code
def yX0_waterFlocks : MethodName := ⟨RX0, "waterFlocks", "()I"⟩
abbrev cX0_nearestWaterFor : ByteArray := prog_2_method_11_code
def yX0_nearestWaterFor : MethodName := ⟨RX0, "nearestWaterFor", "(LDewPond$Flock;)I"⟩
abbrev cX0_runOver : ByteArray := prog_2_method_12_code
def yX0_runOver : MethodName := ⟨RX0, "runOver", "()V"⟩
abbrev cX0_rotStraw : ByteArray := prog_2_method_13_code
def yX0_rotStraw : MethodName := ⟨RX0, "rotStraw", "()V"⟩
abbrev cX0_isTaken : ByteArray := prog_2_method_14_code
def yX0_isTaken : MethodName := ⟨RX0, "isTaken", "(II)Z"⟩
abbrev cX0_sourcesOf : ByteArray := prog_2_method_15_code
def yX0_sourcesOf : MethodName := ⟨RX0, "sourcesOf", "(I)I"⟩
abbrev cX0_runsDownTo : ByteArray := prog_2_method_16_code
def yX0_runsDownTo : MethodName := ⟨RX0, "runsDownTo", "(II)Z"⟩
abbrev cX0_flocksAt : ByteArray := prog_2_method_17_code
def yX0_flocksAt : MethodName := ⟨RX0, "flocksAt", "(I)I"⟩
abbrev cX0_lostFlocks : ByteArray := prog_2_method_18_code
def yX0_lostFlocks : MethodName := ⟨RX0, "lostFlocks", "()I"⟩
abbrev cX0_livingSheep : ByteArray := prog_2_method_19_code
def yX0_livingSheep : MethodName := ⟨RX0, "livingSheep", "()I"⟩
abbrev cX0_allWater : ByteArray := prog_2_method_20_code
def yX0_allWater : MethodName := ⟨RX0, "allWater", "()I"⟩
abbrev cX0_allHold : ByteArray := prog_2_method_21_code
def yX0_allHold : MethodName := ⟨RX0, "allHold", "()I"⟩
abbrev cX0_emptyPonds : ByteArray := prog_2_method_22_code
def yX0_emptyPonds : MethodName := ⟨RX0, "emptyPonds", "()I"⟩
def RX1 : String := "DewPond$Flock"
def TX1 : u_T := fun k => match k with
  | 0 => ("DewPond$Flock", "sheep", "I", false)
  | 1 => ("DewPond$Flock", "pond", "I", false)
  | 2 => ("DewPond$Flock", "thirst", "I", false)
  | 3 => ("DewPond$Flock", "roams", "Z", false)
  | _ => ("DewPond$Flock", "drunk", "I", false)
def tyX1 : Nat → FieldType := fun k => match k with
  | 0 => .int
  | 1 => .int
  | 2 => .int
  | 3 => .boolean
  | _ => .int
abbrev wsX10 : List Cond := u_ws RX1 TX1 5
theorem nmX1 : ∀ a, a < 5 → ∀ b, b < 5 → a ≠ b → (TX1 a).2.1 ≠ (TX1 b).2.1 := by decide +kernel
theorem tyX1_ok : ∀ k, k < 5 → parseFieldDescriptor (TX1 k).2.2.1 = some (tyX1 k) := by decide +kernel
abbrev cX1_init : ByteArray := prog_3_method_1_code
def yX1_init : MethodName := ⟨RX1, "<init>", "()V"⟩
abbrev cX1_becomeLike : ByteArray := prog_3_method_2_code
def yX1_becomeLike : MethodName := ⟨RX1, "becomeLike", "(LDewPond$Flock;)V"⟩
abbrev cX1_startAt : ByteArray := prog_3_method_3_code
def yX1_startAt : MethodName := ⟨RX1, "startAt", "(II)V"⟩
abbrev cX1_isLost : ByteArray := prog_3_method_4_code
def yX1_isLost : MethodName := ⟨RX1, "isLost", "()Z"⟩
abbrev cX1_need : ByteArray := prog_3_method_5_code
def yX1_need : MethodName := ⟨RX1, "need", "()I"⟩
abbrev cX1_drink : ByteArray := prog_3_method_6_code
def yX1_drink : MethodName := ⟨RX1, "drink", "(I)V"⟩
def RX2 : String := "DewPond$Pond"
def TX2 : u_T := fun k => match k with
  | 0 => ("DewPond$Pond", "x", "I", false)
  | 1 => ("DewPond$Pond", "y", "I", false)
  | 2 => ("DewPond$Pond", "height", "I", false)
  | 3 => ("DewPond$Pond", "size", "I", false)
  | 4 => ("DewPond$Pond", "depth", "I", false)
  | 5 => ("DewPond$Pond", "water", "I", false)
  | 6 => ("DewPond$Pond", "lining", "I", false)
  | 7 => ("DewPond$Pond", "hasStraw", "Z", false)
  | 8 => ("DewPond$Pond", "runsInto", "I", false)
  | _ => ("DewPond$Pond", "ranOver", "I", false)
def tyX2 : Nat → FieldType := fun k => match k with
  | 0 => .int
  | 1 => .int
  | 2 => .int
  | 3 => .int
  | 4 => .int
  | 5 => .int
  | 6 => .int
  | 7 => .boolean
  | 8 => .int
  | _ => .int
abbrev wsX20 : List Cond := u_ws RX2 TX2 10
theorem nmX2 : ∀ a, a < 10 → ∀ b, b < 10 → a ≠ b → (TX2 a).2.1 ≠ (TX2 b).2.1 := by decide +kernel
theorem tyX2_ok : ∀ k, k < 10 → parseFieldDescriptor (TX2 k).2.2.1 = some (tyX2 k) := by decide +kernel
abbrev cX2_init : ByteArray := prog_4_method_1_code
def yX2_init : MethodName := ⟨RX2, "<init>", "()V"⟩
abbrev cX2_becomeLike : ByteArray := prog_4_method_2_code
def yX2_becomeLike : MethodName := ⟨RX2, "becomeLike", "(LDewPond$Pond;)V"⟩
abbrev cX2_holds : ByteArray := prog_4_method_3_code
def yX2_holds : MethodName := ⟨RX2, "holds", "()I"⟩
abbrev cX2_distanceTo : ByteArray := prog_4_method_4_code
def yX2_distanceTo : MethodName := ⟨RX2, "distanceTo", "(LDewPond$Pond;)I"⟩
abbrev cX2_isLowEnoughToPuddle : ByteArray := prog_4_method_5_code
def yX2_isLowEnoughToPuddle : MethodName := ⟨RX2, "isLowEnoughToPuddle", "()Z"⟩
abbrev cX2_lineWith : ByteArray := prog_4_method_6_code
def yX2_lineWith : MethodName := ⟨RX2, "lineWith", "(I)I"⟩
abbrev cX2_takeMist : ByteArray := prog_4_method_7_code
def yX2_takeMist : MethodName := ⟨RX2, "takeMist", "(I)V"⟩
abbrev cX2_takeRain : ByteArray := prog_4_method_8_code
def yX2_takeRain : MethodName := ⟨RX2, "takeRain", "(I)V"⟩
abbrev cX2_giveDrink : ByteArray := prog_4_method_9_code
def yX2_giveDrink : MethodName := ⟨RX2, "giveDrink", "(I)I"⟩
abbrev cX2_treadBy : ByteArray := prog_4_method_10_code
def yX2_treadBy : MethodName := ⟨RX2, "treadBy", "(I)V"⟩
abbrev cX2_dryBy : ByteArray := prog_4_method_11_code
def yX2_dryBy : MethodName := ⟨RX2, "dryBy", "(I)V"⟩
abbrev cX2_leak : ByteArray := prog_4_method_12_code
def yX2_leak : MethodName := ⟨RX2, "leak", "()V"⟩
abbrev cX2_spill : ByteArray := prog_4_method_13_code
def yX2_spill : MethodName := ⟨RX2, "spill", "()I"⟩
def RX3 : String := "DewPond$Weather"
def TX3 : u_T := fun k => match k with
  | 0 => ("DewPond$Weather", "mist", "I", false)
  | 1 => ("DewPond$Weather", "rain", "I", false)
  | _ => ("DewPond$Weather", "sun", "I", false)
def tyX3 : Nat → FieldType := fun k => match k with
  | 0 => .int
  | 1 => .int
  | _ => .int
abbrev wsX30 : List Cond := u_ws RX3 TX3 3
theorem nmX3 : ∀ a, a < 3 → ∀ b, b < 3 → a ≠ b → (TX3 a).2.1 ≠ (TX3 b).2.1 := by decide +kernel
theorem tyX3_ok : ∀ k, k < 3 → parseFieldDescriptor (TX3 k).2.2.1 = some (tyX3 k) := by decide +kernel
abbrev cX3_init : ByteArray := prog_5_method_1_code
def yX3_init : MethodName := ⟨RX3, "<init>", "()V"⟩
abbrev cX3_becomeLike : ByteArray := prog_5_method_2_code
def yX3_becomeLike : MethodName := ⟨RX3, "becomeLike", "(LDewPond$Weather;)V"⟩
abbrev cX3_asNumber : ByteArray := prog_5_method_3_code
def yX3_asNumber : MethodName := ⟨RX3, "asNumber", "()I"⟩
def RX4 : String := "DewPond"
def TX4 : u_T := fun k => match k with
  | 0 => ("DewPond", "downs", "LDewPond$Downs;", true)
  | _ => ("DewPond", "ahead", "LDewPond$Downs;", true)
def tyX4 : Nat → FieldType := fun k => match k with
  | 0 => .object "DewPond$Downs"
  | _ => .object "DewPond$Downs"
abbrev wsX40 : List Cond := u_ws RX4 TX4 2
theorem nmX4 : ∀ a, a < 2 → ∀ b, b < 2 → a ≠ b → (TX4 a).2.1 ≠ (TX4 b).2.1 := by decide +kernel
theorem tyX4_ok : ∀ k, k < 2 → parseFieldDescriptor (TX4 k).2.2.1 = some (tyX4 k) := by decide +kernel
abbrev cX4_init : ByteArray := prog_1_method_1_code
def yX4_init : MethodName := ⟨RX4, "<init>", "()V"⟩
abbrev cX4_dig : ByteArray := prog_1_method_2_code
def yX4_dig : MethodName := ⟨RX4, "dig", "(IIIII)I"⟩
abbrev cX4_link : ByteArray := prog_1_method_3_code
def yX4_link : MethodName := ⟨RX4, "link", "(II)I"⟩
abbrev cX4_puddle : ByteArray := prog_1_method_4_code
def yX4_puddle : MethodName := ⟨RX4, "puddle", "(II)I"⟩
abbrev cX4_strew : ByteArray := prog_1_method_5_code
def yX4_strew : MethodName := ⟨RX4, "strew", "(IZ)Z"⟩
abbrev cX4_pour : ByteArray := prog_1_method_6_code
def yX4_pour : MethodName := ⟨RX4, "pour", "(II)I"⟩
abbrev cX4_pond : ByteArray := prog_1_method_7_code
def yX4_pond : MethodName := ⟨RX4, "pond", "(II)I"⟩
abbrev cX4_setWeather : ByteArray := prog_1_method_8_code
def yX4_setWeather : MethodName := ⟨RX4, "setWeather", "(IIII)I"⟩
abbrev cX4_bring : ByteArray := prog_1_method_9_code
def yX4_bring : MethodName := ⟨RX4, "bring", "(I)I"⟩
abbrev cX4_addFlock : ByteArray := prog_1_method_10_code
def yX4_addFlock : MethodName := ⟨RX4, "addFlock", "(II)I"⟩
abbrev cX4_drive : ByteArray := prog_1_method_11_code
def yX4_drive : MethodName := ⟨RX4, "drive", "(II)I"⟩
abbrev cX4_setRoams : ByteArray := prog_1_method_12_code
def yX4_setRoams : MethodName := ⟨RX4, "setRoams", "(IZ)Z"⟩
abbrev cX4_flock : ByteArray := prog_1_method_13_code
def yX4_flock : MethodName := ⟨RX4, "flock", "(II)I"⟩
abbrev cX4_pass : ByteArray := prog_1_method_14_code
def yX4_pass : MethodName := ⟨RX4, "pass", "(I)I"⟩
abbrev cX4_count : ByteArray := prog_1_method_15_code
def yX4_count : MethodName := ⟨RX4, "count", "(I)I"⟩
abbrev cX4_foresee : ByteArray := prog_1_method_16_code
def yX4_foresee : MethodName := ⟨RX4, "foresee", "(II)I"⟩
abbrev cX4_lasts : ByteArray := prog_1_method_17_code
def yX4_lasts : MethodName := ⟨RX4, "lasts", "(I)I"⟩
abbrev cX4_keep : ByteArray := prog_1_method_18_code
def yX4_keep : MethodName := ⟨RX4, "keep", "(II)I"⟩
abbrev cX4_advise : ByteArray := prog_1_method_19_code
def yX4_advise : MethodName := ⟨RX4, "advise", "(I)I"⟩
abbrev cX4_full : ByteArray := prog_1_method_20_code
def yX4_full : MethodName := ⟨RX4, "full", "()D"⟩
abbrev cX4_digest : ByteArray := prog_1_method_21_code
def yX4_digest : MethodName := ⟨RX4, "digest", "()J"⟩
abbrev cX4_canKeep : ByteArray := prog_1_method_22_code
def yX4_canKeep : MethodName := ⟨RX4, "canKeep", "(III)Z"⟩
abbrev cX4_waterBehind : ByteArray := prog_1_method_23_code
def yX4_waterBehind : MethodName := ⟨RX4, "waterBehind", "(II)I"⟩
abbrev cX4_isWithin : ByteArray := prog_1_method_24_code
def yX4_isWithin : MethodName := ⟨RX4, "isWithin", "(III)Z"⟩
def RX5 : String := "DewPondModel"
def TX5 : u_T := fun k => match k with
  | 0 => ("DewPondModel", "thrown", "I", false)
  | 1 => ("DewPondModel", "ponds", "I", false)
  | 2 => ("DewPondModel", "fixed", "[I", true)
  | 3 => ("DewPondModel", "flocks", "I", false)
  | 4 => ("DewPondModel", "weather", "[I", true)
  | 5 => ("DewPondModel", "table", "[I", true)
  | 6 => ("DewPondModel", "herds", "[I", true)
  | _ => ("DewPondModel", "numbers", "[I", true)
def tyX5 : Nat → FieldType := fun k => match k with
  | 0 => .int
  | 1 => .int
  | 2 => .array .int
  | 3 => .int
  | 4 => .array .int
  | 5 => .array .int
  | 6 => .array .int
  | _ => .array .int
abbrev wsX50 : List Cond := u_ws RX5 TX5 8
theorem nmX5 : ∀ a, a < 8 → ∀ b, b < 8 → a ≠ b → (TX5 a).2.1 ≠ (TX5 b).2.1 := by decide +kernel
theorem tyX5_ok : ∀ k, k < 8 → parseFieldDescriptor (TX5 k).2.2.1 = some (tyX5 k) := by decide +kernel
abbrev cX5_init : ByteArray := prog_7_method_1_code
def yX5_init : MethodName := ⟨RX5, "<init>", "()V"⟩
abbrev cX5_thrown : ByteArray := prog_7_method_2_code
def yX5_thrown : MethodName := ⟨RX5, "thrown", "()I"⟩
abbrev cX5_fail : ByteArray := prog_7_method_3_code
def yX5_fail : MethodName := ⟨RX5, "fail", "(I)I"⟩
abbrev cX5_isIn : ByteArray := prog_7_method_4_code
def yX5_isIn : MethodName := ⟨RX5, "isIn", "(III)Z"⟩
abbrev cX5_isPond : ByteArray := prog_7_method_5_code
def yX5_isPond : MethodName := ⟨RX5, "isPond", "(I)Z"⟩
abbrev cX5_isFlock : ByteArray := prog_7_method_6_code
def yX5_isFlock : MethodName := ⟨RX5, "isFlock", "(I)Z"⟩
abbrev cX5_fx : ByteArray := prog_7_method_7_code
def yX5_fx : MethodName := ⟨RX5, "fx", "(II)I"⟩
abbrev cX5_po : ByteArray := prog_7_method_8_code
def yX5_po : MethodName := ⟨RX5, "po", "(II)I"⟩
abbrev cX5_set : ByteArray := prog_7_method_9_code
def yX5_set : MethodName := ⟨RX5, "set", "(III)V"⟩
abbrev cX5_fl : ByteArray := prog_7_method_10_code
def yX5_fl : MethodName := ⟨RX5, "fl", "(II)I"⟩
abbrev cX5_setFl : ByteArray := prog_7_method_11_code
def yX5_setFl : MethodName := ⟨RX5, "setFl", "(III)V"⟩
abbrev cX5_holds : ByteArray := prog_7_method_12_code
def yX5_holds : MethodName := ⟨RX5, "holds", "(I)I"⟩
abbrev cX5_far : ByteArray := prog_7_method_13_code
def yX5_far : MethodName := ⟨RX5, "far", "(II)I"⟩
abbrev cX5_dig : ByteArray := prog_7_method_14_code
def yX5_dig : MethodName := ⟨RX5, "dig", "(IIIII)I"⟩
abbrev cX5_link : ByteArray := prog_7_method_15_code
def yX5_link : MethodName := ⟨RX5, "link", "(II)I"⟩
abbrev cX5_isLow : ByteArray := prog_7_method_16_code
def yX5_isLow : MethodName := ⟨RX5, "isLow", "(I)Z"⟩
abbrev cX5_use : ByteArray := prog_7_method_17_code
def yX5_use : MethodName := ⟨RX5, "use", "(II)I"⟩
abbrev cX5_puddle : ByteArray := prog_7_method_18_code
def yX5_puddle : MethodName := ⟨RX5, "puddle", "(II)I"⟩
abbrev cX5_strew : ByteArray := prog_7_method_19_code
def yX5_strew : MethodName := ⟨RX5, "strew", "(IZ)Z"⟩
abbrev cX5_pour : ByteArray := prog_7_method_20_code
def yX5_pour : MethodName := ⟨RX5, "pour", "(II)I"⟩
abbrev cX5_flocksAt : ByteArray := prog_7_method_21_code
def yX5_flocksAt : MethodName := ⟨RX5, "flocksAt", "(I)I"⟩
abbrev cX5_above : ByteArray := prog_7_method_22_code
def yX5_above : MethodName := ⟨RX5, "above", "(I)I"⟩
abbrev cX5_pondTold : ByteArray := prog_7_method_23_code
def yX5_pondTold : MethodName := ⟨RX5, "pondTold", "(II)I"⟩
abbrev cX5_pond : ByteArray := prog_7_method_24_code
def yX5_pond : MethodName := ⟨RX5, "pond", "(II)I"⟩
abbrev cX5_weatherTold : ByteArray := prog_7_method_25_code
def yX5_weatherTold : MethodName := ⟨RX5, "weatherTold", "(I)I"⟩
abbrev cX5_setWeather : ByteArray := prog_7_method_26_code
def yX5_setWeather : MethodName := ⟨RX5, "setWeather", "(IIII)I"⟩
abbrev cX5_bring : ByteArray := prog_7_method_27_code
def yX5_bring : MethodName := ⟨RX5, "bring", "(I)I"⟩
abbrev cX5_putFlock : ByteArray := prog_7_method_28_code
def yX5_putFlock : MethodName := ⟨RX5, "putFlock", "(II)V"⟩
abbrev cX5_addFlock : ByteArray := prog_7_method_29_code
def yX5_addFlock : MethodName := ⟨RX5, "addFlock", "(II)I"⟩
abbrev cX5_isLost : ByteArray := prog_7_method_30_code
def yX5_isLost : MethodName := ⟨RX5, "isLost", "(I)Z"⟩
abbrev cX5_drive : ByteArray := prog_7_method_31_code
def yX5_drive : MethodName := ⟨RX5, "drive", "(II)I"⟩
abbrev cX5_setRoams : ByteArray := prog_7_method_32_code
def yX5_setRoams : MethodName := ⟨RX5, "setRoams", "(IZ)Z"⟩
abbrev cX5_flockTold : ByteArray := prog_7_method_33_code
def yX5_flockTold : MethodName := ⟨RX5, "flockTold", "(II)I"⟩
abbrev cX5_flock : ByteArray := prog_7_method_34_code
def yX5_flock : MethodName := ⟨RX5, "flock", "(II)I"⟩
abbrev cX5_roam : ByteArray := prog_7_method_35_code
def yX5_roam : MethodName := ⟨RX5, "roam", "(I)V"⟩
abbrev cX5_drink : ByteArray := prog_7_method_36_code
def yX5_drink : MethodName := ⟨RX5, "drink", "(I)I"⟩
abbrev cX5_change : ByteArray := prog_7_method_37_code
def yX5_change : MethodName := ⟨RX5, "change", "(II)V"⟩
abbrev cX5_runOver : ByteArray := prog_7_method_38_code
def yX5_runOver : MethodName := ⟨RX5, "runOver", "()V"⟩
abbrev cX5_dayOn : ByteArray := prog_7_method_39_code
def yX5_dayOn : MethodName := ⟨RX5, "dayOn", "()I"⟩
abbrev cX5_pass : ByteArray := prog_7_method_40_code
def yX5_pass : MethodName := ⟨RX5, "pass", "(I)I"⟩
abbrev cX5_allWater : ByteArray := prog_7_method_41_code
def yX5_allWater : MethodName := ⟨RX5, "allWater", "()I"⟩
abbrev cX5_counted : ByteArray := prog_7_method_42_code
def yX5_counted : MethodName := ⟨RX5, "counted", "(I)I"⟩
abbrev cX5_count : ByteArray := prog_7_method_43_code
def yX5_count : MethodName := ⟨RX5, "count", "(I)I"⟩
abbrev cX5_kept : ByteArray := prog_7_method_44_code
def yX5_kept : MethodName := ⟨RX5, "kept", "()[[I"⟩
abbrev cX5_bringBack : ByteArray := prog_7_method_45_code
def yX5_bringBack : MethodName := ⟨RX5, "bringBack", "([[I)V"⟩
abbrev cX5_foresee : ByteArray := prog_7_method_46_code
def yX5_foresee : MethodName := ⟨RX5, "foresee", "(II)I"⟩
abbrev cX5_lasts : ByteArray := prog_7_method_47_code
def yX5_lasts : MethodName := ⟨RX5, "lasts", "(I)I"⟩
abbrev cX5_keep : ByteArray := prog_7_method_48_code
def yX5_keep : MethodName := ⟨RX5, "keep", "(II)I"⟩
abbrev cX5_waterBy : ByteArray := prog_7_method_49_code
def yX5_waterBy : MethodName := ⟨RX5, "waterBy", "(I)I"⟩
abbrev cX5_advise : ByteArray := prog_7_method_50_code
def yX5_advise : MethodName := ⟨RX5, "advise", "(I)I"⟩
abbrev cX5_full : ByteArray := prog_7_method_51_code
def yX5_full : MethodName := ⟨RX5, "full", "()D"⟩
abbrev cX5_digest : ByteArray := prog_7_method_52_code
def yX5_digest : MethodName := ⟨RX5, "digest", "()J"⟩
def RJx8e188 : String := "java/lang/Cloneable"
def TJx8e188 : u_T := fun k => match k with
  | _ => ("", "", "", false)
def tyJx8e188 : Nat → FieldType := fun k => match k with
  | _ => .int
theorem nmJx8e188 : ∀ a, a < 0 → ∀ b, b < 0 → a ≠ b → (TJx8e188 a).2.1 ≠ (TJx8e188 b).2.1 := by decide +kernel
theorem tyJx8e188_ok : ∀ k, k < 0 → parseFieldDescriptor (TJx8e188 k).2.2.1 = some (tyJx8e188 k) := by decide +kernel
def RJ9 : String := "java/lang/Math"
def TJ9 : u_T := fun k => match k with
  | _ => ("", "", "", false)
def tyJ9 : Nat → FieldType := fun k => match k with
  | _ => .int
theorem nmJ9 : ∀ a, a < 0 → ∀ b, b < 0 → a ≠ b → (TJ9 a).2.1 ≠ (TJ9 b).2.1 := by decide +kernel
theorem tyJ9_ok : ∀ k, k < 0 → parseFieldDescriptor (TJ9 k).2.2.1 = some (tyJ9 k) := by decide +kernel
abbrev cJ9_floorMod_7cf53 : ByteArray := prog_13_method_50_code
def yJ9_floorMod_7cf53 : MethodName := ⟨RJ9, "floorMod", "(II)I"⟩
abbrev cJ9_abs_0f7a4 : ByteArray := prog_13_method_59_code
def yJ9_abs_0f7a4 : MethodName := ⟨RJ9, "abs", "(I)I"⟩
abbrev cJ9_max_7cf53 : ByteArray := prog_13_method_65_code
def yJ9_max_7cf53 : MethodName := ⟨RJ9, "max", "(II)I"⟩
abbrev cJ9_min_7cf53 : ByteArray := prog_13_method_69_code
def yJ9_min_7cf53 : MethodName := ⟨RJ9, "min", "(II)I"⟩
def RJ0 : String := "java/lang/String"
def TJ0 : u_T := fun k => match k with
  | _ => ("", "", "", false)
def tyJ0 : Nat → FieldType := fun k => match k with
  | _ => .int
theorem nmJ0 : ∀ a, a < 0 → ∀ b, b < 0 → a ≠ b → (TJ0 a).2.1 ≠ (TJ0 b).2.1 := by decide +kernel
theorem tyJ0_ok : ∀ k, k < 0 → parseFieldDescriptor (TJ0 k).2.2.1 = some (tyJ0 k) := by decide +kernel
def RJ10 : String := "java/lang/System"
def TJ10 : u_T := fun k => match k with
  | _ => ("", "", "", false)
def tyJ10 : Nat → FieldType := fun k => match k with
  | _ => .int
theorem nmJ10 : ∀ a, a < 0 → ∀ b, b < 0 → a ≠ b → (TJ10 a).2.1 ≠ (TJ10 b).2.1 := by decide +kernel
theorem tyJ10_ok : ∀ k, k < 0 → parseFieldDescriptor (TJ10 k).2.2.1 = some (tyJ10 k) := by decide +kernel
def RL : String := "DewPondLaw"
abbrev cL_dig : ByteArray := method_3_code
def yL_dig : MethodName := ⟨RL, "dig", "(LDewPond;IIIII[J)I"⟩
abbrev cL_link : ByteArray := method_4_code
def yL_link : MethodName := ⟨RL, "link", "(LDewPond;II[J)I"⟩
abbrev cL_puddle : ByteArray := method_5_code
def yL_puddle : MethodName := ⟨RL, "puddle", "(LDewPond;II[J)I"⟩
abbrev cL_strew : ByteArray := method_6_code
def yL_strew : MethodName := ⟨RL, "strew", "(LDewPond;IZ[J)I"⟩
abbrev cL_pour : ByteArray := method_7_code
def yL_pour : MethodName := ⟨RL, "pour", "(LDewPond;II[J)I"⟩
abbrev cL_pond : ByteArray := method_8_code
def yL_pond : MethodName := ⟨RL, "pond", "(LDewPond;II[J)I"⟩
abbrev cL_setWeather : ByteArray := method_9_code
def yL_setWeather : MethodName := ⟨RL, "setWeather", "(LDewPond;IIII[J)I"⟩
abbrev cL_bring : ByteArray := method_10_code
def yL_bring : MethodName := ⟨RL, "bring", "(LDewPond;I[J)I"⟩
abbrev cL_addFlock : ByteArray := method_11_code
def yL_addFlock : MethodName := ⟨RL, "addFlock", "(LDewPond;II[J)I"⟩
abbrev cL_drive : ByteArray := method_12_code
def yL_drive : MethodName := ⟨RL, "drive", "(LDewPond;II[J)I"⟩
abbrev cL_setRoams : ByteArray := method_13_code
def yL_setRoams : MethodName := ⟨RL, "setRoams", "(LDewPond;IZ[J)I"⟩
abbrev cL_flock : ByteArray := method_14_code
def yL_flock : MethodName := ⟨RL, "flock", "(LDewPond;II[J)I"⟩
abbrev cL_pass : ByteArray := method_15_code
def yL_pass : MethodName := ⟨RL, "pass", "(LDewPond;I[J)I"⟩
abbrev cL_count : ByteArray := method_16_code
def yL_count : MethodName := ⟨RL, "count", "(LDewPond;I[J)I"⟩
abbrev cL_foresee : ByteArray := method_17_code
def yL_foresee : MethodName := ⟨RL, "foresee", "(LDewPond;II[J)I"⟩
abbrev cL_lasts : ByteArray := method_18_code
def yL_lasts : MethodName := ⟨RL, "lasts", "(LDewPond;I[J)I"⟩
abbrev cL_keep : ByteArray := method_19_code
def yL_keep : MethodName := ⟨RL, "keep", "(LDewPond;II[J)I"⟩
abbrev cL_advise : ByteArray := method_20_code
def yL_advise : MethodName := ⟨RL, "advise", "(LDewPond;I[J)I"⟩
abbrev cL_law : ByteArray := code
def yL_law : MethodName := ⟨RL, "law", "([I)Z"⟩
abbrev vwCl : List vw_C := [(RX0, TX0, 8), (RX1, TX1, 5), (RX2, TX2, 10), (RX3, TX3, 3), (RX4, TX4, 2), (RX5, TX5, 8)]
end
section
theorem dX0_init_0 : decode cX0_init 0 = .ok (.aload_n 0, 1) := by decide +kernel
theorem dX0_init_1 : decode cX0_init 1 = .ok (.invokespecial 3, 3) := by decide +kernel
theorem dX0_init_4 : decode cX0_init 4 = .ok (.aload_n 0, 1) := by decide +kernel
theorem dX0_init_5 : decode cX0_init 5 = .ok (.bipush 100, 2) := by decide +kernel
theorem dX0_init_7 : decode cX0_init 7 = .ok (.putfield 9, 3) := by decide +kernel
theorem dX0_init_10 : decode cX0_init 10 = .ok (.aload_n 0, 1) := by decide +kernel
theorem dX0_init_11 : decode cX0_init 11 = .ok (.bipush 10, 2) := by decide +kernel
theorem dX0_init_13 : decode cX0_init 13 = .ok (.anewarray 15, 3) := by decide +kernel
theorem dX0_init_16 : decode cX0_init 16 = .ok (.putfield 17, 3) := by decide +kernel
theorem dX0_init_19 : decode cX0_init 19 = .ok (.iconst 0, 1) := by decide +kernel
theorem dX0_init_20 : decode cX0_init 20 = .ok (.istore_n 2, 1) := by decide +kernel
theorem dX0_init_21 : decode cX0_init 21 = .ok (.iload_n 2, 1) := by decide +kernel
theorem dX0_init_22 : decode cX0_init 22 = .ok (.aload_n 0, 1) := by decide +kernel
theorem dX0_init_23 : decode cX0_init 23 = .ok (.getfield 17, 3) := by decide +kernel
theorem dX0_init_26 : decode cX0_init 26 = .ok (.arraylength, 1) := by decide +kernel
theorem dX0_init_27 : decode cX0_init 27 = .ok (.if_icmp .ge 22, 3) := by decide +kernel
theorem dX0_init_30 : decode cX0_init 30 = .ok (.aload_n 0, 1) := by decide +kernel
theorem dX0_init_31 : decode cX0_init 31 = .ok (.getfield 17, 3) := by decide +kernel
theorem dX0_init_34 : decode cX0_init 34 = .ok (.iload_n 2, 1) := by decide +kernel
theorem dX0_init_35 : decode cX0_init 35 = .ok (.new 15, 3) := by decide +kernel
theorem dX0_init_38 : decode cX0_init 38 = .ok (.dup, 1) := by decide +kernel
theorem dX0_init_39 : decode cX0_init 39 = .ok (.invokespecial 21, 3) := by decide +kernel
theorem dX0_init_42 : decode cX0_init 42 = .ok (.aastore, 1) := by decide +kernel
theorem dX0_init_43 : decode cX0_init 43 = .ok (.iinc 2 1, 3) := by decide +kernel
theorem dX0_init_46 : decode cX0_init 46 = .ok (.goto (-25), 3) := by decide +kernel
theorem dX0_init_49 : decode cX0_init 49 = .ok (.aload_n 0, 1) := by decide +kernel
theorem dX0_init_50 : decode cX0_init 50 = .ok (.bipush 10, 2) := by decide +kernel
theorem dX0_init_52 : decode cX0_init 52 = .ok (.anewarray 22, 3) := by decide +kernel
theorem dX0_init_55 : decode cX0_init 55 = .ok (.putfield 24, 3) := by decide +kernel
theorem dX0_init_58 : decode cX0_init 58 = .ok (.aload_n 0, 1) := by decide +kernel
theorem dX0_init_59 : decode cX0_init 59 = .ok (.bipush 10, 2) := by decide +kernel
theorem dX0_init_61 : decode cX0_init 61 = .ok (.newarray .int, 2) := by decide +kernel
theorem dX0_init_63 : decode cX0_init 63 = .ok (.putfield 28, 3) := by decide +kernel
theorem dX0_init_66 : decode cX0_init 66 = .ok (.iconst 0, 1) := by decide +kernel
theorem dX0_init_67 : decode cX0_init 67 = .ok (.istore_n 2, 1) := by decide +kernel
theorem dX0_init_68 : decode cX0_init 68 = .ok (.iload_n 2, 1) := by decide +kernel
theorem dX0_init_69 : decode cX0_init 69 = .ok (.aload_n 0, 1) := by decide +kernel
theorem dX0_init_70 : decode cX0_init 70 = .ok (.getfield 24, 3) := by decide +kernel
theorem dX0_init_73 : decode cX0_init 73 = .ok (.arraylength, 1) := by decide +kernel
theorem dX0_init_74 : decode cX0_init 74 = .ok (.if_icmp .ge 22, 3) := by decide +kernel
theorem dX0_init_77 : decode cX0_init 77 = .ok (.aload_n 0, 1) := by decide +kernel
theorem dX0_init_78 : decode cX0_init 78 = .ok (.getfield 24, 3) := by decide +kernel
theorem dX0_init_81 : decode cX0_init 81 = .ok (.iload_n 2, 1) := by decide +kernel
theorem dX0_init_82 : decode cX0_init 82 = .ok (.new 22, 3) := by decide +kernel
theorem dX0_init_85 : decode cX0_init 85 = .ok (.dup, 1) := by decide +kernel
theorem dX0_init_86 : decode cX0_init 86 = .ok (.invokespecial 32, 3) := by decide +kernel
theorem dX0_init_89 : decode cX0_init 89 = .ok (.aastore, 1) := by decide +kernel
theorem dX0_init_90 : decode cX0_init 90 = .ok (.iinc 2 1, 3) := by decide +kernel
theorem dX0_init_93 : decode cX0_init 93 = .ok (.goto (-25), 3) := by decide +kernel
theorem dX0_init_96 : decode cX0_init 96 = .ok (.aload_n 0, 1) := by decide +kernel
theorem dX0_init_97 : decode cX0_init 97 = .ok (.iconst 0, 1) := by decide +kernel
theorem dX0_init_98 : decode cX0_init 98 = .ok (.iload_n 1, 1) := by decide +kernel
theorem dX0_init_99 : decode cX0_init 99 = .ok (.invokestatic 33, 3) := by decide +kernel
theorem dX0_init_102 : decode cX0_init 102 = .ok (.anewarray 39, 3) := by decide +kernel
theorem dX0_init_105 : decode cX0_init 105 = .ok (.putfield 41, 3) := by decide +kernel
theorem dX0_init_108 : decode cX0_init 108 = .ok (.iconst 0, 1) := by decide +kernel
theorem dX0_init_109 : decode cX0_init 109 = .ok (.istore_n 2, 1) := by decide +kernel
theorem dX0_init_110 : decode cX0_init 110 = .ok (.iload_n 2, 1) := by decide +kernel
theorem dX0_init_111 : decode cX0_init 111 = .ok (.aload_n 0, 1) := by decide +kernel
theorem dX0_init_112 : decode cX0_init 112 = .ok (.getfield 41, 3) := by decide +kernel
theorem dX0_init_115 : decode cX0_init 115 = .ok (.arraylength, 1) := by decide +kernel
theorem dX0_init_116 : decode cX0_init 116 = .ok (.if_icmp .ge 22, 3) := by decide +kernel
theorem dX0_init_119 : decode cX0_init 119 = .ok (.aload_n 0, 1) := by decide +kernel
theorem dX0_init_120 : decode cX0_init 120 = .ok (.getfield 41, 3) := by decide +kernel
theorem dX0_init_123 : decode cX0_init 123 = .ok (.iload_n 2, 1) := by decide +kernel
theorem dX0_init_124 : decode cX0_init 124 = .ok (.new 39, 3) := by decide +kernel
theorem dX0_init_127 : decode cX0_init 127 = .ok (.dup, 1) := by decide +kernel
theorem dX0_init_128 : decode cX0_init 128 = .ok (.invokespecial 45, 3) := by decide +kernel
theorem dX0_init_131 : decode cX0_init 131 = .ok (.aastore, 1) := by decide +kernel
theorem dX0_init_132 : decode cX0_init 132 = .ok (.iinc 2 1, 3) := by decide +kernel
theorem dX0_init_135 : decode cX0_init 135 = .ok (.goto (-25), 3) := by decide +kernel
theorem dX0_init_138 : decode cX0_init 138 = .ok (.return_, 1) := by decide +kernel
theorem dX0_becomeLike_0 : decode cX0_becomeLike 0 = .ok (.aload_n 0, 1) := by decide +kernel
theorem dX0_becomeLike_1 : decode cX0_becomeLike 1 = .ok (.aload_n 1, 1) := by decide +kernel
theorem dX0_becomeLike_2 : decode cX0_becomeLike 2 = .ok (.getfield 46, 3) := by decide +kernel
theorem dX0_becomeLike_5 : decode cX0_becomeLike 5 = .ok (.putfield 46, 3) := by decide +kernel
theorem dX0_becomeLike_8 : decode cX0_becomeLike 8 = .ok (.aload_n 0, 1) := by decide +kernel
theorem dX0_becomeLike_9 : decode cX0_becomeLike 9 = .ok (.aload_n 1, 1) := by decide +kernel
theorem dX0_becomeLike_10 : decode cX0_becomeLike 10 = .ok (.getfield 9, 3) := by decide +kernel
theorem dX0_becomeLike_13 : decode cX0_becomeLike 13 = .ok (.putfield 9, 3) := by decide +kernel
theorem dX0_becomeLike_16 : decode cX0_becomeLike 16 = .ok (.iconst 0, 1) := by decide +kernel
theorem dX0_becomeLike_17 : decode cX0_becomeLike 17 = .ok (.istore_n 2, 1) := by decide +kernel
theorem dX0_becomeLike_18 : decode cX0_becomeLike 18 = .ok (.iload_n 2, 1) := by decide +kernel
theorem dX0_becomeLike_19 : decode cX0_becomeLike 19 = .ok (.bipush 10, 2) := by decide +kernel
theorem dX0_becomeLike_21 : decode cX0_becomeLike 21 = .ok (.if_icmp .ge 24, 3) := by decide +kernel
theorem dX0_becomeLike_24 : decode cX0_becomeLike 24 = .ok (.aload_n 0, 1) := by decide +kernel
theorem dX0_becomeLike_25 : decode cX0_becomeLike 25 = .ok (.getfield 17, 3) := by decide +kernel
theorem dX0_becomeLike_28 : decode cX0_becomeLike 28 = .ok (.iload_n 2, 1) := by decide +kernel
theorem dX0_becomeLike_29 : decode cX0_becomeLike 29 = .ok (.aaload, 1) := by decide +kernel
theorem dX0_becomeLike_30 : decode cX0_becomeLike 30 = .ok (.aload_n 1, 1) := by decide +kernel
theorem dX0_becomeLike_31 : decode cX0_becomeLike 31 = .ok (.getfield 17, 3) := by decide +kernel
theorem dX0_becomeLike_34 : decode cX0_becomeLike 34 = .ok (.iload_n 2, 1) := by decide +kernel
theorem dX0_becomeLike_35 : decode cX0_becomeLike 35 = .ok (.aaload, 1) := by decide +kernel
theorem dX0_becomeLike_36 : decode cX0_becomeLike 36 = .ok (.invokevirtual 49, 3) := by decide +kernel
theorem dX0_becomeLike_39 : decode cX0_becomeLike 39 = .ok (.iinc 2 1, 3) := by decide +kernel
theorem dX0_becomeLike_42 : decode cX0_becomeLike 42 = .ok (.goto (-24), 3) := by decide +kernel
theorem dX0_becomeLike_45 : decode cX0_becomeLike 45 = .ok (.aload_n 0, 1) := by decide +kernel
theorem dX0_becomeLike_46 : decode cX0_becomeLike 46 = .ok (.aload_n 1, 1) := by decide +kernel
theorem dX0_becomeLike_47 : decode cX0_becomeLike 47 = .ok (.getfield 53, 3) := by decide +kernel
theorem dX0_becomeLike_50 : decode cX0_becomeLike 50 = .ok (.putfield 53, 3) := by decide +kernel
theorem dX0_becomeLike_53 : decode cX0_becomeLike 53 = .ok (.iconst 0, 1) := by decide +kernel
theorem dX0_becomeLike_54 : decode cX0_becomeLike 54 = .ok (.istore_n 2, 1) := by decide +kernel
theorem dX0_becomeLike_55 : decode cX0_becomeLike 55 = .ok (.iload_n 2, 1) := by decide +kernel
theorem dX0_becomeLike_56 : decode cX0_becomeLike 56 = .ok (.aload_n 0, 1) := by decide +kernel
theorem dX0_becomeLike_57 : decode cX0_becomeLike 57 = .ok (.getfield 53, 3) := by decide +kernel
theorem dX0_becomeLike_60 : decode cX0_becomeLike 60 = .ok (.if_icmp .ge 36, 3) := by decide +kernel
theorem dX0_becomeLike_63 : decode cX0_becomeLike 63 = .ok (.aload_n 0, 1) := by decide +kernel
theorem dX0_becomeLike_64 : decode cX0_becomeLike 64 = .ok (.getfield 24, 3) := by decide +kernel
theorem dX0_becomeLike_67 : decode cX0_becomeLike 67 = .ok (.iload_n 2, 1) := by decide +kernel
theorem dX0_becomeLike_68 : decode cX0_becomeLike 68 = .ok (.aaload, 1) := by decide +kernel
theorem dX0_becomeLike_69 : decode cX0_becomeLike 69 = .ok (.aload_n 1, 1) := by decide +kernel
theorem dX0_becomeLike_70 : decode cX0_becomeLike 70 = .ok (.getfield 24, 3) := by decide +kernel
theorem dX0_becomeLike_73 : decode cX0_becomeLike 73 = .ok (.iload_n 2, 1) := by decide +kernel
theorem dX0_becomeLike_74 : decode cX0_becomeLike 74 = .ok (.aaload, 1) := by decide +kernel
theorem dX0_becomeLike_75 : decode cX0_becomeLike 75 = .ok (.invokevirtual 56, 3) := by decide +kernel
theorem dX0_becomeLike_78 : decode cX0_becomeLike 78 = .ok (.aload_n 0, 1) := by decide +kernel
theorem dX0_becomeLike_79 : decode cX0_becomeLike 79 = .ok (.getfield 28, 3) := by decide +kernel
theorem dX0_becomeLike_82 : decode cX0_becomeLike 82 = .ok (.iload_n 2, 1) := by decide +kernel
theorem dX0_becomeLike_83 : decode cX0_becomeLike 83 = .ok (.aload_n 1, 1) := by decide +kernel
theorem dX0_becomeLike_84 : decode cX0_becomeLike 84 = .ok (.getfield 28, 3) := by decide +kernel
theorem dX0_becomeLike_87 : decode cX0_becomeLike 87 = .ok (.iload_n 2, 1) := by decide +kernel
theorem dX0_becomeLike_88 : decode cX0_becomeLike 88 = .ok (.iaload, 1) := by decide +kernel
theorem dX0_becomeLike_89 : decode cX0_becomeLike 89 = .ok (.iastore, 1) := by decide +kernel
theorem dX0_becomeLike_90 : decode cX0_becomeLike 90 = .ok (.iinc 2 1, 3) := by decide +kernel
theorem dX0_becomeLike_93 : decode cX0_becomeLike 93 = .ok (.goto (-38), 3) := by decide +kernel
theorem dX0_becomeLike_96 : decode cX0_becomeLike 96 = .ok (.aload_n 0, 1) := by decide +kernel
theorem dX0_becomeLike_97 : decode cX0_becomeLike 97 = .ok (.aload_n 1, 1) := by decide +kernel
theorem dX0_becomeLike_98 : decode cX0_becomeLike 98 = .ok (.getfield 59, 3) := by decide +kernel
theorem dX0_becomeLike_101 : decode cX0_becomeLike 101 = .ok (.aload_n 0, 1) := by decide +kernel
theorem dX0_becomeLike_102 : decode cX0_becomeLike 102 = .ok (.getfield 41, 3) := by decide +kernel
theorem dX0_becomeLike_105 : decode cX0_becomeLike 105 = .ok (.arraylength, 1) := by decide +kernel
theorem dX0_becomeLike_106 : decode cX0_becomeLike 106 = .ok (.invokestatic 62, 3) := by decide +kernel
theorem dX0_becomeLike_109 : decode cX0_becomeLike 109 = .ok (.putfield 59, 3) := by decide +kernel
theorem dX0_becomeLike_112 : decode cX0_becomeLike 112 = .ok (.iconst 0, 1) := by decide +kernel
theorem dX0_becomeLike_113 : decode cX0_becomeLike 113 = .ok (.istore_n 2, 1) := by decide +kernel
theorem dX0_becomeLike_114 : decode cX0_becomeLike 114 = .ok (.iload_n 2, 1) := by decide +kernel
theorem dX0_becomeLike_115 : decode cX0_becomeLike 115 = .ok (.aload_n 0, 1) := by decide +kernel
theorem dX0_becomeLike_116 : decode cX0_becomeLike 116 = .ok (.getfield 59, 3) := by decide +kernel
theorem dX0_becomeLike_119 : decode cX0_becomeLike 119 = .ok (.if_icmp .ge 24, 3) := by decide +kernel
theorem dX0_becomeLike_122 : decode cX0_becomeLike 122 = .ok (.aload_n 0, 1) := by decide +kernel
theorem dX0_becomeLike_123 : decode cX0_becomeLike 123 = .ok (.getfield 41, 3) := by decide +kernel
theorem dX0_becomeLike_126 : decode cX0_becomeLike 126 = .ok (.iload_n 2, 1) := by decide +kernel
theorem dX0_becomeLike_127 : decode cX0_becomeLike 127 = .ok (.aaload, 1) := by decide +kernel
theorem dX0_becomeLike_128 : decode cX0_becomeLike 128 = .ok (.aload_n 1, 1) := by decide +kernel
theorem dX0_becomeLike_129 : decode cX0_becomeLike 129 = .ok (.getfield 41, 3) := by decide +kernel
theorem dX0_becomeLike_132 : decode cX0_becomeLike 132 = .ok (.iload_n 2, 1) := by decide +kernel
theorem dX0_becomeLike_133 : decode cX0_becomeLike 133 = .ok (.aaload, 1) := by decide +kernel
theorem dX0_becomeLike_134 : decode cX0_becomeLike 134 = .ok (.invokevirtual 65, 3) := by decide +kernel
theorem dX0_becomeLike_137 : decode cX0_becomeLike 137 = .ok (.iinc 2 1, 3) := by decide +kernel
theorem dX0_becomeLike_140 : decode cX0_becomeLike 140 = .ok (.goto (-26), 3) := by decide +kernel
theorem dX0_becomeLike_143 : decode cX0_becomeLike 143 = .ok (.return_, 1) := by decide +kernel
theorem dX0_weatherAt_0 : decode cX0_weatherAt 0 = .ok (.iload_n 1, 1) := by decide +kernel
theorem dX0_weatherAt_1 : decode cX0_weatherAt 1 = .ok (.ifCond .lt 12, 3) := by decide +kernel
theorem dX0_weatherAt_4 : decode cX0_weatherAt 4 = .ok (.iload_n 1, 1) := by decide +kernel
theorem dX0_weatherAt_5 : decode cX0_weatherAt 5 = .ok (.aload_n 0, 1) := by decide +kernel
theorem dX0_weatherAt_6 : decode cX0_weatherAt 6 = .ok (.getfield 17, 3) := by decide +kernel
theorem dX0_weatherAt_9 : decode cX0_weatherAt 9 = .ok (.arraylength, 1) := by decide +kernel
theorem dX0_weatherAt_10 : decode cX0_weatherAt 10 = .ok (.if_icmp .lt 13, 3) := by decide +kernel
theorem dX0_weatherAt_13 : decode cX0_weatherAt 13 = .ok (.new 68, 3) := by decide +kernel
theorem dX0_weatherAt_16 : decode cX0_weatherAt 16 = .ok (.dup, 1) := by decide +kernel
theorem dX0_weatherAt_17 : decode cX0_weatherAt 17 = .ok (.ldc 70, 2) := by decide +kernel
theorem dX0_weatherAt_19 : decode cX0_weatherAt 19 = .ok (.invokespecial 72, 3) := by decide +kernel
theorem dX0_weatherAt_22 : decode cX0_weatherAt 22 = .ok (.athrow, 1) := by decide +kernel
theorem dX0_weatherAt_23 : decode cX0_weatherAt 23 = .ok (.aload_n 0, 1) := by decide +kernel
theorem dX0_weatherAt_24 : decode cX0_weatherAt 24 = .ok (.getfield 17, 3) := by decide +kernel
theorem dX0_weatherAt_27 : decode cX0_weatherAt 27 = .ok (.iload_n 1, 1) := by decide +kernel
theorem dX0_weatherAt_28 : decode cX0_weatherAt 28 = .ok (.aaload, 1) := by decide +kernel
theorem dX0_weatherAt_29 : decode cX0_weatherAt 29 = .ok (.areturn, 1) := by decide +kernel
theorem dX0_pondAt_0 : decode cX0_pondAt 0 = .ok (.iload_n 1, 1) := by decide +kernel
theorem dX0_pondAt_1 : decode cX0_pondAt 1 = .ok (.ifCond .lt 11, 3) := by decide +kernel
theorem dX0_pondAt_4 : decode cX0_pondAt 4 = .ok (.iload_n 1, 1) := by decide +kernel
theorem dX0_pondAt_5 : decode cX0_pondAt 5 = .ok (.aload_n 0, 1) := by decide +kernel
theorem dX0_pondAt_6 : decode cX0_pondAt 6 = .ok (.getfield 53, 3) := by decide +kernel
theorem dX0_pondAt_9 : decode cX0_pondAt 9 = .ok (.if_icmp .lt 13, 3) := by decide +kernel
theorem dX0_pondAt_12 : decode cX0_pondAt 12 = .ok (.new 68, 3) := by decide +kernel
theorem dX0_pondAt_15 : decode cX0_pondAt 15 = .ok (.dup, 1) := by decide +kernel
theorem dX0_pondAt_16 : decode cX0_pondAt 16 = .ok (.ldc 75, 2) := by decide +kernel
theorem dX0_pondAt_18 : decode cX0_pondAt 18 = .ok (.invokespecial 72, 3) := by decide +kernel
theorem dX0_pondAt_21 : decode cX0_pondAt 21 = .ok (.athrow, 1) := by decide +kernel
theorem dX0_pondAt_22 : decode cX0_pondAt 22 = .ok (.aload_n 0, 1) := by decide +kernel
theorem dX0_pondAt_23 : decode cX0_pondAt 23 = .ok (.getfield 24, 3) := by decide +kernel
theorem dX0_pondAt_26 : decode cX0_pondAt 26 = .ok (.iload_n 1, 1) := by decide +kernel
theorem dX0_pondAt_27 : decode cX0_pondAt 27 = .ok (.aaload, 1) := by decide +kernel
theorem dX0_pondAt_28 : decode cX0_pondAt 28 = .ok (.areturn, 1) := by decide +kernel
theorem dX0_flockAt_0 : decode cX0_flockAt 0 = .ok (.iload_n 1, 1) := by decide +kernel
theorem dX0_flockAt_1 : decode cX0_flockAt 1 = .ok (.ifCond .lt 11, 3) := by decide +kernel
theorem dX0_flockAt_4 : decode cX0_flockAt 4 = .ok (.iload_n 1, 1) := by decide +kernel
theorem dX0_flockAt_5 : decode cX0_flockAt 5 = .ok (.aload_n 0, 1) := by decide +kernel
theorem dX0_flockAt_6 : decode cX0_flockAt 6 = .ok (.getfield 59, 3) := by decide +kernel
theorem dX0_flockAt_9 : decode cX0_flockAt 9 = .ok (.if_icmp .lt 13, 3) := by decide +kernel
theorem dX0_flockAt_12 : decode cX0_flockAt 12 = .ok (.new 68, 3) := by decide +kernel
theorem dX0_flockAt_15 : decode cX0_flockAt 15 = .ok (.dup, 1) := by decide +kernel
theorem dX0_flockAt_16 : decode cX0_flockAt 16 = .ok (.ldc 77, 2) := by decide +kernel
theorem dX0_flockAt_18 : decode cX0_flockAt 18 = .ok (.invokespecial 72, 3) := by decide +kernel
theorem dX0_flockAt_21 : decode cX0_flockAt 21 = .ok (.athrow, 1) := by decide +kernel
theorem dX0_flockAt_22 : decode cX0_flockAt 22 = .ok (.aload_n 0, 1) := by decide +kernel
theorem dX0_flockAt_23 : decode cX0_flockAt 23 = .ok (.getfield 41, 3) := by decide +kernel
theorem dX0_flockAt_26 : decode cX0_flockAt 26 = .ok (.iload_n 1, 1) := by decide +kernel
theorem dX0_flockAt_27 : decode cX0_flockAt 27 = .ok (.aaload, 1) := by decide +kernel
theorem dX0_flockAt_28 : decode cX0_flockAt 28 = .ok (.areturn, 1) := by decide +kernel
theorem dX0_makePond_0 : decode cX0_makePond 0 = .ok (.aload_n 0, 1) := by decide +kernel
theorem dX0_makePond_1 : decode cX0_makePond 1 = .ok (.getfield 53, 3) := by decide +kernel
theorem dX0_makePond_4 : decode cX0_makePond 4 = .ok (.aload_n 0, 1) := by decide +kernel
theorem dX0_makePond_5 : decode cX0_makePond 5 = .ok (.getfield 24, 3) := by decide +kernel
theorem dX0_makePond_8 : decode cX0_makePond 8 = .ok (.arraylength, 1) := by decide +kernel
theorem dX0_makePond_9 : decode cX0_makePond 9 = .ok (.if_icmp .lt 13, 3) := by decide +kernel
theorem dX0_makePond_12 : decode cX0_makePond 12 = .ok (.new 79, 3) := by decide +kernel
theorem dX0_makePond_15 : decode cX0_makePond 15 = .ok (.dup, 1) := by decide +kernel
theorem dX0_makePond_16 : decode cX0_makePond 16 = .ok (.ldc 81, 2) := by decide +kernel
theorem dX0_makePond_18 : decode cX0_makePond 18 = .ok (.invokespecial 83, 3) := by decide +kernel
theorem dX0_makePond_21 : decode cX0_makePond 21 = .ok (.athrow, 1) := by decide +kernel
theorem dX0_makePond_22 : decode cX0_makePond 22 = .ok (.aload_n 0, 1) := by decide +kernel
theorem dX0_makePond_23 : decode cX0_makePond 23 = .ok (.iload_n 1, 1) := by decide +kernel
theorem dX0_makePond_24 : decode cX0_makePond 24 = .ok (.iload_n 2, 1) := by decide +kernel
theorem dX0_makePond_25 : decode cX0_makePond 25 = .ok (.invokevirtual 84, 3) := by decide +kernel
theorem dX0_makePond_28 : decode cX0_makePond 28 = .ok (.ifCond .eq 13, 3) := by decide +kernel
theorem dX0_makePond_31 : decode cX0_makePond 31 = .ok (.new 79, 3) := by decide +kernel
theorem dX0_makePond_34 : decode cX0_makePond 34 = .ok (.dup, 1) := by decide +kernel
theorem dX0_makePond_35 : decode cX0_makePond 35 = .ok (.ldc 88, 2) := by decide +kernel
theorem dX0_makePond_37 : decode cX0_makePond 37 = .ok (.invokespecial 83, 3) := by decide +kernel
theorem dX0_makePond_40 : decode cX0_makePond 40 = .ok (.athrow, 1) := by decide +kernel
theorem dX0_makePond_41 : decode cX0_makePond 41 = .ok (.aload_n 0, 1) := by decide +kernel
theorem dX0_makePond_42 : decode cX0_makePond 42 = .ok (.getfield 53, 3) := by decide +kernel
theorem dX0_makePond_45 : decode cX0_makePond 45 = .ok (.istore 6, 2) := by decide +kernel
theorem dX0_makePond_47 : decode cX0_makePond 47 = .ok (.aload_n 0, 1) := by decide +kernel
theorem dX0_makePond_48 : decode cX0_makePond 48 = .ok (.getfield 24, 3) := by decide +kernel
theorem dX0_makePond_51 : decode cX0_makePond 51 = .ok (.iload 6, 2) := by decide +kernel
theorem dX0_makePond_53 : decode cX0_makePond 53 = .ok (.aaload, 1) := by decide +kernel
theorem dX0_makePond_54 : decode cX0_makePond 54 = .ok (.astore 7, 2) := by decide +kernel
theorem dX0_makePond_56 : decode cX0_makePond 56 = .ok (.aload 7, 2) := by decide +kernel
theorem dX0_makePond_58 : decode cX0_makePond 58 = .ok (.iload_n 1, 1) := by decide +kernel
theorem dX0_makePond_59 : decode cX0_makePond 59 = .ok (.putfield 90, 3) := by decide +kernel
theorem dX0_makePond_62 : decode cX0_makePond 62 = .ok (.aload 7, 2) := by decide +kernel
theorem dX0_makePond_64 : decode cX0_makePond 64 = .ok (.iload_n 2, 1) := by decide +kernel
theorem dX0_makePond_65 : decode cX0_makePond 65 = .ok (.putfield 93, 3) := by decide +kernel
theorem dX0_makePond_68 : decode cX0_makePond 68 = .ok (.aload 7, 2) := by decide +kernel
theorem dX0_makePond_70 : decode cX0_makePond 70 = .ok (.iload_n 3, 1) := by decide +kernel
theorem dX0_makePond_71 : decode cX0_makePond 71 = .ok (.putfield 96, 3) := by decide +kernel
theorem dX0_makePond_74 : decode cX0_makePond 74 = .ok (.aload 7, 2) := by decide +kernel
theorem dX0_makePond_76 : decode cX0_makePond 76 = .ok (.iload 4, 2) := by decide +kernel
theorem dX0_makePond_78 : decode cX0_makePond 78 = .ok (.putfield 99, 3) := by decide +kernel
theorem dX0_makePond_81 : decode cX0_makePond 81 = .ok (.aload 7, 2) := by decide +kernel
theorem dX0_makePond_83 : decode cX0_makePond 83 = .ok (.iload 5, 2) := by decide +kernel
theorem dX0_makePond_85 : decode cX0_makePond 85 = .ok (.putfield 102, 3) := by decide +kernel
theorem dX0_makePond_88 : decode cX0_makePond 88 = .ok (.iload 6, 2) := by decide +kernel
theorem dX0_makePond_90 : decode cX0_makePond 90 = .ok (.istore 8, 2) := by decide +kernel
theorem dX0_makePond_92 : decode cX0_makePond 92 = .ok (.iload 8, 2) := by decide +kernel
theorem dX0_makePond_94 : decode cX0_makePond 94 = .ok (.ifCond .le 45, 3) := by decide +kernel
theorem dX0_makePond_97 : decode cX0_makePond 97 = .ok (.aload_n 0, 1) := by decide +kernel
theorem dX0_makePond_98 : decode cX0_makePond 98 = .ok (.aload_n 0, 1) := by decide +kernel
theorem dX0_makePond_99 : decode cX0_makePond 99 = .ok (.getfield 28, 3) := by decide +kernel
theorem dX0_makePond_102 : decode cX0_makePond 102 = .ok (.iload 8, 2) := by decide +kernel
theorem dX0_makePond_104 : decode cX0_makePond 104 = .ok (.iconst 1, 1) := by decide +kernel
theorem dX0_makePond_105 : decode cX0_makePond 105 = .ok (.isub, 1) := by decide +kernel
theorem dX0_makePond_106 : decode cX0_makePond 106 = .ok (.iaload, 1) := by decide +kernel
theorem dX0_makePond_107 : decode cX0_makePond 107 = .ok (.invokevirtual 105, 3) := by decide +kernel
theorem dX0_makePond_110 : decode cX0_makePond 110 = .ok (.getfield 96, 3) := by decide +kernel
theorem dX0_makePond_113 : decode cX0_makePond 113 = .ok (.iload_n 3, 1) := by decide +kernel
theorem dX0_makePond_114 : decode cX0_makePond 114 = .ok (.if_icmp .ge 25, 3) := by decide +kernel
theorem dX0_makePond_117 : decode cX0_makePond 117 = .ok (.aload_n 0, 1) := by decide +kernel
theorem dX0_makePond_118 : decode cX0_makePond 118 = .ok (.getfield 28, 3) := by decide +kernel
theorem dX0_makePond_121 : decode cX0_makePond 121 = .ok (.iload 8, 2) := by decide +kernel
theorem dX0_makePond_123 : decode cX0_makePond 123 = .ok (.aload_n 0, 1) := by decide +kernel
theorem dX0_makePond_124 : decode cX0_makePond 124 = .ok (.getfield 28, 3) := by decide +kernel
theorem dX0_makePond_127 : decode cX0_makePond 127 = .ok (.iload 8, 2) := by decide +kernel
theorem dX0_makePond_129 : decode cX0_makePond 129 = .ok (.iconst 1, 1) := by decide +kernel
theorem dX0_makePond_130 : decode cX0_makePond 130 = .ok (.isub, 1) := by decide +kernel
theorem dX0_makePond_131 : decode cX0_makePond 131 = .ok (.iaload, 1) := by decide +kernel
theorem dX0_makePond_132 : decode cX0_makePond 132 = .ok (.iastore, 1) := by decide +kernel
theorem dX0_makePond_133 : decode cX0_makePond 133 = .ok (.iinc 8 (-1), 3) := by decide +kernel
theorem dX0_makePond_136 : decode cX0_makePond 136 = .ok (.goto (-44), 3) := by decide +kernel
theorem dX0_makePond_139 : decode cX0_makePond 139 = .ok (.aload_n 0, 1) := by decide +kernel
theorem dX0_makePond_140 : decode cX0_makePond 140 = .ok (.getfield 28, 3) := by decide +kernel
theorem dX0_makePond_143 : decode cX0_makePond 143 = .ok (.iload 8, 2) := by decide +kernel
theorem dX0_makePond_145 : decode cX0_makePond 145 = .ok (.iload 6, 2) := by decide +kernel
theorem dX0_makePond_147 : decode cX0_makePond 147 = .ok (.iastore, 1) := by decide +kernel
theorem dX0_makePond_148 : decode cX0_makePond 148 = .ok (.aload_n 0, 1) := by decide +kernel
theorem dX0_makePond_149 : decode cX0_makePond 149 = .ok (.dup, 1) := by decide +kernel
theorem dX0_makePond_150 : decode cX0_makePond 150 = .ok (.getfield 53, 3) := by decide +kernel
theorem dX0_makePond_153 : decode cX0_makePond 153 = .ok (.iconst 1, 1) := by decide +kernel
theorem dX0_makePond_154 : decode cX0_makePond 154 = .ok (.iadd, 1) := by decide +kernel
theorem dX0_makePond_155 : decode cX0_makePond 155 = .ok (.putfield 53, 3) := by decide +kernel
theorem dX0_makePond_158 : decode cX0_makePond 158 = .ok (.iload 6, 2) := by decide +kernel
theorem dX0_makePond_160 : decode cX0_makePond 160 = .ok (.ireturn, 1) := by decide +kernel
theorem dX0_makeFlock_0 : decode cX0_makeFlock 0 = .ok (.aload_n 0, 1) := by decide +kernel
theorem dX0_makeFlock_1 : decode cX0_makeFlock 1 = .ok (.getfield 59, 3) := by decide +kernel
theorem dX0_makeFlock_4 : decode cX0_makeFlock 4 = .ok (.aload_n 0, 1) := by decide +kernel
theorem dX0_makeFlock_5 : decode cX0_makeFlock 5 = .ok (.getfield 41, 3) := by decide +kernel
theorem dX0_makeFlock_8 : decode cX0_makeFlock 8 = .ok (.arraylength, 1) := by decide +kernel
theorem dX0_makeFlock_9 : decode cX0_makeFlock 9 = .ok (.if_icmp .lt 13, 3) := by decide +kernel
theorem dX0_makeFlock_12 : decode cX0_makeFlock 12 = .ok (.new 79, 3) := by decide +kernel
theorem dX0_makeFlock_15 : decode cX0_makeFlock 15 = .ok (.dup, 1) := by decide +kernel
theorem dX0_makeFlock_16 : decode cX0_makeFlock 16 = .ok (.ldc 109, 2) := by decide +kernel
theorem dX0_makeFlock_18 : decode cX0_makeFlock 18 = .ok (.invokespecial 83, 3) := by decide +kernel
theorem dX0_makeFlock_21 : decode cX0_makeFlock 21 = .ok (.athrow, 1) := by decide +kernel
theorem dX0_makeFlock_22 : decode cX0_makeFlock 22 = .ok (.aload_n 0, 1) := by decide +kernel
theorem dX0_makeFlock_23 : decode cX0_makeFlock 23 = .ok (.getfield 59, 3) := by decide +kernel
theorem dX0_makeFlock_26 : decode cX0_makeFlock 26 = .ok (.istore_n 3, 1) := by decide +kernel
theorem dX0_makeFlock_27 : decode cX0_makeFlock 27 = .ok (.aload_n 0, 1) := by decide +kernel
theorem dX0_makeFlock_28 : decode cX0_makeFlock 28 = .ok (.getfield 41, 3) := by decide +kernel
theorem dX0_makeFlock_31 : decode cX0_makeFlock 31 = .ok (.iload_n 3, 1) := by decide +kernel
theorem dX0_makeFlock_32 : decode cX0_makeFlock 32 = .ok (.aaload, 1) := by decide +kernel
theorem dX0_makeFlock_33 : decode cX0_makeFlock 33 = .ok (.iload_n 1, 1) := by decide +kernel
theorem dX0_makeFlock_34 : decode cX0_makeFlock 34 = .ok (.iload_n 2, 1) := by decide +kernel
theorem dX0_makeFlock_35 : decode cX0_makeFlock 35 = .ok (.invokevirtual 111, 3) := by decide +kernel
theorem dX0_makeFlock_38 : decode cX0_makeFlock 38 = .ok (.aload_n 0, 1) := by decide +kernel
theorem dX0_makeFlock_39 : decode cX0_makeFlock 39 = .ok (.dup, 1) := by decide +kernel
theorem dX0_makeFlock_40 : decode cX0_makeFlock 40 = .ok (.getfield 59, 3) := by decide +kernel
theorem dX0_makeFlock_43 : decode cX0_makeFlock 43 = .ok (.iconst 1, 1) := by decide +kernel
theorem dX0_makeFlock_44 : decode cX0_makeFlock 44 = .ok (.iadd, 1) := by decide +kernel
theorem dX0_makeFlock_45 : decode cX0_makeFlock 45 = .ok (.putfield 59, 3) := by decide +kernel
theorem dX0_makeFlock_48 : decode cX0_makeFlock 48 = .ok (.iload_n 3, 1) := by decide +kernel
theorem dX0_makeFlock_49 : decode cX0_makeFlock 49 = .ok (.ireturn, 1) := by decide +kernel
theorem dX0_liveDays_0 : decode cX0_liveDays 0 = .ok (.iconst 0, 1) := by decide +kernel
theorem dX0_liveDays_1 : decode cX0_liveDays 1 = .ok (.istore_n 2, 1) := by decide +kernel
theorem dX0_liveDays_2 : decode cX0_liveDays 2 = .ok (.iconst 0, 1) := by decide +kernel
theorem dX0_liveDays_3 : decode cX0_liveDays 3 = .ok (.istore_n 3, 1) := by decide +kernel
theorem dX0_liveDays_4 : decode cX0_liveDays 4 = .ok (.iload_n 3, 1) := by decide +kernel
theorem dX0_liveDays_5 : decode cX0_liveDays 5 = .ok (.iload_n 1, 1) := by decide +kernel
theorem dX0_liveDays_6 : decode cX0_liveDays 6 = .ok (.if_icmp .ge 16, 3) := by decide +kernel
theorem dX0_liveDays_9 : decode cX0_liveDays 9 = .ok (.iload_n 2, 1) := by decide +kernel
theorem dX0_liveDays_10 : decode cX0_liveDays 10 = .ok (.aload_n 0, 1) := by decide +kernel
theorem dX0_liveDays_11 : decode cX0_liveDays 11 = .ok (.invokevirtual 115, 3) := by decide +kernel
theorem dX0_liveDays_14 : decode cX0_liveDays 14 = .ok (.iadd, 1) := by decide +kernel
theorem dX0_liveDays_15 : decode cX0_liveDays 15 = .ok (.istore_n 2, 1) := by decide +kernel
theorem dX0_liveDays_16 : decode cX0_liveDays 16 = .ok (.iinc 3 1, 3) := by decide +kernel
theorem dX0_liveDays_19 : decode cX0_liveDays 19 = .ok (.goto (-15), 3) := by decide +kernel
theorem dX0_liveDays_22 : decode cX0_liveDays 22 = .ok (.iload_n 2, 1) := by decide +kernel
theorem dX0_liveDays_23 : decode cX0_liveDays 23 = .ok (.ireturn, 1) := by decide +kernel
theorem dX0_liveDay_0 : decode cX0_liveDay 0 = .ok (.aload_n 0, 1) := by decide +kernel
theorem dX0_liveDay_1 : decode cX0_liveDay 1 = .ok (.getfield 46, 3) := by decide +kernel
theorem dX0_liveDay_4 : decode cX0_liveDay 4 = .ok (.bipush 10, 2) := by decide +kernel
theorem dX0_liveDay_6 : decode cX0_liveDay 6 = .ok (.invokestatic 119, 3) := by decide +kernel
theorem dX0_liveDay_9 : decode cX0_liveDay 9 = .ok (.istore_n 1, 1) := by decide +kernel
theorem dX0_liveDay_10 : decode cX0_liveDay 10 = .ok (.aload_n 0, 1) := by decide +kernel
theorem dX0_liveDay_11 : decode cX0_liveDay 11 = .ok (.iload_n 1, 1) := by decide +kernel
theorem dX0_liveDay_12 : decode cX0_liveDay 12 = .ok (.invokevirtual 122, 3) := by decide +kernel
theorem dX0_liveDay_15 : decode cX0_liveDay 15 = .ok (.astore_n 2, 1) := by decide +kernel
theorem dX0_liveDay_16 : decode cX0_liveDay 16 = .ok (.iconst 0, 1) := by decide +kernel
theorem dX0_liveDay_17 : decode cX0_liveDay 17 = .ok (.istore_n 3, 1) := by decide +kernel
theorem dX0_liveDay_18 : decode cX0_liveDay 18 = .ok (.iload_n 3, 1) := by decide +kernel
theorem dX0_liveDay_19 : decode cX0_liveDay 19 = .ok (.aload_n 0, 1) := by decide +kernel
theorem dX0_liveDay_20 : decode cX0_liveDay 20 = .ok (.getfield 53, 3) := by decide +kernel
theorem dX0_liveDay_23 : decode cX0_liveDay 23 = .ok (.if_icmp .ge 35, 3) := by decide +kernel
theorem dX0_liveDay_26 : decode cX0_liveDay 26 = .ok (.aload_n 0, 1) := by decide +kernel
theorem dX0_liveDay_27 : decode cX0_liveDay 27 = .ok (.getfield 24, 3) := by decide +kernel
theorem dX0_liveDay_30 : decode cX0_liveDay 30 = .ok (.iload_n 3, 1) := by decide +kernel
theorem dX0_liveDay_31 : decode cX0_liveDay 31 = .ok (.aaload, 1) := by decide +kernel
theorem dX0_liveDay_32 : decode cX0_liveDay 32 = .ok (.aload_n 2, 1) := by decide +kernel
theorem dX0_liveDay_33 : decode cX0_liveDay 33 = .ok (.getfield 126, 3) := by decide +kernel
theorem dX0_liveDay_36 : decode cX0_liveDay 36 = .ok (.invokevirtual 129, 3) := by decide +kernel
theorem dX0_liveDay_39 : decode cX0_liveDay 39 = .ok (.aload_n 0, 1) := by decide +kernel
theorem dX0_liveDay_40 : decode cX0_liveDay 40 = .ok (.getfield 24, 3) := by decide +kernel
theorem dX0_liveDay_43 : decode cX0_liveDay 43 = .ok (.iload_n 3, 1) := by decide +kernel
theorem dX0_liveDay_44 : decode cX0_liveDay 44 = .ok (.aaload, 1) := by decide +kernel
theorem dX0_liveDay_45 : decode cX0_liveDay 45 = .ok (.aload_n 2, 1) := by decide +kernel
theorem dX0_liveDay_46 : decode cX0_liveDay 46 = .ok (.getfield 133, 3) := by decide +kernel
theorem dX0_liveDay_49 : decode cX0_liveDay 49 = .ok (.invokevirtual 136, 3) := by decide +kernel
theorem dX0_liveDay_52 : decode cX0_liveDay 52 = .ok (.iinc 3 1, 3) := by decide +kernel
theorem dX0_liveDay_55 : decode cX0_liveDay 55 = .ok (.goto (-37), 3) := by decide +kernel
theorem dX0_liveDay_58 : decode cX0_liveDay 58 = .ok (.aload_n 0, 1) := by decide +kernel
theorem dX0_liveDay_59 : decode cX0_liveDay 59 = .ok (.invokevirtual 139, 3) := by decide +kernel
theorem dX0_liveDay_62 : decode cX0_liveDay 62 = .ok (.istore_n 3, 1) := by decide +kernel
theorem dX0_liveDay_63 : decode cX0_liveDay 63 = .ok (.iconst 0, 1) := by decide +kernel
theorem dX0_liveDay_64 : decode cX0_liveDay 64 = .ok (.istore 4, 2) := by decide +kernel
theorem dX0_liveDay_66 : decode cX0_liveDay 66 = .ok (.iload 4, 2) := by decide +kernel
theorem dX0_liveDay_68 : decode cX0_liveDay 68 = .ok (.aload_n 0, 1) := by decide +kernel
theorem dX0_liveDay_69 : decode cX0_liveDay 69 = .ok (.getfield 53, 3) := by decide +kernel
theorem dX0_liveDay_72 : decode cX0_liveDay 72 = .ok (.if_icmp .ge 33, 3) := by decide +kernel
theorem dX0_liveDay_75 : decode cX0_liveDay 75 = .ok (.aload_n 0, 1) := by decide +kernel
theorem dX0_liveDay_76 : decode cX0_liveDay 76 = .ok (.getfield 24, 3) := by decide +kernel
theorem dX0_liveDay_79 : decode cX0_liveDay 79 = .ok (.iload 4, 2) := by decide +kernel
theorem dX0_liveDay_81 : decode cX0_liveDay 81 = .ok (.aaload, 1) := by decide +kernel
theorem dX0_liveDay_82 : decode cX0_liveDay 82 = .ok (.aload_n 2, 1) := by decide +kernel
theorem dX0_liveDay_83 : decode cX0_liveDay 83 = .ok (.getfield 142, 3) := by decide +kernel
theorem dX0_liveDay_86 : decode cX0_liveDay 86 = .ok (.invokevirtual 145, 3) := by decide +kernel
theorem dX0_liveDay_89 : decode cX0_liveDay 89 = .ok (.aload_n 0, 1) := by decide +kernel
theorem dX0_liveDay_90 : decode cX0_liveDay 90 = .ok (.getfield 24, 3) := by decide +kernel
theorem dX0_liveDay_93 : decode cX0_liveDay 93 = .ok (.iload 4, 2) := by decide +kernel
theorem dX0_liveDay_95 : decode cX0_liveDay 95 = .ok (.aaload, 1) := by decide +kernel
theorem dX0_liveDay_96 : decode cX0_liveDay 96 = .ok (.invokevirtual 148, 3) := by decide +kernel
theorem dX0_liveDay_99 : decode cX0_liveDay 99 = .ok (.iinc 4 1, 3) := by decide +kernel
theorem dX0_liveDay_102 : decode cX0_liveDay 102 = .ok (.goto (-36), 3) := by decide +kernel
theorem dX0_liveDay_105 : decode cX0_liveDay 105 = .ok (.aload_n 0, 1) := by decide +kernel
theorem dX0_liveDay_106 : decode cX0_liveDay 106 = .ok (.invokevirtual 151, 3) := by decide +kernel
theorem dX0_liveDay_109 : decode cX0_liveDay 109 = .ok (.iload_n 1, 1) := by decide +kernel
theorem dX0_liveDay_110 : decode cX0_liveDay 110 = .ok (.bipush 9, 2) := by decide +kernel
theorem dX0_liveDay_112 : decode cX0_liveDay 112 = .ok (.if_icmp .ne 7, 3) := by decide +kernel
theorem dX0_liveDay_115 : decode cX0_liveDay 115 = .ok (.aload_n 0, 1) := by decide +kernel
theorem dX0_liveDay_116 : decode cX0_liveDay 116 = .ok (.invokevirtual 154, 3) := by decide +kernel
theorem dX0_liveDay_119 : decode cX0_liveDay 119 = .ok (.aload_n 0, 1) := by decide +kernel
theorem dX0_liveDay_120 : decode cX0_liveDay 120 = .ok (.dup, 1) := by decide +kernel
theorem dX0_liveDay_121 : decode cX0_liveDay 121 = .ok (.getfield 46, 3) := by decide +kernel
theorem dX0_liveDay_124 : decode cX0_liveDay 124 = .ok (.iconst 1, 1) := by decide +kernel
theorem dX0_liveDay_125 : decode cX0_liveDay 125 = .ok (.iadd, 1) := by decide +kernel
theorem dX0_liveDay_126 : decode cX0_liveDay 126 = .ok (.putfield 46, 3) := by decide +kernel
theorem dX0_liveDay_129 : decode cX0_liveDay 129 = .ok (.iload_n 3, 1) := by decide +kernel
theorem dX0_liveDay_130 : decode cX0_liveDay 130 = .ok (.ireturn, 1) := by decide +kernel
theorem dX0_waterFlocks_0 : decode cX0_waterFlocks 0 = .ok (.iconst 0, 1) := by decide +kernel
theorem dX0_waterFlocks_1 : decode cX0_waterFlocks 1 = .ok (.istore_n 1, 1) := by decide +kernel
theorem dX0_waterFlocks_2 : decode cX0_waterFlocks 2 = .ok (.iconst 0, 1) := by decide +kernel
theorem dX0_waterFlocks_3 : decode cX0_waterFlocks 3 = .ok (.istore_n 2, 1) := by decide +kernel
theorem dX0_waterFlocks_4 : decode cX0_waterFlocks 4 = .ok (.iload_n 2, 1) := by decide +kernel
theorem dX0_waterFlocks_5 : decode cX0_waterFlocks 5 = .ok (.aload_n 0, 1) := by decide +kernel
theorem dX0_waterFlocks_6 : decode cX0_waterFlocks 6 = .ok (.getfield 59, 3) := by decide +kernel
theorem dX0_waterFlocks_9 : decode cX0_waterFlocks 9 = .ok (.if_icmp .ge 87, 3) := by decide +kernel
theorem dX0_waterFlocks_12 : decode cX0_waterFlocks 12 = .ok (.aload_n 0, 1) := by decide +kernel
theorem dX0_waterFlocks_13 : decode cX0_waterFlocks 13 = .ok (.getfield 41, 3) := by decide +kernel
theorem dX0_waterFlocks_16 : decode cX0_waterFlocks 16 = .ok (.iload_n 2, 1) := by decide +kernel
theorem dX0_waterFlocks_17 : decode cX0_waterFlocks 17 = .ok (.aaload, 1) := by decide +kernel
theorem dX0_waterFlocks_18 : decode cX0_waterFlocks 18 = .ok (.astore_n 3, 1) := by decide +kernel
theorem dX0_waterFlocks_19 : decode cX0_waterFlocks 19 = .ok (.aload_n 3, 1) := by decide +kernel
theorem dX0_waterFlocks_20 : decode cX0_waterFlocks 20 = .ok (.invokevirtual 157, 3) := by decide +kernel
theorem dX0_waterFlocks_23 : decode cX0_waterFlocks 23 = .ok (.ifCond .ne 67, 3) := by decide +kernel
theorem dX0_waterFlocks_26 : decode cX0_waterFlocks 26 = .ok (.aload_n 3, 1) := by decide +kernel
theorem dX0_waterFlocks_27 : decode cX0_waterFlocks 27 = .ok (.getfield 161, 3) := by decide +kernel
theorem dX0_waterFlocks_30 : decode cX0_waterFlocks 30 = .ok (.ifCond .eq 19, 3) := by decide +kernel
theorem dX0_waterFlocks_33 : decode cX0_waterFlocks 33 = .ok (.aload_n 3, 1) := by decide +kernel
theorem dX0_waterFlocks_34 : decode cX0_waterFlocks 34 = .ok (.getfield 165, 3) := by decide +kernel
theorem dX0_waterFlocks_37 : decode cX0_waterFlocks 37 = .ok (.ifCond .le 12, 3) := by decide +kernel
theorem dX0_waterFlocks_40 : decode cX0_waterFlocks 40 = .ok (.aload_n 3, 1) := by decide +kernel
theorem dX0_waterFlocks_41 : decode cX0_waterFlocks 41 = .ok (.aload_n 0, 1) := by decide +kernel
theorem dX0_waterFlocks_42 : decode cX0_waterFlocks 42 = .ok (.aload_n 3, 1) := by decide +kernel
theorem dX0_waterFlocks_43 : decode cX0_waterFlocks 43 = .ok (.invokevirtual 168, 3) := by decide +kernel
theorem dX0_waterFlocks_46 : decode cX0_waterFlocks 46 = .ok (.putfield 172, 3) := by decide +kernel
theorem dX0_waterFlocks_49 : decode cX0_waterFlocks 49 = .ok (.aload_n 0, 1) := by decide +kernel
theorem dX0_waterFlocks_50 : decode cX0_waterFlocks 50 = .ok (.aload_n 3, 1) := by decide +kernel
theorem dX0_waterFlocks_51 : decode cX0_waterFlocks 51 = .ok (.getfield 172, 3) := by decide +kernel
theorem dX0_waterFlocks_54 : decode cX0_waterFlocks 54 = .ok (.invokevirtual 105, 3) := by decide +kernel
theorem dX0_waterFlocks_57 : decode cX0_waterFlocks 57 = .ok (.astore 4, 2) := by decide +kernel
theorem dX0_waterFlocks_59 : decode cX0_waterFlocks 59 = .ok (.aload 4, 2) := by decide +kernel
theorem dX0_waterFlocks_61 : decode cX0_waterFlocks 61 = .ok (.aload_n 3, 1) := by decide +kernel
theorem dX0_waterFlocks_62 : decode cX0_waterFlocks 62 = .ok (.invokevirtual 175, 3) := by decide +kernel
theorem dX0_waterFlocks_65 : decode cX0_waterFlocks 65 = .ok (.invokevirtual 178, 3) := by decide +kernel
theorem dX0_waterFlocks_68 : decode cX0_waterFlocks 68 = .ok (.istore 5, 2) := by decide +kernel
theorem dX0_waterFlocks_70 : decode cX0_waterFlocks 70 = .ok (.aload_n 3, 1) := by decide +kernel
theorem dX0_waterFlocks_71 : decode cX0_waterFlocks 71 = .ok (.iload 5, 2) := by decide +kernel
theorem dX0_waterFlocks_73 : decode cX0_waterFlocks 73 = .ok (.invokevirtual 182, 3) := by decide +kernel
theorem dX0_waterFlocks_76 : decode cX0_waterFlocks 76 = .ok (.aload 4, 2) := by decide +kernel
theorem dX0_waterFlocks_78 : decode cX0_waterFlocks 78 = .ok (.aload_n 3, 1) := by decide +kernel
theorem dX0_waterFlocks_79 : decode cX0_waterFlocks 79 = .ok (.getfield 185, 3) := by decide +kernel
theorem dX0_waterFlocks_82 : decode cX0_waterFlocks 82 = .ok (.invokevirtual 188, 3) := by decide +kernel
theorem dX0_waterFlocks_85 : decode cX0_waterFlocks 85 = .ok (.iload_n 1, 1) := by decide +kernel
theorem dX0_waterFlocks_86 : decode cX0_waterFlocks 86 = .ok (.iload 5, 2) := by decide +kernel
theorem dX0_waterFlocks_88 : decode cX0_waterFlocks 88 = .ok (.iadd, 1) := by decide +kernel
theorem dX0_waterFlocks_89 : decode cX0_waterFlocks 89 = .ok (.istore_n 1, 1) := by decide +kernel
theorem dX0_waterFlocks_90 : decode cX0_waterFlocks 90 = .ok (.iinc 2 1, 3) := by decide +kernel
theorem dX0_waterFlocks_93 : decode cX0_waterFlocks 93 = .ok (.goto (-89), 3) := by decide +kernel
theorem dX0_waterFlocks_96 : decode cX0_waterFlocks 96 = .ok (.iload_n 1, 1) := by decide +kernel
theorem dX0_waterFlocks_97 : decode cX0_waterFlocks 97 = .ok (.ireturn, 1) := by decide +kernel
theorem dX0_nearestWaterFor_0 : decode cX0_nearestWaterFor 0 = .ok (.aload_n 0, 1) := by decide +kernel
theorem dX0_nearestWaterFor_1 : decode cX0_nearestWaterFor 1 = .ok (.aload_n 1, 1) := by decide +kernel
theorem dX0_nearestWaterFor_2 : decode cX0_nearestWaterFor 2 = .ok (.getfield 172, 3) := by decide +kernel
theorem dX0_nearestWaterFor_5 : decode cX0_nearestWaterFor 5 = .ok (.invokevirtual 105, 3) := by decide +kernel
theorem dX0_nearestWaterFor_8 : decode cX0_nearestWaterFor 8 = .ok (.astore_n 2, 1) := by decide +kernel
theorem dX0_nearestWaterFor_9 : decode cX0_nearestWaterFor 9 = .ok (.aload_n 1, 1) := by decide +kernel
theorem dX0_nearestWaterFor_10 : decode cX0_nearestWaterFor 10 = .ok (.getfield 172, 3) := by decide +kernel
theorem dX0_nearestWaterFor_13 : decode cX0_nearestWaterFor 13 = .ok (.istore_n 3, 1) := by decide +kernel
theorem dX0_nearestWaterFor_14 : decode cX0_nearestWaterFor 14 = .ok (.aload_n 2, 1) := by decide +kernel
theorem dX0_nearestWaterFor_15 : decode cX0_nearestWaterFor 15 = .ok (.getfield 191, 3) := by decide +kernel
theorem dX0_nearestWaterFor_18 : decode cX0_nearestWaterFor 18 = .ok (.aload_n 1, 1) := by decide +kernel
theorem dX0_nearestWaterFor_19 : decode cX0_nearestWaterFor 19 = .ok (.invokevirtual 175, 3) := by decide +kernel
theorem dX0_nearestWaterFor_22 : decode cX0_nearestWaterFor 22 = .ok (.if_icmp .lt 5, 3) := by decide +kernel
theorem dX0_nearestWaterFor_25 : decode cX0_nearestWaterFor 25 = .ok (.iload_n 3, 1) := by decide +kernel
theorem dX0_nearestWaterFor_26 : decode cX0_nearestWaterFor 26 = .ok (.ireturn, 1) := by decide +kernel
theorem dX0_nearestWaterFor_27 : decode cX0_nearestWaterFor 27 = .ok (.ldc 196, 2) := by decide +kernel
theorem dX0_nearestWaterFor_29 : decode cX0_nearestWaterFor 29 = .ok (.istore 4, 2) := by decide +kernel
theorem dX0_nearestWaterFor_31 : decode cX0_nearestWaterFor 31 = .ok (.iconst 0, 1) := by decide +kernel
theorem dX0_nearestWaterFor_32 : decode cX0_nearestWaterFor 32 = .ok (.istore 5, 2) := by decide +kernel
theorem dX0_nearestWaterFor_34 : decode cX0_nearestWaterFor 34 = .ok (.iload 5, 2) := by decide +kernel
theorem dX0_nearestWaterFor_36 : decode cX0_nearestWaterFor 36 = .ok (.aload_n 0, 1) := by decide +kernel
theorem dX0_nearestWaterFor_37 : decode cX0_nearestWaterFor 37 = .ok (.getfield 53, 3) := by decide +kernel
theorem dX0_nearestWaterFor_40 : decode cX0_nearestWaterFor 40 = .ok (.if_icmp .ge 53, 3) := by decide +kernel
theorem dX0_nearestWaterFor_43 : decode cX0_nearestWaterFor 43 = .ok (.aload_n 2, 1) := by decide +kernel
theorem dX0_nearestWaterFor_44 : decode cX0_nearestWaterFor 44 = .ok (.aload_n 0, 1) := by decide +kernel
theorem dX0_nearestWaterFor_45 : decode cX0_nearestWaterFor 45 = .ok (.getfield 24, 3) := by decide +kernel
theorem dX0_nearestWaterFor_48 : decode cX0_nearestWaterFor 48 = .ok (.iload 5, 2) := by decide +kernel
theorem dX0_nearestWaterFor_50 : decode cX0_nearestWaterFor 50 = .ok (.aaload, 1) := by decide +kernel
theorem dX0_nearestWaterFor_51 : decode cX0_nearestWaterFor 51 = .ok (.invokevirtual 197, 3) := by decide +kernel
theorem dX0_nearestWaterFor_54 : decode cX0_nearestWaterFor 54 = .ok (.istore 6, 2) := by decide +kernel
theorem dX0_nearestWaterFor_56 : decode cX0_nearestWaterFor 56 = .ok (.aload_n 0, 1) := by decide +kernel
theorem dX0_nearestWaterFor_57 : decode cX0_nearestWaterFor 57 = .ok (.getfield 24, 3) := by decide +kernel
theorem dX0_nearestWaterFor_60 : decode cX0_nearestWaterFor 60 = .ok (.iload 5, 2) := by decide +kernel
theorem dX0_nearestWaterFor_62 : decode cX0_nearestWaterFor 62 = .ok (.aaload, 1) := by decide +kernel
theorem dX0_nearestWaterFor_63 : decode cX0_nearestWaterFor 63 = .ok (.getfield 191, 3) := by decide +kernel
theorem dX0_nearestWaterFor_66 : decode cX0_nearestWaterFor 66 = .ok (.aload_n 1, 1) := by decide +kernel
theorem dX0_nearestWaterFor_67 : decode cX0_nearestWaterFor 67 = .ok (.invokevirtual 175, 3) := by decide +kernel
theorem dX0_nearestWaterFor_70 : decode cX0_nearestWaterFor 70 = .ok (.if_icmp .lt 17, 3) := by decide +kernel
theorem dX0_nearestWaterFor_73 : decode cX0_nearestWaterFor 73 = .ok (.iload 6, 2) := by decide +kernel
theorem dX0_nearestWaterFor_75 : decode cX0_nearestWaterFor 75 = .ok (.iload 4, 2) := by decide +kernel
theorem dX0_nearestWaterFor_77 : decode cX0_nearestWaterFor 77 = .ok (.if_icmp .ge 10, 3) := by decide +kernel
theorem dX0_nearestWaterFor_80 : decode cX0_nearestWaterFor 80 = .ok (.iload 6, 2) := by decide +kernel
theorem dX0_nearestWaterFor_82 : decode cX0_nearestWaterFor 82 = .ok (.istore 4, 2) := by decide +kernel
theorem dX0_nearestWaterFor_84 : decode cX0_nearestWaterFor 84 = .ok (.iload 5, 2) := by decide +kernel
theorem dX0_nearestWaterFor_86 : decode cX0_nearestWaterFor 86 = .ok (.istore_n 3, 1) := by decide +kernel
theorem dX0_nearestWaterFor_87 : decode cX0_nearestWaterFor 87 = .ok (.iinc 5 1, 3) := by decide +kernel
theorem dX0_nearestWaterFor_90 : decode cX0_nearestWaterFor 90 = .ok (.goto (-56), 3) := by decide +kernel
theorem dX0_nearestWaterFor_93 : decode cX0_nearestWaterFor 93 = .ok (.iload_n 3, 1) := by decide +kernel
theorem dX0_nearestWaterFor_94 : decode cX0_nearestWaterFor 94 = .ok (.ireturn, 1) := by decide +kernel
theorem dX0_runOver_0 : decode cX0_runOver 0 = .ok (.iconst 0, 1) := by decide +kernel
theorem dX0_runOver_1 : decode cX0_runOver 1 = .ok (.istore_n 1, 1) := by decide +kernel
theorem dX0_runOver_2 : decode cX0_runOver 2 = .ok (.iload_n 1, 1) := by decide +kernel
theorem dX0_runOver_3 : decode cX0_runOver 3 = .ok (.aload_n 0, 1) := by decide +kernel
theorem dX0_runOver_4 : decode cX0_runOver 4 = .ok (.getfield 53, 3) := by decide +kernel
theorem dX0_runOver_7 : decode cX0_runOver 7 = .ok (.if_icmp .ge 50, 3) := by decide +kernel
theorem dX0_runOver_10 : decode cX0_runOver 10 = .ok (.aload_n 0, 1) := by decide +kernel
theorem dX0_runOver_11 : decode cX0_runOver 11 = .ok (.aload_n 0, 1) := by decide +kernel
theorem dX0_runOver_12 : decode cX0_runOver 12 = .ok (.getfield 28, 3) := by decide +kernel
theorem dX0_runOver_15 : decode cX0_runOver 15 = .ok (.iload_n 1, 1) := by decide +kernel
theorem dX0_runOver_16 : decode cX0_runOver 16 = .ok (.iaload, 1) := by decide +kernel
theorem dX0_runOver_17 : decode cX0_runOver 17 = .ok (.invokevirtual 105, 3) := by decide +kernel
theorem dX0_runOver_20 : decode cX0_runOver 20 = .ok (.astore_n 2, 1) := by decide +kernel
theorem dX0_runOver_21 : decode cX0_runOver 21 = .ok (.aload_n 2, 1) := by decide +kernel
theorem dX0_runOver_22 : decode cX0_runOver 22 = .ok (.invokevirtual 201, 3) := by decide +kernel
theorem dX0_runOver_25 : decode cX0_runOver 25 = .ok (.istore_n 3, 1) := by decide +kernel
theorem dX0_runOver_26 : decode cX0_runOver 26 = .ok (.aload_n 2, 1) := by decide +kernel
theorem dX0_runOver_27 : decode cX0_runOver 27 = .ok (.getfield 204, 3) := by decide +kernel
theorem dX0_runOver_30 : decode cX0_runOver 30 = .ok (.iconst (-1), 1) := by decide +kernel
theorem dX0_runOver_31 : decode cX0_runOver 31 = .ok (.if_icmp .eq 20, 3) := by decide +kernel
theorem dX0_runOver_34 : decode cX0_runOver 34 = .ok (.aload_n 0, 1) := by decide +kernel
theorem dX0_runOver_35 : decode cX0_runOver 35 = .ok (.aload_n 2, 1) := by decide +kernel
theorem dX0_runOver_36 : decode cX0_runOver 36 = .ok (.getfield 204, 3) := by decide +kernel
theorem dX0_runOver_39 : decode cX0_runOver 39 = .ok (.invokevirtual 105, 3) := by decide +kernel
theorem dX0_runOver_42 : decode cX0_runOver 42 = .ok (.dup, 1) := by decide +kernel
theorem dX0_runOver_43 : decode cX0_runOver 43 = .ok (.getfield 191, 3) := by decide +kernel
theorem dX0_runOver_46 : decode cX0_runOver 46 = .ok (.iload_n 3, 1) := by decide +kernel
theorem dX0_runOver_47 : decode cX0_runOver 47 = .ok (.iadd, 1) := by decide +kernel
theorem dX0_runOver_48 : decode cX0_runOver 48 = .ok (.putfield 191, 3) := by decide +kernel
theorem dX0_runOver_51 : decode cX0_runOver 51 = .ok (.iinc 1 1, 3) := by decide +kernel
theorem dX0_runOver_54 : decode cX0_runOver 54 = .ok (.goto (-52), 3) := by decide +kernel
theorem dX0_runOver_57 : decode cX0_runOver 57 = .ok (.return_, 1) := by decide +kernel
theorem dX0_rotStraw_0 : decode cX0_rotStraw 0 = .ok (.iconst 0, 1) := by decide +kernel
theorem dX0_rotStraw_1 : decode cX0_rotStraw 1 = .ok (.istore_n 1, 1) := by decide +kernel
theorem dX0_rotStraw_2 : decode cX0_rotStraw 2 = .ok (.iload_n 1, 1) := by decide +kernel
theorem dX0_rotStraw_3 : decode cX0_rotStraw 3 = .ok (.aload_n 0, 1) := by decide +kernel
theorem dX0_rotStraw_4 : decode cX0_rotStraw 4 = .ok (.getfield 53, 3) := by decide +kernel
theorem dX0_rotStraw_7 : decode cX0_rotStraw 7 = .ok (.if_icmp .ge 19, 3) := by decide +kernel
theorem dX0_rotStraw_10 : decode cX0_rotStraw 10 = .ok (.aload_n 0, 1) := by decide +kernel
theorem dX0_rotStraw_11 : decode cX0_rotStraw 11 = .ok (.getfield 24, 3) := by decide +kernel
theorem dX0_rotStraw_14 : decode cX0_rotStraw 14 = .ok (.iload_n 1, 1) := by decide +kernel
theorem dX0_rotStraw_15 : decode cX0_rotStraw 15 = .ok (.aaload, 1) := by decide +kernel
theorem dX0_rotStraw_16 : decode cX0_rotStraw 16 = .ok (.iconst 0, 1) := by decide +kernel
theorem dX0_rotStraw_17 : decode cX0_rotStraw 17 = .ok (.putfield 207, 3) := by decide +kernel
theorem dX0_rotStraw_20 : decode cX0_rotStraw 20 = .ok (.iinc 1 1, 3) := by decide +kernel
theorem dX0_rotStraw_23 : decode cX0_rotStraw 23 = .ok (.goto (-21), 3) := by decide +kernel
theorem dX0_rotStraw_26 : decode cX0_rotStraw 26 = .ok (.return_, 1) := by decide +kernel
theorem dX0_isTaken_0 : decode cX0_isTaken 0 = .ok (.iconst 0, 1) := by decide +kernel
theorem dX0_isTaken_1 : decode cX0_isTaken 1 = .ok (.istore_n 3, 1) := by decide +kernel
theorem dX0_isTaken_2 : decode cX0_isTaken 2 = .ok (.iload_n 3, 1) := by decide +kernel
theorem dX0_isTaken_3 : decode cX0_isTaken 3 = .ok (.aload_n 0, 1) := by decide +kernel
theorem dX0_isTaken_4 : decode cX0_isTaken 4 = .ok (.getfield 53, 3) := by decide +kernel
theorem dX0_isTaken_7 : decode cX0_isTaken 7 = .ok (.if_icmp .ge 37, 3) := by decide +kernel
theorem dX0_isTaken_10 : decode cX0_isTaken 10 = .ok (.aload_n 0, 1) := by decide +kernel
theorem dX0_isTaken_11 : decode cX0_isTaken 11 = .ok (.getfield 24, 3) := by decide +kernel
theorem dX0_isTaken_14 : decode cX0_isTaken 14 = .ok (.iload_n 3, 1) := by decide +kernel
theorem dX0_isTaken_15 : decode cX0_isTaken 15 = .ok (.aaload, 1) := by decide +kernel
theorem dX0_isTaken_16 : decode cX0_isTaken 16 = .ok (.getfield 90, 3) := by decide +kernel
theorem dX0_isTaken_19 : decode cX0_isTaken 19 = .ok (.iload_n 1, 1) := by decide +kernel
theorem dX0_isTaken_20 : decode cX0_isTaken 20 = .ok (.if_icmp .ne 18, 3) := by decide +kernel
theorem dX0_isTaken_23 : decode cX0_isTaken 23 = .ok (.aload_n 0, 1) := by decide +kernel
theorem dX0_isTaken_24 : decode cX0_isTaken 24 = .ok (.getfield 24, 3) := by decide +kernel
theorem dX0_isTaken_27 : decode cX0_isTaken 27 = .ok (.iload_n 3, 1) := by decide +kernel
theorem dX0_isTaken_28 : decode cX0_isTaken 28 = .ok (.aaload, 1) := by decide +kernel
theorem dX0_isTaken_29 : decode cX0_isTaken 29 = .ok (.getfield 93, 3) := by decide +kernel
theorem dX0_isTaken_32 : decode cX0_isTaken 32 = .ok (.iload_n 2, 1) := by decide +kernel
theorem dX0_isTaken_33 : decode cX0_isTaken 33 = .ok (.if_icmp .ne 5, 3) := by decide +kernel
theorem dX0_isTaken_36 : decode cX0_isTaken 36 = .ok (.iconst 1, 1) := by decide +kernel
theorem dX0_isTaken_37 : decode cX0_isTaken 37 = .ok (.ireturn, 1) := by decide +kernel
theorem dX0_isTaken_38 : decode cX0_isTaken 38 = .ok (.iinc 3 1, 3) := by decide +kernel
theorem dX0_isTaken_41 : decode cX0_isTaken 41 = .ok (.goto (-39), 3) := by decide +kernel
theorem dX0_isTaken_44 : decode cX0_isTaken 44 = .ok (.iconst 0, 1) := by decide +kernel
theorem dX0_isTaken_45 : decode cX0_isTaken 45 = .ok (.ireturn, 1) := by decide +kernel
theorem dX0_sourcesOf_0 : decode cX0_sourcesOf 0 = .ok (.iconst 0, 1) := by decide +kernel
theorem dX0_sourcesOf_1 : decode cX0_sourcesOf 1 = .ok (.istore_n 2, 1) := by decide +kernel
theorem dX0_sourcesOf_2 : decode cX0_sourcesOf 2 = .ok (.iconst 0, 1) := by decide +kernel
theorem dX0_sourcesOf_3 : decode cX0_sourcesOf 3 = .ok (.istore_n 3, 1) := by decide +kernel
theorem dX0_sourcesOf_4 : decode cX0_sourcesOf 4 = .ok (.iload_n 3, 1) := by decide +kernel
theorem dX0_sourcesOf_5 : decode cX0_sourcesOf 5 = .ok (.aload_n 0, 1) := by decide +kernel
theorem dX0_sourcesOf_6 : decode cX0_sourcesOf 6 = .ok (.getfield 53, 3) := by decide +kernel
theorem dX0_sourcesOf_9 : decode cX0_sourcesOf 9 = .ok (.if_icmp .ge 24, 3) := by decide +kernel
theorem dX0_sourcesOf_12 : decode cX0_sourcesOf 12 = .ok (.aload_n 0, 1) := by decide +kernel
theorem dX0_sourcesOf_13 : decode cX0_sourcesOf 13 = .ok (.iload_n 3, 1) := by decide +kernel
theorem dX0_sourcesOf_14 : decode cX0_sourcesOf 14 = .ok (.iload_n 1, 1) := by decide +kernel
theorem dX0_sourcesOf_15 : decode cX0_sourcesOf 15 = .ok (.invokevirtual 210, 3) := by decide +kernel
theorem dX0_sourcesOf_18 : decode cX0_sourcesOf 18 = .ok (.ifCond .eq 9, 3) := by decide +kernel
theorem dX0_sourcesOf_21 : decode cX0_sourcesOf 21 = .ok (.iload_n 2, 1) := by decide +kernel
theorem dX0_sourcesOf_22 : decode cX0_sourcesOf 22 = .ok (.iconst 1, 1) := by decide +kernel
theorem dX0_sourcesOf_23 : decode cX0_sourcesOf 23 = .ok (.iload_n 3, 1) := by decide +kernel
theorem dX0_sourcesOf_24 : decode cX0_sourcesOf 24 = .ok (.ishl, 1) := by decide +kernel
theorem dX0_sourcesOf_25 : decode cX0_sourcesOf 25 = .ok (.ior, 1) := by decide +kernel
theorem dX0_sourcesOf_26 : decode cX0_sourcesOf 26 = .ok (.istore_n 2, 1) := by decide +kernel
theorem dX0_sourcesOf_27 : decode cX0_sourcesOf 27 = .ok (.iinc 3 1, 3) := by decide +kernel
theorem dX0_sourcesOf_30 : decode cX0_sourcesOf 30 = .ok (.goto (-26), 3) := by decide +kernel
theorem dX0_sourcesOf_33 : decode cX0_sourcesOf 33 = .ok (.iload_n 2, 1) := by decide +kernel
theorem dX0_sourcesOf_34 : decode cX0_sourcesOf 34 = .ok (.ireturn, 1) := by decide +kernel
theorem dX0_runsDownTo_0 : decode cX0_runsDownTo 0 = .ok (.aload_n 0, 1) := by decide +kernel
theorem dX0_runsDownTo_1 : decode cX0_runsDownTo 1 = .ok (.iload_n 1, 1) := by decide +kernel
theorem dX0_runsDownTo_2 : decode cX0_runsDownTo 2 = .ok (.invokevirtual 105, 3) := by decide +kernel
theorem dX0_runsDownTo_5 : decode cX0_runsDownTo 5 = .ok (.getfield 204, 3) := by decide +kernel
theorem dX0_runsDownTo_8 : decode cX0_runsDownTo 8 = .ok (.istore_n 3, 1) := by decide +kernel
theorem dX0_runsDownTo_9 : decode cX0_runsDownTo 9 = .ok (.iconst 0, 1) := by decide +kernel
theorem dX0_runsDownTo_10 : decode cX0_runsDownTo 10 = .ok (.istore 4, 2) := by decide +kernel
theorem dX0_runsDownTo_12 : decode cX0_runsDownTo 12 = .ok (.iload 4, 2) := by decide +kernel
theorem dX0_runsDownTo_14 : decode cX0_runsDownTo 14 = .ok (.bipush 10, 2) := by decide +kernel
theorem dX0_runsDownTo_16 : decode cX0_runsDownTo 16 = .ok (.if_icmp .ge 30, 3) := by decide +kernel
theorem dX0_runsDownTo_19 : decode cX0_runsDownTo 19 = .ok (.iload_n 3, 1) := by decide +kernel
theorem dX0_runsDownTo_20 : decode cX0_runsDownTo 20 = .ok (.iconst (-1), 1) := by decide +kernel
theorem dX0_runsDownTo_21 : decode cX0_runsDownTo 21 = .ok (.if_icmp .eq 25, 3) := by decide +kernel
theorem dX0_runsDownTo_24 : decode cX0_runsDownTo 24 = .ok (.iload_n 3, 1) := by decide +kernel
theorem dX0_runsDownTo_25 : decode cX0_runsDownTo 25 = .ok (.iload_n 2, 1) := by decide +kernel
theorem dX0_runsDownTo_26 : decode cX0_runsDownTo 26 = .ok (.if_icmp .ne 5, 3) := by decide +kernel
theorem dX0_runsDownTo_29 : decode cX0_runsDownTo 29 = .ok (.iconst 1, 1) := by decide +kernel
theorem dX0_runsDownTo_30 : decode cX0_runsDownTo 30 = .ok (.ireturn, 1) := by decide +kernel
theorem dX0_runsDownTo_31 : decode cX0_runsDownTo 31 = .ok (.aload_n 0, 1) := by decide +kernel
theorem dX0_runsDownTo_32 : decode cX0_runsDownTo 32 = .ok (.iload_n 3, 1) := by decide +kernel
theorem dX0_runsDownTo_33 : decode cX0_runsDownTo 33 = .ok (.invokevirtual 105, 3) := by decide +kernel
theorem dX0_runsDownTo_36 : decode cX0_runsDownTo 36 = .ok (.getfield 204, 3) := by decide +kernel
theorem dX0_runsDownTo_39 : decode cX0_runsDownTo 39 = .ok (.istore_n 3, 1) := by decide +kernel
theorem dX0_runsDownTo_40 : decode cX0_runsDownTo 40 = .ok (.iinc 4 1, 3) := by decide +kernel
theorem dX0_runsDownTo_43 : decode cX0_runsDownTo 43 = .ok (.goto (-31), 3) := by decide +kernel
theorem dX0_runsDownTo_46 : decode cX0_runsDownTo 46 = .ok (.iconst 0, 1) := by decide +kernel
theorem dX0_runsDownTo_47 : decode cX0_runsDownTo 47 = .ok (.ireturn, 1) := by decide +kernel
theorem dX0_flocksAt_0 : decode cX0_flocksAt 0 = .ok (.iconst 0, 1) := by decide +kernel
theorem dX0_flocksAt_1 : decode cX0_flocksAt 1 = .ok (.istore_n 2, 1) := by decide +kernel
theorem dX0_flocksAt_2 : decode cX0_flocksAt 2 = .ok (.iconst 0, 1) := by decide +kernel
theorem dX0_flocksAt_3 : decode cX0_flocksAt 3 = .ok (.istore_n 3, 1) := by decide +kernel
theorem dX0_flocksAt_4 : decode cX0_flocksAt 4 = .ok (.iload_n 3, 1) := by decide +kernel
theorem dX0_flocksAt_5 : decode cX0_flocksAt 5 = .ok (.aload_n 0, 1) := by decide +kernel
theorem dX0_flocksAt_6 : decode cX0_flocksAt 6 = .ok (.getfield 59, 3) := by decide +kernel
theorem dX0_flocksAt_9 : decode cX0_flocksAt 9 = .ok (.if_icmp .ge 37, 3) := by decide +kernel
theorem dX0_flocksAt_12 : decode cX0_flocksAt 12 = .ok (.aload_n 0, 1) := by decide +kernel
theorem dX0_flocksAt_13 : decode cX0_flocksAt 13 = .ok (.getfield 41, 3) := by decide +kernel
theorem dX0_flocksAt_16 : decode cX0_flocksAt 16 = .ok (.iload_n 3, 1) := by decide +kernel
theorem dX0_flocksAt_17 : decode cX0_flocksAt 17 = .ok (.aaload, 1) := by decide +kernel
theorem dX0_flocksAt_18 : decode cX0_flocksAt 18 = .ok (.getfield 172, 3) := by decide +kernel
theorem dX0_flocksAt_21 : decode cX0_flocksAt 21 = .ok (.iload_n 1, 1) := by decide +kernel
theorem dX0_flocksAt_22 : decode cX0_flocksAt 22 = .ok (.if_icmp .ne 18, 3) := by decide +kernel
theorem dX0_flocksAt_25 : decode cX0_flocksAt 25 = .ok (.aload_n 0, 1) := by decide +kernel
theorem dX0_flocksAt_26 : decode cX0_flocksAt 26 = .ok (.getfield 41, 3) := by decide +kernel
theorem dX0_flocksAt_29 : decode cX0_flocksAt 29 = .ok (.iload_n 3, 1) := by decide +kernel
theorem dX0_flocksAt_30 : decode cX0_flocksAt 30 = .ok (.aaload, 1) := by decide +kernel
theorem dX0_flocksAt_31 : decode cX0_flocksAt 31 = .ok (.invokevirtual 157, 3) := by decide +kernel
theorem dX0_flocksAt_34 : decode cX0_flocksAt 34 = .ok (.ifCond .ne 6, 3) := by decide +kernel
theorem dX0_flocksAt_37 : decode cX0_flocksAt 37 = .ok (.iinc 2 1, 3) := by decide +kernel
theorem dX0_flocksAt_40 : decode cX0_flocksAt 40 = .ok (.iinc 3 1, 3) := by decide +kernel
theorem dX0_flocksAt_43 : decode cX0_flocksAt 43 = .ok (.goto (-39), 3) := by decide +kernel
theorem dX0_flocksAt_46 : decode cX0_flocksAt 46 = .ok (.iload_n 2, 1) := by decide +kernel
theorem dX0_flocksAt_47 : decode cX0_flocksAt 47 = .ok (.ireturn, 1) := by decide +kernel
theorem dX0_lostFlocks_0 : decode cX0_lostFlocks 0 = .ok (.iconst 0, 1) := by decide +kernel
theorem dX0_lostFlocks_1 : decode cX0_lostFlocks 1 = .ok (.istore_n 1, 1) := by decide +kernel
theorem dX0_lostFlocks_2 : decode cX0_lostFlocks 2 = .ok (.iconst 0, 1) := by decide +kernel
theorem dX0_lostFlocks_3 : decode cX0_lostFlocks 3 = .ok (.istore_n 2, 1) := by decide +kernel
theorem dX0_lostFlocks_4 : decode cX0_lostFlocks 4 = .ok (.iload_n 2, 1) := by decide +kernel
theorem dX0_lostFlocks_5 : decode cX0_lostFlocks 5 = .ok (.aload_n 0, 1) := by decide +kernel
theorem dX0_lostFlocks_6 : decode cX0_lostFlocks 6 = .ok (.getfield 59, 3) := by decide +kernel
theorem dX0_lostFlocks_9 : decode cX0_lostFlocks 9 = .ok (.if_icmp .ge 24, 3) := by decide +kernel
theorem dX0_lostFlocks_12 : decode cX0_lostFlocks 12 = .ok (.aload_n 0, 1) := by decide +kernel
theorem dX0_lostFlocks_13 : decode cX0_lostFlocks 13 = .ok (.getfield 41, 3) := by decide +kernel
theorem dX0_lostFlocks_16 : decode cX0_lostFlocks 16 = .ok (.iload_n 2, 1) := by decide +kernel
theorem dX0_lostFlocks_17 : decode cX0_lostFlocks 17 = .ok (.aaload, 1) := by decide +kernel
theorem dX0_lostFlocks_18 : decode cX0_lostFlocks 18 = .ok (.invokevirtual 157, 3) := by decide +kernel
theorem dX0_lostFlocks_21 : decode cX0_lostFlocks 21 = .ok (.ifCond .eq 6, 3) := by decide +kernel
theorem dX0_lostFlocks_24 : decode cX0_lostFlocks 24 = .ok (.iinc 1 1, 3) := by decide +kernel
theorem dX0_lostFlocks_27 : decode cX0_lostFlocks 27 = .ok (.iinc 2 1, 3) := by decide +kernel
theorem dX0_lostFlocks_30 : decode cX0_lostFlocks 30 = .ok (.goto (-26), 3) := by decide +kernel
theorem dX0_lostFlocks_33 : decode cX0_lostFlocks 33 = .ok (.iload_n 1, 1) := by decide +kernel
theorem dX0_lostFlocks_34 : decode cX0_lostFlocks 34 = .ok (.ireturn, 1) := by decide +kernel
theorem dX0_livingSheep_0 : decode cX0_livingSheep 0 = .ok (.iconst 0, 1) := by decide +kernel
theorem dX0_livingSheep_1 : decode cX0_livingSheep 1 = .ok (.istore_n 1, 1) := by decide +kernel
theorem dX0_livingSheep_2 : decode cX0_livingSheep 2 = .ok (.iconst 0, 1) := by decide +kernel
theorem dX0_livingSheep_3 : decode cX0_livingSheep 3 = .ok (.istore_n 2, 1) := by decide +kernel
theorem dX0_livingSheep_4 : decode cX0_livingSheep 4 = .ok (.iload_n 2, 1) := by decide +kernel
theorem dX0_livingSheep_5 : decode cX0_livingSheep 5 = .ok (.aload_n 0, 1) := by decide +kernel
theorem dX0_livingSheep_6 : decode cX0_livingSheep 6 = .ok (.getfield 59, 3) := by decide +kernel
theorem dX0_livingSheep_9 : decode cX0_livingSheep 9 = .ok (.if_icmp .ge 33, 3) := by decide +kernel
theorem dX0_livingSheep_12 : decode cX0_livingSheep 12 = .ok (.aload_n 0, 1) := by decide +kernel
theorem dX0_livingSheep_13 : decode cX0_livingSheep 13 = .ok (.getfield 41, 3) := by decide +kernel
theorem dX0_livingSheep_16 : decode cX0_livingSheep 16 = .ok (.iload_n 2, 1) := by decide +kernel
theorem dX0_livingSheep_17 : decode cX0_livingSheep 17 = .ok (.aaload, 1) := by decide +kernel
theorem dX0_livingSheep_18 : decode cX0_livingSheep 18 = .ok (.invokevirtual 157, 3) := by decide +kernel
theorem dX0_livingSheep_21 : decode cX0_livingSheep 21 = .ok (.ifCond .ne 15, 3) := by decide +kernel
theorem dX0_livingSheep_24 : decode cX0_livingSheep 24 = .ok (.iload_n 1, 1) := by decide +kernel
theorem dX0_livingSheep_25 : decode cX0_livingSheep 25 = .ok (.aload_n 0, 1) := by decide +kernel
theorem dX0_livingSheep_26 : decode cX0_livingSheep 26 = .ok (.getfield 41, 3) := by decide +kernel
theorem dX0_livingSheep_29 : decode cX0_livingSheep 29 = .ok (.iload_n 2, 1) := by decide +kernel
theorem dX0_livingSheep_30 : decode cX0_livingSheep 30 = .ok (.aaload, 1) := by decide +kernel
theorem dX0_livingSheep_31 : decode cX0_livingSheep 31 = .ok (.getfield 185, 3) := by decide +kernel
theorem dX0_livingSheep_34 : decode cX0_livingSheep 34 = .ok (.iadd, 1) := by decide +kernel
theorem dX0_livingSheep_35 : decode cX0_livingSheep 35 = .ok (.istore_n 1, 1) := by decide +kernel
theorem dX0_livingSheep_36 : decode cX0_livingSheep 36 = .ok (.iinc 2 1, 3) := by decide +kernel
theorem dX0_livingSheep_39 : decode cX0_livingSheep 39 = .ok (.goto (-35), 3) := by decide +kernel
theorem dX0_livingSheep_42 : decode cX0_livingSheep 42 = .ok (.iload_n 1, 1) := by decide +kernel
theorem dX0_livingSheep_43 : decode cX0_livingSheep 43 = .ok (.ireturn, 1) := by decide +kernel
theorem dX0_allWater_0 : decode cX0_allWater 0 = .ok (.iconst 0, 1) := by decide +kernel
theorem dX0_allWater_1 : decode cX0_allWater 1 = .ok (.istore_n 1, 1) := by decide +kernel
theorem dX0_allWater_2 : decode cX0_allWater 2 = .ok (.iconst 0, 1) := by decide +kernel
theorem dX0_allWater_3 : decode cX0_allWater 3 = .ok (.istore_n 2, 1) := by decide +kernel
theorem dX0_allWater_4 : decode cX0_allWater 4 = .ok (.iload_n 2, 1) := by decide +kernel
theorem dX0_allWater_5 : decode cX0_allWater 5 = .ok (.aload_n 0, 1) := by decide +kernel
theorem dX0_allWater_6 : decode cX0_allWater 6 = .ok (.getfield 53, 3) := by decide +kernel
theorem dX0_allWater_9 : decode cX0_allWater 9 = .ok (.if_icmp .ge 21, 3) := by decide +kernel
theorem dX0_allWater_12 : decode cX0_allWater 12 = .ok (.iload_n 1, 1) := by decide +kernel
theorem dX0_allWater_13 : decode cX0_allWater 13 = .ok (.aload_n 0, 1) := by decide +kernel
theorem dX0_allWater_14 : decode cX0_allWater 14 = .ok (.getfield 24, 3) := by decide +kernel
theorem dX0_allWater_17 : decode cX0_allWater 17 = .ok (.iload_n 2, 1) := by decide +kernel
theorem dX0_allWater_18 : decode cX0_allWater 18 = .ok (.aaload, 1) := by decide +kernel
theorem dX0_allWater_19 : decode cX0_allWater 19 = .ok (.getfield 191, 3) := by decide +kernel
theorem dX0_allWater_22 : decode cX0_allWater 22 = .ok (.iadd, 1) := by decide +kernel
theorem dX0_allWater_23 : decode cX0_allWater 23 = .ok (.istore_n 1, 1) := by decide +kernel
theorem dX0_allWater_24 : decode cX0_allWater 24 = .ok (.iinc 2 1, 3) := by decide +kernel
theorem dX0_allWater_27 : decode cX0_allWater 27 = .ok (.goto (-23), 3) := by decide +kernel
theorem dX0_allWater_30 : decode cX0_allWater 30 = .ok (.iload_n 1, 1) := by decide +kernel
theorem dX0_allWater_31 : decode cX0_allWater 31 = .ok (.ireturn, 1) := by decide +kernel
theorem dX0_allHold_0 : decode cX0_allHold 0 = .ok (.iconst 0, 1) := by decide +kernel
theorem dX0_allHold_1 : decode cX0_allHold 1 = .ok (.istore_n 1, 1) := by decide +kernel
theorem dX0_allHold_2 : decode cX0_allHold 2 = .ok (.iconst 0, 1) := by decide +kernel
theorem dX0_allHold_3 : decode cX0_allHold 3 = .ok (.istore_n 2, 1) := by decide +kernel
theorem dX0_allHold_4 : decode cX0_allHold 4 = .ok (.iload_n 2, 1) := by decide +kernel
theorem dX0_allHold_5 : decode cX0_allHold 5 = .ok (.aload_n 0, 1) := by decide +kernel
theorem dX0_allHold_6 : decode cX0_allHold 6 = .ok (.getfield 53, 3) := by decide +kernel
theorem dX0_allHold_9 : decode cX0_allHold 9 = .ok (.if_icmp .ge 21, 3) := by decide +kernel
theorem dX0_allHold_12 : decode cX0_allHold 12 = .ok (.iload_n 1, 1) := by decide +kernel
theorem dX0_allHold_13 : decode cX0_allHold 13 = .ok (.aload_n 0, 1) := by decide +kernel
theorem dX0_allHold_14 : decode cX0_allHold 14 = .ok (.getfield 24, 3) := by decide +kernel
theorem dX0_allHold_17 : decode cX0_allHold 17 = .ok (.iload_n 2, 1) := by decide +kernel
theorem dX0_allHold_18 : decode cX0_allHold 18 = .ok (.aaload, 1) := by decide +kernel
theorem dX0_allHold_19 : decode cX0_allHold 19 = .ok (.invokevirtual 213, 3) := by decide +kernel
theorem dX0_allHold_22 : decode cX0_allHold 22 = .ok (.iadd, 1) := by decide +kernel
theorem dX0_allHold_23 : decode cX0_allHold 23 = .ok (.istore_n 1, 1) := by decide +kernel
theorem dX0_allHold_24 : decode cX0_allHold 24 = .ok (.iinc 2 1, 3) := by decide +kernel
theorem dX0_allHold_27 : decode cX0_allHold 27 = .ok (.goto (-23), 3) := by decide +kernel
theorem dX0_allHold_30 : decode cX0_allHold 30 = .ok (.iload_n 1, 1) := by decide +kernel
theorem dX0_allHold_31 : decode cX0_allHold 31 = .ok (.ireturn, 1) := by decide +kernel
theorem dX0_emptyPonds_0 : decode cX0_emptyPonds 0 = .ok (.iconst 0, 1) := by decide +kernel
theorem dX0_emptyPonds_1 : decode cX0_emptyPonds 1 = .ok (.istore_n 1, 1) := by decide +kernel
theorem dX0_emptyPonds_2 : decode cX0_emptyPonds 2 = .ok (.iconst 0, 1) := by decide +kernel
theorem dX0_emptyPonds_3 : decode cX0_emptyPonds 3 = .ok (.istore_n 2, 1) := by decide +kernel
theorem dX0_emptyPonds_4 : decode cX0_emptyPonds 4 = .ok (.iload_n 2, 1) := by decide +kernel
theorem dX0_emptyPonds_5 : decode cX0_emptyPonds 5 = .ok (.aload_n 0, 1) := by decide +kernel
theorem dX0_emptyPonds_6 : decode cX0_emptyPonds 6 = .ok (.getfield 53, 3) := by decide +kernel
theorem dX0_emptyPonds_9 : decode cX0_emptyPonds 9 = .ok (.if_icmp .ge 24, 3) := by decide +kernel
theorem dX0_emptyPonds_12 : decode cX0_emptyPonds 12 = .ok (.aload_n 0, 1) := by decide +kernel
theorem dX0_emptyPonds_13 : decode cX0_emptyPonds 13 = .ok (.getfield 24, 3) := by decide +kernel
theorem dX0_emptyPonds_16 : decode cX0_emptyPonds 16 = .ok (.iload_n 2, 1) := by decide +kernel
theorem dX0_emptyPonds_17 : decode cX0_emptyPonds 17 = .ok (.aaload, 1) := by decide +kernel
theorem dX0_emptyPonds_18 : decode cX0_emptyPonds 18 = .ok (.getfield 191, 3) := by decide +kernel
theorem dX0_emptyPonds_21 : decode cX0_emptyPonds 21 = .ok (.ifCond .ne 6, 3) := by decide +kernel
theorem dX0_emptyPonds_24 : decode cX0_emptyPonds 24 = .ok (.iinc 1 1, 3) := by decide +kernel
theorem dX0_emptyPonds_27 : decode cX0_emptyPonds 27 = .ok (.iinc 2 1, 3) := by decide +kernel
theorem dX0_emptyPonds_30 : decode cX0_emptyPonds 30 = .ok (.goto (-26), 3) := by decide +kernel
theorem dX0_emptyPonds_33 : decode cX0_emptyPonds 33 = .ok (.iload_n 1, 1) := by decide +kernel
theorem dX0_emptyPonds_34 : decode cX0_emptyPonds 34 = .ok (.ireturn, 1) := by decide +kernel
theorem dX1_init_0 : decode cX1_init 0 = .ok (.aload_n 0, 1) := by decide +kernel
theorem dX1_init_1 : decode cX1_init 1 = .ok (.invokespecial 3, 3) := by decide +kernel
theorem dX1_init_4 : decode cX1_init 4 = .ok (.return_, 1) := by decide +kernel
theorem dX1_becomeLike_0 : decode cX1_becomeLike 0 = .ok (.aload_n 0, 1) := by decide +kernel
theorem dX1_becomeLike_1 : decode cX1_becomeLike 1 = .ok (.aload_n 1, 1) := by decide +kernel
theorem dX1_becomeLike_2 : decode cX1_becomeLike 2 = .ok (.getfield 9, 3) := by decide +kernel
theorem dX1_becomeLike_5 : decode cX1_becomeLike 5 = .ok (.putfield 9, 3) := by decide +kernel
theorem dX1_becomeLike_8 : decode cX1_becomeLike 8 = .ok (.aload_n 0, 1) := by decide +kernel
theorem dX1_becomeLike_9 : decode cX1_becomeLike 9 = .ok (.aload_n 1, 1) := by decide +kernel
theorem dX1_becomeLike_10 : decode cX1_becomeLike 10 = .ok (.getfield 15, 3) := by decide +kernel
theorem dX1_becomeLike_13 : decode cX1_becomeLike 13 = .ok (.putfield 15, 3) := by decide +kernel
theorem dX1_becomeLike_16 : decode cX1_becomeLike 16 = .ok (.aload_n 0, 1) := by decide +kernel
theorem dX1_becomeLike_17 : decode cX1_becomeLike 17 = .ok (.aload_n 1, 1) := by decide +kernel
theorem dX1_becomeLike_18 : decode cX1_becomeLike 18 = .ok (.getfield 18, 3) := by decide +kernel
theorem dX1_becomeLike_21 : decode cX1_becomeLike 21 = .ok (.putfield 18, 3) := by decide +kernel
theorem dX1_becomeLike_24 : decode cX1_becomeLike 24 = .ok (.aload_n 0, 1) := by decide +kernel
theorem dX1_becomeLike_25 : decode cX1_becomeLike 25 = .ok (.aload_n 1, 1) := by decide +kernel
theorem dX1_becomeLike_26 : decode cX1_becomeLike 26 = .ok (.getfield 21, 3) := by decide +kernel
theorem dX1_becomeLike_29 : decode cX1_becomeLike 29 = .ok (.putfield 21, 3) := by decide +kernel
theorem dX1_becomeLike_32 : decode cX1_becomeLike 32 = .ok (.aload_n 0, 1) := by decide +kernel
theorem dX1_becomeLike_33 : decode cX1_becomeLike 33 = .ok (.aload_n 1, 1) := by decide +kernel
theorem dX1_becomeLike_34 : decode cX1_becomeLike 34 = .ok (.getfield 25, 3) := by decide +kernel
theorem dX1_becomeLike_37 : decode cX1_becomeLike 37 = .ok (.putfield 25, 3) := by decide +kernel
theorem dX1_becomeLike_40 : decode cX1_becomeLike 40 = .ok (.return_, 1) := by decide +kernel
theorem dX1_startAt_0 : decode cX1_startAt 0 = .ok (.aload_n 0, 1) := by decide +kernel
theorem dX1_startAt_1 : decode cX1_startAt 1 = .ok (.iload_n 2, 1) := by decide +kernel
theorem dX1_startAt_2 : decode cX1_startAt 2 = .ok (.putfield 9, 3) := by decide +kernel
theorem dX1_startAt_5 : decode cX1_startAt 5 = .ok (.aload_n 0, 1) := by decide +kernel
theorem dX1_startAt_6 : decode cX1_startAt 6 = .ok (.iload_n 1, 1) := by decide +kernel
theorem dX1_startAt_7 : decode cX1_startAt 7 = .ok (.putfield 15, 3) := by decide +kernel
theorem dX1_startAt_10 : decode cX1_startAt 10 = .ok (.aload_n 0, 1) := by decide +kernel
theorem dX1_startAt_11 : decode cX1_startAt 11 = .ok (.iconst 0, 1) := by decide +kernel
theorem dX1_startAt_12 : decode cX1_startAt 12 = .ok (.putfield 18, 3) := by decide +kernel
theorem dX1_startAt_15 : decode cX1_startAt 15 = .ok (.aload_n 0, 1) := by decide +kernel
theorem dX1_startAt_16 : decode cX1_startAt 16 = .ok (.iconst 0, 1) := by decide +kernel
theorem dX1_startAt_17 : decode cX1_startAt 17 = .ok (.putfield 21, 3) := by decide +kernel
theorem dX1_startAt_20 : decode cX1_startAt 20 = .ok (.aload_n 0, 1) := by decide +kernel
theorem dX1_startAt_21 : decode cX1_startAt 21 = .ok (.iconst 0, 1) := by decide +kernel
theorem dX1_startAt_22 : decode cX1_startAt 22 = .ok (.putfield 25, 3) := by decide +kernel
theorem dX1_startAt_25 : decode cX1_startAt 25 = .ok (.return_, 1) := by decide +kernel
theorem dX1_isLost_0 : decode cX1_isLost 0 = .ok (.aload_n 0, 1) := by decide +kernel
theorem dX1_isLost_1 : decode cX1_isLost 1 = .ok (.getfield 18, 3) := by decide +kernel
theorem dX1_isLost_4 : decode cX1_isLost 4 = .ok (.bipush 10, 2) := by decide +kernel
theorem dX1_isLost_6 : decode cX1_isLost 6 = .ok (.if_icmp .lt 7, 3) := by decide +kernel
theorem dX1_isLost_9 : decode cX1_isLost 9 = .ok (.iconst 1, 1) := by decide +kernel
theorem dX1_isLost_10 : decode cX1_isLost 10 = .ok (.goto 4, 3) := by decide +kernel
theorem dX1_isLost_13 : decode cX1_isLost 13 = .ok (.iconst 0, 1) := by decide +kernel
theorem dX1_isLost_14 : decode cX1_isLost 14 = .ok (.ireturn, 1) := by decide +kernel
theorem dX1_need_0 : decode cX1_need 0 = .ok (.iconst 2, 1) := by decide +kernel
theorem dX1_need_1 : decode cX1_need 1 = .ok (.aload_n 0, 1) := by decide +kernel
theorem dX1_need_2 : decode cX1_need 2 = .ok (.getfield 9, 3) := by decide +kernel
theorem dX1_need_5 : decode cX1_need 5 = .ok (.imul, 1) := by decide +kernel
theorem dX1_need_6 : decode cX1_need 6 = .ok (.ireturn, 1) := by decide +kernel
theorem dX1_drink_0 : decode cX1_drink 0 = .ok (.aload_n 0, 1) := by decide +kernel
theorem dX1_drink_1 : decode cX1_drink 1 = .ok (.dup, 1) := by decide +kernel
theorem dX1_drink_2 : decode cX1_drink 2 = .ok (.getfield 25, 3) := by decide +kernel
theorem dX1_drink_5 : decode cX1_drink 5 = .ok (.iload_n 1, 1) := by decide +kernel
theorem dX1_drink_6 : decode cX1_drink 6 = .ok (.iadd, 1) := by decide +kernel
theorem dX1_drink_7 : decode cX1_drink 7 = .ok (.putfield 25, 3) := by decide +kernel
theorem dX1_drink_10 : decode cX1_drink 10 = .ok (.iload_n 1, 1) := by decide +kernel
theorem dX1_drink_11 : decode cX1_drink 11 = .ok (.aload_n 0, 1) := by decide +kernel
theorem dX1_drink_12 : decode cX1_drink 12 = .ok (.invokevirtual 28, 3) := by decide +kernel
theorem dX1_drink_15 : decode cX1_drink 15 = .ok (.if_icmp .lt 20, 3) := by decide +kernel
theorem dX1_drink_18 : decode cX1_drink 18 = .ok (.aload_n 0, 1) := by decide +kernel
theorem dX1_drink_19 : decode cX1_drink 19 = .ok (.iconst 0, 1) := by decide +kernel
theorem dX1_drink_20 : decode cX1_drink 20 = .ok (.aload_n 0, 1) := by decide +kernel
theorem dX1_drink_21 : decode cX1_drink 21 = .ok (.getfield 18, 3) := by decide +kernel
theorem dX1_drink_24 : decode cX1_drink 24 = .ok (.iconst 2, 1) := by decide +kernel
theorem dX1_drink_25 : decode cX1_drink 25 = .ok (.isub, 1) := by decide +kernel
theorem dX1_drink_26 : decode cX1_drink 26 = .ok (.invokestatic 32, 3) := by decide +kernel
theorem dX1_drink_29 : decode cX1_drink 29 = .ok (.putfield 18, 3) := by decide +kernel
theorem dX1_drink_32 : decode cX1_drink 32 = .ok (.goto 18, 3) := by decide +kernel
theorem dX1_drink_35 : decode cX1_drink 35 = .ok (.aload_n 0, 1) := by decide +kernel
theorem dX1_drink_36 : decode cX1_drink 36 = .ok (.bipush 10, 2) := by decide +kernel
theorem dX1_drink_38 : decode cX1_drink 38 = .ok (.aload_n 0, 1) := by decide +kernel
theorem dX1_drink_39 : decode cX1_drink 39 = .ok (.getfield 18, 3) := by decide +kernel
theorem dX1_drink_42 : decode cX1_drink 42 = .ok (.iconst 3, 1) := by decide +kernel
theorem dX1_drink_43 : decode cX1_drink 43 = .ok (.iadd, 1) := by decide +kernel
theorem dX1_drink_44 : decode cX1_drink 44 = .ok (.invokestatic 38, 3) := by decide +kernel
theorem dX1_drink_47 : decode cX1_drink 47 = .ok (.putfield 18, 3) := by decide +kernel
theorem dX1_drink_50 : decode cX1_drink 50 = .ok (.return_, 1) := by decide +kernel
theorem dX2_init_0 : decode cX2_init 0 = .ok (.aload_n 0, 1) := by decide +kernel
theorem dX2_init_1 : decode cX2_init 1 = .ok (.invokespecial 3, 3) := by decide +kernel
theorem dX2_init_4 : decode cX2_init 4 = .ok (.aload_n 0, 1) := by decide +kernel
theorem dX2_init_5 : decode cX2_init 5 = .ok (.iconst (-1), 1) := by decide +kernel
theorem dX2_init_6 : decode cX2_init 6 = .ok (.putfield 9, 3) := by decide +kernel
theorem dX2_init_9 : decode cX2_init 9 = .ok (.return_, 1) := by decide +kernel
theorem dX2_becomeLike_0 : decode cX2_becomeLike 0 = .ok (.aload_n 0, 1) := by decide +kernel
theorem dX2_becomeLike_1 : decode cX2_becomeLike 1 = .ok (.aload_n 1, 1) := by decide +kernel
theorem dX2_becomeLike_2 : decode cX2_becomeLike 2 = .ok (.getfield 15, 3) := by decide +kernel
theorem dX2_becomeLike_5 : decode cX2_becomeLike 5 = .ok (.putfield 15, 3) := by decide +kernel
theorem dX2_becomeLike_8 : decode cX2_becomeLike 8 = .ok (.aload_n 0, 1) := by decide +kernel
theorem dX2_becomeLike_9 : decode cX2_becomeLike 9 = .ok (.aload_n 1, 1) := by decide +kernel
theorem dX2_becomeLike_10 : decode cX2_becomeLike 10 = .ok (.getfield 18, 3) := by decide +kernel
theorem dX2_becomeLike_13 : decode cX2_becomeLike 13 = .ok (.putfield 18, 3) := by decide +kernel
theorem dX2_becomeLike_16 : decode cX2_becomeLike 16 = .ok (.aload_n 0, 1) := by decide +kernel
theorem dX2_becomeLike_17 : decode cX2_becomeLike 17 = .ok (.aload_n 1, 1) := by decide +kernel
theorem dX2_becomeLike_18 : decode cX2_becomeLike 18 = .ok (.getfield 21, 3) := by decide +kernel
theorem dX2_becomeLike_21 : decode cX2_becomeLike 21 = .ok (.putfield 21, 3) := by decide +kernel
theorem dX2_becomeLike_24 : decode cX2_becomeLike 24 = .ok (.aload_n 0, 1) := by decide +kernel
theorem dX2_becomeLike_25 : decode cX2_becomeLike 25 = .ok (.aload_n 1, 1) := by decide +kernel
theorem dX2_becomeLike_26 : decode cX2_becomeLike 26 = .ok (.getfield 24, 3) := by decide +kernel
theorem dX2_becomeLike_29 : decode cX2_becomeLike 29 = .ok (.putfield 24, 3) := by decide +kernel
theorem dX2_becomeLike_32 : decode cX2_becomeLike 32 = .ok (.aload_n 0, 1) := by decide +kernel
theorem dX2_becomeLike_33 : decode cX2_becomeLike 33 = .ok (.aload_n 1, 1) := by decide +kernel
theorem dX2_becomeLike_34 : decode cX2_becomeLike 34 = .ok (.getfield 27, 3) := by decide +kernel
theorem dX2_becomeLike_37 : decode cX2_becomeLike 37 = .ok (.putfield 27, 3) := by decide +kernel
theorem dX2_becomeLike_40 : decode cX2_becomeLike 40 = .ok (.aload_n 0, 1) := by decide +kernel
theorem dX2_becomeLike_41 : decode cX2_becomeLike 41 = .ok (.aload_n 1, 1) := by decide +kernel
theorem dX2_becomeLike_42 : decode cX2_becomeLike 42 = .ok (.getfield 30, 3) := by decide +kernel
theorem dX2_becomeLike_45 : decode cX2_becomeLike 45 = .ok (.putfield 30, 3) := by decide +kernel
theorem dX2_becomeLike_48 : decode cX2_becomeLike 48 = .ok (.aload_n 0, 1) := by decide +kernel
theorem dX2_becomeLike_49 : decode cX2_becomeLike 49 = .ok (.aload_n 1, 1) := by decide +kernel
theorem dX2_becomeLike_50 : decode cX2_becomeLike 50 = .ok (.getfield 33, 3) := by decide +kernel
theorem dX2_becomeLike_53 : decode cX2_becomeLike 53 = .ok (.putfield 33, 3) := by decide +kernel
theorem dX2_becomeLike_56 : decode cX2_becomeLike 56 = .ok (.aload_n 0, 1) := by decide +kernel
theorem dX2_becomeLike_57 : decode cX2_becomeLike 57 = .ok (.aload_n 1, 1) := by decide +kernel
theorem dX2_becomeLike_58 : decode cX2_becomeLike 58 = .ok (.getfield 36, 3) := by decide +kernel
theorem dX2_becomeLike_61 : decode cX2_becomeLike 61 = .ok (.putfield 36, 3) := by decide +kernel
theorem dX2_becomeLike_64 : decode cX2_becomeLike 64 = .ok (.aload_n 0, 1) := by decide +kernel
theorem dX2_becomeLike_65 : decode cX2_becomeLike 65 = .ok (.aload_n 1, 1) := by decide +kernel
theorem dX2_becomeLike_66 : decode cX2_becomeLike 66 = .ok (.getfield 9, 3) := by decide +kernel
theorem dX2_becomeLike_69 : decode cX2_becomeLike 69 = .ok (.putfield 9, 3) := by decide +kernel
theorem dX2_becomeLike_72 : decode cX2_becomeLike 72 = .ok (.aload_n 0, 1) := by decide +kernel
theorem dX2_becomeLike_73 : decode cX2_becomeLike 73 = .ok (.aload_n 1, 1) := by decide +kernel
theorem dX2_becomeLike_74 : decode cX2_becomeLike 74 = .ok (.getfield 40, 3) := by decide +kernel
theorem dX2_becomeLike_77 : decode cX2_becomeLike 77 = .ok (.putfield 40, 3) := by decide +kernel
theorem dX2_becomeLike_80 : decode cX2_becomeLike 80 = .ok (.return_, 1) := by decide +kernel
theorem dX2_holds_0 : decode cX2_holds 0 = .ok (.aload_n 0, 1) := by decide +kernel
theorem dX2_holds_1 : decode cX2_holds 1 = .ok (.getfield 24, 3) := by decide +kernel
theorem dX2_holds_4 : decode cX2_holds 4 = .ok (.aload_n 0, 1) := by decide +kernel
theorem dX2_holds_5 : decode cX2_holds 5 = .ok (.getfield 27, 3) := by decide +kernel
theorem dX2_holds_8 : decode cX2_holds 8 = .ok (.imul, 1) := by decide +kernel
theorem dX2_holds_9 : decode cX2_holds 9 = .ok (.bipush 10, 2) := by decide +kernel
theorem dX2_holds_11 : decode cX2_holds 11 = .ok (.imul, 1) := by decide +kernel
theorem dX2_holds_12 : decode cX2_holds 12 = .ok (.ireturn, 1) := by decide +kernel
theorem dX2_distanceTo_0 : decode cX2_distanceTo 0 = .ok (.aload_n 0, 1) := by decide +kernel
theorem dX2_distanceTo_1 : decode cX2_distanceTo 1 = .ok (.getfield 15, 3) := by decide +kernel
theorem dX2_distanceTo_4 : decode cX2_distanceTo 4 = .ok (.aload_n 1, 1) := by decide +kernel
theorem dX2_distanceTo_5 : decode cX2_distanceTo 5 = .ok (.getfield 15, 3) := by decide +kernel
theorem dX2_distanceTo_8 : decode cX2_distanceTo 8 = .ok (.isub, 1) := by decide +kernel
theorem dX2_distanceTo_9 : decode cX2_distanceTo 9 = .ok (.invokestatic 43, 3) := by decide +kernel
theorem dX2_distanceTo_12 : decode cX2_distanceTo 12 = .ok (.aload_n 0, 1) := by decide +kernel
theorem dX2_distanceTo_13 : decode cX2_distanceTo 13 = .ok (.getfield 18, 3) := by decide +kernel
theorem dX2_distanceTo_16 : decode cX2_distanceTo 16 = .ok (.aload_n 1, 1) := by decide +kernel
theorem dX2_distanceTo_17 : decode cX2_distanceTo 17 = .ok (.getfield 18, 3) := by decide +kernel
theorem dX2_distanceTo_20 : decode cX2_distanceTo 20 = .ok (.isub, 1) := by decide +kernel
theorem dX2_distanceTo_21 : decode cX2_distanceTo 21 = .ok (.invokestatic 43, 3) := by decide +kernel
theorem dX2_distanceTo_24 : decode cX2_distanceTo 24 = .ok (.iadd, 1) := by decide +kernel
theorem dX2_distanceTo_25 : decode cX2_distanceTo 25 = .ok (.ireturn, 1) := by decide +kernel
theorem dX2_isLowEnoughToPuddle_0 : decode cX2_isLowEnoughToPuddle 0 = .ok (.aload_n 0, 1) := by decide +kernel
theorem dX2_isLowEnoughToPuddle_1 : decode cX2_isLowEnoughToPuddle 1 = .ok (.getfield 30, 3) := by decide +kernel
theorem dX2_isLowEnoughToPuddle_4 : decode cX2_isLowEnoughToPuddle 4 = .ok (.aload_n 0, 1) := by decide +kernel
theorem dX2_isLowEnoughToPuddle_5 : decode cX2_isLowEnoughToPuddle 5 = .ok (.invokevirtual 49, 3) := by decide +kernel
theorem dX2_isLowEnoughToPuddle_8 : decode cX2_isLowEnoughToPuddle 8 = .ok (.iconst 4, 1) := by decide +kernel
theorem dX2_isLowEnoughToPuddle_9 : decode cX2_isLowEnoughToPuddle 9 = .ok (.idiv, 1) := by decide +kernel
theorem dX2_isLowEnoughToPuddle_10 : decode cX2_isLowEnoughToPuddle 10 = .ok (.if_icmp .gt 7, 3) := by decide +kernel
theorem dX2_isLowEnoughToPuddle_13 : decode cX2_isLowEnoughToPuddle 13 = .ok (.iconst 1, 1) := by decide +kernel
theorem dX2_isLowEnoughToPuddle_14 : decode cX2_isLowEnoughToPuddle 14 = .ok (.goto 4, 3) := by decide +kernel
theorem dX2_isLowEnoughToPuddle_17 : decode cX2_isLowEnoughToPuddle 17 = .ok (.iconst 0, 1) := by decide +kernel
theorem dX2_isLowEnoughToPuddle_18 : decode cX2_isLowEnoughToPuddle 18 = .ok (.ireturn, 1) := by decide +kernel
theorem dX2_lineWith_0 : decode cX2_lineWith 0 = .ok (.iload_n 1, 1) := by decide +kernel
theorem dX2_lineWith_1 : decode cX2_lineWith 1 = .ok (.bipush 100, 2) := by decide +kernel
theorem dX2_lineWith_3 : decode cX2_lineWith 3 = .ok (.aload_n 0, 1) := by decide +kernel
theorem dX2_lineWith_4 : decode cX2_lineWith 4 = .ok (.getfield 33, 3) := by decide +kernel
theorem dX2_lineWith_7 : decode cX2_lineWith 7 = .ok (.isub, 1) := by decide +kernel
theorem dX2_lineWith_8 : decode cX2_lineWith 8 = .ok (.invokestatic 53, 3) := by decide +kernel
theorem dX2_lineWith_11 : decode cX2_lineWith 11 = .ok (.istore_n 2, 1) := by decide +kernel
theorem dX2_lineWith_12 : decode cX2_lineWith 12 = .ok (.aload_n 0, 1) := by decide +kernel
theorem dX2_lineWith_13 : decode cX2_lineWith 13 = .ok (.dup, 1) := by decide +kernel
theorem dX2_lineWith_14 : decode cX2_lineWith 14 = .ok (.getfield 33, 3) := by decide +kernel
theorem dX2_lineWith_17 : decode cX2_lineWith 17 = .ok (.iload_n 2, 1) := by decide +kernel
theorem dX2_lineWith_18 : decode cX2_lineWith 18 = .ok (.iadd, 1) := by decide +kernel
theorem dX2_lineWith_19 : decode cX2_lineWith 19 = .ok (.putfield 33, 3) := by decide +kernel
theorem dX2_lineWith_22 : decode cX2_lineWith 22 = .ok (.iload_n 2, 1) := by decide +kernel
theorem dX2_lineWith_23 : decode cX2_lineWith 23 = .ok (.ireturn, 1) := by decide +kernel
theorem dX2_takeMist_0 : decode cX2_takeMist 0 = .ok (.iload_n 1, 1) := by decide +kernel
theorem dX2_takeMist_1 : decode cX2_takeMist 1 = .ok (.aload_n 0, 1) := by decide +kernel
theorem dX2_takeMist_2 : decode cX2_takeMist 2 = .ok (.getfield 24, 3) := by decide +kernel
theorem dX2_takeMist_5 : decode cX2_takeMist 5 = .ok (.imul, 1) := by decide +kernel
theorem dX2_takeMist_6 : decode cX2_takeMist 6 = .ok (.iconst 4, 1) := by decide +kernel
theorem dX2_takeMist_7 : decode cX2_takeMist 7 = .ok (.idiv, 1) := by decide +kernel
theorem dX2_takeMist_8 : decode cX2_takeMist 8 = .ok (.istore_n 2, 1) := by decide +kernel
theorem dX2_takeMist_9 : decode cX2_takeMist 9 = .ok (.aload_n 0, 1) := by decide +kernel
theorem dX2_takeMist_10 : decode cX2_takeMist 10 = .ok (.dup, 1) := by decide +kernel
theorem dX2_takeMist_11 : decode cX2_takeMist 11 = .ok (.getfield 30, 3) := by decide +kernel
theorem dX2_takeMist_14 : decode cX2_takeMist 14 = .ok (.aload_n 0, 1) := by decide +kernel
theorem dX2_takeMist_15 : decode cX2_takeMist 15 = .ok (.getfield 21, 3) := by decide +kernel
theorem dX2_takeMist_18 : decode cX2_takeMist 18 = .ok (.sipush 150, 3) := by decide +kernel
theorem dX2_takeMist_21 : decode cX2_takeMist 21 = .ok (.if_icmp .lt 9, 3) := by decide +kernel
theorem dX2_takeMist_24 : decode cX2_takeMist 24 = .ok (.iconst 2, 1) := by decide +kernel
theorem dX2_takeMist_25 : decode cX2_takeMist 25 = .ok (.iload_n 2, 1) := by decide +kernel
theorem dX2_takeMist_26 : decode cX2_takeMist 26 = .ok (.imul, 1) := by decide +kernel
theorem dX2_takeMist_27 : decode cX2_takeMist 27 = .ok (.goto 4, 3) := by decide +kernel
theorem dX2_takeMist_30 : decode cX2_takeMist 30 = .ok (.iload_n 2, 1) := by decide +kernel
theorem dX2_takeMist_31 : decode cX2_takeMist 31 = .ok (.iadd, 1) := by decide +kernel
theorem dX2_takeMist_32 : decode cX2_takeMist 32 = .ok (.putfield 30, 3) := by decide +kernel
theorem dX2_takeMist_35 : decode cX2_takeMist 35 = .ok (.return_, 1) := by decide +kernel
theorem dX2_takeRain_0 : decode cX2_takeRain 0 = .ok (.aload_n 0, 1) := by decide +kernel
theorem dX2_takeRain_1 : decode cX2_takeRain 1 = .ok (.dup, 1) := by decide +kernel
theorem dX2_takeRain_2 : decode cX2_takeRain 2 = .ok (.getfield 30, 3) := by decide +kernel
theorem dX2_takeRain_5 : decode cX2_takeRain 5 = .ok (.iload_n 1, 1) := by decide +kernel
theorem dX2_takeRain_6 : decode cX2_takeRain 6 = .ok (.aload_n 0, 1) := by decide +kernel
theorem dX2_takeRain_7 : decode cX2_takeRain 7 = .ok (.getfield 24, 3) := by decide +kernel
theorem dX2_takeRain_10 : decode cX2_takeRain 10 = .ok (.imul, 1) := by decide +kernel
theorem dX2_takeRain_11 : decode cX2_takeRain 11 = .ok (.iconst 2, 1) := by decide +kernel
theorem dX2_takeRain_12 : decode cX2_takeRain 12 = .ok (.idiv, 1) := by decide +kernel
theorem dX2_takeRain_13 : decode cX2_takeRain 13 = .ok (.iadd, 1) := by decide +kernel
theorem dX2_takeRain_14 : decode cX2_takeRain 14 = .ok (.putfield 30, 3) := by decide +kernel
theorem dX2_takeRain_17 : decode cX2_takeRain 17 = .ok (.return_, 1) := by decide +kernel
theorem dX2_giveDrink_0 : decode cX2_giveDrink 0 = .ok (.iload_n 1, 1) := by decide +kernel
theorem dX2_giveDrink_1 : decode cX2_giveDrink 1 = .ok (.aload_n 0, 1) := by decide +kernel
theorem dX2_giveDrink_2 : decode cX2_giveDrink 2 = .ok (.getfield 30, 3) := by decide +kernel
theorem dX2_giveDrink_5 : decode cX2_giveDrink 5 = .ok (.invokestatic 53, 3) := by decide +kernel
theorem dX2_giveDrink_8 : decode cX2_giveDrink 8 = .ok (.istore_n 2, 1) := by decide +kernel
theorem dX2_giveDrink_9 : decode cX2_giveDrink 9 = .ok (.aload_n 0, 1) := by decide +kernel
theorem dX2_giveDrink_10 : decode cX2_giveDrink 10 = .ok (.dup, 1) := by decide +kernel
theorem dX2_giveDrink_11 : decode cX2_giveDrink 11 = .ok (.getfield 30, 3) := by decide +kernel
theorem dX2_giveDrink_14 : decode cX2_giveDrink 14 = .ok (.iload_n 2, 1) := by decide +kernel
theorem dX2_giveDrink_15 : decode cX2_giveDrink 15 = .ok (.isub, 1) := by decide +kernel
theorem dX2_giveDrink_16 : decode cX2_giveDrink 16 = .ok (.putfield 30, 3) := by decide +kernel
theorem dX2_giveDrink_19 : decode cX2_giveDrink 19 = .ok (.iload_n 2, 1) := by decide +kernel
theorem dX2_giveDrink_20 : decode cX2_giveDrink 20 = .ok (.ireturn, 1) := by decide +kernel
theorem dX2_treadBy_0 : decode cX2_treadBy 0 = .ok (.aload_n 0, 1) := by decide +kernel
theorem dX2_treadBy_1 : decode cX2_treadBy 1 = .ok (.getfield 36, 3) := by decide +kernel
theorem dX2_treadBy_4 : decode cX2_treadBy 4 = .ok (.ifCond .ne 20, 3) := by decide +kernel
theorem dX2_treadBy_7 : decode cX2_treadBy 7 = .ok (.aload_n 0, 1) := by decide +kernel
theorem dX2_treadBy_8 : decode cX2_treadBy 8 = .ok (.iconst 0, 1) := by decide +kernel
theorem dX2_treadBy_9 : decode cX2_treadBy 9 = .ok (.aload_n 0, 1) := by decide +kernel
theorem dX2_treadBy_10 : decode cX2_treadBy 10 = .ok (.getfield 33, 3) := by decide +kernel
theorem dX2_treadBy_13 : decode cX2_treadBy 13 = .ok (.iload_n 1, 1) := by decide +kernel
theorem dX2_treadBy_14 : decode cX2_treadBy 14 = .ok (.bipush 10, 2) := by decide +kernel
theorem dX2_treadBy_16 : decode cX2_treadBy 16 = .ok (.idiv, 1) := by decide +kernel
theorem dX2_treadBy_17 : decode cX2_treadBy 17 = .ok (.isub, 1) := by decide +kernel
theorem dX2_treadBy_18 : decode cX2_treadBy 18 = .ok (.invokestatic 57, 3) := by decide +kernel
theorem dX2_treadBy_21 : decode cX2_treadBy 21 = .ok (.putfield 33, 3) := by decide +kernel
theorem dX2_treadBy_24 : decode cX2_treadBy 24 = .ok (.return_, 1) := by decide +kernel
theorem dX2_dryBy_0 : decode cX2_dryBy 0 = .ok (.iload_n 1, 1) := by decide +kernel
theorem dX2_dryBy_1 : decode cX2_dryBy 1 = .ok (.aload_n 0, 1) := by decide +kernel
theorem dX2_dryBy_2 : decode cX2_dryBy 2 = .ok (.getfield 24, 3) := by decide +kernel
theorem dX2_dryBy_5 : decode cX2_dryBy 5 = .ok (.imul, 1) := by decide +kernel
theorem dX2_dryBy_6 : decode cX2_dryBy 6 = .ok (.iconst 5, 1) := by decide +kernel
theorem dX2_dryBy_7 : decode cX2_dryBy 7 = .ok (.idiv, 1) := by decide +kernel
theorem dX2_dryBy_8 : decode cX2_dryBy 8 = .ok (.istore_n 2, 1) := by decide +kernel
theorem dX2_dryBy_9 : decode cX2_dryBy 9 = .ok (.aload_n 0, 1) := by decide +kernel
theorem dX2_dryBy_10 : decode cX2_dryBy 10 = .ok (.dup, 1) := by decide +kernel
theorem dX2_dryBy_11 : decode cX2_dryBy 11 = .ok (.getfield 30, 3) := by decide +kernel
theorem dX2_dryBy_14 : decode cX2_dryBy 14 = .ok (.aload_n 0, 1) := by decide +kernel
theorem dX2_dryBy_15 : decode cX2_dryBy 15 = .ok (.getfield 30, 3) := by decide +kernel
theorem dX2_dryBy_18 : decode cX2_dryBy 18 = .ok (.aload_n 0, 1) := by decide +kernel
theorem dX2_dryBy_19 : decode cX2_dryBy 19 = .ok (.getfield 36, 3) := by decide +kernel
theorem dX2_dryBy_22 : decode cX2_dryBy 22 = .ok (.ifCond .eq 9, 3) := by decide +kernel
theorem dX2_dryBy_25 : decode cX2_dryBy 25 = .ok (.iload_n 2, 1) := by decide +kernel
theorem dX2_dryBy_26 : decode cX2_dryBy 26 = .ok (.iconst 2, 1) := by decide +kernel
theorem dX2_dryBy_27 : decode cX2_dryBy 27 = .ok (.idiv, 1) := by decide +kernel
theorem dX2_dryBy_28 : decode cX2_dryBy 28 = .ok (.goto 4, 3) := by decide +kernel
theorem dX2_dryBy_31 : decode cX2_dryBy 31 = .ok (.iload_n 2, 1) := by decide +kernel
theorem dX2_dryBy_32 : decode cX2_dryBy 32 = .ok (.invokestatic 53, 3) := by decide +kernel
theorem dX2_dryBy_35 : decode cX2_dryBy 35 = .ok (.isub, 1) := by decide +kernel
theorem dX2_dryBy_36 : decode cX2_dryBy 36 = .ok (.putfield 30, 3) := by decide +kernel
theorem dX2_dryBy_39 : decode cX2_dryBy 39 = .ok (.return_, 1) := by decide +kernel
theorem dX2_leak_0 : decode cX2_leak 0 = .ok (.aload_n 0, 1) := by decide +kernel
theorem dX2_leak_1 : decode cX2_leak 1 = .ok (.dup, 1) := by decide +kernel
theorem dX2_leak_2 : decode cX2_leak 2 = .ok (.getfield 30, 3) := by decide +kernel
theorem dX2_leak_5 : decode cX2_leak 5 = .ok (.aload_n 0, 1) := by decide +kernel
theorem dX2_leak_6 : decode cX2_leak 6 = .ok (.getfield 30, 3) := by decide +kernel
theorem dX2_leak_9 : decode cX2_leak 9 = .ok (.bipush 100, 2) := by decide +kernel
theorem dX2_leak_11 : decode cX2_leak 11 = .ok (.aload_n 0, 1) := by decide +kernel
theorem dX2_leak_12 : decode cX2_leak 12 = .ok (.getfield 33, 3) := by decide +kernel
theorem dX2_leak_15 : decode cX2_leak 15 = .ok (.isub, 1) := by decide +kernel
theorem dX2_leak_16 : decode cX2_leak 16 = .ok (.imul, 1) := by decide +kernel
theorem dX2_leak_17 : decode cX2_leak 17 = .ok (.sipush 200, 3) := by decide +kernel
theorem dX2_leak_20 : decode cX2_leak 20 = .ok (.idiv, 1) := by decide +kernel
theorem dX2_leak_21 : decode cX2_leak 21 = .ok (.isub, 1) := by decide +kernel
theorem dX2_leak_22 : decode cX2_leak 22 = .ok (.putfield 30, 3) := by decide +kernel
theorem dX2_leak_25 : decode cX2_leak 25 = .ok (.return_, 1) := by decide +kernel
theorem dX2_spill_0 : decode cX2_spill 0 = .ok (.iconst 0, 1) := by decide +kernel
theorem dX2_spill_1 : decode cX2_spill 1 = .ok (.aload_n 0, 1) := by decide +kernel
theorem dX2_spill_2 : decode cX2_spill 2 = .ok (.getfield 30, 3) := by decide +kernel
theorem dX2_spill_5 : decode cX2_spill 5 = .ok (.aload_n 0, 1) := by decide +kernel
theorem dX2_spill_6 : decode cX2_spill 6 = .ok (.invokevirtual 49, 3) := by decide +kernel
theorem dX2_spill_9 : decode cX2_spill 9 = .ok (.isub, 1) := by decide +kernel
theorem dX2_spill_10 : decode cX2_spill 10 = .ok (.invokestatic 57, 3) := by decide +kernel
theorem dX2_spill_13 : decode cX2_spill 13 = .ok (.istore_n 1, 1) := by decide +kernel
theorem dX2_spill_14 : decode cX2_spill 14 = .ok (.aload_n 0, 1) := by decide +kernel
theorem dX2_spill_15 : decode cX2_spill 15 = .ok (.dup, 1) := by decide +kernel
theorem dX2_spill_16 : decode cX2_spill 16 = .ok (.getfield 30, 3) := by decide +kernel
theorem dX2_spill_19 : decode cX2_spill 19 = .ok (.iload_n 1, 1) := by decide +kernel
theorem dX2_spill_20 : decode cX2_spill 20 = .ok (.isub, 1) := by decide +kernel
theorem dX2_spill_21 : decode cX2_spill 21 = .ok (.putfield 30, 3) := by decide +kernel
theorem dX2_spill_24 : decode cX2_spill 24 = .ok (.aload_n 0, 1) := by decide +kernel
theorem dX2_spill_25 : decode cX2_spill 25 = .ok (.dup, 1) := by decide +kernel
theorem dX2_spill_26 : decode cX2_spill 26 = .ok (.getfield 40, 3) := by decide +kernel
theorem dX2_spill_29 : decode cX2_spill 29 = .ok (.iload_n 1, 1) := by decide +kernel
theorem dX2_spill_30 : decode cX2_spill 30 = .ok (.iadd, 1) := by decide +kernel
theorem dX2_spill_31 : decode cX2_spill 31 = .ok (.putfield 40, 3) := by decide +kernel
theorem dX2_spill_34 : decode cX2_spill 34 = .ok (.iload_n 1, 1) := by decide +kernel
theorem dX2_spill_35 : decode cX2_spill 35 = .ok (.ireturn, 1) := by decide +kernel
theorem dX3_init_0 : decode cX3_init 0 = .ok (.aload_n 0, 1) := by decide +kernel
theorem dX3_init_1 : decode cX3_init 1 = .ok (.invokespecial 1, 3) := by decide +kernel
theorem dX3_init_4 : decode cX3_init 4 = .ok (.return_, 1) := by decide +kernel
theorem dX3_becomeLike_0 : decode cX3_becomeLike 0 = .ok (.aload_n 0, 1) := by decide +kernel
theorem dX3_becomeLike_1 : decode cX3_becomeLike 1 = .ok (.aload_n 1, 1) := by decide +kernel
theorem dX3_becomeLike_2 : decode cX3_becomeLike 2 = .ok (.getfield 7, 3) := by decide +kernel
theorem dX3_becomeLike_5 : decode cX3_becomeLike 5 = .ok (.putfield 7, 3) := by decide +kernel
theorem dX3_becomeLike_8 : decode cX3_becomeLike 8 = .ok (.aload_n 0, 1) := by decide +kernel
theorem dX3_becomeLike_9 : decode cX3_becomeLike 9 = .ok (.aload_n 1, 1) := by decide +kernel
theorem dX3_becomeLike_10 : decode cX3_becomeLike 10 = .ok (.getfield 13, 3) := by decide +kernel
theorem dX3_becomeLike_13 : decode cX3_becomeLike 13 = .ok (.putfield 13, 3) := by decide +kernel
theorem dX3_becomeLike_16 : decode cX3_becomeLike 16 = .ok (.aload_n 0, 1) := by decide +kernel
theorem dX3_becomeLike_17 : decode cX3_becomeLike 17 = .ok (.aload_n 1, 1) := by decide +kernel
theorem dX3_becomeLike_18 : decode cX3_becomeLike 18 = .ok (.getfield 16, 3) := by decide +kernel
theorem dX3_becomeLike_21 : decode cX3_becomeLike 21 = .ok (.putfield 16, 3) := by decide +kernel
theorem dX3_becomeLike_24 : decode cX3_becomeLike 24 = .ok (.return_, 1) := by decide +kernel
theorem dX3_asNumber_0 : decode cX3_asNumber 0 = .ok (.bipush 100, 2) := by decide +kernel
theorem dX3_asNumber_2 : decode cX3_asNumber 2 = .ok (.aload_n 0, 1) := by decide +kernel
theorem dX3_asNumber_3 : decode cX3_asNumber 3 = .ok (.getfield 7, 3) := by decide +kernel
theorem dX3_asNumber_6 : decode cX3_asNumber 6 = .ok (.imul, 1) := by decide +kernel
theorem dX3_asNumber_7 : decode cX3_asNumber 7 = .ok (.bipush 10, 2) := by decide +kernel
theorem dX3_asNumber_9 : decode cX3_asNumber 9 = .ok (.aload_n 0, 1) := by decide +kernel
theorem dX3_asNumber_10 : decode cX3_asNumber 10 = .ok (.getfield 13, 3) := by decide +kernel
theorem dX3_asNumber_13 : decode cX3_asNumber 13 = .ok (.imul, 1) := by decide +kernel
theorem dX3_asNumber_14 : decode cX3_asNumber 14 = .ok (.iadd, 1) := by decide +kernel
theorem dX3_asNumber_15 : decode cX3_asNumber 15 = .ok (.aload_n 0, 1) := by decide +kernel
theorem dX3_asNumber_16 : decode cX3_asNumber 16 = .ok (.getfield 16, 3) := by decide +kernel
theorem dX3_asNumber_19 : decode cX3_asNumber 19 = .ok (.iadd, 1) := by decide +kernel
theorem dX3_asNumber_20 : decode cX3_asNumber 20 = .ok (.ireturn, 1) := by decide +kernel
theorem dX4_init_0 : decode cX4_init 0 = .ok (.aload_n 0, 1) := by decide +kernel
theorem dX4_init_1 : decode cX4_init 1 = .ok (.invokespecial 1, 3) := by decide +kernel
theorem dX4_init_4 : decode cX4_init 4 = .ok (.aload_n 0, 1) := by decide +kernel
theorem dX4_init_5 : decode cX4_init 5 = .ok (.new 7, 3) := by decide +kernel
theorem dX4_init_8 : decode cX4_init 8 = .ok (.dup, 1) := by decide +kernel
theorem dX4_init_9 : decode cX4_init 9 = .ok (.bipush 6, 2) := by decide +kernel
theorem dX4_init_11 : decode cX4_init 11 = .ok (.invokespecial 11, 3) := by decide +kernel
theorem dX4_init_14 : decode cX4_init 14 = .ok (.putfield 14, 3) := by decide +kernel
theorem dX4_init_17 : decode cX4_init 17 = .ok (.aload_n 0, 1) := by decide +kernel
theorem dX4_init_18 : decode cX4_init 18 = .ok (.new 7, 3) := by decide +kernel
theorem dX4_init_21 : decode cX4_init 21 = .ok (.dup, 1) := by decide +kernel
theorem dX4_init_22 : decode cX4_init 22 = .ok (.bipush 7, 2) := by decide +kernel
theorem dX4_init_24 : decode cX4_init 24 = .ok (.invokespecial 11, 3) := by decide +kernel
theorem dX4_init_27 : decode cX4_init 27 = .ok (.putfield 18, 3) := by decide +kernel
theorem dX4_init_30 : decode cX4_init 30 = .ok (.return_, 1) := by decide +kernel
theorem dX4_dig_0 : decode cX4_dig 0 = .ok (.iload_n 1, 1) := by decide +kernel
theorem dX4_dig_1 : decode cX4_dig 1 = .ok (.iconst 0, 1) := by decide +kernel
theorem dX4_dig_2 : decode cX4_dig 2 = .ok (.bipush 40, 2) := by decide +kernel
theorem dX4_dig_4 : decode cX4_dig 4 = .ok (.invokestatic 21, 3) := by decide +kernel
theorem dX4_dig_7 : decode cX4_dig 7 = .ok (.ifCond .eq 13, 3) := by decide +kernel
theorem dX4_dig_10 : decode cX4_dig 10 = .ok (.iload_n 2, 1) := by decide +kernel
theorem dX4_dig_11 : decode cX4_dig 11 = .ok (.iconst 0, 1) := by decide +kernel
theorem dX4_dig_12 : decode cX4_dig 12 = .ok (.bipush 40, 2) := by decide +kernel
theorem dX4_dig_14 : decode cX4_dig 14 = .ok (.invokestatic 21, 3) := by decide +kernel
theorem dX4_dig_17 : decode cX4_dig 17 = .ok (.ifCond .ne 13, 3) := by decide +kernel
theorem dX4_dig_20 : decode cX4_dig 20 = .ok (.new 25, 3) := by decide +kernel
theorem dX4_dig_23 : decode cX4_dig 23 = .ok (.dup, 1) := by decide +kernel
theorem dX4_dig_24 : decode cX4_dig 24 = .ok (.ldc 27, 2) := by decide +kernel
theorem dX4_dig_26 : decode cX4_dig 26 = .ok (.invokespecial 29, 3) := by decide +kernel
theorem dX4_dig_29 : decode cX4_dig 29 = .ok (.athrow, 1) := by decide +kernel
theorem dX4_dig_30 : decode cX4_dig 30 = .ok (.iload_n 3, 1) := by decide +kernel
theorem dX4_dig_31 : decode cX4_dig 31 = .ok (.iconst 0, 1) := by decide +kernel
theorem dX4_dig_32 : decode cX4_dig 32 = .ok (.sipush 300, 3) := by decide +kernel
theorem dX4_dig_35 : decode cX4_dig 35 = .ok (.invokestatic 21, 3) := by decide +kernel
theorem dX4_dig_38 : decode cX4_dig 38 = .ok (.ifCond .eq 25, 3) := by decide +kernel
theorem dX4_dig_41 : decode cX4_dig 41 = .ok (.iload 4, 2) := by decide +kernel
theorem dX4_dig_43 : decode cX4_dig 43 = .ok (.iconst 1, 1) := by decide +kernel
theorem dX4_dig_44 : decode cX4_dig 44 = .ok (.bipush 60, 2) := by decide +kernel
theorem dX4_dig_46 : decode cX4_dig 46 = .ok (.invokestatic 21, 3) := by decide +kernel
theorem dX4_dig_49 : decode cX4_dig 49 = .ok (.ifCond .eq 14, 3) := by decide +kernel
theorem dX4_dig_52 : decode cX4_dig 52 = .ok (.iload 5, 2) := by decide +kernel
theorem dX4_dig_54 : decode cX4_dig 54 = .ok (.iconst 1, 1) := by decide +kernel
theorem dX4_dig_55 : decode cX4_dig 55 = .ok (.bipush 9, 2) := by decide +kernel
theorem dX4_dig_57 : decode cX4_dig 57 = .ok (.invokestatic 21, 3) := by decide +kernel
theorem dX4_dig_60 : decode cX4_dig 60 = .ok (.ifCond .ne 13, 3) := by decide +kernel
theorem dX4_dig_63 : decode cX4_dig 63 = .ok (.new 25, 3) := by decide +kernel
theorem dX4_dig_66 : decode cX4_dig 66 = .ok (.dup, 1) := by decide +kernel
theorem dX4_dig_67 : decode cX4_dig 67 = .ok (.ldc 32, 2) := by decide +kernel
theorem dX4_dig_69 : decode cX4_dig 69 = .ok (.invokespecial 29, 3) := by decide +kernel
theorem dX4_dig_72 : decode cX4_dig 72 = .ok (.athrow, 1) := by decide +kernel
theorem dX4_dig_73 : decode cX4_dig 73 = .ok (.aload_n 0, 1) := by decide +kernel
theorem dX4_dig_74 : decode cX4_dig 74 = .ok (.getfield 14, 3) := by decide +kernel
theorem dX4_dig_77 : decode cX4_dig 77 = .ok (.iload_n 1, 1) := by decide +kernel
theorem dX4_dig_78 : decode cX4_dig 78 = .ok (.iload_n 2, 1) := by decide +kernel
theorem dX4_dig_79 : decode cX4_dig 79 = .ok (.iload_n 3, 1) := by decide +kernel
theorem dX4_dig_80 : decode cX4_dig 80 = .ok (.iload 4, 2) := by decide +kernel
theorem dX4_dig_82 : decode cX4_dig 82 = .ok (.iload 5, 2) := by decide +kernel
theorem dX4_dig_84 : decode cX4_dig 84 = .ok (.invokevirtual 34, 3) := by decide +kernel
theorem dX4_dig_87 : decode cX4_dig 87 = .ok (.ireturn, 1) := by decide +kernel
theorem dX4_link_0 : decode cX4_link 0 = .ok (.aload_n 0, 1) := by decide +kernel
theorem dX4_link_1 : decode cX4_link 1 = .ok (.getfield 14, 3) := by decide +kernel
theorem dX4_link_4 : decode cX4_link 4 = .ok (.iload_n 1, 1) := by decide +kernel
theorem dX4_link_5 : decode cX4_link 5 = .ok (.invokevirtual 38, 3) := by decide +kernel
theorem dX4_link_8 : decode cX4_link 8 = .ok (.astore_n 3, 1) := by decide +kernel
theorem dX4_link_9 : decode cX4_link 9 = .ok (.iload_n 2, 1) := by decide +kernel
theorem dX4_link_10 : decode cX4_link 10 = .ok (.iconst (-1), 1) := by decide +kernel
theorem dX4_link_11 : decode cX4_link 11 = .ok (.if_icmp .eq 31, 3) := by decide +kernel
theorem dX4_link_14 : decode cX4_link 14 = .ok (.aload_n 0, 1) := by decide +kernel
theorem dX4_link_15 : decode cX4_link 15 = .ok (.getfield 14, 3) := by decide +kernel
theorem dX4_link_18 : decode cX4_link 18 = .ok (.iload_n 2, 1) := by decide +kernel
theorem dX4_link_19 : decode cX4_link 19 = .ok (.invokevirtual 38, 3) := by decide +kernel
theorem dX4_link_22 : decode cX4_link 22 = .ok (.getfield 42, 3) := by decide +kernel
theorem dX4_link_25 : decode cX4_link 25 = .ok (.aload_n 3, 1) := by decide +kernel
theorem dX4_link_26 : decode cX4_link 26 = .ok (.getfield 42, 3) := by decide +kernel
theorem dX4_link_29 : decode cX4_link 29 = .ok (.if_icmp .lt 13, 3) := by decide +kernel
theorem dX4_link_32 : decode cX4_link 32 = .ok (.new 25, 3) := by decide +kernel
theorem dX4_link_35 : decode cX4_link 35 = .ok (.dup, 1) := by decide +kernel
theorem dX4_link_36 : decode cX4_link 36 = .ok (.ldc 48, 2) := by decide +kernel
theorem dX4_link_38 : decode cX4_link 38 = .ok (.invokespecial 29, 3) := by decide +kernel
theorem dX4_link_41 : decode cX4_link 41 = .ok (.athrow, 1) := by decide +kernel
theorem dX4_link_42 : decode cX4_link 42 = .ok (.aload_n 3, 1) := by decide +kernel
theorem dX4_link_43 : decode cX4_link 43 = .ok (.getfield 50, 3) := by decide +kernel
theorem dX4_link_46 : decode cX4_link 46 = .ok (.istore 4, 2) := by decide +kernel
theorem dX4_link_48 : decode cX4_link 48 = .ok (.aload_n 3, 1) := by decide +kernel
theorem dX4_link_49 : decode cX4_link 49 = .ok (.iload_n 2, 1) := by decide +kernel
theorem dX4_link_50 : decode cX4_link 50 = .ok (.putfield 50, 3) := by decide +kernel
theorem dX4_link_53 : decode cX4_link 53 = .ok (.iload 4, 2) := by decide +kernel
theorem dX4_link_55 : decode cX4_link 55 = .ok (.ireturn, 1) := by decide +kernel
theorem dX4_puddle_0 : decode cX4_puddle 0 = .ok (.aload_n 0, 1) := by decide +kernel
theorem dX4_puddle_1 : decode cX4_puddle 1 = .ok (.getfield 14, 3) := by decide +kernel
theorem dX4_puddle_4 : decode cX4_puddle 4 = .ok (.iload_n 1, 1) := by decide +kernel
theorem dX4_puddle_5 : decode cX4_puddle 5 = .ok (.invokevirtual 38, 3) := by decide +kernel
theorem dX4_puddle_8 : decode cX4_puddle 8 = .ok (.astore_n 3, 1) := by decide +kernel
theorem dX4_puddle_9 : decode cX4_puddle 9 = .ok (.iload_n 2, 1) := by decide +kernel
theorem dX4_puddle_10 : decode cX4_puddle 10 = .ok (.iconst 1, 1) := by decide +kernel
theorem dX4_puddle_11 : decode cX4_puddle 11 = .ok (.bipush 100, 2) := by decide +kernel
theorem dX4_puddle_13 : decode cX4_puddle 13 = .ok (.invokestatic 21, 3) := by decide +kernel
theorem dX4_puddle_16 : decode cX4_puddle 16 = .ok (.ifCond .ne 13, 3) := by decide +kernel
theorem dX4_puddle_19 : decode cX4_puddle 19 = .ok (.new 25, 3) := by decide +kernel
theorem dX4_puddle_22 : decode cX4_puddle 22 = .ok (.dup, 1) := by decide +kernel
theorem dX4_puddle_23 : decode cX4_puddle 23 = .ok (.ldc 53, 2) := by decide +kernel
theorem dX4_puddle_25 : decode cX4_puddle 25 = .ok (.invokespecial 29, 3) := by decide +kernel
theorem dX4_puddle_28 : decode cX4_puddle 28 = .ok (.athrow, 1) := by decide +kernel
theorem dX4_puddle_29 : decode cX4_puddle 29 = .ok (.aload_n 3, 1) := by decide +kernel
theorem dX4_puddle_30 : decode cX4_puddle 30 = .ok (.invokevirtual 55, 3) := by decide +kernel
theorem dX4_puddle_33 : decode cX4_puddle 33 = .ok (.ifCond .ne 13, 3) := by decide +kernel
theorem dX4_puddle_36 : decode cX4_puddle 36 = .ok (.new 59, 3) := by decide +kernel
theorem dX4_puddle_39 : decode cX4_puddle 39 = .ok (.dup, 1) := by decide +kernel
theorem dX4_puddle_40 : decode cX4_puddle 40 = .ok (.ldc 61, 2) := by decide +kernel
theorem dX4_puddle_42 : decode cX4_puddle 42 = .ok (.invokespecial 63, 3) := by decide +kernel
theorem dX4_puddle_45 : decode cX4_puddle 45 = .ok (.athrow, 1) := by decide +kernel
theorem dX4_puddle_46 : decode cX4_puddle 46 = .ok (.aload_n 3, 1) := by decide +kernel
theorem dX4_puddle_47 : decode cX4_puddle 47 = .ok (.iload_n 2, 1) := by decide +kernel
theorem dX4_puddle_48 : decode cX4_puddle 48 = .ok (.aload_n 0, 1) := by decide +kernel
theorem dX4_puddle_49 : decode cX4_puddle 49 = .ok (.getfield 14, 3) := by decide +kernel
theorem dX4_puddle_52 : decode cX4_puddle 52 = .ok (.getfield 64, 3) := by decide +kernel
theorem dX4_puddle_55 : decode cX4_puddle 55 = .ok (.invokestatic 67, 3) := by decide +kernel
theorem dX4_puddle_58 : decode cX4_puddle 58 = .ok (.invokevirtual 73, 3) := by decide +kernel
theorem dX4_puddle_61 : decode cX4_puddle 61 = .ok (.istore 4, 2) := by decide +kernel
theorem dX4_puddle_63 : decode cX4_puddle 63 = .ok (.aload_n 0, 1) := by decide +kernel
theorem dX4_puddle_64 : decode cX4_puddle 64 = .ok (.getfield 14, 3) := by decide +kernel
theorem dX4_puddle_67 : decode cX4_puddle 67 = .ok (.dup, 1) := by decide +kernel
theorem dX4_puddle_68 : decode cX4_puddle 68 = .ok (.getfield 64, 3) := by decide +kernel
theorem dX4_puddle_71 : decode cX4_puddle 71 = .ok (.iload 4, 2) := by decide +kernel
theorem dX4_puddle_73 : decode cX4_puddle 73 = .ok (.isub, 1) := by decide +kernel
theorem dX4_puddle_74 : decode cX4_puddle 74 = .ok (.putfield 64, 3) := by decide +kernel
theorem dX4_puddle_77 : decode cX4_puddle 77 = .ok (.iload 4, 2) := by decide +kernel
theorem dX4_puddle_79 : decode cX4_puddle 79 = .ok (.ireturn, 1) := by decide +kernel
theorem dX4_strew_0 : decode cX4_strew 0 = .ok (.aload_n 0, 1) := by decide +kernel
theorem dX4_strew_1 : decode cX4_strew 1 = .ok (.getfield 14, 3) := by decide +kernel
theorem dX4_strew_4 : decode cX4_strew 4 = .ok (.iload_n 1, 1) := by decide +kernel
theorem dX4_strew_5 : decode cX4_strew 5 = .ok (.invokevirtual 38, 3) := by decide +kernel
theorem dX4_strew_8 : decode cX4_strew 8 = .ok (.astore_n 3, 1) := by decide +kernel
theorem dX4_strew_9 : decode cX4_strew 9 = .ok (.aload_n 3, 1) := by decide +kernel
theorem dX4_strew_10 : decode cX4_strew 10 = .ok (.getfield 77, 3) := by decide +kernel
theorem dX4_strew_13 : decode cX4_strew 13 = .ok (.istore 4, 2) := by decide +kernel
theorem dX4_strew_15 : decode cX4_strew 15 = .ok (.aload_n 3, 1) := by decide +kernel
theorem dX4_strew_16 : decode cX4_strew 16 = .ok (.iload_n 2, 1) := by decide +kernel
theorem dX4_strew_17 : decode cX4_strew 17 = .ok (.putfield 77, 3) := by decide +kernel
theorem dX4_strew_20 : decode cX4_strew 20 = .ok (.iload 4, 2) := by decide +kernel
theorem dX4_strew_22 : decode cX4_strew 22 = .ok (.ireturn, 1) := by decide +kernel
theorem dX4_pour_0 : decode cX4_pour 0 = .ok (.aload_n 0, 1) := by decide +kernel
theorem dX4_pour_1 : decode cX4_pour 1 = .ok (.getfield 14, 3) := by decide +kernel
theorem dX4_pour_4 : decode cX4_pour 4 = .ok (.iload_n 1, 1) := by decide +kernel
theorem dX4_pour_5 : decode cX4_pour 5 = .ok (.invokevirtual 38, 3) := by decide +kernel
theorem dX4_pour_8 : decode cX4_pour 8 = .ok (.astore_n 3, 1) := by decide +kernel
theorem dX4_pour_9 : decode cX4_pour 9 = .ok (.iload_n 2, 1) := by decide +kernel
theorem dX4_pour_10 : decode cX4_pour 10 = .ok (.sipush (-10000), 3) := by decide +kernel
theorem dX4_pour_13 : decode cX4_pour 13 = .ok (.sipush 10000, 3) := by decide +kernel
theorem dX4_pour_16 : decode cX4_pour 16 = .ok (.invokestatic 21, 3) := by decide +kernel
theorem dX4_pour_19 : decode cX4_pour 19 = .ok (.ifCond .ne 13, 3) := by decide +kernel
theorem dX4_pour_22 : decode cX4_pour 22 = .ok (.new 25, 3) := by decide +kernel
theorem dX4_pour_25 : decode cX4_pour 25 = .ok (.dup, 1) := by decide +kernel
theorem dX4_pour_26 : decode cX4_pour 26 = .ok (.ldc 81, 2) := by decide +kernel
theorem dX4_pour_28 : decode cX4_pour 28 = .ok (.invokespecial 29, 3) := by decide +kernel
theorem dX4_pour_31 : decode cX4_pour 31 = .ok (.athrow, 1) := by decide +kernel
theorem dX4_pour_32 : decode cX4_pour 32 = .ok (.aload_n 3, 1) := by decide +kernel
theorem dX4_pour_33 : decode cX4_pour 33 = .ok (.iconst 0, 1) := by decide +kernel
theorem dX4_pour_34 : decode cX4_pour 34 = .ok (.aload_n 3, 1) := by decide +kernel
theorem dX4_pour_35 : decode cX4_pour 35 = .ok (.getfield 83, 3) := by decide +kernel
theorem dX4_pour_38 : decode cX4_pour 38 = .ok (.iload_n 2, 1) := by decide +kernel
theorem dX4_pour_39 : decode cX4_pour 39 = .ok (.iadd, 1) := by decide +kernel
theorem dX4_pour_40 : decode cX4_pour 40 = .ok (.aload_n 3, 1) := by decide +kernel
theorem dX4_pour_41 : decode cX4_pour 41 = .ok (.invokevirtual 86, 3) := by decide +kernel
theorem dX4_pour_44 : decode cX4_pour 44 = .ok (.invokestatic 67, 3) := by decide +kernel
theorem dX4_pour_47 : decode cX4_pour 47 = .ok (.invokestatic 90, 3) := by decide +kernel
theorem dX4_pour_50 : decode cX4_pour 50 = .ok (.putfield 83, 3) := by decide +kernel
theorem dX4_pour_53 : decode cX4_pour 53 = .ok (.aload_n 3, 1) := by decide +kernel
theorem dX4_pour_54 : decode cX4_pour 54 = .ok (.getfield 83, 3) := by decide +kernel
theorem dX4_pour_57 : decode cX4_pour 57 = .ok (.ireturn, 1) := by decide +kernel
theorem dX4_pond_0 : decode cX4_pond 0 = .ok (.aload_n 0, 1) := by decide +kernel
theorem dX4_pond_1 : decode cX4_pond 1 = .ok (.getfield 14, 3) := by decide +kernel
theorem dX4_pond_4 : decode cX4_pond 4 = .ok (.iload_n 1, 1) := by decide +kernel
theorem dX4_pond_5 : decode cX4_pond 5 = .ok (.invokevirtual 38, 3) := by decide +kernel
theorem dX4_pond_8 : decode cX4_pond 8 = .ok (.astore_n 3, 1) := by decide +kernel
theorem dX4_pond_9 : decode cX4_pond 9 = .ok (.iload_n 2, 1) := by decide +kernel
theorem dX4_pond_10 : decode cX4_pond 10 = .ok (.tableswitch 138 0 11 #[62, 67, 72, 77, 82, 87, 92, 97, 110, 115, 124, 129], 62) := by decide +kernel
theorem dX4_pond_72 : decode cX4_pond 72 = .ok (.aload_n 3, 1) := by decide +kernel
theorem dX4_pond_73 : decode cX4_pond 73 = .ok (.getfield 93, 3) := by decide +kernel
theorem dX4_pond_76 : decode cX4_pond 76 = .ok (.ireturn, 1) := by decide +kernel
theorem dX4_pond_77 : decode cX4_pond 77 = .ok (.aload_n 3, 1) := by decide +kernel
theorem dX4_pond_78 : decode cX4_pond 78 = .ok (.getfield 96, 3) := by decide +kernel
theorem dX4_pond_81 : decode cX4_pond 81 = .ok (.ireturn, 1) := by decide +kernel
theorem dX4_pond_82 : decode cX4_pond 82 = .ok (.aload_n 3, 1) := by decide +kernel
theorem dX4_pond_83 : decode cX4_pond 83 = .ok (.getfield 42, 3) := by decide +kernel
theorem dX4_pond_86 : decode cX4_pond 86 = .ok (.ireturn, 1) := by decide +kernel
theorem dX4_pond_87 : decode cX4_pond 87 = .ok (.aload_n 3, 1) := by decide +kernel
theorem dX4_pond_88 : decode cX4_pond 88 = .ok (.getfield 99, 3) := by decide +kernel
theorem dX4_pond_91 : decode cX4_pond 91 = .ok (.ireturn, 1) := by decide +kernel
theorem dX4_pond_92 : decode cX4_pond 92 = .ok (.aload_n 3, 1) := by decide +kernel
theorem dX4_pond_93 : decode cX4_pond 93 = .ok (.invokevirtual 86, 3) := by decide +kernel
theorem dX4_pond_96 : decode cX4_pond 96 = .ok (.ireturn, 1) := by decide +kernel
theorem dX4_pond_97 : decode cX4_pond 97 = .ok (.aload_n 3, 1) := by decide +kernel
theorem dX4_pond_98 : decode cX4_pond 98 = .ok (.getfield 83, 3) := by decide +kernel
theorem dX4_pond_101 : decode cX4_pond 101 = .ok (.ireturn, 1) := by decide +kernel
theorem dX4_pond_102 : decode cX4_pond 102 = .ok (.aload_n 3, 1) := by decide +kernel
theorem dX4_pond_103 : decode cX4_pond 103 = .ok (.getfield 102, 3) := by decide +kernel
theorem dX4_pond_106 : decode cX4_pond 106 = .ok (.ireturn, 1) := by decide +kernel
theorem dX4_pond_107 : decode cX4_pond 107 = .ok (.aload_n 3, 1) := by decide +kernel
theorem dX4_pond_108 : decode cX4_pond 108 = .ok (.getfield 77, 3) := by decide +kernel
theorem dX4_pond_111 : decode cX4_pond 111 = .ok (.ifCond .eq 7, 3) := by decide +kernel
theorem dX4_pond_114 : decode cX4_pond 114 = .ok (.iconst 1, 1) := by decide +kernel
theorem dX4_pond_115 : decode cX4_pond 115 = .ok (.goto 4, 3) := by decide +kernel
theorem dX4_pond_118 : decode cX4_pond 118 = .ok (.iconst 0, 1) := by decide +kernel
theorem dX4_pond_119 : decode cX4_pond 119 = .ok (.ireturn, 1) := by decide +kernel
theorem dX4_pond_120 : decode cX4_pond 120 = .ok (.aload_n 3, 1) := by decide +kernel
theorem dX4_pond_121 : decode cX4_pond 121 = .ok (.getfield 50, 3) := by decide +kernel
theorem dX4_pond_124 : decode cX4_pond 124 = .ok (.ireturn, 1) := by decide +kernel
theorem dX4_pond_125 : decode cX4_pond 125 = .ok (.aload_n 0, 1) := by decide +kernel
theorem dX4_pond_126 : decode cX4_pond 126 = .ok (.getfield 14, 3) := by decide +kernel
theorem dX4_pond_129 : decode cX4_pond 129 = .ok (.iload_n 1, 1) := by decide +kernel
theorem dX4_pond_130 : decode cX4_pond 130 = .ok (.invokevirtual 105, 3) := by decide +kernel
theorem dX4_pond_133 : decode cX4_pond 133 = .ok (.ireturn, 1) := by decide +kernel
theorem dX4_pond_134 : decode cX4_pond 134 = .ok (.aload_n 3, 1) := by decide +kernel
theorem dX4_pond_135 : decode cX4_pond 135 = .ok (.getfield 108, 3) := by decide +kernel
theorem dX4_pond_138 : decode cX4_pond 138 = .ok (.ireturn, 1) := by decide +kernel
theorem dX4_pond_139 : decode cX4_pond 139 = .ok (.aload_n 0, 1) := by decide +kernel
theorem dX4_pond_140 : decode cX4_pond 140 = .ok (.getfield 14, 3) := by decide +kernel
theorem dX4_pond_143 : decode cX4_pond 143 = .ok (.iload_n 1, 1) := by decide +kernel
theorem dX4_pond_144 : decode cX4_pond 144 = .ok (.invokevirtual 111, 3) := by decide +kernel
theorem dX4_pond_147 : decode cX4_pond 147 = .ok (.ireturn, 1) := by decide +kernel
theorem dX4_pond_148 : decode cX4_pond 148 = .ok (.new 114, 3) := by decide +kernel
theorem dX4_pond_151 : decode cX4_pond 151 = .ok (.dup, 1) := by decide +kernel
theorem dX4_pond_152 : decode cX4_pond 152 = .ok (.ldc 116, 2) := by decide +kernel
theorem dX4_pond_154 : decode cX4_pond 154 = .ok (.invokespecial 118, 3) := by decide +kernel
theorem dX4_pond_157 : decode cX4_pond 157 = .ok (.athrow, 1) := by decide +kernel
theorem dX4_setWeather_0 : decode cX4_setWeather 0 = .ok (.aload_n 0, 1) := by decide +kernel
theorem dX4_setWeather_1 : decode cX4_setWeather 1 = .ok (.getfield 14, 3) := by decide +kernel
theorem dX4_setWeather_4 : decode cX4_setWeather 4 = .ok (.iload_n 1, 1) := by decide +kernel
theorem dX4_setWeather_5 : decode cX4_setWeather 5 = .ok (.invokevirtual 119, 3) := by decide +kernel
theorem dX4_setWeather_8 : decode cX4_setWeather 8 = .ok (.astore 5, 2) := by decide +kernel
theorem dX4_setWeather_10 : decode cX4_setWeather 10 = .ok (.iload_n 2, 1) := by decide +kernel
theorem dX4_setWeather_11 : decode cX4_setWeather 11 = .ok (.iconst 0, 1) := by decide +kernel
theorem dX4_setWeather_12 : decode cX4_setWeather 12 = .ok (.bipush 9, 2) := by decide +kernel
theorem dX4_setWeather_14 : decode cX4_setWeather 14 = .ok (.invokestatic 21, 3) := by decide +kernel
theorem dX4_setWeather_17 : decode cX4_setWeather 17 = .ok (.ifCond .eq 24, 3) := by decide +kernel
theorem dX4_setWeather_20 : decode cX4_setWeather 20 = .ok (.iload_n 3, 1) := by decide +kernel
theorem dX4_setWeather_21 : decode cX4_setWeather 21 = .ok (.iconst 0, 1) := by decide +kernel
theorem dX4_setWeather_22 : decode cX4_setWeather 22 = .ok (.bipush 9, 2) := by decide +kernel
theorem dX4_setWeather_24 : decode cX4_setWeather 24 = .ok (.invokestatic 21, 3) := by decide +kernel
theorem dX4_setWeather_27 : decode cX4_setWeather 27 = .ok (.ifCond .eq 14, 3) := by decide +kernel
theorem dX4_setWeather_30 : decode cX4_setWeather 30 = .ok (.iload 4, 2) := by decide +kernel
theorem dX4_setWeather_32 : decode cX4_setWeather 32 = .ok (.iconst 0, 1) := by decide +kernel
theorem dX4_setWeather_33 : decode cX4_setWeather 33 = .ok (.bipush 9, 2) := by decide +kernel
theorem dX4_setWeather_35 : decode cX4_setWeather 35 = .ok (.invokestatic 21, 3) := by decide +kernel
theorem dX4_setWeather_38 : decode cX4_setWeather 38 = .ok (.ifCond .ne 13, 3) := by decide +kernel
theorem dX4_setWeather_41 : decode cX4_setWeather 41 = .ok (.new 25, 3) := by decide +kernel
theorem dX4_setWeather_44 : decode cX4_setWeather 44 = .ok (.dup, 1) := by decide +kernel
theorem dX4_setWeather_45 : decode cX4_setWeather 45 = .ok (.ldc 123, 2) := by decide +kernel
theorem dX4_setWeather_47 : decode cX4_setWeather 47 = .ok (.invokespecial 29, 3) := by decide +kernel
theorem dX4_setWeather_50 : decode cX4_setWeather 50 = .ok (.athrow, 1) := by decide +kernel
theorem dX4_setWeather_51 : decode cX4_setWeather 51 = .ok (.aload 5, 2) := by decide +kernel
theorem dX4_setWeather_53 : decode cX4_setWeather 53 = .ok (.invokevirtual 125, 3) := by decide +kernel
theorem dX4_setWeather_56 : decode cX4_setWeather 56 = .ok (.istore 6, 2) := by decide +kernel
theorem dX4_setWeather_58 : decode cX4_setWeather 58 = .ok (.aload 5, 2) := by decide +kernel
theorem dX4_setWeather_60 : decode cX4_setWeather 60 = .ok (.iload_n 2, 1) := by decide +kernel
theorem dX4_setWeather_61 : decode cX4_setWeather 61 = .ok (.putfield 130, 3) := by decide +kernel
theorem dX4_setWeather_64 : decode cX4_setWeather 64 = .ok (.aload 5, 2) := by decide +kernel
theorem dX4_setWeather_66 : decode cX4_setWeather 66 = .ok (.iload_n 3, 1) := by decide +kernel
theorem dX4_setWeather_67 : decode cX4_setWeather 67 = .ok (.putfield 133, 3) := by decide +kernel
theorem dX4_setWeather_70 : decode cX4_setWeather 70 = .ok (.aload 5, 2) := by decide +kernel
theorem dX4_setWeather_72 : decode cX4_setWeather 72 = .ok (.iload 4, 2) := by decide +kernel
theorem dX4_setWeather_74 : decode cX4_setWeather 74 = .ok (.putfield 136, 3) := by decide +kernel
theorem dX4_setWeather_77 : decode cX4_setWeather 77 = .ok (.iload 6, 2) := by decide +kernel
theorem dX4_setWeather_79 : decode cX4_setWeather 79 = .ok (.ireturn, 1) := by decide +kernel
theorem dX4_bring_0 : decode cX4_bring 0 = .ok (.iload_n 1, 1) := by decide +kernel
theorem dX4_bring_1 : decode cX4_bring 1 = .ok (.iconst 1, 1) := by decide +kernel
theorem dX4_bring_2 : decode cX4_bring 2 = .ok (.bipush 100, 2) := by decide +kernel
theorem dX4_bring_4 : decode cX4_bring 4 = .ok (.invokestatic 21, 3) := by decide +kernel
theorem dX4_bring_7 : decode cX4_bring 7 = .ok (.ifCond .ne 13, 3) := by decide +kernel
theorem dX4_bring_10 : decode cX4_bring 10 = .ok (.new 25, 3) := by decide +kernel
theorem dX4_bring_13 : decode cX4_bring 13 = .ok (.dup, 1) := by decide +kernel
theorem dX4_bring_14 : decode cX4_bring 14 = .ok (.ldc 53, 2) := by decide +kernel
theorem dX4_bring_16 : decode cX4_bring 16 = .ok (.invokespecial 29, 3) := by decide +kernel
theorem dX4_bring_19 : decode cX4_bring 19 = .ok (.athrow, 1) := by decide +kernel
theorem dX4_bring_20 : decode cX4_bring 20 = .ok (.aload_n 0, 1) := by decide +kernel
theorem dX4_bring_21 : decode cX4_bring 21 = .ok (.getfield 14, 3) := by decide +kernel
theorem dX4_bring_24 : decode cX4_bring 24 = .ok (.getfield 64, 3) := by decide +kernel
theorem dX4_bring_27 : decode cX4_bring 27 = .ok (.iload_n 1, 1) := by decide +kernel
theorem dX4_bring_28 : decode cX4_bring 28 = .ok (.iadd, 1) := by decide +kernel
theorem dX4_bring_29 : decode cX4_bring 29 = .ok (.sipush 500, 3) := by decide +kernel
theorem dX4_bring_32 : decode cX4_bring 32 = .ok (.if_icmp .le 13, 3) := by decide +kernel
theorem dX4_bring_35 : decode cX4_bring 35 = .ok (.new 59, 3) := by decide +kernel
theorem dX4_bring_38 : decode cX4_bring 38 = .ok (.dup, 1) := by decide +kernel
theorem dX4_bring_39 : decode cX4_bring 39 = .ok (.ldc 139, 2) := by decide +kernel
theorem dX4_bring_41 : decode cX4_bring 41 = .ok (.invokespecial 63, 3) := by decide +kernel
theorem dX4_bring_44 : decode cX4_bring 44 = .ok (.athrow, 1) := by decide +kernel
theorem dX4_bring_45 : decode cX4_bring 45 = .ok (.aload_n 0, 1) := by decide +kernel
theorem dX4_bring_46 : decode cX4_bring 46 = .ok (.getfield 14, 3) := by decide +kernel
theorem dX4_bring_49 : decode cX4_bring 49 = .ok (.dup, 1) := by decide +kernel
theorem dX4_bring_50 : decode cX4_bring 50 = .ok (.getfield 64, 3) := by decide +kernel
theorem dX4_bring_53 : decode cX4_bring 53 = .ok (.iload_n 1, 1) := by decide +kernel
theorem dX4_bring_54 : decode cX4_bring 54 = .ok (.iadd, 1) := by decide +kernel
theorem dX4_bring_55 : decode cX4_bring 55 = .ok (.putfield 64, 3) := by decide +kernel
theorem dX4_bring_58 : decode cX4_bring 58 = .ok (.aload_n 0, 1) := by decide +kernel
theorem dX4_bring_59 : decode cX4_bring 59 = .ok (.getfield 14, 3) := by decide +kernel
theorem dX4_bring_62 : decode cX4_bring 62 = .ok (.getfield 64, 3) := by decide +kernel
theorem dX4_bring_65 : decode cX4_bring 65 = .ok (.ireturn, 1) := by decide +kernel
theorem dX4_addFlock_0 : decode cX4_addFlock 0 = .ok (.aload_n 0, 1) := by decide +kernel
theorem dX4_addFlock_1 : decode cX4_addFlock 1 = .ok (.getfield 14, 3) := by decide +kernel
theorem dX4_addFlock_4 : decode cX4_addFlock 4 = .ok (.iload_n 1, 1) := by decide +kernel
theorem dX4_addFlock_5 : decode cX4_addFlock 5 = .ok (.invokevirtual 38, 3) := by decide +kernel
theorem dX4_addFlock_8 : decode cX4_addFlock 8 = .ok (.pop, 1) := by decide +kernel
theorem dX4_addFlock_9 : decode cX4_addFlock 9 = .ok (.iload_n 2, 1) := by decide +kernel
theorem dX4_addFlock_10 : decode cX4_addFlock 10 = .ok (.iconst 1, 1) := by decide +kernel
theorem dX4_addFlock_11 : decode cX4_addFlock 11 = .ok (.bipush 80, 2) := by decide +kernel
theorem dX4_addFlock_13 : decode cX4_addFlock 13 = .ok (.invokestatic 21, 3) := by decide +kernel
theorem dX4_addFlock_16 : decode cX4_addFlock 16 = .ok (.ifCond .ne 13, 3) := by decide +kernel
theorem dX4_addFlock_19 : decode cX4_addFlock 19 = .ok (.new 25, 3) := by decide +kernel
theorem dX4_addFlock_22 : decode cX4_addFlock 22 = .ok (.dup, 1) := by decide +kernel
theorem dX4_addFlock_23 : decode cX4_addFlock 23 = .ok (.ldc 141, 2) := by decide +kernel
theorem dX4_addFlock_25 : decode cX4_addFlock 25 = .ok (.invokespecial 29, 3) := by decide +kernel
theorem dX4_addFlock_28 : decode cX4_addFlock 28 = .ok (.athrow, 1) := by decide +kernel
theorem dX4_addFlock_29 : decode cX4_addFlock 29 = .ok (.aload_n 0, 1) := by decide +kernel
theorem dX4_addFlock_30 : decode cX4_addFlock 30 = .ok (.getfield 14, 3) := by decide +kernel
theorem dX4_addFlock_33 : decode cX4_addFlock 33 = .ok (.iload_n 1, 1) := by decide +kernel
theorem dX4_addFlock_34 : decode cX4_addFlock 34 = .ok (.iload_n 2, 1) := by decide +kernel
theorem dX4_addFlock_35 : decode cX4_addFlock 35 = .ok (.invokevirtual 143, 3) := by decide +kernel
theorem dX4_addFlock_38 : decode cX4_addFlock 38 = .ok (.ireturn, 1) := by decide +kernel
theorem dX4_drive_0 : decode cX4_drive 0 = .ok (.aload_n 0, 1) := by decide +kernel
theorem dX4_drive_1 : decode cX4_drive 1 = .ok (.getfield 14, 3) := by decide +kernel
theorem dX4_drive_4 : decode cX4_drive 4 = .ok (.iload_n 1, 1) := by decide +kernel
theorem dX4_drive_5 : decode cX4_drive 5 = .ok (.invokevirtual 146, 3) := by decide +kernel
theorem dX4_drive_8 : decode cX4_drive 8 = .ok (.astore_n 3, 1) := by decide +kernel
theorem dX4_drive_9 : decode cX4_drive 9 = .ok (.aload_n 0, 1) := by decide +kernel
theorem dX4_drive_10 : decode cX4_drive 10 = .ok (.getfield 14, 3) := by decide +kernel
theorem dX4_drive_13 : decode cX4_drive 13 = .ok (.iload_n 2, 1) := by decide +kernel
theorem dX4_drive_14 : decode cX4_drive 14 = .ok (.invokevirtual 38, 3) := by decide +kernel
theorem dX4_drive_17 : decode cX4_drive 17 = .ok (.astore 4, 2) := by decide +kernel
theorem dX4_drive_19 : decode cX4_drive 19 = .ok (.aload_n 3, 1) := by decide +kernel
theorem dX4_drive_20 : decode cX4_drive 20 = .ok (.invokevirtual 150, 3) := by decide +kernel
theorem dX4_drive_23 : decode cX4_drive 23 = .ok (.ifCond .eq 13, 3) := by decide +kernel
theorem dX4_drive_26 : decode cX4_drive 26 = .ok (.new 59, 3) := by decide +kernel
theorem dX4_drive_29 : decode cX4_drive 29 = .ok (.dup, 1) := by decide +kernel
theorem dX4_drive_30 : decode cX4_drive 30 = .ok (.ldc 155, 2) := by decide +kernel
theorem dX4_drive_32 : decode cX4_drive 32 = .ok (.invokespecial 63, 3) := by decide +kernel
theorem dX4_drive_35 : decode cX4_drive 35 = .ok (.athrow, 1) := by decide +kernel
theorem dX4_drive_36 : decode cX4_drive 36 = .ok (.aload_n 0, 1) := by decide +kernel
theorem dX4_drive_37 : decode cX4_drive 37 = .ok (.getfield 14, 3) := by decide +kernel
theorem dX4_drive_40 : decode cX4_drive 40 = .ok (.aload_n 3, 1) := by decide +kernel
theorem dX4_drive_41 : decode cX4_drive 41 = .ok (.getfield 157, 3) := by decide +kernel
theorem dX4_drive_44 : decode cX4_drive 44 = .ok (.invokevirtual 38, 3) := by decide +kernel
theorem dX4_drive_47 : decode cX4_drive 47 = .ok (.aload 4, 2) := by decide +kernel
theorem dX4_drive_49 : decode cX4_drive 49 = .ok (.invokevirtual 160, 3) := by decide +kernel
theorem dX4_drive_52 : decode cX4_drive 52 = .ok (.istore 5, 2) := by decide +kernel
theorem dX4_drive_54 : decode cX4_drive 54 = .ok (.aload_n 3, 1) := by decide +kernel
theorem dX4_drive_55 : decode cX4_drive 55 = .ok (.iload_n 2, 1) := by decide +kernel
theorem dX4_drive_56 : decode cX4_drive 56 = .ok (.putfield 157, 3) := by decide +kernel
theorem dX4_drive_59 : decode cX4_drive 59 = .ok (.iload 5, 2) := by decide +kernel
theorem dX4_drive_61 : decode cX4_drive 61 = .ok (.ireturn, 1) := by decide +kernel
theorem dX4_setRoams_0 : decode cX4_setRoams 0 = .ok (.aload_n 0, 1) := by decide +kernel
theorem dX4_setRoams_1 : decode cX4_setRoams 1 = .ok (.getfield 14, 3) := by decide +kernel
theorem dX4_setRoams_4 : decode cX4_setRoams 4 = .ok (.iload_n 1, 1) := by decide +kernel
theorem dX4_setRoams_5 : decode cX4_setRoams 5 = .ok (.invokevirtual 146, 3) := by decide +kernel
theorem dX4_setRoams_8 : decode cX4_setRoams 8 = .ok (.astore_n 3, 1) := by decide +kernel
theorem dX4_setRoams_9 : decode cX4_setRoams 9 = .ok (.aload_n 3, 1) := by decide +kernel
theorem dX4_setRoams_10 : decode cX4_setRoams 10 = .ok (.getfield 164, 3) := by decide +kernel
theorem dX4_setRoams_13 : decode cX4_setRoams 13 = .ok (.istore 4, 2) := by decide +kernel
theorem dX4_setRoams_15 : decode cX4_setRoams 15 = .ok (.aload_n 3, 1) := by decide +kernel
theorem dX4_setRoams_16 : decode cX4_setRoams 16 = .ok (.iload_n 2, 1) := by decide +kernel
theorem dX4_setRoams_17 : decode cX4_setRoams 17 = .ok (.putfield 164, 3) := by decide +kernel
theorem dX4_setRoams_20 : decode cX4_setRoams 20 = .ok (.iload 4, 2) := by decide +kernel
theorem dX4_setRoams_22 : decode cX4_setRoams 22 = .ok (.ireturn, 1) := by decide +kernel
theorem dX4_flock_0 : decode cX4_flock 0 = .ok (.aload_n 0, 1) := by decide +kernel
theorem dX4_flock_1 : decode cX4_flock 1 = .ok (.getfield 14, 3) := by decide +kernel
theorem dX4_flock_4 : decode cX4_flock 4 = .ok (.iload_n 1, 1) := by decide +kernel
theorem dX4_flock_5 : decode cX4_flock 5 = .ok (.invokevirtual 146, 3) := by decide +kernel
theorem dX4_flock_8 : decode cX4_flock 8 = .ok (.astore_n 3, 1) := by decide +kernel
theorem dX4_flock_9 : decode cX4_flock 9 = .ok (.iload_n 2, 1) := by decide +kernel
theorem dX4_flock_10 : decode cX4_flock 10 = .ok (.tableswitch 84 0 5 #[38, 43, 48, 53, 66, 79], 38) := by decide +kernel
theorem dX4_flock_48 : decode cX4_flock 48 = .ok (.aload_n 3, 1) := by decide +kernel
theorem dX4_flock_49 : decode cX4_flock 49 = .ok (.getfield 167, 3) := by decide +kernel
theorem dX4_flock_52 : decode cX4_flock 52 = .ok (.ireturn, 1) := by decide +kernel
theorem dX4_flock_53 : decode cX4_flock 53 = .ok (.aload_n 3, 1) := by decide +kernel
theorem dX4_flock_54 : decode cX4_flock 54 = .ok (.getfield 157, 3) := by decide +kernel
theorem dX4_flock_57 : decode cX4_flock 57 = .ok (.ireturn, 1) := by decide +kernel
theorem dX4_flock_58 : decode cX4_flock 58 = .ok (.aload_n 3, 1) := by decide +kernel
theorem dX4_flock_59 : decode cX4_flock 59 = .ok (.getfield 170, 3) := by decide +kernel
theorem dX4_flock_62 : decode cX4_flock 62 = .ok (.ireturn, 1) := by decide +kernel
theorem dX4_flock_63 : decode cX4_flock 63 = .ok (.aload_n 3, 1) := by decide +kernel
theorem dX4_flock_64 : decode cX4_flock 64 = .ok (.getfield 164, 3) := by decide +kernel
theorem dX4_flock_67 : decode cX4_flock 67 = .ok (.ifCond .eq 7, 3) := by decide +kernel
theorem dX4_flock_70 : decode cX4_flock 70 = .ok (.iconst 1, 1) := by decide +kernel
theorem dX4_flock_71 : decode cX4_flock 71 = .ok (.goto 4, 3) := by decide +kernel
theorem dX4_flock_74 : decode cX4_flock 74 = .ok (.iconst 0, 1) := by decide +kernel
theorem dX4_flock_75 : decode cX4_flock 75 = .ok (.ireturn, 1) := by decide +kernel
theorem dX4_flock_76 : decode cX4_flock 76 = .ok (.aload_n 3, 1) := by decide +kernel
theorem dX4_flock_77 : decode cX4_flock 77 = .ok (.invokevirtual 150, 3) := by decide +kernel
theorem dX4_flock_80 : decode cX4_flock 80 = .ok (.ifCond .eq 7, 3) := by decide +kernel
theorem dX4_flock_83 : decode cX4_flock 83 = .ok (.iconst 1, 1) := by decide +kernel
theorem dX4_flock_84 : decode cX4_flock 84 = .ok (.goto 4, 3) := by decide +kernel
theorem dX4_flock_87 : decode cX4_flock 87 = .ok (.iconst 0, 1) := by decide +kernel
theorem dX4_flock_88 : decode cX4_flock 88 = .ok (.ireturn, 1) := by decide +kernel
theorem dX4_flock_89 : decode cX4_flock 89 = .ok (.aload_n 3, 1) := by decide +kernel
theorem dX4_flock_90 : decode cX4_flock 90 = .ok (.getfield 173, 3) := by decide +kernel
theorem dX4_flock_93 : decode cX4_flock 93 = .ok (.ireturn, 1) := by decide +kernel
theorem dX4_flock_94 : decode cX4_flock 94 = .ok (.new 114, 3) := by decide +kernel
theorem dX4_flock_97 : decode cX4_flock 97 = .ok (.dup, 1) := by decide +kernel
theorem dX4_flock_98 : decode cX4_flock 98 = .ok (.ldc 176, 2) := by decide +kernel
theorem dX4_flock_100 : decode cX4_flock 100 = .ok (.invokespecial 118, 3) := by decide +kernel
theorem dX4_flock_103 : decode cX4_flock 103 = .ok (.athrow, 1) := by decide +kernel
theorem dX4_pass_0 : decode cX4_pass 0 = .ok (.iload_n 1, 1) := by decide +kernel
theorem dX4_pass_1 : decode cX4_pass 1 = .ok (.iconst 1, 1) := by decide +kernel
theorem dX4_pass_2 : decode cX4_pass 2 = .ok (.bipush 100, 2) := by decide +kernel
theorem dX4_pass_4 : decode cX4_pass 4 = .ok (.invokestatic 21, 3) := by decide +kernel
theorem dX4_pass_7 : decode cX4_pass 7 = .ok (.ifCond .ne 13, 3) := by decide +kernel
theorem dX4_pass_10 : decode cX4_pass 10 = .ok (.new 25, 3) := by decide +kernel
theorem dX4_pass_13 : decode cX4_pass 13 = .ok (.dup, 1) := by decide +kernel
theorem dX4_pass_14 : decode cX4_pass 14 = .ok (.ldc 178, 2) := by decide +kernel
theorem dX4_pass_16 : decode cX4_pass 16 = .ok (.invokespecial 29, 3) := by decide +kernel
theorem dX4_pass_19 : decode cX4_pass 19 = .ok (.athrow, 1) := by decide +kernel
theorem dX4_pass_20 : decode cX4_pass 20 = .ok (.aload_n 0, 1) := by decide +kernel
theorem dX4_pass_21 : decode cX4_pass 21 = .ok (.getfield 14, 3) := by decide +kernel
theorem dX4_pass_24 : decode cX4_pass 24 = .ok (.iload_n 1, 1) := by decide +kernel
theorem dX4_pass_25 : decode cX4_pass 25 = .ok (.invokevirtual 180, 3) := by decide +kernel
theorem dX4_pass_28 : decode cX4_pass 28 = .ok (.ireturn, 1) := by decide +kernel
theorem dX4_count_0 : decode cX4_count 0 = .ok (.iload_n 1, 1) := by decide +kernel
theorem dX4_count_1 : decode cX4_count 1 = .ok (.tableswitch 111 0 7 #[47, 55, 63, 71, 79, 87, 95, 103], 47) := by decide +kernel
theorem dX4_count_48 : decode cX4_count 48 = .ok (.aload_n 0, 1) := by decide +kernel
theorem dX4_count_49 : decode cX4_count 49 = .ok (.getfield 14, 3) := by decide +kernel
theorem dX4_count_52 : decode cX4_count 52 = .ok (.getfield 183, 3) := by decide +kernel
theorem dX4_count_55 : decode cX4_count 55 = .ok (.ireturn, 1) := by decide +kernel
theorem dX4_count_56 : decode cX4_count 56 = .ok (.aload_n 0, 1) := by decide +kernel
theorem dX4_count_57 : decode cX4_count 57 = .ok (.getfield 14, 3) := by decide +kernel
theorem dX4_count_60 : decode cX4_count 60 = .ok (.getfield 186, 3) := by decide +kernel
theorem dX4_count_63 : decode cX4_count 63 = .ok (.ireturn, 1) := by decide +kernel
theorem dX4_count_64 : decode cX4_count 64 = .ok (.aload_n 0, 1) := by decide +kernel
theorem dX4_count_65 : decode cX4_count 65 = .ok (.getfield 14, 3) := by decide +kernel
theorem dX4_count_68 : decode cX4_count 68 = .ok (.getfield 189, 3) := by decide +kernel
theorem dX4_count_71 : decode cX4_count 71 = .ok (.ireturn, 1) := by decide +kernel
theorem dX4_count_72 : decode cX4_count 72 = .ok (.aload_n 0, 1) := by decide +kernel
theorem dX4_count_73 : decode cX4_count 73 = .ok (.getfield 14, 3) := by decide +kernel
theorem dX4_count_76 : decode cX4_count 76 = .ok (.invokevirtual 192, 3) := by decide +kernel
theorem dX4_count_79 : decode cX4_count 79 = .ok (.ireturn, 1) := by decide +kernel
theorem dX4_count_80 : decode cX4_count 80 = .ok (.aload_n 0, 1) := by decide +kernel
theorem dX4_count_81 : decode cX4_count 81 = .ok (.getfield 14, 3) := by decide +kernel
theorem dX4_count_84 : decode cX4_count 84 = .ok (.getfield 64, 3) := by decide +kernel
theorem dX4_count_87 : decode cX4_count 87 = .ok (.ireturn, 1) := by decide +kernel
theorem dX4_count_88 : decode cX4_count 88 = .ok (.aload_n 0, 1) := by decide +kernel
theorem dX4_count_89 : decode cX4_count 89 = .ok (.getfield 14, 3) := by decide +kernel
theorem dX4_count_92 : decode cX4_count 92 = .ok (.invokevirtual 195, 3) := by decide +kernel
theorem dX4_count_95 : decode cX4_count 95 = .ok (.ireturn, 1) := by decide +kernel
theorem dX4_count_96 : decode cX4_count 96 = .ok (.aload_n 0, 1) := by decide +kernel
theorem dX4_count_97 : decode cX4_count 97 = .ok (.getfield 14, 3) := by decide +kernel
theorem dX4_count_100 : decode cX4_count 100 = .ok (.invokevirtual 198, 3) := by decide +kernel
theorem dX4_count_103 : decode cX4_count 103 = .ok (.ireturn, 1) := by decide +kernel
theorem dX4_count_104 : decode cX4_count 104 = .ok (.aload_n 0, 1) := by decide +kernel
theorem dX4_count_105 : decode cX4_count 105 = .ok (.getfield 14, 3) := by decide +kernel
theorem dX4_count_108 : decode cX4_count 108 = .ok (.invokevirtual 201, 3) := by decide +kernel
theorem dX4_count_111 : decode cX4_count 111 = .ok (.ireturn, 1) := by decide +kernel
theorem dX4_count_112 : decode cX4_count 112 = .ok (.new 114, 3) := by decide +kernel
theorem dX4_count_115 : decode cX4_count 115 = .ok (.dup, 1) := by decide +kernel
theorem dX4_count_116 : decode cX4_count 116 = .ok (.ldc 204, 2) := by decide +kernel
theorem dX4_count_118 : decode cX4_count 118 = .ok (.invokespecial 118, 3) := by decide +kernel
theorem dX4_count_121 : decode cX4_count 121 = .ok (.athrow, 1) := by decide +kernel
theorem dX4_foresee_0 : decode cX4_foresee 0 = .ok (.aload_n 0, 1) := by decide +kernel
theorem dX4_foresee_1 : decode cX4_foresee 1 = .ok (.getfield 14, 3) := by decide +kernel
theorem dX4_foresee_4 : decode cX4_foresee 4 = .ok (.iload_n 1, 1) := by decide +kernel
theorem dX4_foresee_5 : decode cX4_foresee 5 = .ok (.invokevirtual 38, 3) := by decide +kernel
theorem dX4_foresee_8 : decode cX4_foresee 8 = .ok (.pop, 1) := by decide +kernel
theorem dX4_foresee_9 : decode cX4_foresee 9 = .ok (.iload_n 2, 1) := by decide +kernel
theorem dX4_foresee_10 : decode cX4_foresee 10 = .ok (.iconst 1, 1) := by decide +kernel
theorem dX4_foresee_11 : decode cX4_foresee 11 = .ok (.bipush 100, 2) := by decide +kernel
theorem dX4_foresee_13 : decode cX4_foresee 13 = .ok (.invokestatic 21, 3) := by decide +kernel
theorem dX4_foresee_16 : decode cX4_foresee 16 = .ok (.ifCond .ne 13, 3) := by decide +kernel
theorem dX4_foresee_19 : decode cX4_foresee 19 = .ok (.new 25, 3) := by decide +kernel
theorem dX4_foresee_22 : decode cX4_foresee 22 = .ok (.dup, 1) := by decide +kernel
theorem dX4_foresee_23 : decode cX4_foresee 23 = .ok (.ldc 178, 2) := by decide +kernel
theorem dX4_foresee_25 : decode cX4_foresee 25 = .ok (.invokespecial 29, 3) := by decide +kernel
theorem dX4_foresee_28 : decode cX4_foresee 28 = .ok (.athrow, 1) := by decide +kernel
theorem dX4_foresee_29 : decode cX4_foresee 29 = .ok (.aload_n 0, 1) := by decide +kernel
theorem dX4_foresee_30 : decode cX4_foresee 30 = .ok (.getfield 18, 3) := by decide +kernel
theorem dX4_foresee_33 : decode cX4_foresee 33 = .ok (.aload_n 0, 1) := by decide +kernel
theorem dX4_foresee_34 : decode cX4_foresee 34 = .ok (.getfield 14, 3) := by decide +kernel
theorem dX4_foresee_37 : decode cX4_foresee 37 = .ok (.invokevirtual 206, 3) := by decide +kernel
theorem dX4_foresee_40 : decode cX4_foresee 40 = .ok (.aload_n 0, 1) := by decide +kernel
theorem dX4_foresee_41 : decode cX4_foresee 41 = .ok (.getfield 18, 3) := by decide +kernel
theorem dX4_foresee_44 : decode cX4_foresee 44 = .ok (.iload_n 2, 1) := by decide +kernel
theorem dX4_foresee_45 : decode cX4_foresee 45 = .ok (.invokevirtual 180, 3) := by decide +kernel
theorem dX4_foresee_48 : decode cX4_foresee 48 = .ok (.pop, 1) := by decide +kernel
theorem dX4_foresee_49 : decode cX4_foresee 49 = .ok (.aload_n 0, 1) := by decide +kernel
theorem dX4_foresee_50 : decode cX4_foresee 50 = .ok (.getfield 18, 3) := by decide +kernel
theorem dX4_foresee_53 : decode cX4_foresee 53 = .ok (.iload_n 1, 1) := by decide +kernel
theorem dX4_foresee_54 : decode cX4_foresee 54 = .ok (.invokevirtual 38, 3) := by decide +kernel
theorem dX4_foresee_57 : decode cX4_foresee 57 = .ok (.getfield 83, 3) := by decide +kernel
theorem dX4_foresee_60 : decode cX4_foresee 60 = .ok (.ireturn, 1) := by decide +kernel
theorem dX4_lasts_0 : decode cX4_lasts 0 = .ok (.aload_n 0, 1) := by decide +kernel
theorem dX4_lasts_1 : decode cX4_lasts 1 = .ok (.getfield 14, 3) := by decide +kernel
theorem dX4_lasts_4 : decode cX4_lasts 4 = .ok (.iload_n 1, 1) := by decide +kernel
theorem dX4_lasts_5 : decode cX4_lasts 5 = .ok (.invokevirtual 38, 3) := by decide +kernel
theorem dX4_lasts_8 : decode cX4_lasts 8 = .ok (.getfield 83, 3) := by decide +kernel
theorem dX4_lasts_11 : decode cX4_lasts 11 = .ok (.ifCond .ne 5, 3) := by decide +kernel
theorem dX4_lasts_14 : decode cX4_lasts 14 = .ok (.iconst 0, 1) := by decide +kernel
theorem dX4_lasts_15 : decode cX4_lasts 15 = .ok (.ireturn, 1) := by decide +kernel
theorem dX4_lasts_16 : decode cX4_lasts 16 = .ok (.aload_n 0, 1) := by decide +kernel
theorem dX4_lasts_17 : decode cX4_lasts 17 = .ok (.getfield 18, 3) := by decide +kernel
theorem dX4_lasts_20 : decode cX4_lasts 20 = .ok (.aload_n 0, 1) := by decide +kernel
theorem dX4_lasts_21 : decode cX4_lasts 21 = .ok (.getfield 14, 3) := by decide +kernel
theorem dX4_lasts_24 : decode cX4_lasts 24 = .ok (.invokevirtual 206, 3) := by decide +kernel
theorem dX4_lasts_27 : decode cX4_lasts 27 = .ok (.aload_n 0, 1) := by decide +kernel
theorem dX4_lasts_28 : decode cX4_lasts 28 = .ok (.getfield 18, 3) := by decide +kernel
theorem dX4_lasts_31 : decode cX4_lasts 31 = .ok (.iload_n 1, 1) := by decide +kernel
theorem dX4_lasts_32 : decode cX4_lasts 32 = .ok (.invokevirtual 38, 3) := by decide +kernel
theorem dX4_lasts_35 : decode cX4_lasts 35 = .ok (.astore_n 2, 1) := by decide +kernel
theorem dX4_lasts_36 : decode cX4_lasts 36 = .ok (.iconst 1, 1) := by decide +kernel
theorem dX4_lasts_37 : decode cX4_lasts 37 = .ok (.istore_n 3, 1) := by decide +kernel
theorem dX4_lasts_38 : decode cX4_lasts 38 = .ok (.iload_n 3, 1) := by decide +kernel
theorem dX4_lasts_39 : decode cX4_lasts 39 = .ok (.sipush 200, 3) := by decide +kernel
theorem dX4_lasts_42 : decode cX4_lasts 42 = .ok (.if_icmp .gt 26, 3) := by decide +kernel
theorem dX4_lasts_45 : decode cX4_lasts 45 = .ok (.aload_n 0, 1) := by decide +kernel
theorem dX4_lasts_46 : decode cX4_lasts 46 = .ok (.getfield 18, 3) := by decide +kernel
theorem dX4_lasts_49 : decode cX4_lasts 49 = .ok (.invokevirtual 210, 3) := by decide +kernel
theorem dX4_lasts_52 : decode cX4_lasts 52 = .ok (.pop, 1) := by decide +kernel
theorem dX4_lasts_53 : decode cX4_lasts 53 = .ok (.aload_n 2, 1) := by decide +kernel
theorem dX4_lasts_54 : decode cX4_lasts 54 = .ok (.getfield 83, 3) := by decide +kernel
theorem dX4_lasts_57 : decode cX4_lasts 57 = .ok (.ifCond .ne 5, 3) := by decide +kernel
theorem dX4_lasts_60 : decode cX4_lasts 60 = .ok (.iload_n 3, 1) := by decide +kernel
theorem dX4_lasts_61 : decode cX4_lasts 61 = .ok (.ireturn, 1) := by decide +kernel
theorem dX4_lasts_62 : decode cX4_lasts 62 = .ok (.iinc 3 1, 3) := by decide +kernel
theorem dX4_lasts_65 : decode cX4_lasts 65 = .ok (.goto (-27), 3) := by decide +kernel
theorem dX4_lasts_68 : decode cX4_lasts 68 = .ok (.iconst (-1), 1) := by decide +kernel
theorem dX4_lasts_69 : decode cX4_lasts 69 = .ok (.ireturn, 1) := by decide +kernel
theorem dX4_keep_0 : decode cX4_keep 0 = .ok (.aload_n 0, 1) := by decide +kernel
theorem dX4_keep_1 : decode cX4_keep 1 = .ok (.getfield 14, 3) := by decide +kernel
theorem dX4_keep_4 : decode cX4_keep 4 = .ok (.iload_n 1, 1) := by decide +kernel
theorem dX4_keep_5 : decode cX4_keep 5 = .ok (.invokevirtual 38, 3) := by decide +kernel
theorem dX4_keep_8 : decode cX4_keep 8 = .ok (.pop, 1) := by decide +kernel
theorem dX4_keep_9 : decode cX4_keep 9 = .ok (.iload_n 2, 1) := by decide +kernel
theorem dX4_keep_10 : decode cX4_keep 10 = .ok (.iconst 1, 1) := by decide +kernel
theorem dX4_keep_11 : decode cX4_keep 11 = .ok (.bipush 50, 2) := by decide +kernel
theorem dX4_keep_13 : decode cX4_keep 13 = .ok (.invokestatic 21, 3) := by decide +kernel
theorem dX4_keep_16 : decode cX4_keep 16 = .ok (.ifCond .ne 13, 3) := by decide +kernel
theorem dX4_keep_19 : decode cX4_keep 19 = .ok (.new 25, 3) := by decide +kernel
theorem dX4_keep_22 : decode cX4_keep 22 = .ok (.dup, 1) := by decide +kernel
theorem dX4_keep_23 : decode cX4_keep 23 = .ok (.ldc 213, 2) := by decide +kernel
theorem dX4_keep_25 : decode cX4_keep 25 = .ok (.invokespecial 29, 3) := by decide +kernel
theorem dX4_keep_28 : decode cX4_keep 28 = .ok (.athrow, 1) := by decide +kernel
theorem dX4_keep_29 : decode cX4_keep 29 = .ok (.bipush 80, 2) := by decide +kernel
theorem dX4_keep_31 : decode cX4_keep 31 = .ok (.istore_n 3, 1) := by decide +kernel
theorem dX4_keep_32 : decode cX4_keep 32 = .ok (.iload_n 3, 1) := by decide +kernel
theorem dX4_keep_33 : decode cX4_keep 33 = .ok (.iconst 1, 1) := by decide +kernel
theorem dX4_keep_34 : decode cX4_keep 34 = .ok (.if_icmp .lt 21, 3) := by decide +kernel
theorem dX4_keep_37 : decode cX4_keep 37 = .ok (.aload_n 0, 1) := by decide +kernel
theorem dX4_keep_38 : decode cX4_keep 38 = .ok (.iload_n 1, 1) := by decide +kernel
theorem dX4_keep_39 : decode cX4_keep 39 = .ok (.iload_n 3, 1) := by decide +kernel
theorem dX4_keep_40 : decode cX4_keep 40 = .ok (.iload_n 2, 1) := by decide +kernel
theorem dX4_keep_41 : decode cX4_keep 41 = .ok (.invokevirtual 215, 3) := by decide +kernel
theorem dX4_keep_44 : decode cX4_keep 44 = .ok (.ifCond .eq 5, 3) := by decide +kernel
theorem dX4_keep_47 : decode cX4_keep 47 = .ok (.iload_n 3, 1) := by decide +kernel
theorem dX4_keep_48 : decode cX4_keep 48 = .ok (.ireturn, 1) := by decide +kernel
theorem dX4_keep_49 : decode cX4_keep 49 = .ok (.iinc 3 (-1), 3) := by decide +kernel
theorem dX4_keep_52 : decode cX4_keep 52 = .ok (.goto (-20), 3) := by decide +kernel
theorem dX4_keep_55 : decode cX4_keep 55 = .ok (.iconst 0, 1) := by decide +kernel
theorem dX4_keep_56 : decode cX4_keep 56 = .ok (.ireturn, 1) := by decide +kernel
theorem dX4_advise_0 : decode cX4_advise 0 = .ok (.iload_n 1, 1) := by decide +kernel
theorem dX4_advise_1 : decode cX4_advise 1 = .ok (.iconst 1, 1) := by decide +kernel
theorem dX4_advise_2 : decode cX4_advise 2 = .ok (.bipush 50, 2) := by decide +kernel
theorem dX4_advise_4 : decode cX4_advise 4 = .ok (.invokestatic 21, 3) := by decide +kernel
theorem dX4_advise_7 : decode cX4_advise 7 = .ok (.ifCond .ne 13, 3) := by decide +kernel
theorem dX4_advise_10 : decode cX4_advise 10 = .ok (.new 25, 3) := by decide +kernel
theorem dX4_advise_13 : decode cX4_advise 13 = .ok (.dup, 1) := by decide +kernel
theorem dX4_advise_14 : decode cX4_advise 14 = .ok (.ldc 213, 2) := by decide +kernel
theorem dX4_advise_16 : decode cX4_advise 16 = .ok (.invokespecial 29, 3) := by decide +kernel
theorem dX4_advise_19 : decode cX4_advise 19 = .ok (.athrow, 1) := by decide +kernel
theorem dX4_advise_20 : decode cX4_advise 20 = .ok (.iconst (-1), 1) := by decide +kernel
theorem dX4_advise_21 : decode cX4_advise 21 = .ok (.istore_n 2, 1) := by decide +kernel
theorem dX4_advise_22 : decode cX4_advise 22 = .ok (.aload_n 0, 1) := by decide +kernel
theorem dX4_advise_23 : decode cX4_advise 23 = .ok (.iload_n 1, 1) := by decide +kernel
theorem dX4_advise_24 : decode cX4_advise 24 = .ok (.iconst (-1), 1) := by decide +kernel
theorem dX4_advise_25 : decode cX4_advise 25 = .ok (.invokevirtual 218, 3) := by decide +kernel
theorem dX4_advise_28 : decode cX4_advise 28 = .ok (.istore_n 3, 1) := by decide +kernel
theorem dX4_advise_29 : decode cX4_advise 29 = .ok (.iconst 0, 1) := by decide +kernel
theorem dX4_advise_30 : decode cX4_advise 30 = .ok (.istore 4, 2) := by decide +kernel
theorem dX4_advise_32 : decode cX4_advise 32 = .ok (.iload 4, 2) := by decide +kernel
theorem dX4_advise_34 : decode cX4_advise 34 = .ok (.aload_n 0, 1) := by decide +kernel
theorem dX4_advise_35 : decode cX4_advise 35 = .ok (.getfield 14, 3) := by decide +kernel
theorem dX4_advise_38 : decode cX4_advise 38 = .ok (.getfield 186, 3) := by decide +kernel
theorem dX4_advise_41 : decode cX4_advise 41 = .ok (.if_icmp .ge 45, 3) := by decide +kernel
theorem dX4_advise_44 : decode cX4_advise 44 = .ok (.aload_n 0, 1) := by decide +kernel
theorem dX4_advise_45 : decode cX4_advise 45 = .ok (.getfield 14, 3) := by decide +kernel
theorem dX4_advise_48 : decode cX4_advise 48 = .ok (.iload 4, 2) := by decide +kernel
theorem dX4_advise_50 : decode cX4_advise 50 = .ok (.invokevirtual 38, 3) := by decide +kernel
theorem dX4_advise_53 : decode cX4_advise 53 = .ok (.invokevirtual 55, 3) := by decide +kernel
theorem dX4_advise_56 : decode cX4_advise 56 = .ok (.ifCond .eq 24, 3) := by decide +kernel
theorem dX4_advise_59 : decode cX4_advise 59 = .ok (.aload_n 0, 1) := by decide +kernel
theorem dX4_advise_60 : decode cX4_advise 60 = .ok (.iload_n 1, 1) := by decide +kernel
theorem dX4_advise_61 : decode cX4_advise 61 = .ok (.iload 4, 2) := by decide +kernel
theorem dX4_advise_63 : decode cX4_advise 63 = .ok (.invokevirtual 218, 3) := by decide +kernel
theorem dX4_advise_66 : decode cX4_advise 66 = .ok (.istore 5, 2) := by decide +kernel
theorem dX4_advise_68 : decode cX4_advise 68 = .ok (.iload 5, 2) := by decide +kernel
theorem dX4_advise_70 : decode cX4_advise 70 = .ok (.iload_n 3, 1) := by decide +kernel
theorem dX4_advise_71 : decode cX4_advise 71 = .ok (.if_icmp .le 9, 3) := by decide +kernel
theorem dX4_advise_74 : decode cX4_advise 74 = .ok (.iload 5, 2) := by decide +kernel
theorem dX4_advise_76 : decode cX4_advise 76 = .ok (.istore_n 3, 1) := by decide +kernel
theorem dX4_advise_77 : decode cX4_advise 77 = .ok (.iload 4, 2) := by decide +kernel
theorem dX4_advise_79 : decode cX4_advise 79 = .ok (.istore_n 2, 1) := by decide +kernel
theorem dX4_advise_80 : decode cX4_advise 80 = .ok (.iinc 4 1, 3) := by decide +kernel
theorem dX4_advise_83 : decode cX4_advise 83 = .ok (.goto (-51), 3) := by decide +kernel
theorem dX4_advise_86 : decode cX4_advise 86 = .ok (.iload_n 2, 1) := by decide +kernel
theorem dX4_advise_87 : decode cX4_advise 87 = .ok (.ireturn, 1) := by decide +kernel
theorem dX4_full_0 : decode cX4_full 0 = .ok (.aload_n 0, 1) := by decide +kernel
theorem dX4_full_1 : decode cX4_full 1 = .ok (.getfield 14, 3) := by decide +kernel
theorem dX4_full_4 : decode cX4_full 4 = .ok (.invokevirtual 221, 3) := by decide +kernel
theorem dX4_full_7 : decode cX4_full 7 = .ok (.istore_n 1, 1) := by decide +kernel
theorem dX4_full_8 : decode cX4_full 8 = .ok (.iload_n 1, 1) := by decide +kernel
theorem dX4_full_9 : decode cX4_full 9 = .ok (.ifCond .ne 7, 3) := by decide +kernel
theorem dX4_full_12 : decode cX4_full 12 = .ok (.dconst 0, 1) := by decide +kernel
theorem dX4_full_13 : decode cX4_full 13 = .ok (.goto 14, 3) := by decide +kernel
theorem dX4_full_16 : decode cX4_full 16 = .ok (.aload_n 0, 1) := by decide +kernel
theorem dX4_full_17 : decode cX4_full 17 = .ok (.getfield 14, 3) := by decide +kernel
theorem dX4_full_20 : decode cX4_full 20 = .ok (.invokevirtual 195, 3) := by decide +kernel
theorem dX4_full_23 : decode cX4_full 23 = .ok (.i2d, 1) := by decide +kernel
theorem dX4_full_24 : decode cX4_full 24 = .ok (.iload_n 1, 1) := by decide +kernel
theorem dX4_full_25 : decode cX4_full 25 = .ok (.i2d, 1) := by decide +kernel
theorem dX4_full_26 : decode cX4_full 26 = .ok (.ddiv, 1) := by decide +kernel
theorem dX4_full_27 : decode cX4_full 27 = .ok (.dreturn, 1) := by decide +kernel
theorem dX4_digest_0 : decode cX4_digest 0 = .ok (.ldc2_w 224, 3) := by decide +kernel
theorem dX4_digest_3 : decode cX4_digest 3 = .ok (.lstore_n 1, 1) := by decide +kernel
theorem dX4_digest_4 : decode cX4_digest 4 = .ok (.iconst 0, 1) := by decide +kernel
theorem dX4_digest_5 : decode cX4_digest 5 = .ok (.istore_n 3, 1) := by decide +kernel
theorem dX4_digest_6 : decode cX4_digest 6 = .ok (.iload_n 3, 1) := by decide +kernel
theorem dX4_digest_7 : decode cX4_digest 7 = .ok (.bipush 8, 2) := by decide +kernel
theorem dX4_digest_9 : decode cX4_digest 9 = .ok (.if_icmp .ge 22, 3) := by decide +kernel
theorem dX4_digest_12 : decode cX4_digest 12 = .ok (.lload_n 1, 1) := by decide +kernel
theorem dX4_digest_13 : decode cX4_digest 13 = .ok (.ldc2_w 226, 3) := by decide +kernel
theorem dX4_digest_16 : decode cX4_digest 16 = .ok (.lmul, 1) := by decide +kernel
theorem dX4_digest_17 : decode cX4_digest 17 = .ok (.aload_n 0, 1) := by decide +kernel
theorem dX4_digest_18 : decode cX4_digest 18 = .ok (.iload_n 3, 1) := by decide +kernel
theorem dX4_digest_19 : decode cX4_digest 19 = .ok (.invokevirtual 228, 3) := by decide +kernel
theorem dX4_digest_22 : decode cX4_digest 22 = .ok (.i2l, 1) := by decide +kernel
theorem dX4_digest_23 : decode cX4_digest 23 = .ok (.ladd, 1) := by decide +kernel
theorem dX4_digest_24 : decode cX4_digest 24 = .ok (.lstore_n 1, 1) := by decide +kernel
theorem dX4_digest_25 : decode cX4_digest 25 = .ok (.iinc 3 1, 3) := by decide +kernel
theorem dX4_digest_28 : decode cX4_digest 28 = .ok (.goto (-22), 3) := by decide +kernel
theorem dX4_digest_31 : decode cX4_digest 31 = .ok (.iconst 0, 1) := by decide +kernel
theorem dX4_digest_32 : decode cX4_digest 32 = .ok (.istore_n 3, 1) := by decide +kernel
theorem dX4_digest_33 : decode cX4_digest 33 = .ok (.iload_n 3, 1) := by decide +kernel
theorem dX4_digest_34 : decode cX4_digest 34 = .ok (.bipush 10, 2) := by decide +kernel
theorem dX4_digest_36 : decode cX4_digest 36 = .ok (.if_icmp .ge 28, 3) := by decide +kernel
theorem dX4_digest_39 : decode cX4_digest 39 = .ok (.lload_n 1, 1) := by decide +kernel
theorem dX4_digest_40 : decode cX4_digest 40 = .ok (.ldc2_w 226, 3) := by decide +kernel
theorem dX4_digest_43 : decode cX4_digest 43 = .ok (.lmul, 1) := by decide +kernel
theorem dX4_digest_44 : decode cX4_digest 44 = .ok (.aload_n 0, 1) := by decide +kernel
theorem dX4_digest_45 : decode cX4_digest 45 = .ok (.getfield 14, 3) := by decide +kernel
theorem dX4_digest_48 : decode cX4_digest 48 = .ok (.iload_n 3, 1) := by decide +kernel
theorem dX4_digest_49 : decode cX4_digest 49 = .ok (.invokevirtual 119, 3) := by decide +kernel
theorem dX4_digest_52 : decode cX4_digest 52 = .ok (.invokevirtual 125, 3) := by decide +kernel
theorem dX4_digest_55 : decode cX4_digest 55 = .ok (.i2l, 1) := by decide +kernel
theorem dX4_digest_56 : decode cX4_digest 56 = .ok (.ladd, 1) := by decide +kernel
theorem dX4_digest_57 : decode cX4_digest 57 = .ok (.lstore_n 1, 1) := by decide +kernel
theorem dX4_digest_58 : decode cX4_digest 58 = .ok (.iinc 3 1, 3) := by decide +kernel
theorem dX4_digest_61 : decode cX4_digest 61 = .ok (.goto (-28), 3) := by decide +kernel
theorem dX4_digest_64 : decode cX4_digest 64 = .ok (.iconst 0, 1) := by decide +kernel
theorem dX4_digest_65 : decode cX4_digest 65 = .ok (.istore_n 3, 1) := by decide +kernel
theorem dX4_digest_66 : decode cX4_digest 66 = .ok (.iload_n 3, 1) := by decide +kernel
theorem dX4_digest_67 : decode cX4_digest 67 = .ok (.aload_n 0, 1) := by decide +kernel
theorem dX4_digest_68 : decode cX4_digest 68 = .ok (.getfield 14, 3) := by decide +kernel
theorem dX4_digest_71 : decode cX4_digest 71 = .ok (.getfield 186, 3) := by decide +kernel
theorem dX4_digest_74 : decode cX4_digest 74 = .ok (.if_icmp .ge 40, 3) := by decide +kernel
theorem dX4_digest_77 : decode cX4_digest 77 = .ok (.iconst 0, 1) := by decide +kernel
theorem dX4_digest_78 : decode cX4_digest 78 = .ok (.istore 4, 2) := by decide +kernel
theorem dX4_digest_80 : decode cX4_digest 80 = .ok (.iload 4, 2) := by decide +kernel
theorem dX4_digest_82 : decode cX4_digest 82 = .ok (.bipush 12, 2) := by decide +kernel
theorem dX4_digest_84 : decode cX4_digest 84 = .ok (.if_icmp .ge 24, 3) := by decide +kernel
theorem dX4_digest_87 : decode cX4_digest 87 = .ok (.lload_n 1, 1) := by decide +kernel
theorem dX4_digest_88 : decode cX4_digest 88 = .ok (.ldc2_w 226, 3) := by decide +kernel
theorem dX4_digest_91 : decode cX4_digest 91 = .ok (.lmul, 1) := by decide +kernel
theorem dX4_digest_92 : decode cX4_digest 92 = .ok (.aload_n 0, 1) := by decide +kernel
theorem dX4_digest_93 : decode cX4_digest 93 = .ok (.iload_n 3, 1) := by decide +kernel
theorem dX4_digest_94 : decode cX4_digest 94 = .ok (.iload 4, 2) := by decide +kernel
theorem dX4_digest_96 : decode cX4_digest 96 = .ok (.invokevirtual 231, 3) := by decide +kernel
theorem dX4_digest_99 : decode cX4_digest 99 = .ok (.i2l, 1) := by decide +kernel
theorem dX4_digest_100 : decode cX4_digest 100 = .ok (.ladd, 1) := by decide +kernel
theorem dX4_digest_101 : decode cX4_digest 101 = .ok (.lstore_n 1, 1) := by decide +kernel
theorem dX4_digest_102 : decode cX4_digest 102 = .ok (.iinc 4 1, 3) := by decide +kernel
theorem dX4_digest_105 : decode cX4_digest 105 = .ok (.goto (-25), 3) := by decide +kernel
theorem dX4_digest_108 : decode cX4_digest 108 = .ok (.iinc 3 1, 3) := by decide +kernel
theorem dX4_digest_111 : decode cX4_digest 111 = .ok (.goto (-45), 3) := by decide +kernel
theorem dX4_digest_114 : decode cX4_digest 114 = .ok (.iconst 0, 1) := by decide +kernel
theorem dX4_digest_115 : decode cX4_digest 115 = .ok (.istore_n 3, 1) := by decide +kernel
theorem dX4_digest_116 : decode cX4_digest 116 = .ok (.iload_n 3, 1) := by decide +kernel
theorem dX4_digest_117 : decode cX4_digest 117 = .ok (.aload_n 0, 1) := by decide +kernel
theorem dX4_digest_118 : decode cX4_digest 118 = .ok (.getfield 14, 3) := by decide +kernel
theorem dX4_digest_121 : decode cX4_digest 121 = .ok (.getfield 189, 3) := by decide +kernel
theorem dX4_digest_124 : decode cX4_digest 124 = .ok (.if_icmp .ge 40, 3) := by decide +kernel
theorem dX4_digest_127 : decode cX4_digest 127 = .ok (.iconst 0, 1) := by decide +kernel
theorem dX4_digest_128 : decode cX4_digest 128 = .ok (.istore 4, 2) := by decide +kernel
theorem dX4_digest_130 : decode cX4_digest 130 = .ok (.iload 4, 2) := by decide +kernel
theorem dX4_digest_132 : decode cX4_digest 132 = .ok (.bipush 6, 2) := by decide +kernel
theorem dX4_digest_134 : decode cX4_digest 134 = .ok (.if_icmp .ge 24, 3) := by decide +kernel
theorem dX4_digest_137 : decode cX4_digest 137 = .ok (.lload_n 1, 1) := by decide +kernel
theorem dX4_digest_138 : decode cX4_digest 138 = .ok (.ldc2_w 226, 3) := by decide +kernel
theorem dX4_digest_141 : decode cX4_digest 141 = .ok (.lmul, 1) := by decide +kernel
theorem dX4_digest_142 : decode cX4_digest 142 = .ok (.aload_n 0, 1) := by decide +kernel
theorem dX4_digest_143 : decode cX4_digest 143 = .ok (.iload_n 3, 1) := by decide +kernel
theorem dX4_digest_144 : decode cX4_digest 144 = .ok (.iload 4, 2) := by decide +kernel
theorem dX4_digest_146 : decode cX4_digest 146 = .ok (.invokevirtual 233, 3) := by decide +kernel
theorem dX4_digest_149 : decode cX4_digest 149 = .ok (.i2l, 1) := by decide +kernel
theorem dX4_digest_150 : decode cX4_digest 150 = .ok (.ladd, 1) := by decide +kernel
theorem dX4_digest_151 : decode cX4_digest 151 = .ok (.lstore_n 1, 1) := by decide +kernel
theorem dX4_digest_152 : decode cX4_digest 152 = .ok (.iinc 4 1, 3) := by decide +kernel
theorem dX4_digest_155 : decode cX4_digest 155 = .ok (.goto (-25), 3) := by decide +kernel
theorem dX4_digest_158 : decode cX4_digest 158 = .ok (.iinc 3 1, 3) := by decide +kernel
theorem dX4_digest_161 : decode cX4_digest 161 = .ok (.goto (-45), 3) := by decide +kernel
theorem dX4_digest_164 : decode cX4_digest 164 = .ok (.lload_n 1, 1) := by decide +kernel
theorem dX4_digest_165 : decode cX4_digest 165 = .ok (.lreturn, 1) := by decide +kernel
theorem dX4_canKeep_0 : decode cX4_canKeep 0 = .ok (.aload_n 0, 1) := by decide +kernel
theorem dX4_canKeep_1 : decode cX4_canKeep 1 = .ok (.getfield 18, 3) := by decide +kernel
theorem dX4_canKeep_4 : decode cX4_canKeep 4 = .ok (.aload_n 0, 1) := by decide +kernel
theorem dX4_canKeep_5 : decode cX4_canKeep 5 = .ok (.getfield 14, 3) := by decide +kernel
theorem dX4_canKeep_8 : decode cX4_canKeep 8 = .ok (.invokevirtual 206, 3) := by decide +kernel
theorem dX4_canKeep_11 : decode cX4_canKeep 11 = .ok (.aload_n 0, 1) := by decide +kernel
theorem dX4_canKeep_12 : decode cX4_canKeep 12 = .ok (.getfield 18, 3) := by decide +kernel
theorem dX4_canKeep_15 : decode cX4_canKeep 15 = .ok (.aload_n 0, 1) := by decide +kernel
theorem dX4_canKeep_16 : decode cX4_canKeep 16 = .ok (.getfield 18, 3) := by decide +kernel
theorem dX4_canKeep_19 : decode cX4_canKeep 19 = .ok (.iload_n 1, 1) := by decide +kernel
theorem dX4_canKeep_20 : decode cX4_canKeep 20 = .ok (.iload_n 2, 1) := by decide +kernel
theorem dX4_canKeep_21 : decode cX4_canKeep 21 = .ok (.invokevirtual 143, 3) := by decide +kernel
theorem dX4_canKeep_24 : decode cX4_canKeep 24 = .ok (.invokevirtual 146, 3) := by decide +kernel
theorem dX4_canKeep_27 : decode cX4_canKeep 27 = .ok (.astore 4, 2) := by decide +kernel
theorem dX4_canKeep_29 : decode cX4_canKeep 29 = .ok (.iconst 0, 1) := by decide +kernel
theorem dX4_canKeep_30 : decode cX4_canKeep 30 = .ok (.istore 5, 2) := by decide +kernel
theorem dX4_canKeep_32 : decode cX4_canKeep 32 = .ok (.iload 5, 2) := by decide +kernel
theorem dX4_canKeep_34 : decode cX4_canKeep 34 = .ok (.iload_n 3, 1) := by decide +kernel
theorem dX4_canKeep_35 : decode cX4_canKeep 35 = .ok (.if_icmp .ge 27, 3) := by decide +kernel
theorem dX4_canKeep_38 : decode cX4_canKeep 38 = .ok (.aload_n 0, 1) := by decide +kernel
theorem dX4_canKeep_39 : decode cX4_canKeep 39 = .ok (.getfield 18, 3) := by decide +kernel
theorem dX4_canKeep_42 : decode cX4_canKeep 42 = .ok (.invokevirtual 210, 3) := by decide +kernel
theorem dX4_canKeep_45 : decode cX4_canKeep 45 = .ok (.pop, 1) := by decide +kernel
theorem dX4_canKeep_46 : decode cX4_canKeep 46 = .ok (.aload 4, 2) := by decide +kernel
theorem dX4_canKeep_48 : decode cX4_canKeep 48 = .ok (.getfield 170, 3) := by decide +kernel
theorem dX4_canKeep_51 : decode cX4_canKeep 51 = .ok (.ifCond .le 5, 3) := by decide +kernel
theorem dX4_canKeep_54 : decode cX4_canKeep 54 = .ok (.iconst 0, 1) := by decide +kernel
theorem dX4_canKeep_55 : decode cX4_canKeep 55 = .ok (.ireturn, 1) := by decide +kernel
theorem dX4_canKeep_56 : decode cX4_canKeep 56 = .ok (.iinc 5 1, 3) := by decide +kernel
theorem dX4_canKeep_59 : decode cX4_canKeep 59 = .ok (.goto (-27), 3) := by decide +kernel
theorem dX4_canKeep_62 : decode cX4_canKeep 62 = .ok (.iconst 1, 1) := by decide +kernel
theorem dX4_canKeep_63 : decode cX4_canKeep 63 = .ok (.ireturn, 1) := by decide +kernel
theorem dX4_waterBehind_0 : decode cX4_waterBehind 0 = .ok (.aload_n 0, 1) := by decide +kernel
theorem dX4_waterBehind_1 : decode cX4_waterBehind 1 = .ok (.getfield 18, 3) := by decide +kernel
theorem dX4_waterBehind_4 : decode cX4_waterBehind 4 = .ok (.aload_n 0, 1) := by decide +kernel
theorem dX4_waterBehind_5 : decode cX4_waterBehind 5 = .ok (.getfield 14, 3) := by decide +kernel
theorem dX4_waterBehind_8 : decode cX4_waterBehind 8 = .ok (.invokevirtual 206, 3) := by decide +kernel
theorem dX4_waterBehind_11 : decode cX4_waterBehind 11 = .ok (.iload_n 2, 1) := by decide +kernel
theorem dX4_waterBehind_12 : decode cX4_waterBehind 12 = .ok (.iconst (-1), 1) := by decide +kernel
theorem dX4_waterBehind_13 : decode cX4_waterBehind 13 = .ok (.if_icmp .eq 22, 3) := by decide +kernel
theorem dX4_waterBehind_16 : decode cX4_waterBehind 16 = .ok (.aload_n 0, 1) := by decide +kernel
theorem dX4_waterBehind_17 : decode cX4_waterBehind 17 = .ok (.getfield 18, 3) := by decide +kernel
theorem dX4_waterBehind_20 : decode cX4_waterBehind 20 = .ok (.iload_n 2, 1) := by decide +kernel
theorem dX4_waterBehind_21 : decode cX4_waterBehind 21 = .ok (.invokevirtual 38, 3) := by decide +kernel
theorem dX4_waterBehind_24 : decode cX4_waterBehind 24 = .ok (.aload_n 0, 1) := by decide +kernel
theorem dX4_waterBehind_25 : decode cX4_waterBehind 25 = .ok (.getfield 18, 3) := by decide +kernel
theorem dX4_waterBehind_28 : decode cX4_waterBehind 28 = .ok (.getfield 64, 3) := by decide +kernel
theorem dX4_waterBehind_31 : decode cX4_waterBehind 31 = .ok (.invokevirtual 73, 3) := by decide +kernel
theorem dX4_waterBehind_34 : decode cX4_waterBehind 34 = .ok (.pop, 1) := by decide +kernel
theorem dX4_waterBehind_35 : decode cX4_waterBehind 35 = .ok (.aload_n 0, 1) := by decide +kernel
theorem dX4_waterBehind_36 : decode cX4_waterBehind 36 = .ok (.getfield 18, 3) := by decide +kernel
theorem dX4_waterBehind_39 : decode cX4_waterBehind 39 = .ok (.iload_n 1, 1) := by decide +kernel
theorem dX4_waterBehind_40 : decode cX4_waterBehind 40 = .ok (.invokevirtual 180, 3) := by decide +kernel
theorem dX4_waterBehind_43 : decode cX4_waterBehind 43 = .ok (.pop, 1) := by decide +kernel
theorem dX4_waterBehind_44 : decode cX4_waterBehind 44 = .ok (.aload_n 0, 1) := by decide +kernel
theorem dX4_waterBehind_45 : decode cX4_waterBehind 45 = .ok (.getfield 18, 3) := by decide +kernel
theorem dX4_waterBehind_48 : decode cX4_waterBehind 48 = .ok (.invokevirtual 195, 3) := by decide +kernel
theorem dX4_waterBehind_51 : decode cX4_waterBehind 51 = .ok (.ireturn, 1) := by decide +kernel
theorem dX4_isWithin_0 : decode cX4_isWithin 0 = .ok (.iload_n 0, 1) := by decide +kernel
theorem dX4_isWithin_1 : decode cX4_isWithin 1 = .ok (.iload_n 1, 1) := by decide +kernel
theorem dX4_isWithin_2 : decode cX4_isWithin 2 = .ok (.if_icmp .lt 12, 3) := by decide +kernel
theorem dX4_isWithin_5 : decode cX4_isWithin 5 = .ok (.iload_n 0, 1) := by decide +kernel
theorem dX4_isWithin_6 : decode cX4_isWithin 6 = .ok (.iload_n 2, 1) := by decide +kernel
theorem dX4_isWithin_7 : decode cX4_isWithin 7 = .ok (.if_icmp .gt 7, 3) := by decide +kernel
theorem dX4_isWithin_10 : decode cX4_isWithin 10 = .ok (.iconst 1, 1) := by decide +kernel
theorem dX4_isWithin_11 : decode cX4_isWithin 11 = .ok (.goto 4, 3) := by decide +kernel
theorem dX4_isWithin_14 : decode cX4_isWithin 14 = .ok (.iconst 0, 1) := by decide +kernel
theorem dX4_isWithin_15 : decode cX4_isWithin 15 = .ok (.ireturn, 1) := by decide +kernel
theorem dJ9_floorMod_7cf53_0 : decode cJ9_floorMod_7cf53 0 = .ok (.iload_n 0, 1) := by decide +kernel
theorem dJ9_floorMod_7cf53_1 : decode cJ9_floorMod_7cf53 1 = .ok (.iload_n 1, 1) := by decide +kernel
theorem dJ9_floorMod_7cf53_2 : decode cJ9_floorMod_7cf53 2 = .ok (.irem, 1) := by decide +kernel
theorem dJ9_floorMod_7cf53_3 : decode cJ9_floorMod_7cf53 3 = .ok (.istore_n 2, 1) := by decide +kernel
theorem dJ9_floorMod_7cf53_4 : decode cJ9_floorMod_7cf53 4 = .ok (.iload_n 0, 1) := by decide +kernel
theorem dJ9_floorMod_7cf53_5 : decode cJ9_floorMod_7cf53 5 = .ok (.iload_n 1, 1) := by decide +kernel
theorem dJ9_floorMod_7cf53_6 : decode cJ9_floorMod_7cf53 6 = .ok (.ixor, 1) := by decide +kernel
theorem dJ9_floorMod_7cf53_7 : decode cJ9_floorMod_7cf53 7 = .ok (.ifCond .ge 11, 3) := by decide +kernel
theorem dJ9_floorMod_7cf53_10 : decode cJ9_floorMod_7cf53 10 = .ok (.iload_n 2, 1) := by decide +kernel
theorem dJ9_floorMod_7cf53_11 : decode cJ9_floorMod_7cf53 11 = .ok (.ifCond .eq 7, 3) := by decide +kernel
theorem dJ9_floorMod_7cf53_14 : decode cJ9_floorMod_7cf53 14 = .ok (.iload_n 2, 1) := by decide +kernel
theorem dJ9_floorMod_7cf53_15 : decode cJ9_floorMod_7cf53 15 = .ok (.iload_n 1, 1) := by decide +kernel
theorem dJ9_floorMod_7cf53_16 : decode cJ9_floorMod_7cf53 16 = .ok (.iadd, 1) := by decide +kernel
theorem dJ9_floorMod_7cf53_17 : decode cJ9_floorMod_7cf53 17 = .ok (.ireturn, 1) := by decide +kernel
theorem dJ9_floorMod_7cf53_18 : decode cJ9_floorMod_7cf53 18 = .ok (.iload_n 2, 1) := by decide +kernel
theorem dJ9_floorMod_7cf53_19 : decode cJ9_floorMod_7cf53 19 = .ok (.ireturn, 1) := by decide +kernel
theorem dJ9_abs_0f7a4_0 : decode cJ9_abs_0f7a4 0 = .ok (.iload_n 0, 1) := by decide +kernel
theorem dJ9_abs_0f7a4_1 : decode cJ9_abs_0f7a4 1 = .ok (.ifCond .ge 8, 3) := by decide +kernel
theorem dJ9_abs_0f7a4_4 : decode cJ9_abs_0f7a4 4 = .ok (.iload_n 0, 1) := by decide +kernel
theorem dJ9_abs_0f7a4_5 : decode cJ9_abs_0f7a4 5 = .ok (.ineg, 1) := by decide +kernel
theorem dJ9_abs_0f7a4_6 : decode cJ9_abs_0f7a4 6 = .ok (.goto 4, 3) := by decide +kernel
theorem dJ9_abs_0f7a4_9 : decode cJ9_abs_0f7a4 9 = .ok (.iload_n 0, 1) := by decide +kernel
theorem dJ9_abs_0f7a4_10 : decode cJ9_abs_0f7a4 10 = .ok (.ireturn, 1) := by decide +kernel
theorem dJ9_max_7cf53_0 : decode cJ9_max_7cf53 0 = .ok (.iload_n 0, 1) := by decide +kernel
theorem dJ9_max_7cf53_1 : decode cJ9_max_7cf53 1 = .ok (.iload_n 1, 1) := by decide +kernel
theorem dJ9_max_7cf53_2 : decode cJ9_max_7cf53 2 = .ok (.if_icmp .lt 7, 3) := by decide +kernel
theorem dJ9_max_7cf53_5 : decode cJ9_max_7cf53 5 = .ok (.iload_n 0, 1) := by decide +kernel
theorem dJ9_max_7cf53_6 : decode cJ9_max_7cf53 6 = .ok (.goto 4, 3) := by decide +kernel
theorem dJ9_max_7cf53_9 : decode cJ9_max_7cf53 9 = .ok (.iload_n 1, 1) := by decide +kernel
theorem dJ9_max_7cf53_10 : decode cJ9_max_7cf53 10 = .ok (.ireturn, 1) := by decide +kernel
theorem dJ9_min_7cf53_0 : decode cJ9_min_7cf53 0 = .ok (.iload_n 0, 1) := by decide +kernel
theorem dJ9_min_7cf53_1 : decode cJ9_min_7cf53 1 = .ok (.iload_n 1, 1) := by decide +kernel
theorem dJ9_min_7cf53_2 : decode cJ9_min_7cf53 2 = .ok (.if_icmp .gt 7, 3) := by decide +kernel
theorem dJ9_min_7cf53_5 : decode cJ9_min_7cf53 5 = .ok (.iload_n 0, 1) := by decide +kernel
theorem dJ9_min_7cf53_6 : decode cJ9_min_7cf53 6 = .ok (.goto 4, 3) := by decide +kernel
theorem dJ9_min_7cf53_9 : decode cJ9_min_7cf53 9 = .ok (.iload_n 1, 1) := by decide +kernel
theorem dJ9_min_7cf53_10 : decode cJ9_min_7cf53 10 = .ok (.ireturn, 1) := by decide +kernel
end
section
theorem dX5_init_0 : decode cX5_init 0 = .ok (.aload_n 0, 1) := by decide +kernel
theorem dX5_init_1 : decode cX5_init 1 = .ok (.invokespecial 1, 3) := by decide +kernel
theorem dX5_init_4 : decode cX5_init 4 = .ok (.aload_n 0, 1) := by decide +kernel
theorem dX5_init_5 : decode cX5_init 5 = .ok (.bipush 50, 2) := by decide +kernel
theorem dX5_init_7 : decode cX5_init 7 = .ok (.newarray .int, 2) := by decide +kernel
theorem dX5_init_9 : decode cX5_init 9 = .ok (.putfield 9, 3) := by decide +kernel
theorem dX5_init_12 : decode cX5_init 12 = .ok (.aload_n 0, 1) := by decide +kernel
theorem dX5_init_13 : decode cX5_init 13 = .ok (.bipush 30, 2) := by decide +kernel
theorem dX5_init_15 : decode cX5_init 15 = .ok (.newarray .int, 2) := by decide +kernel
theorem dX5_init_17 : decode cX5_init 17 = .ok (.putfield 13, 3) := by decide +kernel
theorem dX5_init_20 : decode cX5_init 20 = .ok (.aload_n 0, 1) := by decide +kernel
theorem dX5_init_21 : decode cX5_init 21 = .ok (.bipush 50, 2) := by decide +kernel
theorem dX5_init_23 : decode cX5_init 23 = .ok (.newarray .int, 2) := by decide +kernel
theorem dX5_init_25 : decode cX5_init 25 = .ok (.putfield 16, 3) := by decide +kernel
theorem dX5_init_28 : decode cX5_init 28 = .ok (.aload_n 0, 1) := by decide +kernel
theorem dX5_init_29 : decode cX5_init 29 = .ok (.bipush 35, 2) := by decide +kernel
theorem dX5_init_31 : decode cX5_init 31 = .ok (.newarray .int, 2) := by decide +kernel
theorem dX5_init_33 : decode cX5_init 33 = .ok (.putfield 19, 3) := by decide +kernel
theorem dX5_init_36 : decode cX5_init 36 = .ok (.aload_n 0, 1) := by decide +kernel
theorem dX5_init_37 : decode cX5_init 37 = .ok (.iconst 2, 1) := by decide +kernel
theorem dX5_init_38 : decode cX5_init 38 = .ok (.newarray .int, 2) := by decide +kernel
theorem dX5_init_40 : decode cX5_init 40 = .ok (.dup, 1) := by decide +kernel
theorem dX5_init_41 : decode cX5_init 41 = .ok (.iconst 0, 1) := by decide +kernel
theorem dX5_init_42 : decode cX5_init 42 = .ok (.iconst 0, 1) := by decide +kernel
theorem dX5_init_43 : decode cX5_init 43 = .ok (.iastore, 1) := by decide +kernel
theorem dX5_init_44 : decode cX5_init 44 = .ok (.dup, 1) := by decide +kernel
theorem dX5_init_45 : decode cX5_init 45 = .ok (.iconst 1, 1) := by decide +kernel
theorem dX5_init_46 : decode cX5_init 46 = .ok (.bipush 100, 2) := by decide +kernel
theorem dX5_init_48 : decode cX5_init 48 = .ok (.iastore, 1) := by decide +kernel
theorem dX5_init_49 : decode cX5_init 49 = .ok (.putfield 22, 3) := by decide +kernel
theorem dX5_init_52 : decode cX5_init 52 = .ok (.return_, 1) := by decide +kernel
theorem dX5_thrown_0 : decode cX5_thrown 0 = .ok (.aload_n 0, 1) := by decide +kernel
theorem dX5_thrown_1 : decode cX5_thrown 1 = .ok (.getfield 25, 3) := by decide +kernel
theorem dX5_thrown_4 : decode cX5_thrown 4 = .ok (.ireturn, 1) := by decide +kernel
theorem dX5_fail_0 : decode cX5_fail 0 = .ok (.aload_n 0, 1) := by decide +kernel
theorem dX5_fail_1 : decode cX5_fail 1 = .ok (.iload_n 1, 1) := by decide +kernel
theorem dX5_fail_2 : decode cX5_fail 2 = .ok (.putfield 25, 3) := by decide +kernel
theorem dX5_fail_5 : decode cX5_fail 5 = .ok (.iconst 0, 1) := by decide +kernel
theorem dX5_fail_6 : decode cX5_fail 6 = .ok (.ireturn, 1) := by decide +kernel
theorem dX5_isIn_0 : decode cX5_isIn 0 = .ok (.iload_n 0, 1) := by decide +kernel
theorem dX5_isIn_1 : decode cX5_isIn 1 = .ok (.iload_n 1, 1) := by decide +kernel
theorem dX5_isIn_2 : decode cX5_isIn 2 = .ok (.if_icmp .lt 12, 3) := by decide +kernel
theorem dX5_isIn_5 : decode cX5_isIn 5 = .ok (.iload_n 0, 1) := by decide +kernel
theorem dX5_isIn_6 : decode cX5_isIn 6 = .ok (.iload_n 2, 1) := by decide +kernel
theorem dX5_isIn_7 : decode cX5_isIn 7 = .ok (.if_icmp .gt 7, 3) := by decide +kernel
theorem dX5_isIn_10 : decode cX5_isIn 10 = .ok (.iconst 1, 1) := by decide +kernel
theorem dX5_isIn_11 : decode cX5_isIn 11 = .ok (.goto 4, 3) := by decide +kernel
theorem dX5_isIn_14 : decode cX5_isIn 14 = .ok (.iconst 0, 1) := by decide +kernel
theorem dX5_isIn_15 : decode cX5_isIn 15 = .ok (.ireturn, 1) := by decide +kernel
theorem dX5_isPond_0 : decode cX5_isPond 0 = .ok (.iload_n 1, 1) := by decide +kernel
theorem dX5_isPond_1 : decode cX5_isPond 1 = .ok (.iconst 0, 1) := by decide +kernel
theorem dX5_isPond_2 : decode cX5_isPond 2 = .ok (.aload_n 0, 1) := by decide +kernel
theorem dX5_isPond_3 : decode cX5_isPond 3 = .ok (.getfield 29, 3) := by decide +kernel
theorem dX5_isPond_6 : decode cX5_isPond 6 = .ok (.iconst 1, 1) := by decide +kernel
theorem dX5_isPond_7 : decode cX5_isPond 7 = .ok (.isub, 1) := by decide +kernel
theorem dX5_isPond_8 : decode cX5_isPond 8 = .ok (.invokestatic 32, 3) := by decide +kernel
theorem dX5_isPond_11 : decode cX5_isPond 11 = .ok (.ireturn, 1) := by decide +kernel
theorem dX5_isFlock_0 : decode cX5_isFlock 0 = .ok (.iload_n 1, 1) := by decide +kernel
theorem dX5_isFlock_1 : decode cX5_isFlock 1 = .ok (.iconst 0, 1) := by decide +kernel
theorem dX5_isFlock_2 : decode cX5_isFlock 2 = .ok (.aload_n 0, 1) := by decide +kernel
theorem dX5_isFlock_3 : decode cX5_isFlock 3 = .ok (.getfield 36, 3) := by decide +kernel
theorem dX5_isFlock_6 : decode cX5_isFlock 6 = .ok (.iconst 1, 1) := by decide +kernel
theorem dX5_isFlock_7 : decode cX5_isFlock 7 = .ok (.isub, 1) := by decide +kernel
theorem dX5_isFlock_8 : decode cX5_isFlock 8 = .ok (.invokestatic 32, 3) := by decide +kernel
theorem dX5_isFlock_11 : decode cX5_isFlock 11 = .ok (.ireturn, 1) := by decide +kernel
theorem dX5_fx_0 : decode cX5_fx 0 = .ok (.aload_n 0, 1) := by decide +kernel
theorem dX5_fx_1 : decode cX5_fx 1 = .ok (.getfield 9, 3) := by decide +kernel
theorem dX5_fx_4 : decode cX5_fx 4 = .ok (.iconst 5, 1) := by decide +kernel
theorem dX5_fx_5 : decode cX5_fx 5 = .ok (.iload_n 1, 1) := by decide +kernel
theorem dX5_fx_6 : decode cX5_fx 6 = .ok (.imul, 1) := by decide +kernel
theorem dX5_fx_7 : decode cX5_fx 7 = .ok (.iload_n 2, 1) := by decide +kernel
theorem dX5_fx_8 : decode cX5_fx 8 = .ok (.iadd, 1) := by decide +kernel
theorem dX5_fx_9 : decode cX5_fx 9 = .ok (.iaload, 1) := by decide +kernel
theorem dX5_fx_10 : decode cX5_fx 10 = .ok (.ireturn, 1) := by decide +kernel
theorem dX5_po_0 : decode cX5_po 0 = .ok (.aload_n 0, 1) := by decide +kernel
theorem dX5_po_1 : decode cX5_po 1 = .ok (.getfield 16, 3) := by decide +kernel
theorem dX5_po_4 : decode cX5_po 4 = .ok (.iconst 5, 1) := by decide +kernel
theorem dX5_po_5 : decode cX5_po 5 = .ok (.iload_n 1, 1) := by decide +kernel
theorem dX5_po_6 : decode cX5_po 6 = .ok (.imul, 1) := by decide +kernel
theorem dX5_po_7 : decode cX5_po 7 = .ok (.iload_n 2, 1) := by decide +kernel
theorem dX5_po_8 : decode cX5_po 8 = .ok (.iadd, 1) := by decide +kernel
theorem dX5_po_9 : decode cX5_po 9 = .ok (.iaload, 1) := by decide +kernel
theorem dX5_po_10 : decode cX5_po 10 = .ok (.ireturn, 1) := by decide +kernel
theorem dX5_set_0 : decode cX5_set 0 = .ok (.aload_n 0, 1) := by decide +kernel
theorem dX5_set_1 : decode cX5_set 1 = .ok (.getfield 16, 3) := by decide +kernel
theorem dX5_set_4 : decode cX5_set 4 = .ok (.iconst 5, 1) := by decide +kernel
theorem dX5_set_5 : decode cX5_set 5 = .ok (.iload_n 1, 1) := by decide +kernel
theorem dX5_set_6 : decode cX5_set 6 = .ok (.imul, 1) := by decide +kernel
theorem dX5_set_7 : decode cX5_set 7 = .ok (.iload_n 2, 1) := by decide +kernel
theorem dX5_set_8 : decode cX5_set 8 = .ok (.iadd, 1) := by decide +kernel
theorem dX5_set_9 : decode cX5_set 9 = .ok (.iload_n 3, 1) := by decide +kernel
theorem dX5_set_10 : decode cX5_set 10 = .ok (.iastore, 1) := by decide +kernel
theorem dX5_set_11 : decode cX5_set 11 = .ok (.return_, 1) := by decide +kernel
theorem dX5_fl_0 : decode cX5_fl 0 = .ok (.aload_n 0, 1) := by decide +kernel
theorem dX5_fl_1 : decode cX5_fl 1 = .ok (.getfield 19, 3) := by decide +kernel
theorem dX5_fl_4 : decode cX5_fl 4 = .ok (.iconst 5, 1) := by decide +kernel
theorem dX5_fl_5 : decode cX5_fl 5 = .ok (.iload_n 1, 1) := by decide +kernel
theorem dX5_fl_6 : decode cX5_fl 6 = .ok (.imul, 1) := by decide +kernel
theorem dX5_fl_7 : decode cX5_fl 7 = .ok (.iload_n 2, 1) := by decide +kernel
theorem dX5_fl_8 : decode cX5_fl 8 = .ok (.iadd, 1) := by decide +kernel
theorem dX5_fl_9 : decode cX5_fl 9 = .ok (.iaload, 1) := by decide +kernel
theorem dX5_fl_10 : decode cX5_fl 10 = .ok (.ireturn, 1) := by decide +kernel
theorem dX5_setFl_0 : decode cX5_setFl 0 = .ok (.aload_n 0, 1) := by decide +kernel
theorem dX5_setFl_1 : decode cX5_setFl 1 = .ok (.getfield 19, 3) := by decide +kernel
theorem dX5_setFl_4 : decode cX5_setFl 4 = .ok (.iconst 5, 1) := by decide +kernel
theorem dX5_setFl_5 : decode cX5_setFl 5 = .ok (.iload_n 1, 1) := by decide +kernel
theorem dX5_setFl_6 : decode cX5_setFl 6 = .ok (.imul, 1) := by decide +kernel
theorem dX5_setFl_7 : decode cX5_setFl 7 = .ok (.iload_n 2, 1) := by decide +kernel
theorem dX5_setFl_8 : decode cX5_setFl 8 = .ok (.iadd, 1) := by decide +kernel
theorem dX5_setFl_9 : decode cX5_setFl 9 = .ok (.iload_n 3, 1) := by decide +kernel
theorem dX5_setFl_10 : decode cX5_setFl 10 = .ok (.iastore, 1) := by decide +kernel
theorem dX5_setFl_11 : decode cX5_setFl 11 = .ok (.return_, 1) := by decide +kernel
theorem dX5_holds_0 : decode cX5_holds 0 = .ok (.aload_n 0, 1) := by decide +kernel
theorem dX5_holds_1 : decode cX5_holds 1 = .ok (.iload_n 1, 1) := by decide +kernel
theorem dX5_holds_2 : decode cX5_holds 2 = .ok (.iconst 3, 1) := by decide +kernel
theorem dX5_holds_3 : decode cX5_holds 3 = .ok (.invokevirtual 39, 3) := by decide +kernel
theorem dX5_holds_6 : decode cX5_holds 6 = .ok (.aload_n 0, 1) := by decide +kernel
theorem dX5_holds_7 : decode cX5_holds 7 = .ok (.iload_n 1, 1) := by decide +kernel
theorem dX5_holds_8 : decode cX5_holds 8 = .ok (.iconst 4, 1) := by decide +kernel
theorem dX5_holds_9 : decode cX5_holds 9 = .ok (.invokevirtual 39, 3) := by decide +kernel
theorem dX5_holds_12 : decode cX5_holds 12 = .ok (.imul, 1) := by decide +kernel
theorem dX5_holds_13 : decode cX5_holds 13 = .ok (.bipush 10, 2) := by decide +kernel
theorem dX5_holds_15 : decode cX5_holds 15 = .ok (.imul, 1) := by decide +kernel
theorem dX5_holds_16 : decode cX5_holds 16 = .ok (.ireturn, 1) := by decide +kernel
theorem dX5_far_0 : decode cX5_far 0 = .ok (.aload_n 0, 1) := by decide +kernel
theorem dX5_far_1 : decode cX5_far 1 = .ok (.iload_n 1, 1) := by decide +kernel
theorem dX5_far_2 : decode cX5_far 2 = .ok (.iconst 0, 1) := by decide +kernel
theorem dX5_far_3 : decode cX5_far 3 = .ok (.invokevirtual 39, 3) := by decide +kernel
theorem dX5_far_6 : decode cX5_far 6 = .ok (.aload_n 0, 1) := by decide +kernel
theorem dX5_far_7 : decode cX5_far 7 = .ok (.iload_n 2, 1) := by decide +kernel
theorem dX5_far_8 : decode cX5_far 8 = .ok (.iconst 0, 1) := by decide +kernel
theorem dX5_far_9 : decode cX5_far 9 = .ok (.invokevirtual 39, 3) := by decide +kernel
theorem dX5_far_12 : decode cX5_far 12 = .ok (.isub, 1) := by decide +kernel
theorem dX5_far_13 : decode cX5_far 13 = .ok (.invokestatic 43, 3) := by decide +kernel
theorem dX5_far_16 : decode cX5_far 16 = .ok (.aload_n 0, 1) := by decide +kernel
theorem dX5_far_17 : decode cX5_far 17 = .ok (.iload_n 1, 1) := by decide +kernel
theorem dX5_far_18 : decode cX5_far 18 = .ok (.iconst 1, 1) := by decide +kernel
theorem dX5_far_19 : decode cX5_far 19 = .ok (.invokevirtual 39, 3) := by decide +kernel
theorem dX5_far_22 : decode cX5_far 22 = .ok (.aload_n 0, 1) := by decide +kernel
theorem dX5_far_23 : decode cX5_far 23 = .ok (.iload_n 2, 1) := by decide +kernel
theorem dX5_far_24 : decode cX5_far 24 = .ok (.iconst 1, 1) := by decide +kernel
theorem dX5_far_25 : decode cX5_far 25 = .ok (.invokevirtual 39, 3) := by decide +kernel
theorem dX5_far_28 : decode cX5_far 28 = .ok (.isub, 1) := by decide +kernel
theorem dX5_far_29 : decode cX5_far 29 = .ok (.invokestatic 43, 3) := by decide +kernel
theorem dX5_far_32 : decode cX5_far 32 = .ok (.iadd, 1) := by decide +kernel
theorem dX5_far_33 : decode cX5_far 33 = .ok (.ireturn, 1) := by decide +kernel
theorem dX5_dig_0 : decode cX5_dig 0 = .ok (.aload_n 0, 1) := by decide +kernel
theorem dX5_dig_1 : decode cX5_dig 1 = .ok (.iconst 0, 1) := by decide +kernel
theorem dX5_dig_2 : decode cX5_dig 2 = .ok (.putfield 25, 3) := by decide +kernel
theorem dX5_dig_5 : decode cX5_dig 5 = .ok (.iload_n 1, 1) := by decide +kernel
theorem dX5_dig_6 : decode cX5_dig 6 = .ok (.iconst 0, 1) := by decide +kernel
theorem dX5_dig_7 : decode cX5_dig 7 = .ok (.bipush 40, 2) := by decide +kernel
theorem dX5_dig_9 : decode cX5_dig 9 = .ok (.invokestatic 32, 3) := by decide +kernel
theorem dX5_dig_12 : decode cX5_dig 12 = .ok (.ifCond .eq 46, 3) := by decide +kernel
theorem dX5_dig_15 : decode cX5_dig 15 = .ok (.iload_n 2, 1) := by decide +kernel
theorem dX5_dig_16 : decode cX5_dig 16 = .ok (.iconst 0, 1) := by decide +kernel
theorem dX5_dig_17 : decode cX5_dig 17 = .ok (.bipush 40, 2) := by decide +kernel
theorem dX5_dig_19 : decode cX5_dig 19 = .ok (.invokestatic 32, 3) := by decide +kernel
theorem dX5_dig_22 : decode cX5_dig 22 = .ok (.ifCond .eq 36, 3) := by decide +kernel
theorem dX5_dig_25 : decode cX5_dig 25 = .ok (.iload_n 3, 1) := by decide +kernel
theorem dX5_dig_26 : decode cX5_dig 26 = .ok (.iconst 0, 1) := by decide +kernel
theorem dX5_dig_27 : decode cX5_dig 27 = .ok (.sipush 300, 3) := by decide +kernel
theorem dX5_dig_30 : decode cX5_dig 30 = .ok (.invokestatic 32, 3) := by decide +kernel
theorem dX5_dig_33 : decode cX5_dig 33 = .ok (.ifCond .eq 25, 3) := by decide +kernel
theorem dX5_dig_36 : decode cX5_dig 36 = .ok (.iload 4, 2) := by decide +kernel
theorem dX5_dig_38 : decode cX5_dig 38 = .ok (.iconst 1, 1) := by decide +kernel
theorem dX5_dig_39 : decode cX5_dig 39 = .ok (.bipush 60, 2) := by decide +kernel
theorem dX5_dig_41 : decode cX5_dig 41 = .ok (.invokestatic 32, 3) := by decide +kernel
theorem dX5_dig_44 : decode cX5_dig 44 = .ok (.ifCond .eq 14, 3) := by decide +kernel
theorem dX5_dig_47 : decode cX5_dig 47 = .ok (.iload 5, 2) := by decide +kernel
theorem dX5_dig_49 : decode cX5_dig 49 = .ok (.iconst 1, 1) := by decide +kernel
theorem dX5_dig_50 : decode cX5_dig 50 = .ok (.bipush 9, 2) := by decide +kernel
theorem dX5_dig_52 : decode cX5_dig 52 = .ok (.invokestatic 32, 3) := by decide +kernel
theorem dX5_dig_55 : decode cX5_dig 55 = .ok (.ifCond .ne 9, 3) := by decide +kernel
theorem dX5_dig_58 : decode cX5_dig 58 = .ok (.aload_n 0, 1) := by decide +kernel
theorem dX5_dig_59 : decode cX5_dig 59 = .ok (.iconst 1, 1) := by decide +kernel
theorem dX5_dig_60 : decode cX5_dig 60 = .ok (.invokevirtual 49, 3) := by decide +kernel
theorem dX5_dig_63 : decode cX5_dig 63 = .ok (.ireturn, 1) := by decide +kernel
theorem dX5_dig_64 : decode cX5_dig 64 = .ok (.aload_n 0, 1) := by decide +kernel
theorem dX5_dig_65 : decode cX5_dig 65 = .ok (.getfield 29, 3) := by decide +kernel
theorem dX5_dig_68 : decode cX5_dig 68 = .ok (.bipush 10, 2) := by decide +kernel
theorem dX5_dig_70 : decode cX5_dig 70 = .ok (.if_icmp .ge 7, 3) := by decide +kernel
theorem dX5_dig_73 : decode cX5_dig 73 = .ok (.iconst 1, 1) := by decide +kernel
theorem dX5_dig_74 : decode cX5_dig 74 = .ok (.goto 4, 3) := by decide +kernel
theorem dX5_dig_77 : decode cX5_dig 77 = .ok (.iconst 0, 1) := by decide +kernel
theorem dX5_dig_78 : decode cX5_dig 78 = .ok (.istore 6, 2) := by decide +kernel
theorem dX5_dig_80 : decode cX5_dig 80 = .ok (.iconst 0, 1) := by decide +kernel
theorem dX5_dig_81 : decode cX5_dig 81 = .ok (.istore 7, 2) := by decide +kernel
theorem dX5_dig_83 : decode cX5_dig 83 = .ok (.iload 7, 2) := by decide +kernel
theorem dX5_dig_85 : decode cX5_dig 85 = .ok (.aload_n 0, 1) := by decide +kernel
theorem dX5_dig_86 : decode cX5_dig 86 = .ok (.getfield 29, 3) := by decide +kernel
theorem dX5_dig_89 : decode cX5_dig 89 = .ok (.if_icmp .ge 43, 3) := by decide +kernel
theorem dX5_dig_92 : decode cX5_dig 92 = .ok (.iload 6, 2) := by decide +kernel
theorem dX5_dig_94 : decode cX5_dig 94 = .ok (.ifCond .eq 29, 3) := by decide +kernel
theorem dX5_dig_97 : decode cX5_dig 97 = .ok (.aload_n 0, 1) := by decide +kernel
theorem dX5_dig_98 : decode cX5_dig 98 = .ok (.iload 7, 2) := by decide +kernel
theorem dX5_dig_100 : decode cX5_dig 100 = .ok (.iconst 0, 1) := by decide +kernel
theorem dX5_dig_101 : decode cX5_dig 101 = .ok (.invokevirtual 39, 3) := by decide +kernel
theorem dX5_dig_104 : decode cX5_dig 104 = .ok (.iload_n 1, 1) := by decide +kernel
theorem dX5_dig_105 : decode cX5_dig 105 = .ok (.if_icmp .ne 14, 3) := by decide +kernel
theorem dX5_dig_108 : decode cX5_dig 108 = .ok (.aload_n 0, 1) := by decide +kernel
theorem dX5_dig_109 : decode cX5_dig 109 = .ok (.iload 7, 2) := by decide +kernel
theorem dX5_dig_111 : decode cX5_dig 111 = .ok (.iconst 1, 1) := by decide +kernel
theorem dX5_dig_112 : decode cX5_dig 112 = .ok (.invokevirtual 39, 3) := by decide +kernel
theorem dX5_dig_115 : decode cX5_dig 115 = .ok (.iload_n 2, 1) := by decide +kernel
theorem dX5_dig_116 : decode cX5_dig 116 = .ok (.if_icmp .eq 7, 3) := by decide +kernel
theorem dX5_dig_119 : decode cX5_dig 119 = .ok (.iconst 1, 1) := by decide +kernel
theorem dX5_dig_120 : decode cX5_dig 120 = .ok (.goto 4, 3) := by decide +kernel
theorem dX5_dig_123 : decode cX5_dig 123 = .ok (.iconst 0, 1) := by decide +kernel
theorem dX5_dig_124 : decode cX5_dig 124 = .ok (.istore 6, 2) := by decide +kernel
theorem dX5_dig_126 : decode cX5_dig 126 = .ok (.iinc 7 1, 3) := by decide +kernel
theorem dX5_dig_129 : decode cX5_dig 129 = .ok (.goto (-46), 3) := by decide +kernel
theorem dX5_dig_132 : decode cX5_dig 132 = .ok (.iload 6, 2) := by decide +kernel
theorem dX5_dig_134 : decode cX5_dig 134 = .ok (.ifCond .ne 9, 3) := by decide +kernel
theorem dX5_dig_137 : decode cX5_dig 137 = .ok (.aload_n 0, 1) := by decide +kernel
theorem dX5_dig_138 : decode cX5_dig 138 = .ok (.iconst 2, 1) := by decide +kernel
theorem dX5_dig_139 : decode cX5_dig 139 = .ok (.invokevirtual 49, 3) := by decide +kernel
theorem dX5_dig_142 : decode cX5_dig 142 = .ok (.ireturn, 1) := by decide +kernel
theorem dX5_dig_143 : decode cX5_dig 143 = .ok (.iconst 5, 1) := by decide +kernel
theorem dX5_dig_144 : decode cX5_dig 144 = .ok (.newarray .int, 2) := by decide +kernel
theorem dX5_dig_146 : decode cX5_dig 146 = .ok (.dup, 1) := by decide +kernel
theorem dX5_dig_147 : decode cX5_dig 147 = .ok (.iconst 0, 1) := by decide +kernel
theorem dX5_dig_148 : decode cX5_dig 148 = .ok (.iload_n 1, 1) := by decide +kernel
theorem dX5_dig_149 : decode cX5_dig 149 = .ok (.iastore, 1) := by decide +kernel
theorem dX5_dig_150 : decode cX5_dig 150 = .ok (.dup, 1) := by decide +kernel
theorem dX5_dig_151 : decode cX5_dig 151 = .ok (.iconst 1, 1) := by decide +kernel
theorem dX5_dig_152 : decode cX5_dig 152 = .ok (.iload_n 2, 1) := by decide +kernel
theorem dX5_dig_153 : decode cX5_dig 153 = .ok (.iastore, 1) := by decide +kernel
theorem dX5_dig_154 : decode cX5_dig 154 = .ok (.dup, 1) := by decide +kernel
theorem dX5_dig_155 : decode cX5_dig 155 = .ok (.iconst 2, 1) := by decide +kernel
theorem dX5_dig_156 : decode cX5_dig 156 = .ok (.iload_n 3, 1) := by decide +kernel
theorem dX5_dig_157 : decode cX5_dig 157 = .ok (.iastore, 1) := by decide +kernel
theorem dX5_dig_158 : decode cX5_dig 158 = .ok (.dup, 1) := by decide +kernel
theorem dX5_dig_159 : decode cX5_dig 159 = .ok (.iconst 3, 1) := by decide +kernel
theorem dX5_dig_160 : decode cX5_dig 160 = .ok (.iload 4, 2) := by decide +kernel
theorem dX5_dig_162 : decode cX5_dig 162 = .ok (.iastore, 1) := by decide +kernel
theorem dX5_dig_163 : decode cX5_dig 163 = .ok (.dup, 1) := by decide +kernel
theorem dX5_dig_164 : decode cX5_dig 164 = .ok (.iconst 4, 1) := by decide +kernel
theorem dX5_dig_165 : decode cX5_dig 165 = .ok (.iload 5, 2) := by decide +kernel
theorem dX5_dig_167 : decode cX5_dig 167 = .ok (.iastore, 1) := by decide +kernel
theorem dX5_dig_168 : decode cX5_dig 168 = .ok (.astore 7, 2) := by decide +kernel
theorem dX5_dig_170 : decode cX5_dig 170 = .ok (.aload 7, 2) := by decide +kernel
theorem dX5_dig_172 : decode cX5_dig 172 = .ok (.iconst 0, 1) := by decide +kernel
theorem dX5_dig_173 : decode cX5_dig 173 = .ok (.aload_n 0, 1) := by decide +kernel
theorem dX5_dig_174 : decode cX5_dig 174 = .ok (.getfield 9, 3) := by decide +kernel
theorem dX5_dig_177 : decode cX5_dig 177 = .ok (.iconst 5, 1) := by decide +kernel
theorem dX5_dig_178 : decode cX5_dig 178 = .ok (.aload_n 0, 1) := by decide +kernel
theorem dX5_dig_179 : decode cX5_dig 179 = .ok (.getfield 29, 3) := by decide +kernel
theorem dX5_dig_182 : decode cX5_dig 182 = .ok (.imul, 1) := by decide +kernel
theorem dX5_dig_183 : decode cX5_dig 183 = .ok (.iconst 5, 1) := by decide +kernel
theorem dX5_dig_184 : decode cX5_dig 184 = .ok (.invokestatic 52, 3) := by decide +kernel
theorem dX5_dig_187 : decode cX5_dig 187 = .ok (.aload_n 0, 1) := by decide +kernel
theorem dX5_dig_188 : decode cX5_dig 188 = .ok (.aload_n 0, 1) := by decide +kernel
theorem dX5_dig_189 : decode cX5_dig 189 = .ok (.getfield 29, 3) := by decide +kernel
theorem dX5_dig_192 : decode cX5_dig 192 = .ok (.iconst 3, 1) := by decide +kernel
theorem dX5_dig_193 : decode cX5_dig 193 = .ok (.iconst (-1), 1) := by decide +kernel
theorem dX5_dig_194 : decode cX5_dig 194 = .ok (.invokevirtual 58, 3) := by decide +kernel
theorem dX5_dig_197 : decode cX5_dig 197 = .ok (.aload_n 0, 1) := by decide +kernel
theorem dX5_dig_198 : decode cX5_dig 198 = .ok (.dup, 1) := by decide +kernel
theorem dX5_dig_199 : decode cX5_dig 199 = .ok (.getfield 29, 3) := by decide +kernel
theorem dX5_dig_202 : decode cX5_dig 202 = .ok (.iconst 1, 1) := by decide +kernel
theorem dX5_dig_203 : decode cX5_dig 203 = .ok (.iadd, 1) := by decide +kernel
theorem dX5_dig_204 : decode cX5_dig 204 = .ok (.putfield 29, 3) := by decide +kernel
theorem dX5_dig_207 : decode cX5_dig 207 = .ok (.aload_n 0, 1) := by decide +kernel
theorem dX5_dig_208 : decode cX5_dig 208 = .ok (.getfield 29, 3) := by decide +kernel
theorem dX5_dig_211 : decode cX5_dig 211 = .ok (.iconst 1, 1) := by decide +kernel
theorem dX5_dig_212 : decode cX5_dig 212 = .ok (.isub, 1) := by decide +kernel
theorem dX5_dig_213 : decode cX5_dig 213 = .ok (.ireturn, 1) := by decide +kernel
theorem dX5_link_0 : decode cX5_link 0 = .ok (.aload_n 0, 1) := by decide +kernel
theorem dX5_link_1 : decode cX5_link 1 = .ok (.iconst 0, 1) := by decide +kernel
theorem dX5_link_2 : decode cX5_link 2 = .ok (.putfield 25, 3) := by decide +kernel
theorem dX5_link_5 : decode cX5_link 5 = .ok (.aload_n 0, 1) := by decide +kernel
theorem dX5_link_6 : decode cX5_link 6 = .ok (.iload_n 1, 1) := by decide +kernel
theorem dX5_link_7 : decode cX5_link 7 = .ok (.invokevirtual 62, 3) := by decide +kernel
theorem dX5_link_10 : decode cX5_link 10 = .ok (.ifCond .eq 16, 3) := by decide +kernel
theorem dX5_link_13 : decode cX5_link 13 = .ok (.iload_n 2, 1) := by decide +kernel
theorem dX5_link_14 : decode cX5_link 14 = .ok (.iconst (-1), 1) := by decide +kernel
theorem dX5_link_15 : decode cX5_link 15 = .ok (.if_icmp .eq 17, 3) := by decide +kernel
theorem dX5_link_18 : decode cX5_link 18 = .ok (.aload_n 0, 1) := by decide +kernel
theorem dX5_link_19 : decode cX5_link 19 = .ok (.iload_n 2, 1) := by decide +kernel
theorem dX5_link_20 : decode cX5_link 20 = .ok (.invokevirtual 62, 3) := by decide +kernel
theorem dX5_link_23 : decode cX5_link 23 = .ok (.ifCond .ne 9, 3) := by decide +kernel
theorem dX5_link_26 : decode cX5_link 26 = .ok (.aload_n 0, 1) := by decide +kernel
theorem dX5_link_27 : decode cX5_link 27 = .ok (.iconst 1, 1) := by decide +kernel
theorem dX5_link_28 : decode cX5_link 28 = .ok (.invokevirtual 49, 3) := by decide +kernel
theorem dX5_link_31 : decode cX5_link 31 = .ok (.ireturn, 1) := by decide +kernel
theorem dX5_link_32 : decode cX5_link 32 = .ok (.iload_n 2, 1) := by decide +kernel
theorem dX5_link_33 : decode cX5_link 33 = .ok (.iconst (-1), 1) := by decide +kernel
theorem dX5_link_34 : decode cX5_link 34 = .ok (.if_icmp .eq 24, 3) := by decide +kernel
theorem dX5_link_37 : decode cX5_link 37 = .ok (.aload_n 0, 1) := by decide +kernel
theorem dX5_link_38 : decode cX5_link 38 = .ok (.iload_n 2, 1) := by decide +kernel
theorem dX5_link_39 : decode cX5_link 39 = .ok (.iconst 2, 1) := by decide +kernel
theorem dX5_link_40 : decode cX5_link 40 = .ok (.invokevirtual 39, 3) := by decide +kernel
theorem dX5_link_43 : decode cX5_link 43 = .ok (.aload_n 0, 1) := by decide +kernel
theorem dX5_link_44 : decode cX5_link 44 = .ok (.iload_n 1, 1) := by decide +kernel
theorem dX5_link_45 : decode cX5_link 45 = .ok (.iconst 2, 1) := by decide +kernel
theorem dX5_link_46 : decode cX5_link 46 = .ok (.invokevirtual 39, 3) := by decide +kernel
theorem dX5_link_49 : decode cX5_link 49 = .ok (.if_icmp .lt 9, 3) := by decide +kernel
theorem dX5_link_52 : decode cX5_link 52 = .ok (.aload_n 0, 1) := by decide +kernel
theorem dX5_link_53 : decode cX5_link 53 = .ok (.iconst 2, 1) := by decide +kernel
theorem dX5_link_54 : decode cX5_link 54 = .ok (.invokevirtual 49, 3) := by decide +kernel
theorem dX5_link_57 : decode cX5_link 57 = .ok (.ireturn, 1) := by decide +kernel
theorem dX5_link_58 : decode cX5_link 58 = .ok (.aload_n 0, 1) := by decide +kernel
theorem dX5_link_59 : decode cX5_link 59 = .ok (.iload_n 1, 1) := by decide +kernel
theorem dX5_link_60 : decode cX5_link 60 = .ok (.iconst 3, 1) := by decide +kernel
theorem dX5_link_61 : decode cX5_link 61 = .ok (.invokevirtual 66, 3) := by decide +kernel
theorem dX5_link_64 : decode cX5_link 64 = .ok (.istore_n 3, 1) := by decide +kernel
theorem dX5_link_65 : decode cX5_link 65 = .ok (.aload_n 0, 1) := by decide +kernel
theorem dX5_link_66 : decode cX5_link 66 = .ok (.iload_n 1, 1) := by decide +kernel
theorem dX5_link_67 : decode cX5_link 67 = .ok (.iconst 3, 1) := by decide +kernel
theorem dX5_link_68 : decode cX5_link 68 = .ok (.iload_n 2, 1) := by decide +kernel
theorem dX5_link_69 : decode cX5_link 69 = .ok (.invokevirtual 58, 3) := by decide +kernel
theorem dX5_link_72 : decode cX5_link 72 = .ok (.iload_n 3, 1) := by decide +kernel
theorem dX5_link_73 : decode cX5_link 73 = .ok (.ireturn, 1) := by decide +kernel
theorem dX5_isLow_0 : decode cX5_isLow 0 = .ok (.aload_n 0, 1) := by decide +kernel
theorem dX5_isLow_1 : decode cX5_isLow 1 = .ok (.iload_n 1, 1) := by decide +kernel
theorem dX5_isLow_2 : decode cX5_isLow 2 = .ok (.iconst 0, 1) := by decide +kernel
theorem dX5_isLow_3 : decode cX5_isLow 3 = .ok (.invokevirtual 66, 3) := by decide +kernel
theorem dX5_isLow_6 : decode cX5_isLow 6 = .ok (.aload_n 0, 1) := by decide +kernel
theorem dX5_isLow_7 : decode cX5_isLow 7 = .ok (.iload_n 1, 1) := by decide +kernel
theorem dX5_isLow_8 : decode cX5_isLow 8 = .ok (.invokevirtual 69, 3) := by decide +kernel
theorem dX5_isLow_11 : decode cX5_isLow 11 = .ok (.iconst 4, 1) := by decide +kernel
theorem dX5_isLow_12 : decode cX5_isLow 12 = .ok (.idiv, 1) := by decide +kernel
theorem dX5_isLow_13 : decode cX5_isLow 13 = .ok (.if_icmp .gt 7, 3) := by decide +kernel
theorem dX5_isLow_16 : decode cX5_isLow 16 = .ok (.iconst 1, 1) := by decide +kernel
theorem dX5_isLow_17 : decode cX5_isLow 17 = .ok (.goto 4, 3) := by decide +kernel
theorem dX5_isLow_20 : decode cX5_isLow 20 = .ok (.iconst 0, 1) := by decide +kernel
theorem dX5_isLow_21 : decode cX5_isLow 21 = .ok (.ireturn, 1) := by decide +kernel
theorem dX5_use_0 : decode cX5_use 0 = .ok (.iload_n 2, 1) := by decide +kernel
theorem dX5_use_1 : decode cX5_use 1 = .ok (.bipush 100, 2) := by decide +kernel
theorem dX5_use_3 : decode cX5_use 3 = .ok (.aload_n 0, 1) := by decide +kernel
theorem dX5_use_4 : decode cX5_use 4 = .ok (.iload_n 1, 1) := by decide +kernel
theorem dX5_use_5 : decode cX5_use 5 = .ok (.iconst 1, 1) := by decide +kernel
theorem dX5_use_6 : decode cX5_use 6 = .ok (.invokevirtual 66, 3) := by decide +kernel
theorem dX5_use_9 : decode cX5_use 9 = .ok (.isub, 1) := by decide +kernel
theorem dX5_use_10 : decode cX5_use 10 = .ok (.aload_n 0, 1) := by decide +kernel
theorem dX5_use_11 : decode cX5_use 11 = .ok (.getfield 22, 3) := by decide +kernel
theorem dX5_use_14 : decode cX5_use 14 = .ok (.iconst 1, 1) := by decide +kernel
theorem dX5_use_15 : decode cX5_use 15 = .ok (.iaload, 1) := by decide +kernel
theorem dX5_use_16 : decode cX5_use 16 = .ok (.invokestatic 72, 3) := by decide +kernel
theorem dX5_use_19 : decode cX5_use 19 = .ok (.invokestatic 72, 3) := by decide +kernel
theorem dX5_use_22 : decode cX5_use 22 = .ok (.istore_n 3, 1) := by decide +kernel
theorem dX5_use_23 : decode cX5_use 23 = .ok (.aload_n 0, 1) := by decide +kernel
theorem dX5_use_24 : decode cX5_use 24 = .ok (.iload_n 1, 1) := by decide +kernel
theorem dX5_use_25 : decode cX5_use 25 = .ok (.iconst 1, 1) := by decide +kernel
theorem dX5_use_26 : decode cX5_use 26 = .ok (.aload_n 0, 1) := by decide +kernel
theorem dX5_use_27 : decode cX5_use 27 = .ok (.iload_n 1, 1) := by decide +kernel
theorem dX5_use_28 : decode cX5_use 28 = .ok (.iconst 1, 1) := by decide +kernel
theorem dX5_use_29 : decode cX5_use 29 = .ok (.invokevirtual 66, 3) := by decide +kernel
theorem dX5_use_32 : decode cX5_use 32 = .ok (.iload_n 3, 1) := by decide +kernel
theorem dX5_use_33 : decode cX5_use 33 = .ok (.iadd, 1) := by decide +kernel
theorem dX5_use_34 : decode cX5_use 34 = .ok (.invokevirtual 58, 3) := by decide +kernel
theorem dX5_use_37 : decode cX5_use 37 = .ok (.aload_n 0, 1) := by decide +kernel
theorem dX5_use_38 : decode cX5_use 38 = .ok (.getfield 22, 3) := by decide +kernel
theorem dX5_use_41 : decode cX5_use 41 = .ok (.iconst 1, 1) := by decide +kernel
theorem dX5_use_42 : decode cX5_use 42 = .ok (.dup2, 1) := by decide +kernel
theorem dX5_use_43 : decode cX5_use 43 = .ok (.iaload, 1) := by decide +kernel
theorem dX5_use_44 : decode cX5_use 44 = .ok (.iload_n 3, 1) := by decide +kernel
theorem dX5_use_45 : decode cX5_use 45 = .ok (.isub, 1) := by decide +kernel
theorem dX5_use_46 : decode cX5_use 46 = .ok (.iastore, 1) := by decide +kernel
theorem dX5_use_47 : decode cX5_use 47 = .ok (.iload_n 3, 1) := by decide +kernel
theorem dX5_use_48 : decode cX5_use 48 = .ok (.ireturn, 1) := by decide +kernel
theorem dX5_puddle_0 : decode cX5_puddle 0 = .ok (.aload_n 0, 1) := by decide +kernel
theorem dX5_puddle_1 : decode cX5_puddle 1 = .ok (.iconst 0, 1) := by decide +kernel
theorem dX5_puddle_2 : decode cX5_puddle 2 = .ok (.putfield 25, 3) := by decide +kernel
theorem dX5_puddle_5 : decode cX5_puddle 5 = .ok (.aload_n 0, 1) := by decide +kernel
theorem dX5_puddle_6 : decode cX5_puddle 6 = .ok (.iload_n 1, 1) := by decide +kernel
theorem dX5_puddle_7 : decode cX5_puddle 7 = .ok (.invokevirtual 62, 3) := by decide +kernel
theorem dX5_puddle_10 : decode cX5_puddle 10 = .ok (.ifCond .ne 9, 3) := by decide +kernel
theorem dX5_puddle_13 : decode cX5_puddle 13 = .ok (.aload_n 0, 1) := by decide +kernel
theorem dX5_puddle_14 : decode cX5_puddle 14 = .ok (.iconst 1, 1) := by decide +kernel
theorem dX5_puddle_15 : decode cX5_puddle 15 = .ok (.invokevirtual 49, 3) := by decide +kernel
theorem dX5_puddle_18 : decode cX5_puddle 18 = .ok (.ireturn, 1) := by decide +kernel
theorem dX5_puddle_19 : decode cX5_puddle 19 = .ok (.iload_n 2, 1) := by decide +kernel
theorem dX5_puddle_20 : decode cX5_puddle 20 = .ok (.iconst 1, 1) := by decide +kernel
theorem dX5_puddle_21 : decode cX5_puddle 21 = .ok (.bipush 100, 2) := by decide +kernel
theorem dX5_puddle_23 : decode cX5_puddle 23 = .ok (.invokestatic 32, 3) := by decide +kernel
theorem dX5_puddle_26 : decode cX5_puddle 26 = .ok (.ifCond .ne 9, 3) := by decide +kernel
theorem dX5_puddle_29 : decode cX5_puddle 29 = .ok (.aload_n 0, 1) := by decide +kernel
theorem dX5_puddle_30 : decode cX5_puddle 30 = .ok (.iconst 2, 1) := by decide +kernel
theorem dX5_puddle_31 : decode cX5_puddle 31 = .ok (.invokevirtual 49, 3) := by decide +kernel
theorem dX5_puddle_34 : decode cX5_puddle 34 = .ok (.ireturn, 1) := by decide +kernel
theorem dX5_puddle_35 : decode cX5_puddle 35 = .ok (.aload_n 0, 1) := by decide +kernel
theorem dX5_puddle_36 : decode cX5_puddle 36 = .ok (.iload_n 1, 1) := by decide +kernel
theorem dX5_puddle_37 : decode cX5_puddle 37 = .ok (.invokevirtual 75, 3) := by decide +kernel
theorem dX5_puddle_40 : decode cX5_puddle 40 = .ok (.ifCond .eq 12, 3) := by decide +kernel
theorem dX5_puddle_43 : decode cX5_puddle 43 = .ok (.aload_n 0, 1) := by decide +kernel
theorem dX5_puddle_44 : decode cX5_puddle 44 = .ok (.iload_n 1, 1) := by decide +kernel
theorem dX5_puddle_45 : decode cX5_puddle 45 = .ok (.iload_n 2, 1) := by decide +kernel
theorem dX5_puddle_46 : decode cX5_puddle 46 = .ok (.invokevirtual 78, 3) := by decide +kernel
theorem dX5_puddle_49 : decode cX5_puddle 49 = .ok (.goto 8, 3) := by decide +kernel
theorem dX5_puddle_52 : decode cX5_puddle 52 = .ok (.aload_n 0, 1) := by decide +kernel
theorem dX5_puddle_53 : decode cX5_puddle 53 = .ok (.iconst 3, 1) := by decide +kernel
theorem dX5_puddle_54 : decode cX5_puddle 54 = .ok (.invokevirtual 49, 3) := by decide +kernel
theorem dX5_puddle_57 : decode cX5_puddle 57 = .ok (.ireturn, 1) := by decide +kernel
theorem dX5_strew_0 : decode cX5_strew 0 = .ok (.aload_n 0, 1) := by decide +kernel
theorem dX5_strew_1 : decode cX5_strew 1 = .ok (.aload_n 0, 1) := by decide +kernel
theorem dX5_strew_2 : decode cX5_strew 2 = .ok (.iload_n 1, 1) := by decide +kernel
theorem dX5_strew_3 : decode cX5_strew 3 = .ok (.invokevirtual 62, 3) := by decide +kernel
theorem dX5_strew_6 : decode cX5_strew 6 = .ok (.ifCond .eq 7, 3) := by decide +kernel
theorem dX5_strew_9 : decode cX5_strew 9 = .ok (.iconst 0, 1) := by decide +kernel
theorem dX5_strew_10 : decode cX5_strew 10 = .ok (.goto 4, 3) := by decide +kernel
theorem dX5_strew_13 : decode cX5_strew 13 = .ok (.iconst 1, 1) := by decide +kernel
theorem dX5_strew_14 : decode cX5_strew 14 = .ok (.putfield 25, 3) := by decide +kernel
theorem dX5_strew_17 : decode cX5_strew 17 = .ok (.aload_n 0, 1) := by decide +kernel
theorem dX5_strew_18 : decode cX5_strew 18 = .ok (.getfield 25, 3) := by decide +kernel
theorem dX5_strew_21 : decode cX5_strew 21 = .ok (.ifCond .eq 5, 3) := by decide +kernel
theorem dX5_strew_24 : decode cX5_strew 24 = .ok (.iconst 0, 1) := by decide +kernel
theorem dX5_strew_25 : decode cX5_strew 25 = .ok (.ireturn, 1) := by decide +kernel
theorem dX5_strew_26 : decode cX5_strew 26 = .ok (.aload_n 0, 1) := by decide +kernel
theorem dX5_strew_27 : decode cX5_strew 27 = .ok (.iload_n 1, 1) := by decide +kernel
theorem dX5_strew_28 : decode cX5_strew 28 = .ok (.iconst 2, 1) := by decide +kernel
theorem dX5_strew_29 : decode cX5_strew 29 = .ok (.invokevirtual 66, 3) := by decide +kernel
theorem dX5_strew_32 : decode cX5_strew 32 = .ok (.iconst 1, 1) := by decide +kernel
theorem dX5_strew_33 : decode cX5_strew 33 = .ok (.if_icmp .ne 7, 3) := by decide +kernel
theorem dX5_strew_36 : decode cX5_strew 36 = .ok (.iconst 1, 1) := by decide +kernel
theorem dX5_strew_37 : decode cX5_strew 37 = .ok (.goto 4, 3) := by decide +kernel
theorem dX5_strew_40 : decode cX5_strew 40 = .ok (.iconst 0, 1) := by decide +kernel
theorem dX5_strew_41 : decode cX5_strew 41 = .ok (.istore_n 3, 1) := by decide +kernel
theorem dX5_strew_42 : decode cX5_strew 42 = .ok (.aload_n 0, 1) := by decide +kernel
theorem dX5_strew_43 : decode cX5_strew 43 = .ok (.iload_n 1, 1) := by decide +kernel
theorem dX5_strew_44 : decode cX5_strew 44 = .ok (.iconst 2, 1) := by decide +kernel
theorem dX5_strew_45 : decode cX5_strew 45 = .ok (.iload_n 2, 1) := by decide +kernel
theorem dX5_strew_46 : decode cX5_strew 46 = .ok (.ifCond .eq 7, 3) := by decide +kernel
theorem dX5_strew_49 : decode cX5_strew 49 = .ok (.iconst 1, 1) := by decide +kernel
theorem dX5_strew_50 : decode cX5_strew 50 = .ok (.goto 4, 3) := by decide +kernel
theorem dX5_strew_53 : decode cX5_strew 53 = .ok (.iconst 0, 1) := by decide +kernel
theorem dX5_strew_54 : decode cX5_strew 54 = .ok (.invokevirtual 58, 3) := by decide +kernel
theorem dX5_strew_57 : decode cX5_strew 57 = .ok (.iload_n 3, 1) := by decide +kernel
theorem dX5_strew_58 : decode cX5_strew 58 = .ok (.ireturn, 1) := by decide +kernel
theorem dX5_pour_0 : decode cX5_pour 0 = .ok (.aload_n 0, 1) := by decide +kernel
theorem dX5_pour_1 : decode cX5_pour 1 = .ok (.iconst 0, 1) := by decide +kernel
theorem dX5_pour_2 : decode cX5_pour 2 = .ok (.putfield 25, 3) := by decide +kernel
theorem dX5_pour_5 : decode cX5_pour 5 = .ok (.aload_n 0, 1) := by decide +kernel
theorem dX5_pour_6 : decode cX5_pour 6 = .ok (.iload_n 1, 1) := by decide +kernel
theorem dX5_pour_7 : decode cX5_pour 7 = .ok (.invokevirtual 62, 3) := by decide +kernel
theorem dX5_pour_10 : decode cX5_pour 10 = .ok (.ifCond .ne 9, 3) := by decide +kernel
theorem dX5_pour_13 : decode cX5_pour 13 = .ok (.aload_n 0, 1) := by decide +kernel
theorem dX5_pour_14 : decode cX5_pour 14 = .ok (.iconst 1, 1) := by decide +kernel
theorem dX5_pour_15 : decode cX5_pour 15 = .ok (.invokevirtual 49, 3) := by decide +kernel
theorem dX5_pour_18 : decode cX5_pour 18 = .ok (.ireturn, 1) := by decide +kernel
theorem dX5_pour_19 : decode cX5_pour 19 = .ok (.iload_n 2, 1) := by decide +kernel
theorem dX5_pour_20 : decode cX5_pour 20 = .ok (.sipush (-10000), 3) := by decide +kernel
theorem dX5_pour_23 : decode cX5_pour 23 = .ok (.sipush 10000, 3) := by decide +kernel
theorem dX5_pour_26 : decode cX5_pour 26 = .ok (.invokestatic 32, 3) := by decide +kernel
theorem dX5_pour_29 : decode cX5_pour 29 = .ok (.ifCond .ne 9, 3) := by decide +kernel
theorem dX5_pour_32 : decode cX5_pour 32 = .ok (.aload_n 0, 1) := by decide +kernel
theorem dX5_pour_33 : decode cX5_pour 33 = .ok (.iconst 2, 1) := by decide +kernel
theorem dX5_pour_34 : decode cX5_pour 34 = .ok (.invokevirtual 49, 3) := by decide +kernel
theorem dX5_pour_37 : decode cX5_pour 37 = .ok (.ireturn, 1) := by decide +kernel
theorem dX5_pour_38 : decode cX5_pour 38 = .ok (.aload_n 0, 1) := by decide +kernel
theorem dX5_pour_39 : decode cX5_pour 39 = .ok (.iload_n 1, 1) := by decide +kernel
theorem dX5_pour_40 : decode cX5_pour 40 = .ok (.iconst 0, 1) := by decide +kernel
theorem dX5_pour_41 : decode cX5_pour 41 = .ok (.iconst 0, 1) := by decide +kernel
theorem dX5_pour_42 : decode cX5_pour 42 = .ok (.aload_n 0, 1) := by decide +kernel
theorem dX5_pour_43 : decode cX5_pour 43 = .ok (.iload_n 1, 1) := by decide +kernel
theorem dX5_pour_44 : decode cX5_pour 44 = .ok (.invokevirtual 69, 3) := by decide +kernel
theorem dX5_pour_47 : decode cX5_pour 47 = .ok (.aload_n 0, 1) := by decide +kernel
theorem dX5_pour_48 : decode cX5_pour 48 = .ok (.iload_n 1, 1) := by decide +kernel
theorem dX5_pour_49 : decode cX5_pour 49 = .ok (.iconst 0, 1) := by decide +kernel
theorem dX5_pour_50 : decode cX5_pour 50 = .ok (.invokevirtual 66, 3) := by decide +kernel
theorem dX5_pour_53 : decode cX5_pour 53 = .ok (.iload_n 2, 1) := by decide +kernel
theorem dX5_pour_54 : decode cX5_pour 54 = .ok (.iadd, 1) := by decide +kernel
theorem dX5_pour_55 : decode cX5_pour 55 = .ok (.invokestatic 72, 3) := by decide +kernel
theorem dX5_pour_58 : decode cX5_pour 58 = .ok (.invokestatic 81, 3) := by decide +kernel
theorem dX5_pour_61 : decode cX5_pour 61 = .ok (.invokevirtual 58, 3) := by decide +kernel
theorem dX5_pour_64 : decode cX5_pour 64 = .ok (.aload_n 0, 1) := by decide +kernel
theorem dX5_pour_65 : decode cX5_pour 65 = .ok (.iload_n 1, 1) := by decide +kernel
theorem dX5_pour_66 : decode cX5_pour 66 = .ok (.iconst 0, 1) := by decide +kernel
theorem dX5_pour_67 : decode cX5_pour 67 = .ok (.invokevirtual 66, 3) := by decide +kernel
theorem dX5_pour_70 : decode cX5_pour 70 = .ok (.ireturn, 1) := by decide +kernel
theorem dX5_flocksAt_0 : decode cX5_flocksAt 0 = .ok (.iconst 0, 1) := by decide +kernel
theorem dX5_flocksAt_1 : decode cX5_flocksAt 1 = .ok (.istore_n 2, 1) := by decide +kernel
theorem dX5_flocksAt_2 : decode cX5_flocksAt 2 = .ok (.iconst 0, 1) := by decide +kernel
theorem dX5_flocksAt_3 : decode cX5_flocksAt 3 = .ok (.istore_n 3, 1) := by decide +kernel
theorem dX5_flocksAt_4 : decode cX5_flocksAt 4 = .ok (.iload_n 3, 1) := by decide +kernel
theorem dX5_flocksAt_5 : decode cX5_flocksAt 5 = .ok (.aload_n 0, 1) := by decide +kernel
theorem dX5_flocksAt_6 : decode cX5_flocksAt 6 = .ok (.getfield 36, 3) := by decide +kernel
theorem dX5_flocksAt_9 : decode cX5_flocksAt 9 = .ok (.if_icmp .ge 35, 3) := by decide +kernel
theorem dX5_flocksAt_12 : decode cX5_flocksAt 12 = .ok (.iload_n 2, 1) := by decide +kernel
theorem dX5_flocksAt_13 : decode cX5_flocksAt 13 = .ok (.aload_n 0, 1) := by decide +kernel
theorem dX5_flocksAt_14 : decode cX5_flocksAt 14 = .ok (.iload_n 3, 1) := by decide +kernel
theorem dX5_flocksAt_15 : decode cX5_flocksAt 15 = .ok (.iconst 1, 1) := by decide +kernel
theorem dX5_flocksAt_16 : decode cX5_flocksAt 16 = .ok (.invokevirtual 84, 3) := by decide +kernel
theorem dX5_flocksAt_19 : decode cX5_flocksAt 19 = .ok (.iload_n 1, 1) := by decide +kernel
theorem dX5_flocksAt_20 : decode cX5_flocksAt 20 = .ok (.if_icmp .ne 15, 3) := by decide +kernel
theorem dX5_flocksAt_23 : decode cX5_flocksAt 23 = .ok (.aload_n 0, 1) := by decide +kernel
theorem dX5_flocksAt_24 : decode cX5_flocksAt 24 = .ok (.iload_n 3, 1) := by decide +kernel
theorem dX5_flocksAt_25 : decode cX5_flocksAt 25 = .ok (.invokevirtual 87, 3) := by decide +kernel
theorem dX5_flocksAt_28 : decode cX5_flocksAt 28 = .ok (.ifCond .ne 7, 3) := by decide +kernel
theorem dX5_flocksAt_31 : decode cX5_flocksAt 31 = .ok (.iconst 1, 1) := by decide +kernel
theorem dX5_flocksAt_32 : decode cX5_flocksAt 32 = .ok (.goto 4, 3) := by decide +kernel
theorem dX5_flocksAt_35 : decode cX5_flocksAt 35 = .ok (.iconst 0, 1) := by decide +kernel
theorem dX5_flocksAt_36 : decode cX5_flocksAt 36 = .ok (.iadd, 1) := by decide +kernel
theorem dX5_flocksAt_37 : decode cX5_flocksAt 37 = .ok (.istore_n 2, 1) := by decide +kernel
theorem dX5_flocksAt_38 : decode cX5_flocksAt 38 = .ok (.iinc 3 1, 3) := by decide +kernel
theorem dX5_flocksAt_41 : decode cX5_flocksAt 41 = .ok (.goto (-37), 3) := by decide +kernel
theorem dX5_flocksAt_44 : decode cX5_flocksAt 44 = .ok (.iload_n 2, 1) := by decide +kernel
theorem dX5_flocksAt_45 : decode cX5_flocksAt 45 = .ok (.ireturn, 1) := by decide +kernel
theorem dX5_above_0 : decode cX5_above 0 = .ok (.iconst 0, 1) := by decide +kernel
theorem dX5_above_1 : decode cX5_above 1 = .ok (.istore_n 2, 1) := by decide +kernel
theorem dX5_above_2 : decode cX5_above 2 = .ok (.iconst 0, 1) := by decide +kernel
theorem dX5_above_3 : decode cX5_above 3 = .ok (.istore_n 3, 1) := by decide +kernel
theorem dX5_above_4 : decode cX5_above 4 = .ok (.iload_n 3, 1) := by decide +kernel
theorem dX5_above_5 : decode cX5_above 5 = .ok (.aload_n 0, 1) := by decide +kernel
theorem dX5_above_6 : decode cX5_above 6 = .ok (.getfield 29, 3) := by decide +kernel
theorem dX5_above_9 : decode cX5_above 9 = .ok (.if_icmp .ge 47, 3) := by decide +kernel
theorem dX5_above_12 : decode cX5_above 12 = .ok (.aload_n 0, 1) := by decide +kernel
theorem dX5_above_13 : decode cX5_above 13 = .ok (.iload_n 3, 1) := by decide +kernel
theorem dX5_above_14 : decode cX5_above 14 = .ok (.iconst 3, 1) := by decide +kernel
theorem dX5_above_15 : decode cX5_above 15 = .ok (.invokevirtual 66, 3) := by decide +kernel
theorem dX5_above_18 : decode cX5_above 18 = .ok (.istore 4, 2) := by decide +kernel
theorem dX5_above_20 : decode cX5_above 20 = .ok (.iload 4, 2) := by decide +kernel
theorem dX5_above_22 : decode cX5_above 22 = .ok (.iconst (-1), 1) := by decide +kernel
theorem dX5_above_23 : decode cX5_above 23 = .ok (.if_icmp .eq 27, 3) := by decide +kernel
theorem dX5_above_26 : decode cX5_above 26 = .ok (.iload 4, 2) := by decide +kernel
theorem dX5_above_28 : decode cX5_above 28 = .ok (.iload_n 1, 1) := by decide +kernel
theorem dX5_above_29 : decode cX5_above 29 = .ok (.if_icmp .ne 9, 3) := by decide +kernel
theorem dX5_above_32 : decode cX5_above 32 = .ok (.iload_n 2, 1) := by decide +kernel
theorem dX5_above_33 : decode cX5_above 33 = .ok (.iconst 1, 1) := by decide +kernel
theorem dX5_above_34 : decode cX5_above 34 = .ok (.iload_n 3, 1) := by decide +kernel
theorem dX5_above_35 : decode cX5_above 35 = .ok (.ishl, 1) := by decide +kernel
theorem dX5_above_36 : decode cX5_above 36 = .ok (.ior, 1) := by decide +kernel
theorem dX5_above_37 : decode cX5_above 37 = .ok (.istore_n 2, 1) := by decide +kernel
theorem dX5_above_38 : decode cX5_above 38 = .ok (.aload_n 0, 1) := by decide +kernel
theorem dX5_above_39 : decode cX5_above 39 = .ok (.iload 4, 2) := by decide +kernel
theorem dX5_above_41 : decode cX5_above 41 = .ok (.iconst 3, 1) := by decide +kernel
theorem dX5_above_42 : decode cX5_above 42 = .ok (.invokevirtual 66, 3) := by decide +kernel
theorem dX5_above_45 : decode cX5_above 45 = .ok (.istore 4, 2) := by decide +kernel
theorem dX5_above_47 : decode cX5_above 47 = .ok (.goto (-27), 3) := by decide +kernel
theorem dX5_above_50 : decode cX5_above 50 = .ok (.iinc 3 1, 3) := by decide +kernel
theorem dX5_above_53 : decode cX5_above 53 = .ok (.goto (-49), 3) := by decide +kernel
theorem dX5_above_56 : decode cX5_above 56 = .ok (.iload_n 2, 1) := by decide +kernel
theorem dX5_above_57 : decode cX5_above 57 = .ok (.ireturn, 1) := by decide +kernel
theorem dX5_pondTold_0 : decode cX5_pondTold 0 = .ok (.iload_n 2, 1) := by decide +kernel
theorem dX5_pondTold_1 : decode cX5_pondTold 1 = .ok (.tableswitch 94 0 10 #[59, 59, 59, 59, 66, 72, 72, 72, 72, 81, 87], 59) := by decide +kernel
theorem dX5_pondTold_60 : decode cX5_pondTold 60 = .ok (.aload_n 0, 1) := by decide +kernel
theorem dX5_pondTold_61 : decode cX5_pondTold 61 = .ok (.iload_n 1, 1) := by decide +kernel
theorem dX5_pondTold_62 : decode cX5_pondTold 62 = .ok (.iload_n 2, 1) := by decide +kernel
theorem dX5_pondTold_63 : decode cX5_pondTold 63 = .ok (.invokevirtual 39, 3) := by decide +kernel
theorem dX5_pondTold_66 : decode cX5_pondTold 66 = .ok (.ireturn, 1) := by decide +kernel
theorem dX5_pondTold_67 : decode cX5_pondTold 67 = .ok (.aload_n 0, 1) := by decide +kernel
theorem dX5_pondTold_68 : decode cX5_pondTold 68 = .ok (.iload_n 1, 1) := by decide +kernel
theorem dX5_pondTold_69 : decode cX5_pondTold 69 = .ok (.invokevirtual 69, 3) := by decide +kernel
theorem dX5_pondTold_72 : decode cX5_pondTold 72 = .ok (.ireturn, 1) := by decide +kernel
theorem dX5_pondTold_73 : decode cX5_pondTold 73 = .ok (.aload_n 0, 1) := by decide +kernel
theorem dX5_pondTold_74 : decode cX5_pondTold 74 = .ok (.iload_n 1, 1) := by decide +kernel
theorem dX5_pondTold_75 : decode cX5_pondTold 75 = .ok (.iload_n 2, 1) := by decide +kernel
theorem dX5_pondTold_76 : decode cX5_pondTold 76 = .ok (.iconst 5, 1) := by decide +kernel
theorem dX5_pondTold_77 : decode cX5_pondTold 77 = .ok (.isub, 1) := by decide +kernel
theorem dX5_pondTold_78 : decode cX5_pondTold 78 = .ok (.invokevirtual 66, 3) := by decide +kernel
theorem dX5_pondTold_81 : decode cX5_pondTold 81 = .ok (.ireturn, 1) := by decide +kernel
theorem dX5_pondTold_82 : decode cX5_pondTold 82 = .ok (.aload_n 0, 1) := by decide +kernel
theorem dX5_pondTold_83 : decode cX5_pondTold 83 = .ok (.iload_n 1, 1) := by decide +kernel
theorem dX5_pondTold_84 : decode cX5_pondTold 84 = .ok (.invokevirtual 90, 3) := by decide +kernel
theorem dX5_pondTold_87 : decode cX5_pondTold 87 = .ok (.ireturn, 1) := by decide +kernel
theorem dX5_pondTold_88 : decode cX5_pondTold 88 = .ok (.aload_n 0, 1) := by decide +kernel
theorem dX5_pondTold_89 : decode cX5_pondTold 89 = .ok (.iload_n 1, 1) := by decide +kernel
theorem dX5_pondTold_90 : decode cX5_pondTold 90 = .ok (.iconst 4, 1) := by decide +kernel
theorem dX5_pondTold_91 : decode cX5_pondTold 91 = .ok (.invokevirtual 66, 3) := by decide +kernel
theorem dX5_pondTold_94 : decode cX5_pondTold 94 = .ok (.ireturn, 1) := by decide +kernel
theorem dX5_pondTold_95 : decode cX5_pondTold 95 = .ok (.aload_n 0, 1) := by decide +kernel
theorem dX5_pondTold_96 : decode cX5_pondTold 96 = .ok (.iload_n 1, 1) := by decide +kernel
theorem dX5_pondTold_97 : decode cX5_pondTold 97 = .ok (.invokevirtual 93, 3) := by decide +kernel
theorem dX5_pondTold_100 : decode cX5_pondTold 100 = .ok (.ireturn, 1) := by decide +kernel
theorem dX5_pond_0 : decode cX5_pond 0 = .ok (.aload_n 0, 1) := by decide +kernel
theorem dX5_pond_1 : decode cX5_pond 1 = .ok (.iconst 0, 1) := by decide +kernel
theorem dX5_pond_2 : decode cX5_pond 2 = .ok (.putfield 25, 3) := by decide +kernel
theorem dX5_pond_5 : decode cX5_pond 5 = .ok (.aload_n 0, 1) := by decide +kernel
theorem dX5_pond_6 : decode cX5_pond 6 = .ok (.iload_n 1, 1) := by decide +kernel
theorem dX5_pond_7 : decode cX5_pond 7 = .ok (.invokevirtual 62, 3) := by decide +kernel
theorem dX5_pond_10 : decode cX5_pond 10 = .ok (.ifCond .eq 22, 3) := by decide +kernel
theorem dX5_pond_13 : decode cX5_pond 13 = .ok (.iload_n 2, 1) := by decide +kernel
theorem dX5_pond_14 : decode cX5_pond 14 = .ok (.iconst 0, 1) := by decide +kernel
theorem dX5_pond_15 : decode cX5_pond 15 = .ok (.bipush 11, 2) := by decide +kernel
theorem dX5_pond_17 : decode cX5_pond 17 = .ok (.invokestatic 32, 3) := by decide +kernel
theorem dX5_pond_20 : decode cX5_pond 20 = .ok (.ifCond .eq 12, 3) := by decide +kernel
theorem dX5_pond_23 : decode cX5_pond 23 = .ok (.aload_n 0, 1) := by decide +kernel
theorem dX5_pond_24 : decode cX5_pond 24 = .ok (.iload_n 1, 1) := by decide +kernel
theorem dX5_pond_25 : decode cX5_pond 25 = .ok (.iload_n 2, 1) := by decide +kernel
theorem dX5_pond_26 : decode cX5_pond 26 = .ok (.invokevirtual 96, 3) := by decide +kernel
theorem dX5_pond_29 : decode cX5_pond 29 = .ok (.goto 8, 3) := by decide +kernel
theorem dX5_pond_32 : decode cX5_pond 32 = .ok (.aload_n 0, 1) := by decide +kernel
theorem dX5_pond_33 : decode cX5_pond 33 = .ok (.iconst 1, 1) := by decide +kernel
theorem dX5_pond_34 : decode cX5_pond 34 = .ok (.invokevirtual 49, 3) := by decide +kernel
theorem dX5_pond_37 : decode cX5_pond 37 = .ok (.ireturn, 1) := by decide +kernel
theorem dX5_weatherTold_0 : decode cX5_weatherTold 0 = .ok (.bipush 100, 2) := by decide +kernel
theorem dX5_weatherTold_2 : decode cX5_weatherTold 2 = .ok (.aload_n 0, 1) := by decide +kernel
theorem dX5_weatherTold_3 : decode cX5_weatherTold 3 = .ok (.getfield 13, 3) := by decide +kernel
theorem dX5_weatherTold_6 : decode cX5_weatherTold 6 = .ok (.iconst 3, 1) := by decide +kernel
theorem dX5_weatherTold_7 : decode cX5_weatherTold 7 = .ok (.iload_n 1, 1) := by decide +kernel
theorem dX5_weatherTold_8 : decode cX5_weatherTold 8 = .ok (.imul, 1) := by decide +kernel
theorem dX5_weatherTold_9 : decode cX5_weatherTold 9 = .ok (.iaload, 1) := by decide +kernel
theorem dX5_weatherTold_10 : decode cX5_weatherTold 10 = .ok (.imul, 1) := by decide +kernel
theorem dX5_weatherTold_11 : decode cX5_weatherTold 11 = .ok (.bipush 10, 2) := by decide +kernel
theorem dX5_weatherTold_13 : decode cX5_weatherTold 13 = .ok (.aload_n 0, 1) := by decide +kernel
theorem dX5_weatherTold_14 : decode cX5_weatherTold 14 = .ok (.getfield 13, 3) := by decide +kernel
theorem dX5_weatherTold_17 : decode cX5_weatherTold 17 = .ok (.iconst 3, 1) := by decide +kernel
theorem dX5_weatherTold_18 : decode cX5_weatherTold 18 = .ok (.iload_n 1, 1) := by decide +kernel
theorem dX5_weatherTold_19 : decode cX5_weatherTold 19 = .ok (.imul, 1) := by decide +kernel
theorem dX5_weatherTold_20 : decode cX5_weatherTold 20 = .ok (.iconst 1, 1) := by decide +kernel
theorem dX5_weatherTold_21 : decode cX5_weatherTold 21 = .ok (.iadd, 1) := by decide +kernel
theorem dX5_weatherTold_22 : decode cX5_weatherTold 22 = .ok (.iaload, 1) := by decide +kernel
theorem dX5_weatherTold_23 : decode cX5_weatherTold 23 = .ok (.imul, 1) := by decide +kernel
theorem dX5_weatherTold_24 : decode cX5_weatherTold 24 = .ok (.iadd, 1) := by decide +kernel
theorem dX5_weatherTold_25 : decode cX5_weatherTold 25 = .ok (.aload_n 0, 1) := by decide +kernel
theorem dX5_weatherTold_26 : decode cX5_weatherTold 26 = .ok (.getfield 13, 3) := by decide +kernel
theorem dX5_weatherTold_29 : decode cX5_weatherTold 29 = .ok (.iconst 3, 1) := by decide +kernel
theorem dX5_weatherTold_30 : decode cX5_weatherTold 30 = .ok (.iload_n 1, 1) := by decide +kernel
theorem dX5_weatherTold_31 : decode cX5_weatherTold 31 = .ok (.imul, 1) := by decide +kernel
theorem dX5_weatherTold_32 : decode cX5_weatherTold 32 = .ok (.iconst 2, 1) := by decide +kernel
theorem dX5_weatherTold_33 : decode cX5_weatherTold 33 = .ok (.iadd, 1) := by decide +kernel
theorem dX5_weatherTold_34 : decode cX5_weatherTold 34 = .ok (.iaload, 1) := by decide +kernel
theorem dX5_weatherTold_35 : decode cX5_weatherTold 35 = .ok (.iadd, 1) := by decide +kernel
theorem dX5_weatherTold_36 : decode cX5_weatherTold 36 = .ok (.ireturn, 1) := by decide +kernel
theorem dX5_setWeather_0 : decode cX5_setWeather 0 = .ok (.aload_n 0, 1) := by decide +kernel
theorem dX5_setWeather_1 : decode cX5_setWeather 1 = .ok (.iconst 0, 1) := by decide +kernel
theorem dX5_setWeather_2 : decode cX5_setWeather 2 = .ok (.putfield 25, 3) := by decide +kernel
theorem dX5_setWeather_5 : decode cX5_setWeather 5 = .ok (.iload_n 1, 1) := by decide +kernel
theorem dX5_setWeather_6 : decode cX5_setWeather 6 = .ok (.iconst 0, 1) := by decide +kernel
theorem dX5_setWeather_7 : decode cX5_setWeather 7 = .ok (.bipush 9, 2) := by decide +kernel
theorem dX5_setWeather_9 : decode cX5_setWeather 9 = .ok (.invokestatic 32, 3) := by decide +kernel
theorem dX5_setWeather_12 : decode cX5_setWeather 12 = .ok (.ifCond .ne 9, 3) := by decide +kernel
theorem dX5_setWeather_15 : decode cX5_setWeather 15 = .ok (.aload_n 0, 1) := by decide +kernel
theorem dX5_setWeather_16 : decode cX5_setWeather 16 = .ok (.iconst 1, 1) := by decide +kernel
theorem dX5_setWeather_17 : decode cX5_setWeather 17 = .ok (.invokevirtual 49, 3) := by decide +kernel
theorem dX5_setWeather_20 : decode cX5_setWeather 20 = .ok (.ireturn, 1) := by decide +kernel
theorem dX5_setWeather_21 : decode cX5_setWeather 21 = .ok (.iload_n 2, 1) := by decide +kernel
theorem dX5_setWeather_22 : decode cX5_setWeather 22 = .ok (.iconst 0, 1) := by decide +kernel
theorem dX5_setWeather_23 : decode cX5_setWeather 23 = .ok (.bipush 9, 2) := by decide +kernel
theorem dX5_setWeather_25 : decode cX5_setWeather 25 = .ok (.invokestatic 32, 3) := by decide +kernel
theorem dX5_setWeather_28 : decode cX5_setWeather 28 = .ok (.ifCond .eq 24, 3) := by decide +kernel
theorem dX5_setWeather_31 : decode cX5_setWeather 31 = .ok (.iload_n 3, 1) := by decide +kernel
theorem dX5_setWeather_32 : decode cX5_setWeather 32 = .ok (.iconst 0, 1) := by decide +kernel
theorem dX5_setWeather_33 : decode cX5_setWeather 33 = .ok (.bipush 9, 2) := by decide +kernel
theorem dX5_setWeather_35 : decode cX5_setWeather 35 = .ok (.invokestatic 32, 3) := by decide +kernel
theorem dX5_setWeather_38 : decode cX5_setWeather 38 = .ok (.ifCond .eq 14, 3) := by decide +kernel
theorem dX5_setWeather_41 : decode cX5_setWeather 41 = .ok (.iload 4, 2) := by decide +kernel
theorem dX5_setWeather_43 : decode cX5_setWeather 43 = .ok (.iconst 0, 1) := by decide +kernel
theorem dX5_setWeather_44 : decode cX5_setWeather 44 = .ok (.bipush 9, 2) := by decide +kernel
theorem dX5_setWeather_46 : decode cX5_setWeather 46 = .ok (.invokestatic 32, 3) := by decide +kernel
theorem dX5_setWeather_49 : decode cX5_setWeather 49 = .ok (.ifCond .ne 9, 3) := by decide +kernel
theorem dX5_setWeather_52 : decode cX5_setWeather 52 = .ok (.aload_n 0, 1) := by decide +kernel
theorem dX5_setWeather_53 : decode cX5_setWeather 53 = .ok (.iconst 2, 1) := by decide +kernel
theorem dX5_setWeather_54 : decode cX5_setWeather 54 = .ok (.invokevirtual 49, 3) := by decide +kernel
theorem dX5_setWeather_57 : decode cX5_setWeather 57 = .ok (.ireturn, 1) := by decide +kernel
theorem dX5_setWeather_58 : decode cX5_setWeather 58 = .ok (.aload_n 0, 1) := by decide +kernel
theorem dX5_setWeather_59 : decode cX5_setWeather 59 = .ok (.iload_n 1, 1) := by decide +kernel
theorem dX5_setWeather_60 : decode cX5_setWeather 60 = .ok (.invokevirtual 99, 3) := by decide +kernel
theorem dX5_setWeather_63 : decode cX5_setWeather 63 = .ok (.istore 5, 2) := by decide +kernel
theorem dX5_setWeather_65 : decode cX5_setWeather 65 = .ok (.aload_n 0, 1) := by decide +kernel
theorem dX5_setWeather_66 : decode cX5_setWeather 66 = .ok (.getfield 13, 3) := by decide +kernel
theorem dX5_setWeather_69 : decode cX5_setWeather 69 = .ok (.iconst 3, 1) := by decide +kernel
theorem dX5_setWeather_70 : decode cX5_setWeather 70 = .ok (.iload_n 1, 1) := by decide +kernel
theorem dX5_setWeather_71 : decode cX5_setWeather 71 = .ok (.imul, 1) := by decide +kernel
theorem dX5_setWeather_72 : decode cX5_setWeather 72 = .ok (.iload_n 2, 1) := by decide +kernel
theorem dX5_setWeather_73 : decode cX5_setWeather 73 = .ok (.iastore, 1) := by decide +kernel
theorem dX5_setWeather_74 : decode cX5_setWeather 74 = .ok (.aload_n 0, 1) := by decide +kernel
theorem dX5_setWeather_75 : decode cX5_setWeather 75 = .ok (.getfield 13, 3) := by decide +kernel
theorem dX5_setWeather_78 : decode cX5_setWeather 78 = .ok (.iconst 3, 1) := by decide +kernel
theorem dX5_setWeather_79 : decode cX5_setWeather 79 = .ok (.iload_n 1, 1) := by decide +kernel
theorem dX5_setWeather_80 : decode cX5_setWeather 80 = .ok (.imul, 1) := by decide +kernel
theorem dX5_setWeather_81 : decode cX5_setWeather 81 = .ok (.iconst 1, 1) := by decide +kernel
theorem dX5_setWeather_82 : decode cX5_setWeather 82 = .ok (.iadd, 1) := by decide +kernel
theorem dX5_setWeather_83 : decode cX5_setWeather 83 = .ok (.iload_n 3, 1) := by decide +kernel
theorem dX5_setWeather_84 : decode cX5_setWeather 84 = .ok (.iastore, 1) := by decide +kernel
theorem dX5_setWeather_85 : decode cX5_setWeather 85 = .ok (.aload_n 0, 1) := by decide +kernel
theorem dX5_setWeather_86 : decode cX5_setWeather 86 = .ok (.getfield 13, 3) := by decide +kernel
theorem dX5_setWeather_89 : decode cX5_setWeather 89 = .ok (.iconst 3, 1) := by decide +kernel
theorem dX5_setWeather_90 : decode cX5_setWeather 90 = .ok (.iload_n 1, 1) := by decide +kernel
theorem dX5_setWeather_91 : decode cX5_setWeather 91 = .ok (.imul, 1) := by decide +kernel
theorem dX5_setWeather_92 : decode cX5_setWeather 92 = .ok (.iconst 2, 1) := by decide +kernel
theorem dX5_setWeather_93 : decode cX5_setWeather 93 = .ok (.iadd, 1) := by decide +kernel
theorem dX5_setWeather_94 : decode cX5_setWeather 94 = .ok (.iload 4, 2) := by decide +kernel
theorem dX5_setWeather_96 : decode cX5_setWeather 96 = .ok (.iastore, 1) := by decide +kernel
theorem dX5_setWeather_97 : decode cX5_setWeather 97 = .ok (.iload 5, 2) := by decide +kernel
theorem dX5_setWeather_99 : decode cX5_setWeather 99 = .ok (.ireturn, 1) := by decide +kernel
theorem dX5_bring_0 : decode cX5_bring 0 = .ok (.aload_n 0, 1) := by decide +kernel
theorem dX5_bring_1 : decode cX5_bring 1 = .ok (.iconst 0, 1) := by decide +kernel
theorem dX5_bring_2 : decode cX5_bring 2 = .ok (.putfield 25, 3) := by decide +kernel
theorem dX5_bring_5 : decode cX5_bring 5 = .ok (.iload_n 1, 1) := by decide +kernel
theorem dX5_bring_6 : decode cX5_bring 6 = .ok (.iconst 1, 1) := by decide +kernel
theorem dX5_bring_7 : decode cX5_bring 7 = .ok (.bipush 100, 2) := by decide +kernel
theorem dX5_bring_9 : decode cX5_bring 9 = .ok (.invokestatic 32, 3) := by decide +kernel
theorem dX5_bring_12 : decode cX5_bring 12 = .ok (.ifCond .ne 9, 3) := by decide +kernel
theorem dX5_bring_15 : decode cX5_bring 15 = .ok (.aload_n 0, 1) := by decide +kernel
theorem dX5_bring_16 : decode cX5_bring 16 = .ok (.iconst 1, 1) := by decide +kernel
theorem dX5_bring_17 : decode cX5_bring 17 = .ok (.invokevirtual 49, 3) := by decide +kernel
theorem dX5_bring_20 : decode cX5_bring 20 = .ok (.ireturn, 1) := by decide +kernel
theorem dX5_bring_21 : decode cX5_bring 21 = .ok (.aload_n 0, 1) := by decide +kernel
theorem dX5_bring_22 : decode cX5_bring 22 = .ok (.getfield 22, 3) := by decide +kernel
theorem dX5_bring_25 : decode cX5_bring 25 = .ok (.iconst 1, 1) := by decide +kernel
theorem dX5_bring_26 : decode cX5_bring 26 = .ok (.iaload, 1) := by decide +kernel
theorem dX5_bring_27 : decode cX5_bring 27 = .ok (.iload_n 1, 1) := by decide +kernel
theorem dX5_bring_28 : decode cX5_bring 28 = .ok (.iadd, 1) := by decide +kernel
theorem dX5_bring_29 : decode cX5_bring 29 = .ok (.sipush 500, 3) := by decide +kernel
theorem dX5_bring_32 : decode cX5_bring 32 = .ok (.if_icmp .le 9, 3) := by decide +kernel
theorem dX5_bring_35 : decode cX5_bring 35 = .ok (.aload_n 0, 1) := by decide +kernel
theorem dX5_bring_36 : decode cX5_bring 36 = .ok (.iconst 2, 1) := by decide +kernel
theorem dX5_bring_37 : decode cX5_bring 37 = .ok (.invokevirtual 49, 3) := by decide +kernel
theorem dX5_bring_40 : decode cX5_bring 40 = .ok (.ireturn, 1) := by decide +kernel
theorem dX5_bring_41 : decode cX5_bring 41 = .ok (.aload_n 0, 1) := by decide +kernel
theorem dX5_bring_42 : decode cX5_bring 42 = .ok (.getfield 22, 3) := by decide +kernel
theorem dX5_bring_45 : decode cX5_bring 45 = .ok (.iconst 1, 1) := by decide +kernel
theorem dX5_bring_46 : decode cX5_bring 46 = .ok (.dup2, 1) := by decide +kernel
theorem dX5_bring_47 : decode cX5_bring 47 = .ok (.iaload, 1) := by decide +kernel
theorem dX5_bring_48 : decode cX5_bring 48 = .ok (.iload_n 1, 1) := by decide +kernel
theorem dX5_bring_49 : decode cX5_bring 49 = .ok (.iadd, 1) := by decide +kernel
theorem dX5_bring_50 : decode cX5_bring 50 = .ok (.iastore, 1) := by decide +kernel
theorem dX5_bring_51 : decode cX5_bring 51 = .ok (.aload_n 0, 1) := by decide +kernel
theorem dX5_bring_52 : decode cX5_bring 52 = .ok (.getfield 22, 3) := by decide +kernel
theorem dX5_bring_55 : decode cX5_bring 55 = .ok (.iconst 1, 1) := by decide +kernel
theorem dX5_bring_56 : decode cX5_bring 56 = .ok (.iaload, 1) := by decide +kernel
theorem dX5_bring_57 : decode cX5_bring 57 = .ok (.ireturn, 1) := by decide +kernel
theorem dX5_putFlock_0 : decode cX5_putFlock 0 = .ok (.iconst 5, 1) := by decide +kernel
theorem dX5_putFlock_1 : decode cX5_putFlock 1 = .ok (.newarray .int, 2) := by decide +kernel
theorem dX5_putFlock_3 : decode cX5_putFlock 3 = .ok (.dup, 1) := by decide +kernel
theorem dX5_putFlock_4 : decode cX5_putFlock 4 = .ok (.iconst 0, 1) := by decide +kernel
theorem dX5_putFlock_5 : decode cX5_putFlock 5 = .ok (.iload_n 2, 1) := by decide +kernel
theorem dX5_putFlock_6 : decode cX5_putFlock 6 = .ok (.iastore, 1) := by decide +kernel
theorem dX5_putFlock_7 : decode cX5_putFlock 7 = .ok (.dup, 1) := by decide +kernel
theorem dX5_putFlock_8 : decode cX5_putFlock 8 = .ok (.iconst 1, 1) := by decide +kernel
theorem dX5_putFlock_9 : decode cX5_putFlock 9 = .ok (.iload_n 1, 1) := by decide +kernel
theorem dX5_putFlock_10 : decode cX5_putFlock 10 = .ok (.iastore, 1) := by decide +kernel
theorem dX5_putFlock_11 : decode cX5_putFlock 11 = .ok (.dup, 1) := by decide +kernel
theorem dX5_putFlock_12 : decode cX5_putFlock 12 = .ok (.iconst 2, 1) := by decide +kernel
theorem dX5_putFlock_13 : decode cX5_putFlock 13 = .ok (.iconst 0, 1) := by decide +kernel
theorem dX5_putFlock_14 : decode cX5_putFlock 14 = .ok (.iastore, 1) := by decide +kernel
theorem dX5_putFlock_15 : decode cX5_putFlock 15 = .ok (.dup, 1) := by decide +kernel
theorem dX5_putFlock_16 : decode cX5_putFlock 16 = .ok (.iconst 3, 1) := by decide +kernel
theorem dX5_putFlock_17 : decode cX5_putFlock 17 = .ok (.iconst 0, 1) := by decide +kernel
theorem dX5_putFlock_18 : decode cX5_putFlock 18 = .ok (.iastore, 1) := by decide +kernel
theorem dX5_putFlock_19 : decode cX5_putFlock 19 = .ok (.dup, 1) := by decide +kernel
theorem dX5_putFlock_20 : decode cX5_putFlock 20 = .ok (.iconst 4, 1) := by decide +kernel
theorem dX5_putFlock_21 : decode cX5_putFlock 21 = .ok (.iconst 0, 1) := by decide +kernel
theorem dX5_putFlock_22 : decode cX5_putFlock 22 = .ok (.iastore, 1) := by decide +kernel
theorem dX5_putFlock_23 : decode cX5_putFlock 23 = .ok (.astore_n 3, 1) := by decide +kernel
theorem dX5_putFlock_24 : decode cX5_putFlock 24 = .ok (.aload_n 3, 1) := by decide +kernel
theorem dX5_putFlock_25 : decode cX5_putFlock 25 = .ok (.iconst 0, 1) := by decide +kernel
theorem dX5_putFlock_26 : decode cX5_putFlock 26 = .ok (.aload_n 0, 1) := by decide +kernel
theorem dX5_putFlock_27 : decode cX5_putFlock 27 = .ok (.getfield 19, 3) := by decide +kernel
theorem dX5_putFlock_30 : decode cX5_putFlock 30 = .ok (.iconst 5, 1) := by decide +kernel
theorem dX5_putFlock_31 : decode cX5_putFlock 31 = .ok (.aload_n 0, 1) := by decide +kernel
theorem dX5_putFlock_32 : decode cX5_putFlock 32 = .ok (.getfield 36, 3) := by decide +kernel
theorem dX5_putFlock_35 : decode cX5_putFlock 35 = .ok (.imul, 1) := by decide +kernel
theorem dX5_putFlock_36 : decode cX5_putFlock 36 = .ok (.iconst 5, 1) := by decide +kernel
theorem dX5_putFlock_37 : decode cX5_putFlock 37 = .ok (.invokestatic 52, 3) := by decide +kernel
theorem dX5_putFlock_40 : decode cX5_putFlock 40 = .ok (.aload_n 0, 1) := by decide +kernel
theorem dX5_putFlock_41 : decode cX5_putFlock 41 = .ok (.dup, 1) := by decide +kernel
theorem dX5_putFlock_42 : decode cX5_putFlock 42 = .ok (.getfield 36, 3) := by decide +kernel
theorem dX5_putFlock_45 : decode cX5_putFlock 45 = .ok (.iconst 1, 1) := by decide +kernel
theorem dX5_putFlock_46 : decode cX5_putFlock 46 = .ok (.iadd, 1) := by decide +kernel
theorem dX5_putFlock_47 : decode cX5_putFlock 47 = .ok (.putfield 36, 3) := by decide +kernel
theorem dX5_putFlock_50 : decode cX5_putFlock 50 = .ok (.return_, 1) := by decide +kernel
theorem dX5_addFlock_0 : decode cX5_addFlock 0 = .ok (.aload_n 0, 1) := by decide +kernel
theorem dX5_addFlock_1 : decode cX5_addFlock 1 = .ok (.iconst 0, 1) := by decide +kernel
theorem dX5_addFlock_2 : decode cX5_addFlock 2 = .ok (.putfield 25, 3) := by decide +kernel
theorem dX5_addFlock_5 : decode cX5_addFlock 5 = .ok (.aload_n 0, 1) := by decide +kernel
theorem dX5_addFlock_6 : decode cX5_addFlock 6 = .ok (.iload_n 1, 1) := by decide +kernel
theorem dX5_addFlock_7 : decode cX5_addFlock 7 = .ok (.invokevirtual 62, 3) := by decide +kernel
theorem dX5_addFlock_10 : decode cX5_addFlock 10 = .ok (.ifCond .ne 9, 3) := by decide +kernel
theorem dX5_addFlock_13 : decode cX5_addFlock 13 = .ok (.aload_n 0, 1) := by decide +kernel
theorem dX5_addFlock_14 : decode cX5_addFlock 14 = .ok (.iconst 1, 1) := by decide +kernel
theorem dX5_addFlock_15 : decode cX5_addFlock 15 = .ok (.invokevirtual 49, 3) := by decide +kernel
theorem dX5_addFlock_18 : decode cX5_addFlock 18 = .ok (.ireturn, 1) := by decide +kernel
theorem dX5_addFlock_19 : decode cX5_addFlock 19 = .ok (.iload_n 2, 1) := by decide +kernel
theorem dX5_addFlock_20 : decode cX5_addFlock 20 = .ok (.iconst 1, 1) := by decide +kernel
theorem dX5_addFlock_21 : decode cX5_addFlock 21 = .ok (.bipush 80, 2) := by decide +kernel
theorem dX5_addFlock_23 : decode cX5_addFlock 23 = .ok (.invokestatic 32, 3) := by decide +kernel
theorem dX5_addFlock_26 : decode cX5_addFlock 26 = .ok (.ifCond .ne 9, 3) := by decide +kernel
theorem dX5_addFlock_29 : decode cX5_addFlock 29 = .ok (.aload_n 0, 1) := by decide +kernel
theorem dX5_addFlock_30 : decode cX5_addFlock 30 = .ok (.iconst 2, 1) := by decide +kernel
theorem dX5_addFlock_31 : decode cX5_addFlock 31 = .ok (.invokevirtual 49, 3) := by decide +kernel
theorem dX5_addFlock_34 : decode cX5_addFlock 34 = .ok (.ireturn, 1) := by decide +kernel
theorem dX5_addFlock_35 : decode cX5_addFlock 35 = .ok (.aload_n 0, 1) := by decide +kernel
theorem dX5_addFlock_36 : decode cX5_addFlock 36 = .ok (.getfield 36, 3) := by decide +kernel
theorem dX5_addFlock_39 : decode cX5_addFlock 39 = .ok (.bipush 6, 2) := by decide +kernel
theorem dX5_addFlock_41 : decode cX5_addFlock 41 = .ok (.if_icmp .ne 9, 3) := by decide +kernel
theorem dX5_addFlock_44 : decode cX5_addFlock 44 = .ok (.aload_n 0, 1) := by decide +kernel
theorem dX5_addFlock_45 : decode cX5_addFlock 45 = .ok (.iconst 3, 1) := by decide +kernel
theorem dX5_addFlock_46 : decode cX5_addFlock 46 = .ok (.invokevirtual 49, 3) := by decide +kernel
theorem dX5_addFlock_49 : decode cX5_addFlock 49 = .ok (.ireturn, 1) := by decide +kernel
theorem dX5_addFlock_50 : decode cX5_addFlock 50 = .ok (.aload_n 0, 1) := by decide +kernel
theorem dX5_addFlock_51 : decode cX5_addFlock 51 = .ok (.iload_n 1, 1) := by decide +kernel
theorem dX5_addFlock_52 : decode cX5_addFlock 52 = .ok (.iload_n 2, 1) := by decide +kernel
theorem dX5_addFlock_53 : decode cX5_addFlock 53 = .ok (.invokevirtual 102, 3) := by decide +kernel
theorem dX5_addFlock_56 : decode cX5_addFlock 56 = .ok (.aload_n 0, 1) := by decide +kernel
theorem dX5_addFlock_57 : decode cX5_addFlock 57 = .ok (.getfield 36, 3) := by decide +kernel
theorem dX5_addFlock_60 : decode cX5_addFlock 60 = .ok (.iconst 1, 1) := by decide +kernel
theorem dX5_addFlock_61 : decode cX5_addFlock 61 = .ok (.isub, 1) := by decide +kernel
theorem dX5_addFlock_62 : decode cX5_addFlock 62 = .ok (.ireturn, 1) := by decide +kernel
theorem dX5_isLost_0 : decode cX5_isLost 0 = .ok (.aload_n 0, 1) := by decide +kernel
theorem dX5_isLost_1 : decode cX5_isLost 1 = .ok (.iload_n 1, 1) := by decide +kernel
theorem dX5_isLost_2 : decode cX5_isLost 2 = .ok (.iconst 2, 1) := by decide +kernel
theorem dX5_isLost_3 : decode cX5_isLost 3 = .ok (.invokevirtual 84, 3) := by decide +kernel
theorem dX5_isLost_6 : decode cX5_isLost 6 = .ok (.bipush 10, 2) := by decide +kernel
theorem dX5_isLost_8 : decode cX5_isLost 8 = .ok (.if_icmp .ne 7, 3) := by decide +kernel
theorem dX5_isLost_11 : decode cX5_isLost 11 = .ok (.iconst 1, 1) := by decide +kernel
theorem dX5_isLost_12 : decode cX5_isLost 12 = .ok (.goto 4, 3) := by decide +kernel
theorem dX5_isLost_15 : decode cX5_isLost 15 = .ok (.iconst 0, 1) := by decide +kernel
theorem dX5_isLost_16 : decode cX5_isLost 16 = .ok (.ireturn, 1) := by decide +kernel
theorem dX5_drive_0 : decode cX5_drive 0 = .ok (.aload_n 0, 1) := by decide +kernel
theorem dX5_drive_1 : decode cX5_drive 1 = .ok (.iconst 0, 1) := by decide +kernel
theorem dX5_drive_2 : decode cX5_drive 2 = .ok (.putfield 25, 3) := by decide +kernel
theorem dX5_drive_5 : decode cX5_drive 5 = .ok (.aload_n 0, 1) := by decide +kernel
theorem dX5_drive_6 : decode cX5_drive 6 = .ok (.iload_n 1, 1) := by decide +kernel
theorem dX5_drive_7 : decode cX5_drive 7 = .ok (.invokevirtual 106, 3) := by decide +kernel
theorem dX5_drive_10 : decode cX5_drive 10 = .ok (.ifCond .eq 11, 3) := by decide +kernel
theorem dX5_drive_13 : decode cX5_drive 13 = .ok (.aload_n 0, 1) := by decide +kernel
theorem dX5_drive_14 : decode cX5_drive 14 = .ok (.iload_n 2, 1) := by decide +kernel
theorem dX5_drive_15 : decode cX5_drive 15 = .ok (.invokevirtual 62, 3) := by decide +kernel
theorem dX5_drive_18 : decode cX5_drive 18 = .ok (.ifCond .ne 9, 3) := by decide +kernel
theorem dX5_drive_21 : decode cX5_drive 21 = .ok (.aload_n 0, 1) := by decide +kernel
theorem dX5_drive_22 : decode cX5_drive 22 = .ok (.iconst 1, 1) := by decide +kernel
theorem dX5_drive_23 : decode cX5_drive 23 = .ok (.invokevirtual 49, 3) := by decide +kernel
theorem dX5_drive_26 : decode cX5_drive 26 = .ok (.ireturn, 1) := by decide +kernel
theorem dX5_drive_27 : decode cX5_drive 27 = .ok (.aload_n 0, 1) := by decide +kernel
theorem dX5_drive_28 : decode cX5_drive 28 = .ok (.iload_n 1, 1) := by decide +kernel
theorem dX5_drive_29 : decode cX5_drive 29 = .ok (.invokevirtual 87, 3) := by decide +kernel
theorem dX5_drive_32 : decode cX5_drive 32 = .ok (.ifCond .eq 9, 3) := by decide +kernel
theorem dX5_drive_35 : decode cX5_drive 35 = .ok (.aload_n 0, 1) := by decide +kernel
theorem dX5_drive_36 : decode cX5_drive 36 = .ok (.iconst 2, 1) := by decide +kernel
theorem dX5_drive_37 : decode cX5_drive 37 = .ok (.invokevirtual 49, 3) := by decide +kernel
theorem dX5_drive_40 : decode cX5_drive 40 = .ok (.ireturn, 1) := by decide +kernel
theorem dX5_drive_41 : decode cX5_drive 41 = .ok (.aload_n 0, 1) := by decide +kernel
theorem dX5_drive_42 : decode cX5_drive 42 = .ok (.aload_n 0, 1) := by decide +kernel
theorem dX5_drive_43 : decode cX5_drive 43 = .ok (.iload_n 1, 1) := by decide +kernel
theorem dX5_drive_44 : decode cX5_drive 44 = .ok (.iconst 1, 1) := by decide +kernel
theorem dX5_drive_45 : decode cX5_drive 45 = .ok (.invokevirtual 84, 3) := by decide +kernel
theorem dX5_drive_48 : decode cX5_drive 48 = .ok (.iload_n 2, 1) := by decide +kernel
theorem dX5_drive_49 : decode cX5_drive 49 = .ok (.invokevirtual 109, 3) := by decide +kernel
theorem dX5_drive_52 : decode cX5_drive 52 = .ok (.istore_n 3, 1) := by decide +kernel
theorem dX5_drive_53 : decode cX5_drive 53 = .ok (.aload_n 0, 1) := by decide +kernel
theorem dX5_drive_54 : decode cX5_drive 54 = .ok (.iload_n 1, 1) := by decide +kernel
theorem dX5_drive_55 : decode cX5_drive 55 = .ok (.iconst 1, 1) := by decide +kernel
theorem dX5_drive_56 : decode cX5_drive 56 = .ok (.iload_n 2, 1) := by decide +kernel
theorem dX5_drive_57 : decode cX5_drive 57 = .ok (.invokevirtual 112, 3) := by decide +kernel
theorem dX5_drive_60 : decode cX5_drive 60 = .ok (.iload_n 3, 1) := by decide +kernel
theorem dX5_drive_61 : decode cX5_drive 61 = .ok (.ireturn, 1) := by decide +kernel
theorem dX5_setRoams_0 : decode cX5_setRoams 0 = .ok (.aload_n 0, 1) := by decide +kernel
theorem dX5_setRoams_1 : decode cX5_setRoams 1 = .ok (.aload_n 0, 1) := by decide +kernel
theorem dX5_setRoams_2 : decode cX5_setRoams 2 = .ok (.iload_n 1, 1) := by decide +kernel
theorem dX5_setRoams_3 : decode cX5_setRoams 3 = .ok (.invokevirtual 106, 3) := by decide +kernel
theorem dX5_setRoams_6 : decode cX5_setRoams 6 = .ok (.ifCond .eq 7, 3) := by decide +kernel
theorem dX5_setRoams_9 : decode cX5_setRoams 9 = .ok (.iconst 0, 1) := by decide +kernel
theorem dX5_setRoams_10 : decode cX5_setRoams 10 = .ok (.goto 4, 3) := by decide +kernel
theorem dX5_setRoams_13 : decode cX5_setRoams 13 = .ok (.iconst 1, 1) := by decide +kernel
theorem dX5_setRoams_14 : decode cX5_setRoams 14 = .ok (.putfield 25, 3) := by decide +kernel
theorem dX5_setRoams_17 : decode cX5_setRoams 17 = .ok (.aload_n 0, 1) := by decide +kernel
theorem dX5_setRoams_18 : decode cX5_setRoams 18 = .ok (.getfield 25, 3) := by decide +kernel
theorem dX5_setRoams_21 : decode cX5_setRoams 21 = .ok (.ifCond .eq 5, 3) := by decide +kernel
theorem dX5_setRoams_24 : decode cX5_setRoams 24 = .ok (.iconst 0, 1) := by decide +kernel
theorem dX5_setRoams_25 : decode cX5_setRoams 25 = .ok (.ireturn, 1) := by decide +kernel
theorem dX5_setRoams_26 : decode cX5_setRoams 26 = .ok (.aload_n 0, 1) := by decide +kernel
theorem dX5_setRoams_27 : decode cX5_setRoams 27 = .ok (.iload_n 1, 1) := by decide +kernel
theorem dX5_setRoams_28 : decode cX5_setRoams 28 = .ok (.iconst 3, 1) := by decide +kernel
theorem dX5_setRoams_29 : decode cX5_setRoams 29 = .ok (.invokevirtual 84, 3) := by decide +kernel
theorem dX5_setRoams_32 : decode cX5_setRoams 32 = .ok (.iconst 1, 1) := by decide +kernel
theorem dX5_setRoams_33 : decode cX5_setRoams 33 = .ok (.if_icmp .ne 7, 3) := by decide +kernel
theorem dX5_setRoams_36 : decode cX5_setRoams 36 = .ok (.iconst 1, 1) := by decide +kernel
theorem dX5_setRoams_37 : decode cX5_setRoams 37 = .ok (.goto 4, 3) := by decide +kernel
theorem dX5_setRoams_40 : decode cX5_setRoams 40 = .ok (.iconst 0, 1) := by decide +kernel
theorem dX5_setRoams_41 : decode cX5_setRoams 41 = .ok (.istore_n 3, 1) := by decide +kernel
theorem dX5_setRoams_42 : decode cX5_setRoams 42 = .ok (.aload_n 0, 1) := by decide +kernel
theorem dX5_setRoams_43 : decode cX5_setRoams 43 = .ok (.iload_n 1, 1) := by decide +kernel
theorem dX5_setRoams_44 : decode cX5_setRoams 44 = .ok (.iconst 3, 1) := by decide +kernel
theorem dX5_setRoams_45 : decode cX5_setRoams 45 = .ok (.iload_n 2, 1) := by decide +kernel
theorem dX5_setRoams_46 : decode cX5_setRoams 46 = .ok (.ifCond .eq 7, 3) := by decide +kernel
theorem dX5_setRoams_49 : decode cX5_setRoams 49 = .ok (.iconst 1, 1) := by decide +kernel
theorem dX5_setRoams_50 : decode cX5_setRoams 50 = .ok (.goto 4, 3) := by decide +kernel
theorem dX5_setRoams_53 : decode cX5_setRoams 53 = .ok (.iconst 0, 1) := by decide +kernel
theorem dX5_setRoams_54 : decode cX5_setRoams 54 = .ok (.invokevirtual 112, 3) := by decide +kernel
theorem dX5_setRoams_57 : decode cX5_setRoams 57 = .ok (.iload_n 3, 1) := by decide +kernel
theorem dX5_setRoams_58 : decode cX5_setRoams 58 = .ok (.ireturn, 1) := by decide +kernel
theorem dX5_flockTold_0 : decode cX5_flockTold 0 = .ok (.iload_n 2, 1) := by decide +kernel
theorem dX5_flockTold_1 : decode cX5_flockTold 1 = .ok (.iconst 4, 1) := by decide +kernel
theorem dX5_flockTold_2 : decode cX5_flockTold 2 = .ok (.if_icmp .ge 12, 3) := by decide +kernel
theorem dX5_flockTold_5 : decode cX5_flockTold 5 = .ok (.aload_n 0, 1) := by decide +kernel
theorem dX5_flockTold_6 : decode cX5_flockTold 6 = .ok (.iload_n 1, 1) := by decide +kernel
theorem dX5_flockTold_7 : decode cX5_flockTold 7 = .ok (.iload_n 2, 1) := by decide +kernel
theorem dX5_flockTold_8 : decode cX5_flockTold 8 = .ok (.invokevirtual 84, 3) := by decide +kernel
theorem dX5_flockTold_11 : decode cX5_flockTold 11 = .ok (.goto 30, 3) := by decide +kernel
theorem dX5_flockTold_14 : decode cX5_flockTold 14 = .ok (.iload_n 2, 1) := by decide +kernel
theorem dX5_flockTold_15 : decode cX5_flockTold 15 = .ok (.iconst 5, 1) := by decide +kernel
theorem dX5_flockTold_16 : decode cX5_flockTold 16 = .ok (.if_icmp .ne 12, 3) := by decide +kernel
theorem dX5_flockTold_19 : decode cX5_flockTold 19 = .ok (.aload_n 0, 1) := by decide +kernel
theorem dX5_flockTold_20 : decode cX5_flockTold 20 = .ok (.iload_n 1, 1) := by decide +kernel
theorem dX5_flockTold_21 : decode cX5_flockTold 21 = .ok (.iconst 4, 1) := by decide +kernel
theorem dX5_flockTold_22 : decode cX5_flockTold 22 = .ok (.invokevirtual 84, 3) := by decide +kernel
theorem dX5_flockTold_25 : decode cX5_flockTold 25 = .ok (.goto 16, 3) := by decide +kernel
theorem dX5_flockTold_28 : decode cX5_flockTold 28 = .ok (.aload_n 0, 1) := by decide +kernel
theorem dX5_flockTold_29 : decode cX5_flockTold 29 = .ok (.iload_n 1, 1) := by decide +kernel
theorem dX5_flockTold_30 : decode cX5_flockTold 30 = .ok (.invokevirtual 87, 3) := by decide +kernel
theorem dX5_flockTold_33 : decode cX5_flockTold 33 = .ok (.ifCond .eq 7, 3) := by decide +kernel
theorem dX5_flockTold_36 : decode cX5_flockTold 36 = .ok (.iconst 1, 1) := by decide +kernel
theorem dX5_flockTold_37 : decode cX5_flockTold 37 = .ok (.goto 4, 3) := by decide +kernel
theorem dX5_flockTold_40 : decode cX5_flockTold 40 = .ok (.iconst 0, 1) := by decide +kernel
theorem dX5_flockTold_41 : decode cX5_flockTold 41 = .ok (.ireturn, 1) := by decide +kernel
theorem dX5_flock_0 : decode cX5_flock 0 = .ok (.aload_n 0, 1) := by decide +kernel
theorem dX5_flock_1 : decode cX5_flock 1 = .ok (.iconst 0, 1) := by decide +kernel
theorem dX5_flock_2 : decode cX5_flock 2 = .ok (.putfield 25, 3) := by decide +kernel
theorem dX5_flock_5 : decode cX5_flock 5 = .ok (.aload_n 0, 1) := by decide +kernel
theorem dX5_flock_6 : decode cX5_flock 6 = .ok (.iload_n 1, 1) := by decide +kernel
theorem dX5_flock_7 : decode cX5_flock 7 = .ok (.invokevirtual 106, 3) := by decide +kernel
theorem dX5_flock_10 : decode cX5_flock 10 = .ok (.ifCond .eq 21, 3) := by decide +kernel
theorem dX5_flock_13 : decode cX5_flock 13 = .ok (.iload_n 2, 1) := by decide +kernel
theorem dX5_flock_14 : decode cX5_flock 14 = .ok (.iconst 0, 1) := by decide +kernel
theorem dX5_flock_15 : decode cX5_flock 15 = .ok (.iconst 5, 1) := by decide +kernel
theorem dX5_flock_16 : decode cX5_flock 16 = .ok (.invokestatic 32, 3) := by decide +kernel
theorem dX5_flock_19 : decode cX5_flock 19 = .ok (.ifCond .eq 12, 3) := by decide +kernel
theorem dX5_flock_22 : decode cX5_flock 22 = .ok (.aload_n 0, 1) := by decide +kernel
theorem dX5_flock_23 : decode cX5_flock 23 = .ok (.iload_n 1, 1) := by decide +kernel
theorem dX5_flock_24 : decode cX5_flock 24 = .ok (.iload_n 2, 1) := by decide +kernel
theorem dX5_flock_25 : decode cX5_flock 25 = .ok (.invokevirtual 115, 3) := by decide +kernel
theorem dX5_flock_28 : decode cX5_flock 28 = .ok (.goto 8, 3) := by decide +kernel
theorem dX5_flock_31 : decode cX5_flock 31 = .ok (.aload_n 0, 1) := by decide +kernel
theorem dX5_flock_32 : decode cX5_flock 32 = .ok (.iconst 1, 1) := by decide +kernel
theorem dX5_flock_33 : decode cX5_flock 33 = .ok (.invokevirtual 49, 3) := by decide +kernel
theorem dX5_flock_36 : decode cX5_flock 36 = .ok (.ireturn, 1) := by decide +kernel
theorem dX5_roam_0 : decode cX5_roam 0 = .ok (.iconst 2, 1) := by decide +kernel
theorem dX5_roam_1 : decode cX5_roam 1 = .ok (.aload_n 0, 1) := by decide +kernel
theorem dX5_roam_2 : decode cX5_roam 2 = .ok (.iload_n 1, 1) := by decide +kernel
theorem dX5_roam_3 : decode cX5_roam 3 = .ok (.iconst 0, 1) := by decide +kernel
theorem dX5_roam_4 : decode cX5_roam 4 = .ok (.invokevirtual 84, 3) := by decide +kernel
theorem dX5_roam_7 : decode cX5_roam 7 = .ok (.imul, 1) := by decide +kernel
theorem dX5_roam_8 : decode cX5_roam 8 = .ok (.istore_n 2, 1) := by decide +kernel
theorem dX5_roam_9 : decode cX5_roam 9 = .ok (.aload_n 0, 1) := by decide +kernel
theorem dX5_roam_10 : decode cX5_roam 10 = .ok (.iload_n 1, 1) := by decide +kernel
theorem dX5_roam_11 : decode cX5_roam 11 = .ok (.iconst 1, 1) := by decide +kernel
theorem dX5_roam_12 : decode cX5_roam 12 = .ok (.invokevirtual 84, 3) := by decide +kernel
theorem dX5_roam_15 : decode cX5_roam 15 = .ok (.istore_n 3, 1) := by decide +kernel
theorem dX5_roam_16 : decode cX5_roam 16 = .ok (.aload_n 0, 1) := by decide +kernel
theorem dX5_roam_17 : decode cX5_roam 17 = .ok (.iload_n 1, 1) := by decide +kernel
theorem dX5_roam_18 : decode cX5_roam 18 = .ok (.iconst 3, 1) := by decide +kernel
theorem dX5_roam_19 : decode cX5_roam 19 = .ok (.invokevirtual 84, 3) := by decide +kernel
theorem dX5_roam_22 : decode cX5_roam 22 = .ok (.ifCond .eq 22, 3) := by decide +kernel
theorem dX5_roam_25 : decode cX5_roam 25 = .ok (.aload_n 0, 1) := by decide +kernel
theorem dX5_roam_26 : decode cX5_roam 26 = .ok (.iload_n 1, 1) := by decide +kernel
theorem dX5_roam_27 : decode cX5_roam 27 = .ok (.iconst 2, 1) := by decide +kernel
theorem dX5_roam_28 : decode cX5_roam 28 = .ok (.invokevirtual 84, 3) := by decide +kernel
theorem dX5_roam_31 : decode cX5_roam 31 = .ok (.ifCond .eq 13, 3) := by decide +kernel
theorem dX5_roam_34 : decode cX5_roam 34 = .ok (.aload_n 0, 1) := by decide +kernel
theorem dX5_roam_35 : decode cX5_roam 35 = .ok (.iload_n 3, 1) := by decide +kernel
theorem dX5_roam_36 : decode cX5_roam 36 = .ok (.iconst 0, 1) := by decide +kernel
theorem dX5_roam_37 : decode cX5_roam 37 = .ok (.invokevirtual 66, 3) := by decide +kernel
theorem dX5_roam_40 : decode cX5_roam 40 = .ok (.iload_n 2, 1) := by decide +kernel
theorem dX5_roam_41 : decode cX5_roam 41 = .ok (.if_icmp .lt 4, 3) := by decide +kernel
theorem dX5_roam_44 : decode cX5_roam 44 = .ok (.return_, 1) := by decide +kernel
theorem dX5_roam_45 : decode cX5_roam 45 = .ok (.iconst (-1), 1) := by decide +kernel
theorem dX5_roam_46 : decode cX5_roam 46 = .ok (.istore 4, 2) := by decide +kernel
theorem dX5_roam_48 : decode cX5_roam 48 = .ok (.iconst 0, 1) := by decide +kernel
theorem dX5_roam_49 : decode cX5_roam 49 = .ok (.istore 5, 2) := by decide +kernel
theorem dX5_roam_51 : decode cX5_roam 51 = .ok (.iload 5, 2) := by decide +kernel
theorem dX5_roam_53 : decode cX5_roam 53 = .ok (.aload_n 0, 1) := by decide +kernel
theorem dX5_roam_54 : decode cX5_roam 54 = .ok (.getfield 29, 3) := by decide +kernel
theorem dX5_roam_57 : decode cX5_roam 57 = .ok (.if_icmp .ge 53, 3) := by decide +kernel
theorem dX5_roam_60 : decode cX5_roam 60 = .ok (.iload 5, 2) := by decide +kernel
theorem dX5_roam_62 : decode cX5_roam 62 = .ok (.iload_n 3, 1) := by decide +kernel
theorem dX5_roam_63 : decode cX5_roam 63 = .ok (.if_icmp .eq 41, 3) := by decide +kernel
theorem dX5_roam_66 : decode cX5_roam 66 = .ok (.aload_n 0, 1) := by decide +kernel
theorem dX5_roam_67 : decode cX5_roam 67 = .ok (.iload 5, 2) := by decide +kernel
theorem dX5_roam_69 : decode cX5_roam 69 = .ok (.iconst 0, 1) := by decide +kernel
theorem dX5_roam_70 : decode cX5_roam 70 = .ok (.invokevirtual 66, 3) := by decide +kernel
theorem dX5_roam_73 : decode cX5_roam 73 = .ok (.iload_n 2, 1) := by decide +kernel
theorem dX5_roam_74 : decode cX5_roam 74 = .ok (.if_icmp .lt 30, 3) := by decide +kernel
theorem dX5_roam_77 : decode cX5_roam 77 = .ok (.iload 4, 2) := by decide +kernel
theorem dX5_roam_79 : decode cX5_roam 79 = .ok (.iconst (-1), 1) := by decide +kernel
theorem dX5_roam_80 : decode cX5_roam 80 = .ok (.if_icmp .eq 20, 3) := by decide +kernel
theorem dX5_roam_83 : decode cX5_roam 83 = .ok (.aload_n 0, 1) := by decide +kernel
theorem dX5_roam_84 : decode cX5_roam 84 = .ok (.iload_n 3, 1) := by decide +kernel
theorem dX5_roam_85 : decode cX5_roam 85 = .ok (.iload 5, 2) := by decide +kernel
theorem dX5_roam_87 : decode cX5_roam 87 = .ok (.invokevirtual 109, 3) := by decide +kernel
theorem dX5_roam_90 : decode cX5_roam 90 = .ok (.aload_n 0, 1) := by decide +kernel
theorem dX5_roam_91 : decode cX5_roam 91 = .ok (.iload_n 3, 1) := by decide +kernel
theorem dX5_roam_92 : decode cX5_roam 92 = .ok (.iload 4, 2) := by decide +kernel
theorem dX5_roam_94 : decode cX5_roam 94 = .ok (.invokevirtual 109, 3) := by decide +kernel
theorem dX5_roam_97 : decode cX5_roam 97 = .ok (.if_icmp .ge 7, 3) := by decide +kernel
theorem dX5_roam_100 : decode cX5_roam 100 = .ok (.iload 5, 2) := by decide +kernel
theorem dX5_roam_102 : decode cX5_roam 102 = .ok (.istore 4, 2) := by decide +kernel
theorem dX5_roam_104 : decode cX5_roam 104 = .ok (.iinc 5 1, 3) := by decide +kernel
theorem dX5_roam_107 : decode cX5_roam 107 = .ok (.goto (-56), 3) := by decide +kernel
theorem dX5_roam_110 : decode cX5_roam 110 = .ok (.iload 4, 2) := by decide +kernel
theorem dX5_roam_112 : decode cX5_roam 112 = .ok (.iconst (-1), 1) := by decide +kernel
theorem dX5_roam_113 : decode cX5_roam 113 = .ok (.if_icmp .eq 11, 3) := by decide +kernel
theorem dX5_roam_116 : decode cX5_roam 116 = .ok (.aload_n 0, 1) := by decide +kernel
theorem dX5_roam_117 : decode cX5_roam 117 = .ok (.iload_n 1, 1) := by decide +kernel
theorem dX5_roam_118 : decode cX5_roam 118 = .ok (.iconst 1, 1) := by decide +kernel
theorem dX5_roam_119 : decode cX5_roam 119 = .ok (.iload 4, 2) := by decide +kernel
theorem dX5_roam_121 : decode cX5_roam 121 = .ok (.invokevirtual 112, 3) := by decide +kernel
theorem dX5_roam_124 : decode cX5_roam 124 = .ok (.return_, 1) := by decide +kernel
theorem dX5_drink_0 : decode cX5_drink 0 = .ok (.aload_n 0, 1) := by decide +kernel
theorem dX5_drink_1 : decode cX5_drink 1 = .ok (.iload_n 1, 1) := by decide +kernel
theorem dX5_drink_2 : decode cX5_drink 2 = .ok (.invokevirtual 118, 3) := by decide +kernel
theorem dX5_drink_5 : decode cX5_drink 5 = .ok (.aload_n 0, 1) := by decide +kernel
theorem dX5_drink_6 : decode cX5_drink 6 = .ok (.iload_n 1, 1) := by decide +kernel
theorem dX5_drink_7 : decode cX5_drink 7 = .ok (.iconst 1, 1) := by decide +kernel
theorem dX5_drink_8 : decode cX5_drink 8 = .ok (.invokevirtual 84, 3) := by decide +kernel
theorem dX5_drink_11 : decode cX5_drink 11 = .ok (.istore_n 2, 1) := by decide +kernel
theorem dX5_drink_12 : decode cX5_drink 12 = .ok (.iconst 2, 1) := by decide +kernel
theorem dX5_drink_13 : decode cX5_drink 13 = .ok (.aload_n 0, 1) := by decide +kernel
theorem dX5_drink_14 : decode cX5_drink 14 = .ok (.iload_n 1, 1) := by decide +kernel
theorem dX5_drink_15 : decode cX5_drink 15 = .ok (.iconst 0, 1) := by decide +kernel
theorem dX5_drink_16 : decode cX5_drink 16 = .ok (.invokevirtual 84, 3) := by decide +kernel
theorem dX5_drink_19 : decode cX5_drink 19 = .ok (.imul, 1) := by decide +kernel
theorem dX5_drink_20 : decode cX5_drink 20 = .ok (.istore_n 3, 1) := by decide +kernel
theorem dX5_drink_21 : decode cX5_drink 21 = .ok (.iload_n 3, 1) := by decide +kernel
theorem dX5_drink_22 : decode cX5_drink 22 = .ok (.aload_n 0, 1) := by decide +kernel
theorem dX5_drink_23 : decode cX5_drink 23 = .ok (.iload_n 2, 1) := by decide +kernel
theorem dX5_drink_24 : decode cX5_drink 24 = .ok (.iconst 0, 1) := by decide +kernel
theorem dX5_drink_25 : decode cX5_drink 25 = .ok (.invokevirtual 66, 3) := by decide +kernel
theorem dX5_drink_28 : decode cX5_drink 28 = .ok (.invokestatic 72, 3) := by decide +kernel
theorem dX5_drink_31 : decode cX5_drink 31 = .ok (.istore 4, 2) := by decide +kernel
theorem dX5_drink_33 : decode cX5_drink 33 = .ok (.aload_n 0, 1) := by decide +kernel
theorem dX5_drink_34 : decode cX5_drink 34 = .ok (.iload_n 2, 1) := by decide +kernel
theorem dX5_drink_35 : decode cX5_drink 35 = .ok (.iconst 0, 1) := by decide +kernel
theorem dX5_drink_36 : decode cX5_drink 36 = .ok (.aload_n 0, 1) := by decide +kernel
theorem dX5_drink_37 : decode cX5_drink 37 = .ok (.iload_n 2, 1) := by decide +kernel
theorem dX5_drink_38 : decode cX5_drink 38 = .ok (.iconst 0, 1) := by decide +kernel
theorem dX5_drink_39 : decode cX5_drink 39 = .ok (.invokevirtual 66, 3) := by decide +kernel
theorem dX5_drink_42 : decode cX5_drink 42 = .ok (.iload 4, 2) := by decide +kernel
theorem dX5_drink_44 : decode cX5_drink 44 = .ok (.isub, 1) := by decide +kernel
theorem dX5_drink_45 : decode cX5_drink 45 = .ok (.invokevirtual 58, 3) := by decide +kernel
theorem dX5_drink_48 : decode cX5_drink 48 = .ok (.aload_n 0, 1) := by decide +kernel
theorem dX5_drink_49 : decode cX5_drink 49 = .ok (.iload_n 1, 1) := by decide +kernel
theorem dX5_drink_50 : decode cX5_drink 50 = .ok (.iconst 4, 1) := by decide +kernel
theorem dX5_drink_51 : decode cX5_drink 51 = .ok (.aload_n 0, 1) := by decide +kernel
theorem dX5_drink_52 : decode cX5_drink 52 = .ok (.iload_n 1, 1) := by decide +kernel
theorem dX5_drink_53 : decode cX5_drink 53 = .ok (.iconst 4, 1) := by decide +kernel
theorem dX5_drink_54 : decode cX5_drink 54 = .ok (.invokevirtual 84, 3) := by decide +kernel
theorem dX5_drink_57 : decode cX5_drink 57 = .ok (.iload 4, 2) := by decide +kernel
theorem dX5_drink_59 : decode cX5_drink 59 = .ok (.iadd, 1) := by decide +kernel
theorem dX5_drink_60 : decode cX5_drink 60 = .ok (.invokevirtual 112, 3) := by decide +kernel
theorem dX5_drink_63 : decode cX5_drink 63 = .ok (.aload_n 0, 1) := by decide +kernel
theorem dX5_drink_64 : decode cX5_drink 64 = .ok (.iload_n 1, 1) := by decide +kernel
theorem dX5_drink_65 : decode cX5_drink 65 = .ok (.iconst 2, 1) := by decide +kernel
theorem dX5_drink_66 : decode cX5_drink 66 = .ok (.iload 4, 2) := by decide +kernel
theorem dX5_drink_68 : decode cX5_drink 68 = .ok (.iload_n 3, 1) := by decide +kernel
theorem dX5_drink_69 : decode cX5_drink 69 = .ok (.if_icmp .ne 18, 3) := by decide +kernel
theorem dX5_drink_72 : decode cX5_drink 72 = .ok (.iconst 0, 1) := by decide +kernel
theorem dX5_drink_73 : decode cX5_drink 73 = .ok (.aload_n 0, 1) := by decide +kernel
theorem dX5_drink_74 : decode cX5_drink 74 = .ok (.iload_n 1, 1) := by decide +kernel
theorem dX5_drink_75 : decode cX5_drink 75 = .ok (.iconst 2, 1) := by decide +kernel
theorem dX5_drink_76 : decode cX5_drink 76 = .ok (.invokevirtual 84, 3) := by decide +kernel
theorem dX5_drink_79 : decode cX5_drink 79 = .ok (.iconst 2, 1) := by decide +kernel
theorem dX5_drink_80 : decode cX5_drink 80 = .ok (.isub, 1) := by decide +kernel
theorem dX5_drink_81 : decode cX5_drink 81 = .ok (.invokestatic 81, 3) := by decide +kernel
theorem dX5_drink_84 : decode cX5_drink 84 = .ok (.goto 16, 3) := by decide +kernel
theorem dX5_drink_87 : decode cX5_drink 87 = .ok (.bipush 10, 2) := by decide +kernel
theorem dX5_drink_89 : decode cX5_drink 89 = .ok (.aload_n 0, 1) := by decide +kernel
theorem dX5_drink_90 : decode cX5_drink 90 = .ok (.iload_n 1, 1) := by decide +kernel
theorem dX5_drink_91 : decode cX5_drink 91 = .ok (.iconst 2, 1) := by decide +kernel
theorem dX5_drink_92 : decode cX5_drink 92 = .ok (.invokevirtual 84, 3) := by decide +kernel
theorem dX5_drink_95 : decode cX5_drink 95 = .ok (.iconst 3, 1) := by decide +kernel
theorem dX5_drink_96 : decode cX5_drink 96 = .ok (.iadd, 1) := by decide +kernel
theorem dX5_drink_97 : decode cX5_drink 97 = .ok (.invokestatic 72, 3) := by decide +kernel
theorem dX5_drink_100 : decode cX5_drink 100 = .ok (.invokevirtual 112, 3) := by decide +kernel
theorem dX5_drink_103 : decode cX5_drink 103 = .ok (.aload_n 0, 1) := by decide +kernel
theorem dX5_drink_104 : decode cX5_drink 104 = .ok (.iload_n 2, 1) := by decide +kernel
theorem dX5_drink_105 : decode cX5_drink 105 = .ok (.iconst 2, 1) := by decide +kernel
theorem dX5_drink_106 : decode cX5_drink 106 = .ok (.invokevirtual 66, 3) := by decide +kernel
theorem dX5_drink_109 : decode cX5_drink 109 = .ok (.ifCond .ne 29, 3) := by decide +kernel
theorem dX5_drink_112 : decode cX5_drink 112 = .ok (.aload_n 0, 1) := by decide +kernel
theorem dX5_drink_113 : decode cX5_drink 113 = .ok (.iload_n 2, 1) := by decide +kernel
theorem dX5_drink_114 : decode cX5_drink 114 = .ok (.iconst 1, 1) := by decide +kernel
theorem dX5_drink_115 : decode cX5_drink 115 = .ok (.iconst 0, 1) := by decide +kernel
theorem dX5_drink_116 : decode cX5_drink 116 = .ok (.aload_n 0, 1) := by decide +kernel
theorem dX5_drink_117 : decode cX5_drink 117 = .ok (.iload_n 2, 1) := by decide +kernel
theorem dX5_drink_118 : decode cX5_drink 118 = .ok (.iconst 1, 1) := by decide +kernel
theorem dX5_drink_119 : decode cX5_drink 119 = .ok (.invokevirtual 66, 3) := by decide +kernel
theorem dX5_drink_122 : decode cX5_drink 122 = .ok (.aload_n 0, 1) := by decide +kernel
theorem dX5_drink_123 : decode cX5_drink 123 = .ok (.iload_n 1, 1) := by decide +kernel
theorem dX5_drink_124 : decode cX5_drink 124 = .ok (.iconst 0, 1) := by decide +kernel
theorem dX5_drink_125 : decode cX5_drink 125 = .ok (.invokevirtual 84, 3) := by decide +kernel
theorem dX5_drink_128 : decode cX5_drink 128 = .ok (.bipush 10, 2) := by decide +kernel
theorem dX5_drink_130 : decode cX5_drink 130 = .ok (.idiv, 1) := by decide +kernel
theorem dX5_drink_131 : decode cX5_drink 131 = .ok (.isub, 1) := by decide +kernel
theorem dX5_drink_132 : decode cX5_drink 132 = .ok (.invokestatic 81, 3) := by decide +kernel
theorem dX5_drink_135 : decode cX5_drink 135 = .ok (.invokevirtual 58, 3) := by decide +kernel
theorem dX5_drink_138 : decode cX5_drink 138 = .ok (.iload 4, 2) := by decide +kernel
theorem dX5_drink_140 : decode cX5_drink 140 = .ok (.ireturn, 1) := by decide +kernel
theorem dX5_change_0 : decode cX5_change 0 = .ok (.aload_n 0, 1) := by decide +kernel
theorem dX5_change_1 : decode cX5_change 1 = .ok (.iload_n 1, 1) := by decide +kernel
theorem dX5_change_2 : decode cX5_change 2 = .ok (.iconst 0, 1) := by decide +kernel
theorem dX5_change_3 : decode cX5_change 3 = .ok (.iconst 0, 1) := by decide +kernel
theorem dX5_change_4 : decode cX5_change 4 = .ok (.aload_n 0, 1) := by decide +kernel
theorem dX5_change_5 : decode cX5_change 5 = .ok (.iload_n 1, 1) := by decide +kernel
theorem dX5_change_6 : decode cX5_change 6 = .ok (.iconst 0, 1) := by decide +kernel
theorem dX5_change_7 : decode cX5_change 7 = .ok (.invokevirtual 66, 3) := by decide +kernel
theorem dX5_change_10 : decode cX5_change 10 = .ok (.iload_n 2, 1) := by decide +kernel
theorem dX5_change_11 : decode cX5_change 11 = .ok (.iadd, 1) := by decide +kernel
theorem dX5_change_12 : decode cX5_change 12 = .ok (.invokestatic 81, 3) := by decide +kernel
theorem dX5_change_15 : decode cX5_change 15 = .ok (.invokevirtual 58, 3) := by decide +kernel
theorem dX5_change_18 : decode cX5_change 18 = .ok (.return_, 1) := by decide +kernel
theorem dX5_runOver_0 : decode cX5_runOver 0 = .ok (.sipush 300, 3) := by decide +kernel
theorem dX5_runOver_3 : decode cX5_runOver 3 = .ok (.istore_n 1, 1) := by decide +kernel
theorem dX5_runOver_4 : decode cX5_runOver 4 = .ok (.iload_n 1, 1) := by decide +kernel
theorem dX5_runOver_5 : decode cX5_runOver 5 = .ok (.ifCond .lt 97, 3) := by decide +kernel
theorem dX5_runOver_8 : decode cX5_runOver 8 = .ok (.iconst 0, 1) := by decide +kernel
theorem dX5_runOver_9 : decode cX5_runOver 9 = .ok (.istore_n 2, 1) := by decide +kernel
theorem dX5_runOver_10 : decode cX5_runOver 10 = .ok (.iload_n 2, 1) := by decide +kernel
theorem dX5_runOver_11 : decode cX5_runOver 11 = .ok (.aload_n 0, 1) := by decide +kernel
theorem dX5_runOver_12 : decode cX5_runOver 12 = .ok (.getfield 29, 3) := by decide +kernel
theorem dX5_runOver_15 : decode cX5_runOver 15 = .ok (.if_icmp .ge 81, 3) := by decide +kernel
theorem dX5_runOver_18 : decode cX5_runOver 18 = .ok (.aload_n 0, 1) := by decide +kernel
theorem dX5_runOver_19 : decode cX5_runOver 19 = .ok (.iload_n 2, 1) := by decide +kernel
theorem dX5_runOver_20 : decode cX5_runOver 20 = .ok (.iconst 0, 1) := by decide +kernel
theorem dX5_runOver_21 : decode cX5_runOver 21 = .ok (.invokevirtual 66, 3) := by decide +kernel
theorem dX5_runOver_24 : decode cX5_runOver 24 = .ok (.aload_n 0, 1) := by decide +kernel
theorem dX5_runOver_25 : decode cX5_runOver 25 = .ok (.iload_n 2, 1) := by decide +kernel
theorem dX5_runOver_26 : decode cX5_runOver 26 = .ok (.invokevirtual 69, 3) := by decide +kernel
theorem dX5_runOver_29 : decode cX5_runOver 29 = .ok (.isub, 1) := by decide +kernel
theorem dX5_runOver_30 : decode cX5_runOver 30 = .ok (.istore_n 3, 1) := by decide +kernel
theorem dX5_runOver_31 : decode cX5_runOver 31 = .ok (.aload_n 0, 1) := by decide +kernel
theorem dX5_runOver_32 : decode cX5_runOver 32 = .ok (.iload_n 2, 1) := by decide +kernel
theorem dX5_runOver_33 : decode cX5_runOver 33 = .ok (.iconst 2, 1) := by decide +kernel
theorem dX5_runOver_34 : decode cX5_runOver 34 = .ok (.invokevirtual 39, 3) := by decide +kernel
theorem dX5_runOver_37 : decode cX5_runOver 37 = .ok (.iload_n 1, 1) := by decide +kernel
theorem dX5_runOver_38 : decode cX5_runOver 38 = .ok (.if_icmp .ne 52, 3) := by decide +kernel
theorem dX5_runOver_41 : decode cX5_runOver 41 = .ok (.iload_n 3, 1) := by decide +kernel
theorem dX5_runOver_42 : decode cX5_runOver 42 = .ok (.ifCond .gt 6, 3) := by decide +kernel
theorem dX5_runOver_45 : decode cX5_runOver 45 = .ok (.goto 45, 3) := by decide +kernel
theorem dX5_runOver_48 : decode cX5_runOver 48 = .ok (.aload_n 0, 1) := by decide +kernel
theorem dX5_runOver_49 : decode cX5_runOver 49 = .ok (.iload_n 2, 1) := by decide +kernel
theorem dX5_runOver_50 : decode cX5_runOver 50 = .ok (.iload_n 3, 1) := by decide +kernel
theorem dX5_runOver_51 : decode cX5_runOver 51 = .ok (.ineg, 1) := by decide +kernel
theorem dX5_runOver_52 : decode cX5_runOver 52 = .ok (.invokevirtual 122, 3) := by decide +kernel
theorem dX5_runOver_55 : decode cX5_runOver 55 = .ok (.aload_n 0, 1) := by decide +kernel
theorem dX5_runOver_56 : decode cX5_runOver 56 = .ok (.iload_n 2, 1) := by decide +kernel
theorem dX5_runOver_57 : decode cX5_runOver 57 = .ok (.iconst 4, 1) := by decide +kernel
theorem dX5_runOver_58 : decode cX5_runOver 58 = .ok (.aload_n 0, 1) := by decide +kernel
theorem dX5_runOver_59 : decode cX5_runOver 59 = .ok (.iload_n 2, 1) := by decide +kernel
theorem dX5_runOver_60 : decode cX5_runOver 60 = .ok (.iconst 4, 1) := by decide +kernel
theorem dX5_runOver_61 : decode cX5_runOver 61 = .ok (.invokevirtual 66, 3) := by decide +kernel
theorem dX5_runOver_64 : decode cX5_runOver 64 = .ok (.iload_n 3, 1) := by decide +kernel
theorem dX5_runOver_65 : decode cX5_runOver 65 = .ok (.iadd, 1) := by decide +kernel
theorem dX5_runOver_66 : decode cX5_runOver 66 = .ok (.invokevirtual 58, 3) := by decide +kernel
theorem dX5_runOver_69 : decode cX5_runOver 69 = .ok (.aload_n 0, 1) := by decide +kernel
theorem dX5_runOver_70 : decode cX5_runOver 70 = .ok (.iload_n 2, 1) := by decide +kernel
theorem dX5_runOver_71 : decode cX5_runOver 71 = .ok (.iconst 3, 1) := by decide +kernel
theorem dX5_runOver_72 : decode cX5_runOver 72 = .ok (.invokevirtual 66, 3) := by decide +kernel
theorem dX5_runOver_75 : decode cX5_runOver 75 = .ok (.iconst (-1), 1) := by decide +kernel
theorem dX5_runOver_76 : decode cX5_runOver 76 = .ok (.if_icmp .eq 14, 3) := by decide +kernel
theorem dX5_runOver_79 : decode cX5_runOver 79 = .ok (.aload_n 0, 1) := by decide +kernel
theorem dX5_runOver_80 : decode cX5_runOver 80 = .ok (.aload_n 0, 1) := by decide +kernel
theorem dX5_runOver_81 : decode cX5_runOver 81 = .ok (.iload_n 2, 1) := by decide +kernel
theorem dX5_runOver_82 : decode cX5_runOver 82 = .ok (.iconst 3, 1) := by decide +kernel
theorem dX5_runOver_83 : decode cX5_runOver 83 = .ok (.invokevirtual 66, 3) := by decide +kernel
theorem dX5_runOver_86 : decode cX5_runOver 86 = .ok (.iload_n 3, 1) := by decide +kernel
theorem dX5_runOver_87 : decode cX5_runOver 87 = .ok (.invokevirtual 122, 3) := by decide +kernel
theorem dX5_runOver_90 : decode cX5_runOver 90 = .ok (.iinc 2 1, 3) := by decide +kernel
theorem dX5_runOver_93 : decode cX5_runOver 93 = .ok (.goto (-83), 3) := by decide +kernel
theorem dX5_runOver_96 : decode cX5_runOver 96 = .ok (.iinc 1 (-1), 3) := by decide +kernel
theorem dX5_runOver_99 : decode cX5_runOver 99 = .ok (.goto (-95), 3) := by decide +kernel
theorem dX5_runOver_102 : decode cX5_runOver 102 = .ok (.return_, 1) := by decide +kernel
theorem dX5_dayOn_0 : decode cX5_dayOn 0 = .ok (.aload_n 0, 1) := by decide +kernel
theorem dX5_dayOn_1 : decode cX5_dayOn 1 = .ok (.getfield 22, 3) := by decide +kernel
theorem dX5_dayOn_4 : decode cX5_dayOn 4 = .ok (.iconst 0, 1) := by decide +kernel
theorem dX5_dayOn_5 : decode cX5_dayOn 5 = .ok (.iaload, 1) := by decide +kernel
theorem dX5_dayOn_6 : decode cX5_dayOn 6 = .ok (.bipush 10, 2) := by decide +kernel
theorem dX5_dayOn_8 : decode cX5_dayOn 8 = .ok (.irem, 1) := by decide +kernel
theorem dX5_dayOn_9 : decode cX5_dayOn 9 = .ok (.istore_n 1, 1) := by decide +kernel
theorem dX5_dayOn_10 : decode cX5_dayOn 10 = .ok (.iconst 0, 1) := by decide +kernel
theorem dX5_dayOn_11 : decode cX5_dayOn 11 = .ok (.istore_n 2, 1) := by decide +kernel
theorem dX5_dayOn_12 : decode cX5_dayOn 12 = .ok (.iconst 0, 1) := by decide +kernel
theorem dX5_dayOn_13 : decode cX5_dayOn 13 = .ok (.istore_n 3, 1) := by decide +kernel
theorem dX5_dayOn_14 : decode cX5_dayOn 14 = .ok (.iload_n 3, 1) := by decide +kernel
theorem dX5_dayOn_15 : decode cX5_dayOn 15 = .ok (.aload_n 0, 1) := by decide +kernel
theorem dX5_dayOn_16 : decode cX5_dayOn 16 = .ok (.getfield 29, 3) := by decide +kernel
theorem dX5_dayOn_19 : decode cX5_dayOn 19 = .ok (.if_icmp .ge 73, 3) := by decide +kernel
theorem dX5_dayOn_22 : decode cX5_dayOn 22 = .ok (.aload_n 0, 1) := by decide +kernel
theorem dX5_dayOn_23 : decode cX5_dayOn 23 = .ok (.iload_n 3, 1) := by decide +kernel
theorem dX5_dayOn_24 : decode cX5_dayOn 24 = .ok (.aload_n 0, 1) := by decide +kernel
theorem dX5_dayOn_25 : decode cX5_dayOn 25 = .ok (.getfield 13, 3) := by decide +kernel
theorem dX5_dayOn_28 : decode cX5_dayOn 28 = .ok (.iconst 3, 1) := by decide +kernel
theorem dX5_dayOn_29 : decode cX5_dayOn 29 = .ok (.iload_n 1, 1) := by decide +kernel
theorem dX5_dayOn_30 : decode cX5_dayOn 30 = .ok (.imul, 1) := by decide +kernel
theorem dX5_dayOn_31 : decode cX5_dayOn 31 = .ok (.iaload, 1) := by decide +kernel
theorem dX5_dayOn_32 : decode cX5_dayOn 32 = .ok (.aload_n 0, 1) := by decide +kernel
theorem dX5_dayOn_33 : decode cX5_dayOn 33 = .ok (.iload_n 3, 1) := by decide +kernel
theorem dX5_dayOn_34 : decode cX5_dayOn 34 = .ok (.iconst 3, 1) := by decide +kernel
theorem dX5_dayOn_35 : decode cX5_dayOn 35 = .ok (.invokevirtual 39, 3) := by decide +kernel
theorem dX5_dayOn_38 : decode cX5_dayOn 38 = .ok (.imul, 1) := by decide +kernel
theorem dX5_dayOn_39 : decode cX5_dayOn 39 = .ok (.iconst 4, 1) := by decide +kernel
theorem dX5_dayOn_40 : decode cX5_dayOn 40 = .ok (.idiv, 1) := by decide +kernel
theorem dX5_dayOn_41 : decode cX5_dayOn 41 = .ok (.aload_n 0, 1) := by decide +kernel
theorem dX5_dayOn_42 : decode cX5_dayOn 42 = .ok (.iload_n 3, 1) := by decide +kernel
theorem dX5_dayOn_43 : decode cX5_dayOn 43 = .ok (.iconst 2, 1) := by decide +kernel
theorem dX5_dayOn_44 : decode cX5_dayOn 44 = .ok (.invokevirtual 39, 3) := by decide +kernel
theorem dX5_dayOn_47 : decode cX5_dayOn 47 = .ok (.sipush 150, 3) := by decide +kernel
theorem dX5_dayOn_50 : decode cX5_dayOn 50 = .ok (.if_icmp .lt 7, 3) := by decide +kernel
theorem dX5_dayOn_53 : decode cX5_dayOn 53 = .ok (.iconst 2, 1) := by decide +kernel
theorem dX5_dayOn_54 : decode cX5_dayOn 54 = .ok (.goto 4, 3) := by decide +kernel
theorem dX5_dayOn_57 : decode cX5_dayOn 57 = .ok (.iconst 1, 1) := by decide +kernel
theorem dX5_dayOn_58 : decode cX5_dayOn 58 = .ok (.imul, 1) := by decide +kernel
theorem dX5_dayOn_59 : decode cX5_dayOn 59 = .ok (.invokevirtual 122, 3) := by decide +kernel
theorem dX5_dayOn_62 : decode cX5_dayOn 62 = .ok (.aload_n 0, 1) := by decide +kernel
theorem dX5_dayOn_63 : decode cX5_dayOn 63 = .ok (.iload_n 3, 1) := by decide +kernel
theorem dX5_dayOn_64 : decode cX5_dayOn 64 = .ok (.aload_n 0, 1) := by decide +kernel
theorem dX5_dayOn_65 : decode cX5_dayOn 65 = .ok (.getfield 13, 3) := by decide +kernel
theorem dX5_dayOn_68 : decode cX5_dayOn 68 = .ok (.iconst 3, 1) := by decide +kernel
theorem dX5_dayOn_69 : decode cX5_dayOn 69 = .ok (.iload_n 1, 1) := by decide +kernel
theorem dX5_dayOn_70 : decode cX5_dayOn 70 = .ok (.imul, 1) := by decide +kernel
theorem dX5_dayOn_71 : decode cX5_dayOn 71 = .ok (.iconst 1, 1) := by decide +kernel
theorem dX5_dayOn_72 : decode cX5_dayOn 72 = .ok (.iadd, 1) := by decide +kernel
theorem dX5_dayOn_73 : decode cX5_dayOn 73 = .ok (.iaload, 1) := by decide +kernel
theorem dX5_dayOn_74 : decode cX5_dayOn 74 = .ok (.aload_n 0, 1) := by decide +kernel
theorem dX5_dayOn_75 : decode cX5_dayOn 75 = .ok (.iload_n 3, 1) := by decide +kernel
theorem dX5_dayOn_76 : decode cX5_dayOn 76 = .ok (.iconst 3, 1) := by decide +kernel
theorem dX5_dayOn_77 : decode cX5_dayOn 77 = .ok (.invokevirtual 39, 3) := by decide +kernel
theorem dX5_dayOn_80 : decode cX5_dayOn 80 = .ok (.imul, 1) := by decide +kernel
theorem dX5_dayOn_81 : decode cX5_dayOn 81 = .ok (.iconst 2, 1) := by decide +kernel
theorem dX5_dayOn_82 : decode cX5_dayOn 82 = .ok (.idiv, 1) := by decide +kernel
theorem dX5_dayOn_83 : decode cX5_dayOn 83 = .ok (.invokevirtual 122, 3) := by decide +kernel
theorem dX5_dayOn_86 : decode cX5_dayOn 86 = .ok (.iinc 3 1, 3) := by decide +kernel
theorem dX5_dayOn_89 : decode cX5_dayOn 89 = .ok (.goto (-75), 3) := by decide +kernel
theorem dX5_dayOn_92 : decode cX5_dayOn 92 = .ok (.iconst 0, 1) := by decide +kernel
theorem dX5_dayOn_93 : decode cX5_dayOn 93 = .ok (.istore_n 3, 1) := by decide +kernel
theorem dX5_dayOn_94 : decode cX5_dayOn 94 = .ok (.iload_n 3, 1) := by decide +kernel
theorem dX5_dayOn_95 : decode cX5_dayOn 95 = .ok (.aload_n 0, 1) := by decide +kernel
theorem dX5_dayOn_96 : decode cX5_dayOn 96 = .ok (.getfield 36, 3) := by decide +kernel
theorem dX5_dayOn_99 : decode cX5_dayOn 99 = .ok (.if_icmp .ge 25, 3) := by decide +kernel
theorem dX5_dayOn_102 : decode cX5_dayOn 102 = .ok (.aload_n 0, 1) := by decide +kernel
theorem dX5_dayOn_103 : decode cX5_dayOn 103 = .ok (.iload_n 3, 1) := by decide +kernel
theorem dX5_dayOn_104 : decode cX5_dayOn 104 = .ok (.invokevirtual 87, 3) := by decide +kernel
theorem dX5_dayOn_107 : decode cX5_dayOn 107 = .ok (.ifCond .ne 11, 3) := by decide +kernel
theorem dX5_dayOn_110 : decode cX5_dayOn 110 = .ok (.iload_n 2, 1) := by decide +kernel
theorem dX5_dayOn_111 : decode cX5_dayOn 111 = .ok (.aload_n 0, 1) := by decide +kernel
theorem dX5_dayOn_112 : decode cX5_dayOn 112 = .ok (.iload_n 3, 1) := by decide +kernel
theorem dX5_dayOn_113 : decode cX5_dayOn 113 = .ok (.invokevirtual 125, 3) := by decide +kernel
theorem dX5_dayOn_116 : decode cX5_dayOn 116 = .ok (.iadd, 1) := by decide +kernel
theorem dX5_dayOn_117 : decode cX5_dayOn 117 = .ok (.istore_n 2, 1) := by decide +kernel
theorem dX5_dayOn_118 : decode cX5_dayOn 118 = .ok (.iinc 3 1, 3) := by decide +kernel
theorem dX5_dayOn_121 : decode cX5_dayOn 121 = .ok (.goto (-27), 3) := by decide +kernel
theorem dX5_dayOn_124 : decode cX5_dayOn 124 = .ok (.iconst 0, 1) := by decide +kernel
theorem dX5_dayOn_125 : decode cX5_dayOn 125 = .ok (.istore_n 3, 1) := by decide +kernel
theorem dX5_dayOn_126 : decode cX5_dayOn 126 = .ok (.iload_n 3, 1) := by decide +kernel
theorem dX5_dayOn_127 : decode cX5_dayOn 127 = .ok (.aload_n 0, 1) := by decide +kernel
theorem dX5_dayOn_128 : decode cX5_dayOn 128 = .ok (.getfield 29, 3) := by decide +kernel
theorem dX5_dayOn_131 : decode cX5_dayOn 131 = .ok (.if_icmp .ge 76, 3) := by decide +kernel
theorem dX5_dayOn_134 : decode cX5_dayOn 134 = .ok (.aload_n 0, 1) := by decide +kernel
theorem dX5_dayOn_135 : decode cX5_dayOn 135 = .ok (.iload_n 3, 1) := by decide +kernel
theorem dX5_dayOn_136 : decode cX5_dayOn 136 = .ok (.aload_n 0, 1) := by decide +kernel
theorem dX5_dayOn_137 : decode cX5_dayOn 137 = .ok (.getfield 13, 3) := by decide +kernel
theorem dX5_dayOn_140 : decode cX5_dayOn 140 = .ok (.iconst 3, 1) := by decide +kernel
theorem dX5_dayOn_141 : decode cX5_dayOn 141 = .ok (.iload_n 1, 1) := by decide +kernel
theorem dX5_dayOn_142 : decode cX5_dayOn 142 = .ok (.imul, 1) := by decide +kernel
theorem dX5_dayOn_143 : decode cX5_dayOn 143 = .ok (.iconst 2, 1) := by decide +kernel
theorem dX5_dayOn_144 : decode cX5_dayOn 144 = .ok (.iadd, 1) := by decide +kernel
theorem dX5_dayOn_145 : decode cX5_dayOn 145 = .ok (.iaload, 1) := by decide +kernel
theorem dX5_dayOn_146 : decode cX5_dayOn 146 = .ok (.aload_n 0, 1) := by decide +kernel
theorem dX5_dayOn_147 : decode cX5_dayOn 147 = .ok (.iload_n 3, 1) := by decide +kernel
theorem dX5_dayOn_148 : decode cX5_dayOn 148 = .ok (.iconst 3, 1) := by decide +kernel
theorem dX5_dayOn_149 : decode cX5_dayOn 149 = .ok (.invokevirtual 39, 3) := by decide +kernel
theorem dX5_dayOn_152 : decode cX5_dayOn 152 = .ok (.imul, 1) := by decide +kernel
theorem dX5_dayOn_153 : decode cX5_dayOn 153 = .ok (.iconst 5, 1) := by decide +kernel
theorem dX5_dayOn_154 : decode cX5_dayOn 154 = .ok (.idiv, 1) := by decide +kernel
theorem dX5_dayOn_155 : decode cX5_dayOn 155 = .ok (.aload_n 0, 1) := by decide +kernel
theorem dX5_dayOn_156 : decode cX5_dayOn 156 = .ok (.iload_n 3, 1) := by decide +kernel
theorem dX5_dayOn_157 : decode cX5_dayOn 157 = .ok (.iconst 2, 1) := by decide +kernel
theorem dX5_dayOn_158 : decode cX5_dayOn 158 = .ok (.invokevirtual 66, 3) := by decide +kernel
theorem dX5_dayOn_161 : decode cX5_dayOn 161 = .ok (.iconst 1, 1) := by decide +kernel
theorem dX5_dayOn_162 : decode cX5_dayOn 162 = .ok (.if_icmp .ne 7, 3) := by decide +kernel
theorem dX5_dayOn_165 : decode cX5_dayOn 165 = .ok (.iconst 2, 1) := by decide +kernel
theorem dX5_dayOn_166 : decode cX5_dayOn 166 = .ok (.goto 4, 3) := by decide +kernel
theorem dX5_dayOn_169 : decode cX5_dayOn 169 = .ok (.iconst 1, 1) := by decide +kernel
theorem dX5_dayOn_170 : decode cX5_dayOn 170 = .ok (.idiv, 1) := by decide +kernel
theorem dX5_dayOn_171 : decode cX5_dayOn 171 = .ok (.ineg, 1) := by decide +kernel
theorem dX5_dayOn_172 : decode cX5_dayOn 172 = .ok (.invokevirtual 122, 3) := by decide +kernel
theorem dX5_dayOn_175 : decode cX5_dayOn 175 = .ok (.aload_n 0, 1) := by decide +kernel
theorem dX5_dayOn_176 : decode cX5_dayOn 176 = .ok (.iload_n 3, 1) := by decide +kernel
theorem dX5_dayOn_177 : decode cX5_dayOn 177 = .ok (.aload_n 0, 1) := by decide +kernel
theorem dX5_dayOn_178 : decode cX5_dayOn 178 = .ok (.iload_n 3, 1) := by decide +kernel
theorem dX5_dayOn_179 : decode cX5_dayOn 179 = .ok (.iconst 0, 1) := by decide +kernel
theorem dX5_dayOn_180 : decode cX5_dayOn 180 = .ok (.invokevirtual 66, 3) := by decide +kernel
theorem dX5_dayOn_183 : decode cX5_dayOn 183 = .ok (.bipush 100, 2) := by decide +kernel
theorem dX5_dayOn_185 : decode cX5_dayOn 185 = .ok (.aload_n 0, 1) := by decide +kernel
theorem dX5_dayOn_186 : decode cX5_dayOn 186 = .ok (.iload_n 3, 1) := by decide +kernel
theorem dX5_dayOn_187 : decode cX5_dayOn 187 = .ok (.iconst 1, 1) := by decide +kernel
theorem dX5_dayOn_188 : decode cX5_dayOn 188 = .ok (.invokevirtual 66, 3) := by decide +kernel
theorem dX5_dayOn_191 : decode cX5_dayOn 191 = .ok (.isub, 1) := by decide +kernel
theorem dX5_dayOn_192 : decode cX5_dayOn 192 = .ok (.imul, 1) := by decide +kernel
theorem dX5_dayOn_193 : decode cX5_dayOn 193 = .ok (.sipush 200, 3) := by decide +kernel
theorem dX5_dayOn_196 : decode cX5_dayOn 196 = .ok (.idiv, 1) := by decide +kernel
theorem dX5_dayOn_197 : decode cX5_dayOn 197 = .ok (.ineg, 1) := by decide +kernel
theorem dX5_dayOn_198 : decode cX5_dayOn 198 = .ok (.invokevirtual 122, 3) := by decide +kernel
theorem dX5_dayOn_201 : decode cX5_dayOn 201 = .ok (.iinc 3 1, 3) := by decide +kernel
theorem dX5_dayOn_204 : decode cX5_dayOn 204 = .ok (.goto (-78), 3) := by decide +kernel
theorem dX5_dayOn_207 : decode cX5_dayOn 207 = .ok (.aload_n 0, 1) := by decide +kernel
theorem dX5_dayOn_208 : decode cX5_dayOn 208 = .ok (.invokevirtual 128, 3) := by decide +kernel
theorem dX5_dayOn_211 : decode cX5_dayOn 211 = .ok (.iconst 0, 1) := by decide +kernel
theorem dX5_dayOn_212 : decode cX5_dayOn 212 = .ok (.istore_n 3, 1) := by decide +kernel
theorem dX5_dayOn_213 : decode cX5_dayOn 213 = .ok (.iload_n 3, 1) := by decide +kernel
theorem dX5_dayOn_214 : decode cX5_dayOn 214 = .ok (.aload_n 0, 1) := by decide +kernel
theorem dX5_dayOn_215 : decode cX5_dayOn 215 = .ok (.getfield 29, 3) := by decide +kernel
theorem dX5_dayOn_218 : decode cX5_dayOn 218 = .ok (.if_icmp .ge 22, 3) := by decide +kernel
theorem dX5_dayOn_221 : decode cX5_dayOn 221 = .ok (.iload_n 1, 1) := by decide +kernel
theorem dX5_dayOn_222 : decode cX5_dayOn 222 = .ok (.bipush 9, 2) := by decide +kernel
theorem dX5_dayOn_224 : decode cX5_dayOn 224 = .ok (.if_icmp .ne 16, 3) := by decide +kernel
theorem dX5_dayOn_227 : decode cX5_dayOn 227 = .ok (.aload_n 0, 1) := by decide +kernel
theorem dX5_dayOn_228 : decode cX5_dayOn 228 = .ok (.iload_n 3, 1) := by decide +kernel
theorem dX5_dayOn_229 : decode cX5_dayOn 229 = .ok (.iconst 2, 1) := by decide +kernel
theorem dX5_dayOn_230 : decode cX5_dayOn 230 = .ok (.iconst 0, 1) := by decide +kernel
theorem dX5_dayOn_231 : decode cX5_dayOn 231 = .ok (.invokevirtual 58, 3) := by decide +kernel
theorem dX5_dayOn_234 : decode cX5_dayOn 234 = .ok (.iinc 3 1, 3) := by decide +kernel
theorem dX5_dayOn_237 : decode cX5_dayOn 237 = .ok (.goto (-24), 3) := by decide +kernel
theorem dX5_dayOn_240 : decode cX5_dayOn 240 = .ok (.aload_n 0, 1) := by decide +kernel
theorem dX5_dayOn_241 : decode cX5_dayOn 241 = .ok (.getfield 22, 3) := by decide +kernel
theorem dX5_dayOn_244 : decode cX5_dayOn 244 = .ok (.iconst 0, 1) := by decide +kernel
theorem dX5_dayOn_245 : decode cX5_dayOn 245 = .ok (.dup2, 1) := by decide +kernel
theorem dX5_dayOn_246 : decode cX5_dayOn 246 = .ok (.iaload, 1) := by decide +kernel
theorem dX5_dayOn_247 : decode cX5_dayOn 247 = .ok (.iconst 1, 1) := by decide +kernel
theorem dX5_dayOn_248 : decode cX5_dayOn 248 = .ok (.iadd, 1) := by decide +kernel
theorem dX5_dayOn_249 : decode cX5_dayOn 249 = .ok (.iastore, 1) := by decide +kernel
theorem dX5_dayOn_250 : decode cX5_dayOn 250 = .ok (.iload_n 2, 1) := by decide +kernel
theorem dX5_dayOn_251 : decode cX5_dayOn 251 = .ok (.ireturn, 1) := by decide +kernel
theorem dX5_pass_0 : decode cX5_pass 0 = .ok (.aload_n 0, 1) := by decide +kernel
theorem dX5_pass_1 : decode cX5_pass 1 = .ok (.iconst 0, 1) := by decide +kernel
theorem dX5_pass_2 : decode cX5_pass 2 = .ok (.putfield 25, 3) := by decide +kernel
theorem dX5_pass_5 : decode cX5_pass 5 = .ok (.iload_n 1, 1) := by decide +kernel
theorem dX5_pass_6 : decode cX5_pass 6 = .ok (.iconst 1, 1) := by decide +kernel
theorem dX5_pass_7 : decode cX5_pass 7 = .ok (.bipush 100, 2) := by decide +kernel
theorem dX5_pass_9 : decode cX5_pass 9 = .ok (.invokestatic 32, 3) := by decide +kernel
theorem dX5_pass_12 : decode cX5_pass 12 = .ok (.ifCond .ne 9, 3) := by decide +kernel
theorem dX5_pass_15 : decode cX5_pass 15 = .ok (.aload_n 0, 1) := by decide +kernel
theorem dX5_pass_16 : decode cX5_pass 16 = .ok (.iconst 1, 1) := by decide +kernel
theorem dX5_pass_17 : decode cX5_pass 17 = .ok (.invokevirtual 49, 3) := by decide +kernel
theorem dX5_pass_20 : decode cX5_pass 20 = .ok (.ireturn, 1) := by decide +kernel
theorem dX5_pass_21 : decode cX5_pass 21 = .ok (.iconst 0, 1) := by decide +kernel
theorem dX5_pass_22 : decode cX5_pass 22 = .ok (.istore_n 2, 1) := by decide +kernel
theorem dX5_pass_23 : decode cX5_pass 23 = .ok (.iconst 0, 1) := by decide +kernel
theorem dX5_pass_24 : decode cX5_pass 24 = .ok (.istore_n 3, 1) := by decide +kernel
theorem dX5_pass_25 : decode cX5_pass 25 = .ok (.iload_n 3, 1) := by decide +kernel
theorem dX5_pass_26 : decode cX5_pass 26 = .ok (.iload_n 1, 1) := by decide +kernel
theorem dX5_pass_27 : decode cX5_pass 27 = .ok (.if_icmp .ge 16, 3) := by decide +kernel
theorem dX5_pass_30 : decode cX5_pass 30 = .ok (.iload_n 2, 1) := by decide +kernel
theorem dX5_pass_31 : decode cX5_pass 31 = .ok (.aload_n 0, 1) := by decide +kernel
theorem dX5_pass_32 : decode cX5_pass 32 = .ok (.invokevirtual 131, 3) := by decide +kernel
theorem dX5_pass_35 : decode cX5_pass 35 = .ok (.iadd, 1) := by decide +kernel
theorem dX5_pass_36 : decode cX5_pass 36 = .ok (.istore_n 2, 1) := by decide +kernel
theorem dX5_pass_37 : decode cX5_pass 37 = .ok (.iinc 3 1, 3) := by decide +kernel
theorem dX5_pass_40 : decode cX5_pass 40 = .ok (.goto (-15), 3) := by decide +kernel
theorem dX5_pass_43 : decode cX5_pass 43 = .ok (.iload_n 2, 1) := by decide +kernel
theorem dX5_pass_44 : decode cX5_pass 44 = .ok (.ireturn, 1) := by decide +kernel
theorem dX5_allWater_0 : decode cX5_allWater 0 = .ok (.iconst 0, 1) := by decide +kernel
theorem dX5_allWater_1 : decode cX5_allWater 1 = .ok (.istore_n 1, 1) := by decide +kernel
theorem dX5_allWater_2 : decode cX5_allWater 2 = .ok (.iconst 0, 1) := by decide +kernel
theorem dX5_allWater_3 : decode cX5_allWater 3 = .ok (.istore_n 2, 1) := by decide +kernel
theorem dX5_allWater_4 : decode cX5_allWater 4 = .ok (.iload_n 2, 1) := by decide +kernel
theorem dX5_allWater_5 : decode cX5_allWater 5 = .ok (.aload_n 0, 1) := by decide +kernel
theorem dX5_allWater_6 : decode cX5_allWater 6 = .ok (.getfield 29, 3) := by decide +kernel
theorem dX5_allWater_9 : decode cX5_allWater 9 = .ok (.if_icmp .ge 18, 3) := by decide +kernel
theorem dX5_allWater_12 : decode cX5_allWater 12 = .ok (.iload_n 1, 1) := by decide +kernel
theorem dX5_allWater_13 : decode cX5_allWater 13 = .ok (.aload_n 0, 1) := by decide +kernel
theorem dX5_allWater_14 : decode cX5_allWater 14 = .ok (.iload_n 2, 1) := by decide +kernel
theorem dX5_allWater_15 : decode cX5_allWater 15 = .ok (.iconst 0, 1) := by decide +kernel
theorem dX5_allWater_16 : decode cX5_allWater 16 = .ok (.invokevirtual 66, 3) := by decide +kernel
theorem dX5_allWater_19 : decode cX5_allWater 19 = .ok (.iadd, 1) := by decide +kernel
theorem dX5_allWater_20 : decode cX5_allWater 20 = .ok (.istore_n 1, 1) := by decide +kernel
theorem dX5_allWater_21 : decode cX5_allWater 21 = .ok (.iinc 2 1, 3) := by decide +kernel
theorem dX5_allWater_24 : decode cX5_allWater 24 = .ok (.goto (-20), 3) := by decide +kernel
theorem dX5_allWater_27 : decode cX5_allWater 27 = .ok (.iload_n 1, 1) := by decide +kernel
theorem dX5_allWater_28 : decode cX5_allWater 28 = .ok (.ireturn, 1) := by decide +kernel
theorem dX5_counted_0 : decode cX5_counted 0 = .ok (.iconst 0, 1) := by decide +kernel
theorem dX5_counted_1 : decode cX5_counted 1 = .ok (.istore_n 2, 1) := by decide +kernel
theorem dX5_counted_2 : decode cX5_counted 2 = .ok (.iload_n 1, 1) := by decide +kernel
theorem dX5_counted_3 : decode cX5_counted 3 = .ok (.tableswitch 105 0 6 #[41, 48, 53, 105, 58, 65, 70], 41) := by decide +kernel
theorem dX5_counted_44 : decode cX5_counted 44 = .ok (.aload_n 0, 1) := by decide +kernel
theorem dX5_counted_45 : decode cX5_counted 45 = .ok (.getfield 22, 3) := by decide +kernel
theorem dX5_counted_48 : decode cX5_counted 48 = .ok (.iconst 0, 1) := by decide +kernel
theorem dX5_counted_49 : decode cX5_counted 49 = .ok (.iaload, 1) := by decide +kernel
theorem dX5_counted_50 : decode cX5_counted 50 = .ok (.ireturn, 1) := by decide +kernel
theorem dX5_counted_51 : decode cX5_counted 51 = .ok (.aload_n 0, 1) := by decide +kernel
theorem dX5_counted_52 : decode cX5_counted 52 = .ok (.getfield 29, 3) := by decide +kernel
theorem dX5_counted_55 : decode cX5_counted 55 = .ok (.ireturn, 1) := by decide +kernel
theorem dX5_counted_56 : decode cX5_counted 56 = .ok (.aload_n 0, 1) := by decide +kernel
theorem dX5_counted_57 : decode cX5_counted 57 = .ok (.getfield 36, 3) := by decide +kernel
theorem dX5_counted_60 : decode cX5_counted 60 = .ok (.ireturn, 1) := by decide +kernel
theorem dX5_counted_61 : decode cX5_counted 61 = .ok (.aload_n 0, 1) := by decide +kernel
theorem dX5_counted_62 : decode cX5_counted 62 = .ok (.getfield 22, 3) := by decide +kernel
theorem dX5_counted_65 : decode cX5_counted 65 = .ok (.iconst 1, 1) := by decide +kernel
theorem dX5_counted_66 : decode cX5_counted 66 = .ok (.iaload, 1) := by decide +kernel
theorem dX5_counted_67 : decode cX5_counted 67 = .ok (.ireturn, 1) := by decide +kernel
theorem dX5_counted_68 : decode cX5_counted 68 = .ok (.aload_n 0, 1) := by decide +kernel
theorem dX5_counted_69 : decode cX5_counted 69 = .ok (.invokevirtual 135, 3) := by decide +kernel
theorem dX5_counted_72 : decode cX5_counted 72 = .ok (.ireturn, 1) := by decide +kernel
theorem dX5_counted_73 : decode cX5_counted 73 = .ok (.iconst 0, 1) := by decide +kernel
theorem dX5_counted_74 : decode cX5_counted 74 = .ok (.istore_n 3, 1) := by decide +kernel
theorem dX5_counted_75 : decode cX5_counted 75 = .ok (.iload_n 3, 1) := by decide +kernel
theorem dX5_counted_76 : decode cX5_counted 76 = .ok (.aload_n 0, 1) := by decide +kernel
theorem dX5_counted_77 : decode cX5_counted 77 = .ok (.getfield 29, 3) := by decide +kernel
theorem dX5_counted_80 : decode cX5_counted 80 = .ok (.if_icmp .ge 26, 3) := by decide +kernel
theorem dX5_counted_83 : decode cX5_counted 83 = .ok (.iload_n 2, 1) := by decide +kernel
theorem dX5_counted_84 : decode cX5_counted 84 = .ok (.aload_n 0, 1) := by decide +kernel
theorem dX5_counted_85 : decode cX5_counted 85 = .ok (.iload_n 3, 1) := by decide +kernel
theorem dX5_counted_86 : decode cX5_counted 86 = .ok (.iconst 0, 1) := by decide +kernel
theorem dX5_counted_87 : decode cX5_counted 87 = .ok (.invokevirtual 66, 3) := by decide +kernel
theorem dX5_counted_90 : decode cX5_counted 90 = .ok (.ifCond .ne 7, 3) := by decide +kernel
theorem dX5_counted_93 : decode cX5_counted 93 = .ok (.iconst 1, 1) := by decide +kernel
theorem dX5_counted_94 : decode cX5_counted 94 = .ok (.goto 4, 3) := by decide +kernel
theorem dX5_counted_97 : decode cX5_counted 97 = .ok (.iconst 0, 1) := by decide +kernel
theorem dX5_counted_98 : decode cX5_counted 98 = .ok (.iadd, 1) := by decide +kernel
theorem dX5_counted_99 : decode cX5_counted 99 = .ok (.istore_n 2, 1) := by decide +kernel
theorem dX5_counted_100 : decode cX5_counted 100 = .ok (.iinc 3 1, 3) := by decide +kernel
theorem dX5_counted_103 : decode cX5_counted 103 = .ok (.goto (-28), 3) := by decide +kernel
theorem dX5_counted_106 : decode cX5_counted 106 = .ok (.iload_n 2, 1) := by decide +kernel
theorem dX5_counted_107 : decode cX5_counted 107 = .ok (.ireturn, 1) := by decide +kernel
theorem dX5_counted_108 : decode cX5_counted 108 = .ok (.iconst 0, 1) := by decide +kernel
theorem dX5_counted_109 : decode cX5_counted 109 = .ok (.istore_n 3, 1) := by decide +kernel
theorem dX5_counted_110 : decode cX5_counted 110 = .ok (.iload_n 3, 1) := by decide +kernel
theorem dX5_counted_111 : decode cX5_counted 111 = .ok (.aload_n 0, 1) := by decide +kernel
theorem dX5_counted_112 : decode cX5_counted 112 = .ok (.getfield 36, 3) := by decide +kernel
theorem dX5_counted_115 : decode cX5_counted 115 = .ok (.if_icmp .ge 51, 3) := by decide +kernel
theorem dX5_counted_118 : decode cX5_counted 118 = .ok (.iload_n 2, 1) := by decide +kernel
theorem dX5_counted_119 : decode cX5_counted 119 = .ok (.iload_n 1, 1) := by decide +kernel
theorem dX5_counted_120 : decode cX5_counted 120 = .ok (.iconst 3, 1) := by decide +kernel
theorem dX5_counted_121 : decode cX5_counted 121 = .ok (.if_icmp .ne 19, 3) := by decide +kernel
theorem dX5_counted_124 : decode cX5_counted 124 = .ok (.aload_n 0, 1) := by decide +kernel
theorem dX5_counted_125 : decode cX5_counted 125 = .ok (.iload_n 3, 1) := by decide +kernel
theorem dX5_counted_126 : decode cX5_counted 126 = .ok (.invokevirtual 87, 3) := by decide +kernel
theorem dX5_counted_129 : decode cX5_counted 129 = .ok (.ifCond .eq 7, 3) := by decide +kernel
theorem dX5_counted_132 : decode cX5_counted 132 = .ok (.iconst 1, 1) := by decide +kernel
theorem dX5_counted_133 : decode cX5_counted 133 = .ok (.goto 25, 3) := by decide +kernel
theorem dX5_counted_136 : decode cX5_counted 136 = .ok (.iconst 0, 1) := by decide +kernel
theorem dX5_counted_137 : decode cX5_counted 137 = .ok (.goto 21, 3) := by decide +kernel
theorem dX5_counted_140 : decode cX5_counted 140 = .ok (.aload_n 0, 1) := by decide +kernel
theorem dX5_counted_141 : decode cX5_counted 141 = .ok (.iload_n 3, 1) := by decide +kernel
theorem dX5_counted_142 : decode cX5_counted 142 = .ok (.invokevirtual 87, 3) := by decide +kernel
theorem dX5_counted_145 : decode cX5_counted 145 = .ok (.ifCond .eq 7, 3) := by decide +kernel
theorem dX5_counted_148 : decode cX5_counted 148 = .ok (.iconst 0, 1) := by decide +kernel
theorem dX5_counted_149 : decode cX5_counted 149 = .ok (.goto 9, 3) := by decide +kernel
theorem dX5_counted_152 : decode cX5_counted 152 = .ok (.aload_n 0, 1) := by decide +kernel
theorem dX5_counted_153 : decode cX5_counted 153 = .ok (.iload_n 3, 1) := by decide +kernel
theorem dX5_counted_154 : decode cX5_counted 154 = .ok (.iconst 0, 1) := by decide +kernel
theorem dX5_counted_155 : decode cX5_counted 155 = .ok (.invokevirtual 84, 3) := by decide +kernel
theorem dX5_counted_158 : decode cX5_counted 158 = .ok (.iadd, 1) := by decide +kernel
theorem dX5_counted_159 : decode cX5_counted 159 = .ok (.istore_n 2, 1) := by decide +kernel
theorem dX5_counted_160 : decode cX5_counted 160 = .ok (.iinc 3 1, 3) := by decide +kernel
theorem dX5_counted_163 : decode cX5_counted 163 = .ok (.goto (-53), 3) := by decide +kernel
theorem dX5_counted_166 : decode cX5_counted 166 = .ok (.iload_n 2, 1) := by decide +kernel
theorem dX5_counted_167 : decode cX5_counted 167 = .ok (.ireturn, 1) := by decide +kernel
theorem dX5_count_0 : decode cX5_count 0 = .ok (.aload_n 0, 1) := by decide +kernel
theorem dX5_count_1 : decode cX5_count 1 = .ok (.iconst 0, 1) := by decide +kernel
theorem dX5_count_2 : decode cX5_count 2 = .ok (.putfield 25, 3) := by decide +kernel
theorem dX5_count_5 : decode cX5_count 5 = .ok (.iload_n 1, 1) := by decide +kernel
theorem dX5_count_6 : decode cX5_count 6 = .ok (.iconst 0, 1) := by decide +kernel
theorem dX5_count_7 : decode cX5_count 7 = .ok (.bipush 7, 2) := by decide +kernel
theorem dX5_count_9 : decode cX5_count 9 = .ok (.invokestatic 32, 3) := by decide +kernel
theorem dX5_count_12 : decode cX5_count 12 = .ok (.ifCond .eq 11, 3) := by decide +kernel
theorem dX5_count_15 : decode cX5_count 15 = .ok (.aload_n 0, 1) := by decide +kernel
theorem dX5_count_16 : decode cX5_count 16 = .ok (.iload_n 1, 1) := by decide +kernel
theorem dX5_count_17 : decode cX5_count 17 = .ok (.invokevirtual 138, 3) := by decide +kernel
theorem dX5_count_20 : decode cX5_count 20 = .ok (.goto 8, 3) := by decide +kernel
theorem dX5_count_23 : decode cX5_count 23 = .ok (.aload_n 0, 1) := by decide +kernel
theorem dX5_count_24 : decode cX5_count 24 = .ok (.iconst 1, 1) := by decide +kernel
theorem dX5_count_25 : decode cX5_count 25 = .ok (.invokevirtual 49, 3) := by decide +kernel
theorem dX5_count_28 : decode cX5_count 28 = .ok (.ireturn, 1) := by decide +kernel
theorem dX5_kept_0 : decode cX5_kept 0 = .ok (.iconst 3, 1) := by decide +kernel
theorem dX5_kept_1 : decode cX5_kept 1 = .ok (.anewarray 141, 3) := by decide +kernel
theorem dX5_kept_4 : decode cX5_kept 4 = .ok (.dup, 1) := by decide +kernel
theorem dX5_kept_5 : decode cX5_kept 5 = .ok (.iconst 0, 1) := by decide +kernel
theorem dX5_kept_6 : decode cX5_kept 6 = .ok (.aload_n 0, 1) := by decide +kernel
theorem dX5_kept_7 : decode cX5_kept 7 = .ok (.getfield 16, 3) := by decide +kernel
theorem dX5_kept_10 : decode cX5_kept 10 = .ok (.invokevirtual 142, 3) := by decide +kernel
theorem dX5_kept_13 : decode cX5_kept 13 = .ok (.checkcast 141, 3) := by decide +kernel
theorem dX5_kept_16 : decode cX5_kept 16 = .ok (.aastore, 1) := by decide +kernel
theorem dX5_kept_17 : decode cX5_kept 17 = .ok (.dup, 1) := by decide +kernel
theorem dX5_kept_18 : decode cX5_kept 18 = .ok (.iconst 1, 1) := by decide +kernel
theorem dX5_kept_19 : decode cX5_kept 19 = .ok (.aload_n 0, 1) := by decide +kernel
theorem dX5_kept_20 : decode cX5_kept 20 = .ok (.getfield 19, 3) := by decide +kernel
theorem dX5_kept_23 : decode cX5_kept 23 = .ok (.invokevirtual 142, 3) := by decide +kernel
theorem dX5_kept_26 : decode cX5_kept 26 = .ok (.checkcast 141, 3) := by decide +kernel
theorem dX5_kept_29 : decode cX5_kept 29 = .ok (.aastore, 1) := by decide +kernel
theorem dX5_kept_30 : decode cX5_kept 30 = .ok (.dup, 1) := by decide +kernel
theorem dX5_kept_31 : decode cX5_kept 31 = .ok (.iconst 2, 1) := by decide +kernel
theorem dX5_kept_32 : decode cX5_kept 32 = .ok (.aload_n 0, 1) := by decide +kernel
theorem dX5_kept_33 : decode cX5_kept 33 = .ok (.getfield 22, 3) := by decide +kernel
theorem dX5_kept_36 : decode cX5_kept 36 = .ok (.invokevirtual 142, 3) := by decide +kernel
theorem dX5_kept_39 : decode cX5_kept 39 = .ok (.checkcast 141, 3) := by decide +kernel
theorem dX5_kept_42 : decode cX5_kept 42 = .ok (.aastore, 1) := by decide +kernel
theorem dX5_kept_43 : decode cX5_kept 43 = .ok (.areturn, 1) := by decide +kernel
theorem dX5_bringBack_0 : decode cX5_bringBack 0 = .ok (.aload_n 1, 1) := by decide +kernel
theorem dX5_bringBack_1 : decode cX5_bringBack 1 = .ok (.iconst 0, 1) := by decide +kernel
theorem dX5_bringBack_2 : decode cX5_bringBack 2 = .ok (.aaload, 1) := by decide +kernel
theorem dX5_bringBack_3 : decode cX5_bringBack 3 = .ok (.iconst 0, 1) := by decide +kernel
theorem dX5_bringBack_4 : decode cX5_bringBack 4 = .ok (.aload_n 0, 1) := by decide +kernel
theorem dX5_bringBack_5 : decode cX5_bringBack 5 = .ok (.getfield 16, 3) := by decide +kernel
theorem dX5_bringBack_8 : decode cX5_bringBack 8 = .ok (.iconst 0, 1) := by decide +kernel
theorem dX5_bringBack_9 : decode cX5_bringBack 9 = .ok (.aload_n 0, 1) := by decide +kernel
theorem dX5_bringBack_10 : decode cX5_bringBack 10 = .ok (.getfield 16, 3) := by decide +kernel
theorem dX5_bringBack_13 : decode cX5_bringBack 13 = .ok (.arraylength, 1) := by decide +kernel
theorem dX5_bringBack_14 : decode cX5_bringBack 14 = .ok (.invokestatic 52, 3) := by decide +kernel
theorem dX5_bringBack_17 : decode cX5_bringBack 17 = .ok (.aload_n 1, 1) := by decide +kernel
theorem dX5_bringBack_18 : decode cX5_bringBack 18 = .ok (.iconst 1, 1) := by decide +kernel
theorem dX5_bringBack_19 : decode cX5_bringBack 19 = .ok (.aaload, 1) := by decide +kernel
theorem dX5_bringBack_20 : decode cX5_bringBack 20 = .ok (.iconst 0, 1) := by decide +kernel
theorem dX5_bringBack_21 : decode cX5_bringBack 21 = .ok (.aload_n 0, 1) := by decide +kernel
theorem dX5_bringBack_22 : decode cX5_bringBack 22 = .ok (.getfield 19, 3) := by decide +kernel
theorem dX5_bringBack_25 : decode cX5_bringBack 25 = .ok (.iconst 0, 1) := by decide +kernel
theorem dX5_bringBack_26 : decode cX5_bringBack 26 = .ok (.aload_n 0, 1) := by decide +kernel
theorem dX5_bringBack_27 : decode cX5_bringBack 27 = .ok (.getfield 19, 3) := by decide +kernel
theorem dX5_bringBack_30 : decode cX5_bringBack 30 = .ok (.arraylength, 1) := by decide +kernel
theorem dX5_bringBack_31 : decode cX5_bringBack 31 = .ok (.invokestatic 52, 3) := by decide +kernel
theorem dX5_bringBack_34 : decode cX5_bringBack 34 = .ok (.aload_n 1, 1) := by decide +kernel
theorem dX5_bringBack_35 : decode cX5_bringBack 35 = .ok (.iconst 2, 1) := by decide +kernel
theorem dX5_bringBack_36 : decode cX5_bringBack 36 = .ok (.aaload, 1) := by decide +kernel
theorem dX5_bringBack_37 : decode cX5_bringBack 37 = .ok (.iconst 0, 1) := by decide +kernel
theorem dX5_bringBack_38 : decode cX5_bringBack 38 = .ok (.aload_n 0, 1) := by decide +kernel
theorem dX5_bringBack_39 : decode cX5_bringBack 39 = .ok (.getfield 22, 3) := by decide +kernel
theorem dX5_bringBack_42 : decode cX5_bringBack 42 = .ok (.iconst 0, 1) := by decide +kernel
theorem dX5_bringBack_43 : decode cX5_bringBack 43 = .ok (.aload_n 0, 1) := by decide +kernel
theorem dX5_bringBack_44 : decode cX5_bringBack 44 = .ok (.getfield 22, 3) := by decide +kernel
theorem dX5_bringBack_47 : decode cX5_bringBack 47 = .ok (.arraylength, 1) := by decide +kernel
theorem dX5_bringBack_48 : decode cX5_bringBack 48 = .ok (.invokestatic 52, 3) := by decide +kernel
theorem dX5_bringBack_51 : decode cX5_bringBack 51 = .ok (.return_, 1) := by decide +kernel
theorem dX5_foresee_0 : decode cX5_foresee 0 = .ok (.aload_n 0, 1) := by decide +kernel
theorem dX5_foresee_1 : decode cX5_foresee 1 = .ok (.iconst 0, 1) := by decide +kernel
theorem dX5_foresee_2 : decode cX5_foresee 2 = .ok (.putfield 25, 3) := by decide +kernel
theorem dX5_foresee_5 : decode cX5_foresee 5 = .ok (.aload_n 0, 1) := by decide +kernel
theorem dX5_foresee_6 : decode cX5_foresee 6 = .ok (.iload_n 1, 1) := by decide +kernel
theorem dX5_foresee_7 : decode cX5_foresee 7 = .ok (.invokevirtual 62, 3) := by decide +kernel
theorem dX5_foresee_10 : decode cX5_foresee 10 = .ok (.ifCond .ne 9, 3) := by decide +kernel
theorem dX5_foresee_13 : decode cX5_foresee 13 = .ok (.aload_n 0, 1) := by decide +kernel
theorem dX5_foresee_14 : decode cX5_foresee 14 = .ok (.iconst 1, 1) := by decide +kernel
theorem dX5_foresee_15 : decode cX5_foresee 15 = .ok (.invokevirtual 49, 3) := by decide +kernel
theorem dX5_foresee_18 : decode cX5_foresee 18 = .ok (.ireturn, 1) := by decide +kernel
theorem dX5_foresee_19 : decode cX5_foresee 19 = .ok (.iload_n 2, 1) := by decide +kernel
theorem dX5_foresee_20 : decode cX5_foresee 20 = .ok (.iconst 1, 1) := by decide +kernel
theorem dX5_foresee_21 : decode cX5_foresee 21 = .ok (.bipush 100, 2) := by decide +kernel
theorem dX5_foresee_23 : decode cX5_foresee 23 = .ok (.invokestatic 32, 3) := by decide +kernel
theorem dX5_foresee_26 : decode cX5_foresee 26 = .ok (.ifCond .ne 9, 3) := by decide +kernel
theorem dX5_foresee_29 : decode cX5_foresee 29 = .ok (.aload_n 0, 1) := by decide +kernel
theorem dX5_foresee_30 : decode cX5_foresee 30 = .ok (.iconst 2, 1) := by decide +kernel
theorem dX5_foresee_31 : decode cX5_foresee 31 = .ok (.invokevirtual 49, 3) := by decide +kernel
theorem dX5_foresee_34 : decode cX5_foresee 34 = .ok (.ireturn, 1) := by decide +kernel
theorem dX5_foresee_35 : decode cX5_foresee 35 = .ok (.aload_n 0, 1) := by decide +kernel
theorem dX5_foresee_36 : decode cX5_foresee 36 = .ok (.invokevirtual 146, 3) := by decide +kernel
theorem dX5_foresee_39 : decode cX5_foresee 39 = .ok (.astore_n 3, 1) := by decide +kernel
theorem dX5_foresee_40 : decode cX5_foresee 40 = .ok (.iconst 0, 1) := by decide +kernel
theorem dX5_foresee_41 : decode cX5_foresee 41 = .ok (.istore 4, 2) := by decide +kernel
theorem dX5_foresee_43 : decode cX5_foresee 43 = .ok (.iload 4, 2) := by decide +kernel
theorem dX5_foresee_45 : decode cX5_foresee 45 = .ok (.iload_n 2, 1) := by decide +kernel
theorem dX5_foresee_46 : decode cX5_foresee 46 = .ok (.if_icmp .ge 14, 3) := by decide +kernel
theorem dX5_foresee_49 : decode cX5_foresee 49 = .ok (.aload_n 0, 1) := by decide +kernel
theorem dX5_foresee_50 : decode cX5_foresee 50 = .ok (.invokevirtual 131, 3) := by decide +kernel
theorem dX5_foresee_53 : decode cX5_foresee 53 = .ok (.pop, 1) := by decide +kernel
theorem dX5_foresee_54 : decode cX5_foresee 54 = .ok (.iinc 4 1, 3) := by decide +kernel
theorem dX5_foresee_57 : decode cX5_foresee 57 = .ok (.goto (-14), 3) := by decide +kernel
theorem dX5_foresee_60 : decode cX5_foresee 60 = .ok (.aload_n 0, 1) := by decide +kernel
theorem dX5_foresee_61 : decode cX5_foresee 61 = .ok (.iload_n 1, 1) := by decide +kernel
theorem dX5_foresee_62 : decode cX5_foresee 62 = .ok (.iconst 0, 1) := by decide +kernel
theorem dX5_foresee_63 : decode cX5_foresee 63 = .ok (.invokevirtual 66, 3) := by decide +kernel
theorem dX5_foresee_66 : decode cX5_foresee 66 = .ok (.istore 4, 2) := by decide +kernel
theorem dX5_foresee_68 : decode cX5_foresee 68 = .ok (.aload_n 0, 1) := by decide +kernel
theorem dX5_foresee_69 : decode cX5_foresee 69 = .ok (.aload_n 3, 1) := by decide +kernel
theorem dX5_foresee_70 : decode cX5_foresee 70 = .ok (.invokevirtual 150, 3) := by decide +kernel
theorem dX5_foresee_73 : decode cX5_foresee 73 = .ok (.iload 4, 2) := by decide +kernel
theorem dX5_foresee_75 : decode cX5_foresee 75 = .ok (.ireturn, 1) := by decide +kernel
theorem dX5_lasts_0 : decode cX5_lasts 0 = .ok (.aload_n 0, 1) := by decide +kernel
theorem dX5_lasts_1 : decode cX5_lasts 1 = .ok (.iconst 0, 1) := by decide +kernel
theorem dX5_lasts_2 : decode cX5_lasts 2 = .ok (.putfield 25, 3) := by decide +kernel
theorem dX5_lasts_5 : decode cX5_lasts 5 = .ok (.aload_n 0, 1) := by decide +kernel
theorem dX5_lasts_6 : decode cX5_lasts 6 = .ok (.iload_n 1, 1) := by decide +kernel
theorem dX5_lasts_7 : decode cX5_lasts 7 = .ok (.invokevirtual 62, 3) := by decide +kernel
theorem dX5_lasts_10 : decode cX5_lasts 10 = .ok (.ifCond .ne 9, 3) := by decide +kernel
theorem dX5_lasts_13 : decode cX5_lasts 13 = .ok (.aload_n 0, 1) := by decide +kernel
theorem dX5_lasts_14 : decode cX5_lasts 14 = .ok (.iconst 1, 1) := by decide +kernel
theorem dX5_lasts_15 : decode cX5_lasts 15 = .ok (.invokevirtual 49, 3) := by decide +kernel
theorem dX5_lasts_18 : decode cX5_lasts 18 = .ok (.ireturn, 1) := by decide +kernel
theorem dX5_lasts_19 : decode cX5_lasts 19 = .ok (.aload_n 0, 1) := by decide +kernel
theorem dX5_lasts_20 : decode cX5_lasts 20 = .ok (.invokevirtual 146, 3) := by decide +kernel
theorem dX5_lasts_23 : decode cX5_lasts 23 = .ok (.astore_n 2, 1) := by decide +kernel
theorem dX5_lasts_24 : decode cX5_lasts 24 = .ok (.iconst 0, 1) := by decide +kernel
theorem dX5_lasts_25 : decode cX5_lasts 25 = .ok (.istore_n 3, 1) := by decide +kernel
theorem dX5_lasts_26 : decode cX5_lasts 26 = .ok (.iload_n 3, 1) := by decide +kernel
theorem dX5_lasts_27 : decode cX5_lasts 27 = .ok (.sipush 200, 3) := by decide +kernel
theorem dX5_lasts_30 : decode cX5_lasts 30 = .ok (.if_icmp .ge 23, 3) := by decide +kernel
theorem dX5_lasts_33 : decode cX5_lasts 33 = .ok (.aload_n 0, 1) := by decide +kernel
theorem dX5_lasts_34 : decode cX5_lasts 34 = .ok (.iload_n 1, 1) := by decide +kernel
theorem dX5_lasts_35 : decode cX5_lasts 35 = .ok (.iconst 0, 1) := by decide +kernel
theorem dX5_lasts_36 : decode cX5_lasts 36 = .ok (.invokevirtual 66, 3) := by decide +kernel
theorem dX5_lasts_39 : decode cX5_lasts 39 = .ok (.ifCond .le 14, 3) := by decide +kernel
theorem dX5_lasts_42 : decode cX5_lasts 42 = .ok (.aload_n 0, 1) := by decide +kernel
theorem dX5_lasts_43 : decode cX5_lasts 43 = .ok (.invokevirtual 131, 3) := by decide +kernel
theorem dX5_lasts_46 : decode cX5_lasts 46 = .ok (.pop, 1) := by decide +kernel
theorem dX5_lasts_47 : decode cX5_lasts 47 = .ok (.iinc 3 1, 3) := by decide +kernel
theorem dX5_lasts_50 : decode cX5_lasts 50 = .ok (.goto (-24), 3) := by decide +kernel
theorem dX5_lasts_53 : decode cX5_lasts 53 = .ok (.aload_n 0, 1) := by decide +kernel
theorem dX5_lasts_54 : decode cX5_lasts 54 = .ok (.iload_n 1, 1) := by decide +kernel
theorem dX5_lasts_55 : decode cX5_lasts 55 = .ok (.iconst 0, 1) := by decide +kernel
theorem dX5_lasts_56 : decode cX5_lasts 56 = .ok (.invokevirtual 66, 3) := by decide +kernel
theorem dX5_lasts_59 : decode cX5_lasts 59 = .ok (.ifCond .le 5, 3) := by decide +kernel
theorem dX5_lasts_62 : decode cX5_lasts 62 = .ok (.iconst (-1), 1) := by decide +kernel
theorem dX5_lasts_63 : decode cX5_lasts 63 = .ok (.istore_n 3, 1) := by decide +kernel
theorem dX5_lasts_64 : decode cX5_lasts 64 = .ok (.aload_n 0, 1) := by decide +kernel
theorem dX5_lasts_65 : decode cX5_lasts 65 = .ok (.aload_n 2, 1) := by decide +kernel
theorem dX5_lasts_66 : decode cX5_lasts 66 = .ok (.invokevirtual 150, 3) := by decide +kernel
theorem dX5_lasts_69 : decode cX5_lasts 69 = .ok (.iload_n 3, 1) := by decide +kernel
theorem dX5_lasts_70 : decode cX5_lasts 70 = .ok (.ireturn, 1) := by decide +kernel
theorem dX5_keep_0 : decode cX5_keep 0 = .ok (.aload_n 0, 1) := by decide +kernel
theorem dX5_keep_1 : decode cX5_keep 1 = .ok (.iconst 0, 1) := by decide +kernel
theorem dX5_keep_2 : decode cX5_keep 2 = .ok (.putfield 25, 3) := by decide +kernel
theorem dX5_keep_5 : decode cX5_keep 5 = .ok (.aload_n 0, 1) := by decide +kernel
theorem dX5_keep_6 : decode cX5_keep 6 = .ok (.iload_n 1, 1) := by decide +kernel
theorem dX5_keep_7 : decode cX5_keep 7 = .ok (.invokevirtual 62, 3) := by decide +kernel
theorem dX5_keep_10 : decode cX5_keep 10 = .ok (.ifCond .ne 9, 3) := by decide +kernel
theorem dX5_keep_13 : decode cX5_keep 13 = .ok (.aload_n 0, 1) := by decide +kernel
theorem dX5_keep_14 : decode cX5_keep 14 = .ok (.iconst 1, 1) := by decide +kernel
theorem dX5_keep_15 : decode cX5_keep 15 = .ok (.invokevirtual 49, 3) := by decide +kernel
theorem dX5_keep_18 : decode cX5_keep 18 = .ok (.ireturn, 1) := by decide +kernel
theorem dX5_keep_19 : decode cX5_keep 19 = .ok (.iload_n 2, 1) := by decide +kernel
theorem dX5_keep_20 : decode cX5_keep 20 = .ok (.iconst 1, 1) := by decide +kernel
theorem dX5_keep_21 : decode cX5_keep 21 = .ok (.bipush 50, 2) := by decide +kernel
theorem dX5_keep_23 : decode cX5_keep 23 = .ok (.invokestatic 32, 3) := by decide +kernel
theorem dX5_keep_26 : decode cX5_keep 26 = .ok (.ifCond .ne 9, 3) := by decide +kernel
theorem dX5_keep_29 : decode cX5_keep 29 = .ok (.aload_n 0, 1) := by decide +kernel
theorem dX5_keep_30 : decode cX5_keep 30 = .ok (.iconst 2, 1) := by decide +kernel
theorem dX5_keep_31 : decode cX5_keep 31 = .ok (.invokevirtual 49, 3) := by decide +kernel
theorem dX5_keep_34 : decode cX5_keep 34 = .ok (.ireturn, 1) := by decide +kernel
theorem dX5_keep_35 : decode cX5_keep 35 = .ok (.aload_n 0, 1) := by decide +kernel
theorem dX5_keep_36 : decode cX5_keep 36 = .ok (.invokevirtual 146, 3) := by decide +kernel
theorem dX5_keep_39 : decode cX5_keep 39 = .ok (.astore_n 3, 1) := by decide +kernel
theorem dX5_keep_40 : decode cX5_keep 40 = .ok (.iconst 0, 1) := by decide +kernel
theorem dX5_keep_41 : decode cX5_keep 41 = .ok (.istore 4, 2) := by decide +kernel
theorem dX5_keep_43 : decode cX5_keep 43 = .ok (.bipush 80, 2) := by decide +kernel
theorem dX5_keep_45 : decode cX5_keep 45 = .ok (.istore 5, 2) := by decide +kernel
theorem dX5_keep_47 : decode cX5_keep 47 = .ok (.iload 5, 2) := by decide +kernel
theorem dX5_keep_49 : decode cX5_keep 49 = .ok (.ifCond .le 94, 3) := by decide +kernel
theorem dX5_keep_52 : decode cX5_keep 52 = .ok (.iload 4, 2) := by decide +kernel
theorem dX5_keep_54 : decode cX5_keep 54 = .ok (.ifCond .ne 89, 3) := by decide +kernel
theorem dX5_keep_57 : decode cX5_keep 57 = .ok (.aload_n 0, 1) := by decide +kernel
theorem dX5_keep_58 : decode cX5_keep 58 = .ok (.iload_n 1, 1) := by decide +kernel
theorem dX5_keep_59 : decode cX5_keep 59 = .ok (.iload 5, 2) := by decide +kernel
theorem dX5_keep_61 : decode cX5_keep 61 = .ok (.invokevirtual 102, 3) := by decide +kernel
theorem dX5_keep_64 : decode cX5_keep 64 = .ok (.iconst 1, 1) := by decide +kernel
theorem dX5_keep_65 : decode cX5_keep 65 = .ok (.istore 6, 2) := by decide +kernel
theorem dX5_keep_67 : decode cX5_keep 67 = .ok (.iconst 0, 1) := by decide +kernel
theorem dX5_keep_68 : decode cX5_keep 68 = .ok (.istore 7, 2) := by decide +kernel
theorem dX5_keep_70 : decode cX5_keep 70 = .ok (.iload 7, 2) := by decide +kernel
theorem dX5_keep_72 : decode cX5_keep 72 = .ok (.iload_n 2, 1) := by decide +kernel
theorem dX5_keep_73 : decode cX5_keep 73 = .ok (.if_icmp .ge 40, 3) := by decide +kernel
theorem dX5_keep_76 : decode cX5_keep 76 = .ok (.iload 6, 2) := by decide +kernel
theorem dX5_keep_78 : decode cX5_keep 78 = .ok (.ifCond .eq 35, 3) := by decide +kernel
theorem dX5_keep_81 : decode cX5_keep 81 = .ok (.aload_n 0, 1) := by decide +kernel
theorem dX5_keep_82 : decode cX5_keep 82 = .ok (.invokevirtual 131, 3) := by decide +kernel
theorem dX5_keep_85 : decode cX5_keep 85 = .ok (.pop, 1) := by decide +kernel
theorem dX5_keep_86 : decode cX5_keep 86 = .ok (.aload_n 0, 1) := by decide +kernel
theorem dX5_keep_87 : decode cX5_keep 87 = .ok (.aload_n 0, 1) := by decide +kernel
theorem dX5_keep_88 : decode cX5_keep 88 = .ok (.getfield 36, 3) := by decide +kernel
theorem dX5_keep_91 : decode cX5_keep 91 = .ok (.iconst 1, 1) := by decide +kernel
theorem dX5_keep_92 : decode cX5_keep 92 = .ok (.isub, 1) := by decide +kernel
theorem dX5_keep_93 : decode cX5_keep 93 = .ok (.iconst 2, 1) := by decide +kernel
theorem dX5_keep_94 : decode cX5_keep 94 = .ok (.invokevirtual 84, 3) := by decide +kernel
theorem dX5_keep_97 : decode cX5_keep 97 = .ok (.ifCond .ne 7, 3) := by decide +kernel
theorem dX5_keep_100 : decode cX5_keep 100 = .ok (.iconst 1, 1) := by decide +kernel
theorem dX5_keep_101 : decode cX5_keep 101 = .ok (.goto 4, 3) := by decide +kernel
theorem dX5_keep_104 : decode cX5_keep 104 = .ok (.iconst 0, 1) := by decide +kernel
theorem dX5_keep_105 : decode cX5_keep 105 = .ok (.istore 6, 2) := by decide +kernel
theorem dX5_keep_107 : decode cX5_keep 107 = .ok (.iinc 7 1, 3) := by decide +kernel
theorem dX5_keep_110 : decode cX5_keep 110 = .ok (.goto (-40), 3) := by decide +kernel
theorem dX5_keep_113 : decode cX5_keep 113 = .ok (.aload_n 0, 1) := by decide +kernel
theorem dX5_keep_114 : decode cX5_keep 114 = .ok (.dup, 1) := by decide +kernel
theorem dX5_keep_115 : decode cX5_keep 115 = .ok (.getfield 36, 3) := by decide +kernel
theorem dX5_keep_118 : decode cX5_keep 118 = .ok (.iconst 1, 1) := by decide +kernel
theorem dX5_keep_119 : decode cX5_keep 119 = .ok (.isub, 1) := by decide +kernel
theorem dX5_keep_120 : decode cX5_keep 120 = .ok (.putfield 36, 3) := by decide +kernel
theorem dX5_keep_123 : decode cX5_keep 123 = .ok (.aload_n 0, 1) := by decide +kernel
theorem dX5_keep_124 : decode cX5_keep 124 = .ok (.aload_n 3, 1) := by decide +kernel
theorem dX5_keep_125 : decode cX5_keep 125 = .ok (.invokevirtual 150, 3) := by decide +kernel
theorem dX5_keep_128 : decode cX5_keep 128 = .ok (.iload 6, 2) := by decide +kernel
theorem dX5_keep_130 : decode cX5_keep 130 = .ok (.ifCond .eq 7, 3) := by decide +kernel
theorem dX5_keep_133 : decode cX5_keep 133 = .ok (.iload 5, 2) := by decide +kernel
theorem dX5_keep_135 : decode cX5_keep 135 = .ok (.istore 4, 2) := by decide +kernel
theorem dX5_keep_137 : decode cX5_keep 137 = .ok (.iinc 5 (-1), 3) := by decide +kernel
theorem dX5_keep_140 : decode cX5_keep 140 = .ok (.goto (-93), 3) := by decide +kernel
theorem dX5_keep_143 : decode cX5_keep 143 = .ok (.iload 4, 2) := by decide +kernel
theorem dX5_keep_145 : decode cX5_keep 145 = .ok (.ireturn, 1) := by decide +kernel
theorem dX5_waterBy_0 : decode cX5_waterBy 0 = .ok (.iconst 0, 1) := by decide +kernel
theorem dX5_waterBy_1 : decode cX5_waterBy 1 = .ok (.istore_n 2, 1) := by decide +kernel
theorem dX5_waterBy_2 : decode cX5_waterBy 2 = .ok (.iload_n 2, 1) := by decide +kernel
theorem dX5_waterBy_3 : decode cX5_waterBy 3 = .ok (.iload_n 1, 1) := by decide +kernel
theorem dX5_waterBy_4 : decode cX5_waterBy 4 = .ok (.if_icmp .ge 14, 3) := by decide +kernel
theorem dX5_waterBy_7 : decode cX5_waterBy 7 = .ok (.aload_n 0, 1) := by decide +kernel
theorem dX5_waterBy_8 : decode cX5_waterBy 8 = .ok (.invokevirtual 131, 3) := by decide +kernel
theorem dX5_waterBy_11 : decode cX5_waterBy 11 = .ok (.pop, 1) := by decide +kernel
theorem dX5_waterBy_12 : decode cX5_waterBy 12 = .ok (.iinc 2 1, 3) := by decide +kernel
theorem dX5_waterBy_15 : decode cX5_waterBy 15 = .ok (.goto (-13), 3) := by decide +kernel
theorem dX5_waterBy_18 : decode cX5_waterBy 18 = .ok (.aload_n 0, 1) := by decide +kernel
theorem dX5_waterBy_19 : decode cX5_waterBy 19 = .ok (.invokevirtual 135, 3) := by decide +kernel
theorem dX5_waterBy_22 : decode cX5_waterBy 22 = .ok (.ireturn, 1) := by decide +kernel
theorem dX5_advise_0 : decode cX5_advise 0 = .ok (.aload_n 0, 1) := by decide +kernel
theorem dX5_advise_1 : decode cX5_advise 1 = .ok (.iconst 0, 1) := by decide +kernel
theorem dX5_advise_2 : decode cX5_advise 2 = .ok (.putfield 25, 3) := by decide +kernel
theorem dX5_advise_5 : decode cX5_advise 5 = .ok (.iload_n 1, 1) := by decide +kernel
theorem dX5_advise_6 : decode cX5_advise 6 = .ok (.iconst 1, 1) := by decide +kernel
theorem dX5_advise_7 : decode cX5_advise 7 = .ok (.bipush 50, 2) := by decide +kernel
theorem dX5_advise_9 : decode cX5_advise 9 = .ok (.invokestatic 32, 3) := by decide +kernel
theorem dX5_advise_12 : decode cX5_advise 12 = .ok (.ifCond .ne 9, 3) := by decide +kernel
theorem dX5_advise_15 : decode cX5_advise 15 = .ok (.aload_n 0, 1) := by decide +kernel
theorem dX5_advise_16 : decode cX5_advise 16 = .ok (.iconst 1, 1) := by decide +kernel
theorem dX5_advise_17 : decode cX5_advise 17 = .ok (.invokevirtual 49, 3) := by decide +kernel
theorem dX5_advise_20 : decode cX5_advise 20 = .ok (.ireturn, 1) := by decide +kernel
theorem dX5_advise_21 : decode cX5_advise 21 = .ok (.aload_n 0, 1) := by decide +kernel
theorem dX5_advise_22 : decode cX5_advise 22 = .ok (.invokevirtual 146, 3) := by decide +kernel
theorem dX5_advise_25 : decode cX5_advise 25 = .ok (.astore_n 2, 1) := by decide +kernel
theorem dX5_advise_26 : decode cX5_advise 26 = .ok (.aload_n 0, 1) := by decide +kernel
theorem dX5_advise_27 : decode cX5_advise 27 = .ok (.iload_n 1, 1) := by decide +kernel
theorem dX5_advise_28 : decode cX5_advise 28 = .ok (.invokevirtual 154, 3) := by decide +kernel
theorem dX5_advise_31 : decode cX5_advise 31 = .ok (.istore_n 3, 1) := by decide +kernel
theorem dX5_advise_32 : decode cX5_advise 32 = .ok (.aload_n 0, 1) := by decide +kernel
theorem dX5_advise_33 : decode cX5_advise 33 = .ok (.aload_n 2, 1) := by decide +kernel
theorem dX5_advise_34 : decode cX5_advise 34 = .ok (.invokevirtual 150, 3) := by decide +kernel
theorem dX5_advise_37 : decode cX5_advise 37 = .ok (.iconst (-1), 1) := by decide +kernel
theorem dX5_advise_38 : decode cX5_advise 38 = .ok (.istore 4, 2) := by decide +kernel
theorem dX5_advise_40 : decode cX5_advise 40 = .ok (.iconst 0, 1) := by decide +kernel
theorem dX5_advise_41 : decode cX5_advise 41 = .ok (.istore 5, 2) := by decide +kernel
theorem dX5_advise_43 : decode cX5_advise 43 = .ok (.iload 5, 2) := by decide +kernel
theorem dX5_advise_45 : decode cX5_advise 45 = .ok (.aload_n 0, 1) := by decide +kernel
theorem dX5_advise_46 : decode cX5_advise 46 = .ok (.getfield 29, 3) := by decide +kernel
theorem dX5_advise_49 : decode cX5_advise 49 = .ok (.if_icmp .ge 59, 3) := by decide +kernel
theorem dX5_advise_52 : decode cX5_advise 52 = .ok (.aload_n 0, 1) := by decide +kernel
theorem dX5_advise_53 : decode cX5_advise 53 = .ok (.iload 5, 2) := by decide +kernel
theorem dX5_advise_55 : decode cX5_advise 55 = .ok (.invokevirtual 75, 3) := by decide +kernel
theorem dX5_advise_58 : decode cX5_advise 58 = .ok (.ifCond .ne 6, 3) := by decide +kernel
theorem dX5_advise_61 : decode cX5_advise 61 = .ok (.goto 41, 3) := by decide +kernel
theorem dX5_advise_64 : decode cX5_advise 64 = .ok (.aload_n 0, 1) := by decide +kernel
theorem dX5_advise_65 : decode cX5_advise 65 = .ok (.iload 5, 2) := by decide +kernel
theorem dX5_advise_67 : decode cX5_advise 67 = .ok (.sipush 500, 3) := by decide +kernel
theorem dX5_advise_70 : decode cX5_advise 70 = .ok (.invokevirtual 78, 3) := by decide +kernel
theorem dX5_advise_73 : decode cX5_advise 73 = .ok (.pop, 1) := by decide +kernel
theorem dX5_advise_74 : decode cX5_advise 74 = .ok (.aload_n 0, 1) := by decide +kernel
theorem dX5_advise_75 : decode cX5_advise 75 = .ok (.iload_n 1, 1) := by decide +kernel
theorem dX5_advise_76 : decode cX5_advise 76 = .ok (.invokevirtual 154, 3) := by decide +kernel
theorem dX5_advise_79 : decode cX5_advise 79 = .ok (.istore 6, 2) := by decide +kernel
theorem dX5_advise_81 : decode cX5_advise 81 = .ok (.aload_n 0, 1) := by decide +kernel
theorem dX5_advise_82 : decode cX5_advise 82 = .ok (.aload_n 2, 1) := by decide +kernel
theorem dX5_advise_83 : decode cX5_advise 83 = .ok (.invokevirtual 150, 3) := by decide +kernel
theorem dX5_advise_86 : decode cX5_advise 86 = .ok (.iload 6, 2) := by decide +kernel
theorem dX5_advise_88 : decode cX5_advise 88 = .ok (.iload_n 3, 1) := by decide +kernel
theorem dX5_advise_89 : decode cX5_advise 89 = .ok (.if_icmp .gt 6, 3) := by decide +kernel
theorem dX5_advise_92 : decode cX5_advise 92 = .ok (.goto 10, 3) := by decide +kernel
theorem dX5_advise_95 : decode cX5_advise 95 = .ok (.iload 5, 2) := by decide +kernel
theorem dX5_advise_97 : decode cX5_advise 97 = .ok (.istore 4, 2) := by decide +kernel
theorem dX5_advise_99 : decode cX5_advise 99 = .ok (.iload 6, 2) := by decide +kernel
theorem dX5_advise_101 : decode cX5_advise 101 = .ok (.istore_n 3, 1) := by decide +kernel
theorem dX5_advise_102 : decode cX5_advise 102 = .ok (.iinc 5 1, 3) := by decide +kernel
theorem dX5_advise_105 : decode cX5_advise 105 = .ok (.goto (-62), 3) := by decide +kernel
theorem dX5_advise_108 : decode cX5_advise 108 = .ok (.iload 4, 2) := by decide +kernel
theorem dX5_advise_110 : decode cX5_advise 110 = .ok (.ireturn, 1) := by decide +kernel
theorem dX5_full_0 : decode cX5_full 0 = .ok (.aload_n 0, 1) := by decide +kernel
theorem dX5_full_1 : decode cX5_full 1 = .ok (.iconst 0, 1) := by decide +kernel
theorem dX5_full_2 : decode cX5_full 2 = .ok (.putfield 25, 3) := by decide +kernel
theorem dX5_full_5 : decode cX5_full 5 = .ok (.iconst 0, 1) := by decide +kernel
theorem dX5_full_6 : decode cX5_full 6 = .ok (.istore_n 1, 1) := by decide +kernel
theorem dX5_full_7 : decode cX5_full 7 = .ok (.iconst 0, 1) := by decide +kernel
theorem dX5_full_8 : decode cX5_full 8 = .ok (.istore_n 2, 1) := by decide +kernel
theorem dX5_full_9 : decode cX5_full 9 = .ok (.iload_n 2, 1) := by decide +kernel
theorem dX5_full_10 : decode cX5_full 10 = .ok (.aload_n 0, 1) := by decide +kernel
theorem dX5_full_11 : decode cX5_full 11 = .ok (.getfield 29, 3) := by decide +kernel
theorem dX5_full_14 : decode cX5_full 14 = .ok (.if_icmp .ge 17, 3) := by decide +kernel
theorem dX5_full_17 : decode cX5_full 17 = .ok (.iload_n 1, 1) := by decide +kernel
theorem dX5_full_18 : decode cX5_full 18 = .ok (.aload_n 0, 1) := by decide +kernel
theorem dX5_full_19 : decode cX5_full 19 = .ok (.iload_n 2, 1) := by decide +kernel
theorem dX5_full_20 : decode cX5_full 20 = .ok (.invokevirtual 69, 3) := by decide +kernel
theorem dX5_full_23 : decode cX5_full 23 = .ok (.iadd, 1) := by decide +kernel
theorem dX5_full_24 : decode cX5_full 24 = .ok (.istore_n 1, 1) := by decide +kernel
theorem dX5_full_25 : decode cX5_full 25 = .ok (.iinc 2 1, 3) := by decide +kernel
theorem dX5_full_28 : decode cX5_full 28 = .ok (.goto (-19), 3) := by decide +kernel
theorem dX5_full_31 : decode cX5_full 31 = .ok (.aload_n 0, 1) := by decide +kernel
theorem dX5_full_32 : decode cX5_full 32 = .ok (.getfield 29, 3) := by decide +kernel
theorem dX5_full_35 : decode cX5_full 35 = .ok (.ifCond .ne 7, 3) := by decide +kernel
theorem dX5_full_38 : decode cX5_full 38 = .ok (.dconst 0, 1) := by decide +kernel
theorem dX5_full_39 : decode cX5_full 39 = .ok (.goto 11, 3) := by decide +kernel
theorem dX5_full_42 : decode cX5_full 42 = .ok (.aload_n 0, 1) := by decide +kernel
theorem dX5_full_43 : decode cX5_full 43 = .ok (.invokevirtual 135, 3) := by decide +kernel
theorem dX5_full_46 : decode cX5_full 46 = .ok (.i2d, 1) := by decide +kernel
theorem dX5_full_47 : decode cX5_full 47 = .ok (.iload_n 1, 1) := by decide +kernel
theorem dX5_full_48 : decode cX5_full 48 = .ok (.i2d, 1) := by decide +kernel
theorem dX5_full_49 : decode cX5_full 49 = .ok (.ddiv, 1) := by decide +kernel
theorem dX5_full_50 : decode cX5_full 50 = .ok (.dreturn, 1) := by decide +kernel
theorem dX5_digest_0 : decode cX5_digest 0 = .ok (.aload_n 0, 1) := by decide +kernel
theorem dX5_digest_1 : decode cX5_digest 1 = .ok (.iconst 0, 1) := by decide +kernel
theorem dX5_digest_2 : decode cX5_digest 2 = .ok (.putfield 25, 3) := by decide +kernel
theorem dX5_digest_5 : decode cX5_digest 5 = .ok (.ldc2_w 157, 3) := by decide +kernel
theorem dX5_digest_8 : decode cX5_digest 8 = .ok (.lstore_n 1, 1) := by decide +kernel
theorem dX5_digest_9 : decode cX5_digest 9 = .ok (.iconst 0, 1) := by decide +kernel
theorem dX5_digest_10 : decode cX5_digest 10 = .ok (.istore_n 3, 1) := by decide +kernel
theorem dX5_digest_11 : decode cX5_digest 11 = .ok (.iload_n 3, 1) := by decide +kernel
theorem dX5_digest_12 : decode cX5_digest 12 = .ok (.bipush 8, 2) := by decide +kernel
theorem dX5_digest_14 : decode cX5_digest 14 = .ok (.if_icmp .ge 22, 3) := by decide +kernel
theorem dX5_digest_17 : decode cX5_digest 17 = .ok (.lload_n 1, 1) := by decide +kernel
theorem dX5_digest_18 : decode cX5_digest 18 = .ok (.ldc2_w 159, 3) := by decide +kernel
theorem dX5_digest_21 : decode cX5_digest 21 = .ok (.lmul, 1) := by decide +kernel
theorem dX5_digest_22 : decode cX5_digest 22 = .ok (.aload_n 0, 1) := by decide +kernel
theorem dX5_digest_23 : decode cX5_digest 23 = .ok (.iload_n 3, 1) := by decide +kernel
theorem dX5_digest_24 : decode cX5_digest 24 = .ok (.invokevirtual 138, 3) := by decide +kernel
theorem dX5_digest_27 : decode cX5_digest 27 = .ok (.i2l, 1) := by decide +kernel
theorem dX5_digest_28 : decode cX5_digest 28 = .ok (.ladd, 1) := by decide +kernel
theorem dX5_digest_29 : decode cX5_digest 29 = .ok (.lstore_n 1, 1) := by decide +kernel
theorem dX5_digest_30 : decode cX5_digest 30 = .ok (.iinc 3 1, 3) := by decide +kernel
theorem dX5_digest_33 : decode cX5_digest 33 = .ok (.goto (-22), 3) := by decide +kernel
theorem dX5_digest_36 : decode cX5_digest 36 = .ok (.iconst 0, 1) := by decide +kernel
theorem dX5_digest_37 : decode cX5_digest 37 = .ok (.istore_n 3, 1) := by decide +kernel
theorem dX5_digest_38 : decode cX5_digest 38 = .ok (.iload_n 3, 1) := by decide +kernel
theorem dX5_digest_39 : decode cX5_digest 39 = .ok (.bipush 10, 2) := by decide +kernel
theorem dX5_digest_41 : decode cX5_digest 41 = .ok (.if_icmp .ge 22, 3) := by decide +kernel
theorem dX5_digest_44 : decode cX5_digest 44 = .ok (.lload_n 1, 1) := by decide +kernel
theorem dX5_digest_45 : decode cX5_digest 45 = .ok (.ldc2_w 159, 3) := by decide +kernel
theorem dX5_digest_48 : decode cX5_digest 48 = .ok (.lmul, 1) := by decide +kernel
theorem dX5_digest_49 : decode cX5_digest 49 = .ok (.aload_n 0, 1) := by decide +kernel
theorem dX5_digest_50 : decode cX5_digest 50 = .ok (.iload_n 3, 1) := by decide +kernel
theorem dX5_digest_51 : decode cX5_digest 51 = .ok (.invokevirtual 99, 3) := by decide +kernel
theorem dX5_digest_54 : decode cX5_digest 54 = .ok (.i2l, 1) := by decide +kernel
theorem dX5_digest_55 : decode cX5_digest 55 = .ok (.ladd, 1) := by decide +kernel
theorem dX5_digest_56 : decode cX5_digest 56 = .ok (.lstore_n 1, 1) := by decide +kernel
theorem dX5_digest_57 : decode cX5_digest 57 = .ok (.iinc 3 1, 3) := by decide +kernel
theorem dX5_digest_60 : decode cX5_digest 60 = .ok (.goto (-22), 3) := by decide +kernel
theorem dX5_digest_63 : decode cX5_digest 63 = .ok (.iconst 0, 1) := by decide +kernel
theorem dX5_digest_64 : decode cX5_digest 64 = .ok (.istore_n 3, 1) := by decide +kernel
theorem dX5_digest_65 : decode cX5_digest 65 = .ok (.iload_n 3, 1) := by decide +kernel
theorem dX5_digest_66 : decode cX5_digest 66 = .ok (.aload_n 0, 1) := by decide +kernel
theorem dX5_digest_67 : decode cX5_digest 67 = .ok (.getfield 29, 3) := by decide +kernel
theorem dX5_digest_70 : decode cX5_digest 70 = .ok (.if_icmp .ge 40, 3) := by decide +kernel
theorem dX5_digest_73 : decode cX5_digest 73 = .ok (.iconst 0, 1) := by decide +kernel
theorem dX5_digest_74 : decode cX5_digest 74 = .ok (.istore 4, 2) := by decide +kernel
theorem dX5_digest_76 : decode cX5_digest 76 = .ok (.iload 4, 2) := by decide +kernel
theorem dX5_digest_78 : decode cX5_digest 78 = .ok (.bipush 12, 2) := by decide +kernel
theorem dX5_digest_80 : decode cX5_digest 80 = .ok (.if_icmp .ge 24, 3) := by decide +kernel
theorem dX5_digest_83 : decode cX5_digest 83 = .ok (.lload_n 1, 1) := by decide +kernel
theorem dX5_digest_84 : decode cX5_digest 84 = .ok (.ldc2_w 159, 3) := by decide +kernel
theorem dX5_digest_87 : decode cX5_digest 87 = .ok (.lmul, 1) := by decide +kernel
theorem dX5_digest_88 : decode cX5_digest 88 = .ok (.aload_n 0, 1) := by decide +kernel
theorem dX5_digest_89 : decode cX5_digest 89 = .ok (.iload_n 3, 1) := by decide +kernel
theorem dX5_digest_90 : decode cX5_digest 90 = .ok (.iload 4, 2) := by decide +kernel
theorem dX5_digest_92 : decode cX5_digest 92 = .ok (.invokevirtual 96, 3) := by decide +kernel
theorem dX5_digest_95 : decode cX5_digest 95 = .ok (.i2l, 1) := by decide +kernel
theorem dX5_digest_96 : decode cX5_digest 96 = .ok (.ladd, 1) := by decide +kernel
theorem dX5_digest_97 : decode cX5_digest 97 = .ok (.lstore_n 1, 1) := by decide +kernel
theorem dX5_digest_98 : decode cX5_digest 98 = .ok (.iinc 4 1, 3) := by decide +kernel
theorem dX5_digest_101 : decode cX5_digest 101 = .ok (.goto (-25), 3) := by decide +kernel
theorem dX5_digest_104 : decode cX5_digest 104 = .ok (.iinc 3 1, 3) := by decide +kernel
theorem dX5_digest_107 : decode cX5_digest 107 = .ok (.goto (-42), 3) := by decide +kernel
theorem dX5_digest_110 : decode cX5_digest 110 = .ok (.iconst 0, 1) := by decide +kernel
theorem dX5_digest_111 : decode cX5_digest 111 = .ok (.istore_n 3, 1) := by decide +kernel
theorem dX5_digest_112 : decode cX5_digest 112 = .ok (.iload_n 3, 1) := by decide +kernel
theorem dX5_digest_113 : decode cX5_digest 113 = .ok (.aload_n 0, 1) := by decide +kernel
theorem dX5_digest_114 : decode cX5_digest 114 = .ok (.getfield 36, 3) := by decide +kernel
theorem dX5_digest_117 : decode cX5_digest 117 = .ok (.if_icmp .ge 40, 3) := by decide +kernel
theorem dX5_digest_120 : decode cX5_digest 120 = .ok (.iconst 0, 1) := by decide +kernel
theorem dX5_digest_121 : decode cX5_digest 121 = .ok (.istore 4, 2) := by decide +kernel
theorem dX5_digest_123 : decode cX5_digest 123 = .ok (.iload 4, 2) := by decide +kernel
theorem dX5_digest_125 : decode cX5_digest 125 = .ok (.bipush 6, 2) := by decide +kernel
theorem dX5_digest_127 : decode cX5_digest 127 = .ok (.if_icmp .ge 24, 3) := by decide +kernel
theorem dX5_digest_130 : decode cX5_digest 130 = .ok (.lload_n 1, 1) := by decide +kernel
theorem dX5_digest_131 : decode cX5_digest 131 = .ok (.ldc2_w 159, 3) := by decide +kernel
theorem dX5_digest_134 : decode cX5_digest 134 = .ok (.lmul, 1) := by decide +kernel
theorem dX5_digest_135 : decode cX5_digest 135 = .ok (.aload_n 0, 1) := by decide +kernel
theorem dX5_digest_136 : decode cX5_digest 136 = .ok (.iload_n 3, 1) := by decide +kernel
theorem dX5_digest_137 : decode cX5_digest 137 = .ok (.iload 4, 2) := by decide +kernel
theorem dX5_digest_139 : decode cX5_digest 139 = .ok (.invokevirtual 115, 3) := by decide +kernel
theorem dX5_digest_142 : decode cX5_digest 142 = .ok (.i2l, 1) := by decide +kernel
theorem dX5_digest_143 : decode cX5_digest 143 = .ok (.ladd, 1) := by decide +kernel
theorem dX5_digest_144 : decode cX5_digest 144 = .ok (.lstore_n 1, 1) := by decide +kernel
theorem dX5_digest_145 : decode cX5_digest 145 = .ok (.iinc 4 1, 3) := by decide +kernel
theorem dX5_digest_148 : decode cX5_digest 148 = .ok (.goto (-25), 3) := by decide +kernel
theorem dX5_digest_151 : decode cX5_digest 151 = .ok (.iinc 3 1, 3) := by decide +kernel
theorem dX5_digest_154 : decode cX5_digest 154 = .ok (.goto (-42), 3) := by decide +kernel
theorem dX5_digest_157 : decode cX5_digest 157 = .ok (.lload_n 1, 1) := by decide +kernel
theorem dX5_digest_158 : decode cX5_digest 158 = .ok (.lreturn, 1) := by decide +kernel
end
section
theorem dL_dig_0 : decode cL_dig 0 = .ok (.aload 6, 2) := by decide +kernel
theorem dL_dig_2 : decode cL_dig 2 = .ok (.iconst 0, 1) := by decide +kernel
theorem dL_dig_3 : decode cL_dig 3 = .ok (.aload_n 0, 1) := by decide +kernel
theorem dL_dig_4 : decode cL_dig 4 = .ok (.iload_n 1, 1) := by decide +kernel
theorem dL_dig_5 : decode cL_dig 5 = .ok (.iload_n 2, 1) := by decide +kernel
theorem dL_dig_6 : decode cL_dig 6 = .ok (.iload_n 3, 1) := by decide +kernel
theorem dL_dig_7 : decode cL_dig 7 = .ok (.iload 4, 2) := by decide +kernel
theorem dL_dig_9 : decode cL_dig 9 = .ok (.iload 5, 2) := by decide +kernel
theorem dL_dig_11 : decode cL_dig 11 = .ok (.invokevirtual 7, 3) := by decide +kernel
theorem dL_dig_14 : decode cL_dig 14 = .ok (.i2l, 1) := by decide +kernel
theorem dL_dig_15 : decode cL_dig 15 = .ok (.lastore, 1) := by decide +kernel
theorem dL_dig_16 : decode cL_dig 16 = .ok (.goto 11, 3) := by decide +kernel
theorem dL_dig_19 : decode cL_dig 19 = .ok (.astore 7, 2) := by decide +kernel
theorem dL_dig_21 : decode cL_dig 21 = .ok (.iconst 1, 1) := by decide +kernel
theorem dL_dig_22 : decode cL_dig 22 = .ok (.ireturn, 1) := by decide +kernel
theorem dL_dig_23 : decode cL_dig 23 = .ok (.astore 7, 2) := by decide +kernel
theorem dL_dig_25 : decode cL_dig 25 = .ok (.iconst 2, 1) := by decide +kernel
theorem dL_dig_26 : decode cL_dig 26 = .ok (.ireturn, 1) := by decide +kernel
theorem dL_dig_27 : decode cL_dig 27 = .ok (.iconst 0, 1) := by decide +kernel
theorem dL_dig_28 : decode cL_dig 28 = .ok (.ireturn, 1) := by decide +kernel
theorem dL_link_0 : decode cL_link 0 = .ok (.aload_n 3, 1) := by decide +kernel
theorem dL_link_1 : decode cL_link 1 = .ok (.iconst 0, 1) := by decide +kernel
theorem dL_link_2 : decode cL_link 2 = .ok (.aload_n 0, 1) := by decide +kernel
theorem dL_link_3 : decode cL_link 3 = .ok (.iload_n 1, 1) := by decide +kernel
theorem dL_link_4 : decode cL_link 4 = .ok (.iload_n 2, 1) := by decide +kernel
theorem dL_link_5 : decode cL_link 5 = .ok (.invokevirtual 17, 3) := by decide +kernel
theorem dL_link_8 : decode cL_link 8 = .ok (.i2l, 1) := by decide +kernel
theorem dL_link_9 : decode cL_link 9 = .ok (.lastore, 1) := by decide +kernel
theorem dL_link_10 : decode cL_link 10 = .ok (.goto 11, 3) := by decide +kernel
theorem dL_link_13 : decode cL_link 13 = .ok (.astore 4, 2) := by decide +kernel
theorem dL_link_15 : decode cL_link 15 = .ok (.iconst 1, 1) := by decide +kernel
theorem dL_link_16 : decode cL_link 16 = .ok (.ireturn, 1) := by decide +kernel
theorem dL_link_17 : decode cL_link 17 = .ok (.astore 4, 2) := by decide +kernel
theorem dL_link_19 : decode cL_link 19 = .ok (.iconst 2, 1) := by decide +kernel
theorem dL_link_20 : decode cL_link 20 = .ok (.ireturn, 1) := by decide +kernel
theorem dL_link_21 : decode cL_link 21 = .ok (.iconst 0, 1) := by decide +kernel
theorem dL_link_22 : decode cL_link 22 = .ok (.ireturn, 1) := by decide +kernel
theorem dL_puddle_0 : decode cL_puddle 0 = .ok (.aload_n 3, 1) := by decide +kernel
theorem dL_puddle_1 : decode cL_puddle 1 = .ok (.iconst 0, 1) := by decide +kernel
theorem dL_puddle_2 : decode cL_puddle 2 = .ok (.aload_n 0, 1) := by decide +kernel
theorem dL_puddle_3 : decode cL_puddle 3 = .ok (.iload_n 1, 1) := by decide +kernel
theorem dL_puddle_4 : decode cL_puddle 4 = .ok (.iload_n 2, 1) := by decide +kernel
theorem dL_puddle_5 : decode cL_puddle 5 = .ok (.invokevirtual 23, 3) := by decide +kernel
theorem dL_puddle_8 : decode cL_puddle 8 = .ok (.i2l, 1) := by decide +kernel
theorem dL_puddle_9 : decode cL_puddle 9 = .ok (.lastore, 1) := by decide +kernel
theorem dL_puddle_10 : decode cL_puddle 10 = .ok (.goto 15, 3) := by decide +kernel
theorem dL_puddle_13 : decode cL_puddle 13 = .ok (.astore 4, 2) := by decide +kernel
theorem dL_puddle_15 : decode cL_puddle 15 = .ok (.iconst 1, 1) := by decide +kernel
theorem dL_puddle_16 : decode cL_puddle 16 = .ok (.ireturn, 1) := by decide +kernel
theorem dL_puddle_17 : decode cL_puddle 17 = .ok (.astore 4, 2) := by decide +kernel
theorem dL_puddle_19 : decode cL_puddle 19 = .ok (.iconst 2, 1) := by decide +kernel
theorem dL_puddle_20 : decode cL_puddle 20 = .ok (.ireturn, 1) := by decide +kernel
theorem dL_puddle_21 : decode cL_puddle 21 = .ok (.astore 4, 2) := by decide +kernel
theorem dL_puddle_23 : decode cL_puddle 23 = .ok (.iconst 3, 1) := by decide +kernel
theorem dL_puddle_24 : decode cL_puddle 24 = .ok (.ireturn, 1) := by decide +kernel
theorem dL_puddle_25 : decode cL_puddle 25 = .ok (.iconst 0, 1) := by decide +kernel
theorem dL_puddle_26 : decode cL_puddle 26 = .ok (.ireturn, 1) := by decide +kernel
theorem dL_strew_0 : decode cL_strew 0 = .ok (.aload_n 3, 1) := by decide +kernel
theorem dL_strew_1 : decode cL_strew 1 = .ok (.iconst 0, 1) := by decide +kernel
theorem dL_strew_2 : decode cL_strew 2 = .ok (.aload_n 0, 1) := by decide +kernel
theorem dL_strew_3 : decode cL_strew 3 = .ok (.iload_n 1, 1) := by decide +kernel
theorem dL_strew_4 : decode cL_strew 4 = .ok (.iload_n 2, 1) := by decide +kernel
theorem dL_strew_5 : decode cL_strew 5 = .ok (.invokevirtual 26, 3) := by decide +kernel
theorem dL_strew_8 : decode cL_strew 8 = .ok (.ifCond .eq 7, 3) := by decide +kernel
theorem dL_strew_11 : decode cL_strew 11 = .ok (.lconst 1, 1) := by decide +kernel
theorem dL_strew_12 : decode cL_strew 12 = .ok (.goto 4, 3) := by decide +kernel
theorem dL_strew_15 : decode cL_strew 15 = .ok (.lconst 0, 1) := by decide +kernel
theorem dL_strew_16 : decode cL_strew 16 = .ok (.lastore, 1) := by decide +kernel
theorem dL_strew_17 : decode cL_strew 17 = .ok (.goto 7, 3) := by decide +kernel
theorem dL_strew_20 : decode cL_strew 20 = .ok (.astore 4, 2) := by decide +kernel
theorem dL_strew_22 : decode cL_strew 22 = .ok (.iconst 1, 1) := by decide +kernel
theorem dL_strew_23 : decode cL_strew 23 = .ok (.ireturn, 1) := by decide +kernel
theorem dL_strew_24 : decode cL_strew 24 = .ok (.iconst 0, 1) := by decide +kernel
theorem dL_strew_25 : decode cL_strew 25 = .ok (.ireturn, 1) := by decide +kernel
theorem dL_pour_0 : decode cL_pour 0 = .ok (.aload_n 3, 1) := by decide +kernel
theorem dL_pour_1 : decode cL_pour 1 = .ok (.iconst 0, 1) := by decide +kernel
theorem dL_pour_2 : decode cL_pour 2 = .ok (.aload_n 0, 1) := by decide +kernel
theorem dL_pour_3 : decode cL_pour 3 = .ok (.iload_n 1, 1) := by decide +kernel
theorem dL_pour_4 : decode cL_pour 4 = .ok (.iload_n 2, 1) := by decide +kernel
theorem dL_pour_5 : decode cL_pour 5 = .ok (.invokevirtual 30, 3) := by decide +kernel
theorem dL_pour_8 : decode cL_pour 8 = .ok (.i2l, 1) := by decide +kernel
theorem dL_pour_9 : decode cL_pour 9 = .ok (.lastore, 1) := by decide +kernel
theorem dL_pour_10 : decode cL_pour 10 = .ok (.goto 11, 3) := by decide +kernel
theorem dL_pour_13 : decode cL_pour 13 = .ok (.astore 4, 2) := by decide +kernel
theorem dL_pour_15 : decode cL_pour 15 = .ok (.iconst 1, 1) := by decide +kernel
theorem dL_pour_16 : decode cL_pour 16 = .ok (.ireturn, 1) := by decide +kernel
theorem dL_pour_17 : decode cL_pour 17 = .ok (.astore 4, 2) := by decide +kernel
theorem dL_pour_19 : decode cL_pour 19 = .ok (.iconst 2, 1) := by decide +kernel
theorem dL_pour_20 : decode cL_pour 20 = .ok (.ireturn, 1) := by decide +kernel
theorem dL_pour_21 : decode cL_pour 21 = .ok (.iconst 0, 1) := by decide +kernel
theorem dL_pour_22 : decode cL_pour 22 = .ok (.ireturn, 1) := by decide +kernel
theorem dL_pond_0 : decode cL_pond 0 = .ok (.aload_n 3, 1) := by decide +kernel
theorem dL_pond_1 : decode cL_pond 1 = .ok (.iconst 0, 1) := by decide +kernel
theorem dL_pond_2 : decode cL_pond 2 = .ok (.aload_n 0, 1) := by decide +kernel
theorem dL_pond_3 : decode cL_pond 3 = .ok (.iload_n 1, 1) := by decide +kernel
theorem dL_pond_4 : decode cL_pond 4 = .ok (.iload_n 2, 1) := by decide +kernel
theorem dL_pond_5 : decode cL_pond 5 = .ok (.invokevirtual 33, 3) := by decide +kernel
theorem dL_pond_8 : decode cL_pond 8 = .ok (.i2l, 1) := by decide +kernel
theorem dL_pond_9 : decode cL_pond 9 = .ok (.lastore, 1) := by decide +kernel
theorem dL_pond_10 : decode cL_pond 10 = .ok (.goto 7, 3) := by decide +kernel
theorem dL_pond_13 : decode cL_pond 13 = .ok (.astore 4, 2) := by decide +kernel
theorem dL_pond_15 : decode cL_pond 15 = .ok (.iconst 1, 1) := by decide +kernel
theorem dL_pond_16 : decode cL_pond 16 = .ok (.ireturn, 1) := by decide +kernel
theorem dL_pond_17 : decode cL_pond 17 = .ok (.iconst 0, 1) := by decide +kernel
theorem dL_pond_18 : decode cL_pond 18 = .ok (.ireturn, 1) := by decide +kernel
theorem dL_setWeather_0 : decode cL_setWeather 0 = .ok (.aload 5, 2) := by decide +kernel
theorem dL_setWeather_2 : decode cL_setWeather 2 = .ok (.iconst 0, 1) := by decide +kernel
theorem dL_setWeather_3 : decode cL_setWeather 3 = .ok (.aload_n 0, 1) := by decide +kernel
theorem dL_setWeather_4 : decode cL_setWeather 4 = .ok (.iload_n 1, 1) := by decide +kernel
theorem dL_setWeather_5 : decode cL_setWeather 5 = .ok (.iload_n 2, 1) := by decide +kernel
theorem dL_setWeather_6 : decode cL_setWeather 6 = .ok (.iload_n 3, 1) := by decide +kernel
theorem dL_setWeather_7 : decode cL_setWeather 7 = .ok (.iload 4, 2) := by decide +kernel
theorem dL_setWeather_9 : decode cL_setWeather 9 = .ok (.invokevirtual 36, 3) := by decide +kernel
theorem dL_setWeather_12 : decode cL_setWeather 12 = .ok (.i2l, 1) := by decide +kernel
theorem dL_setWeather_13 : decode cL_setWeather 13 = .ok (.lastore, 1) := by decide +kernel
theorem dL_setWeather_14 : decode cL_setWeather 14 = .ok (.goto 11, 3) := by decide +kernel
theorem dL_setWeather_17 : decode cL_setWeather 17 = .ok (.astore 6, 2) := by decide +kernel
theorem dL_setWeather_19 : decode cL_setWeather 19 = .ok (.iconst 1, 1) := by decide +kernel
theorem dL_setWeather_20 : decode cL_setWeather 20 = .ok (.ireturn, 1) := by decide +kernel
theorem dL_setWeather_21 : decode cL_setWeather 21 = .ok (.astore 6, 2) := by decide +kernel
theorem dL_setWeather_23 : decode cL_setWeather 23 = .ok (.iconst 2, 1) := by decide +kernel
theorem dL_setWeather_24 : decode cL_setWeather 24 = .ok (.ireturn, 1) := by decide +kernel
theorem dL_setWeather_25 : decode cL_setWeather 25 = .ok (.iconst 0, 1) := by decide +kernel
theorem dL_setWeather_26 : decode cL_setWeather 26 = .ok (.ireturn, 1) := by decide +kernel
theorem dL_bring_0 : decode cL_bring 0 = .ok (.aload_n 2, 1) := by decide +kernel
theorem dL_bring_1 : decode cL_bring 1 = .ok (.iconst 0, 1) := by decide +kernel
theorem dL_bring_2 : decode cL_bring 2 = .ok (.aload_n 0, 1) := by decide +kernel
theorem dL_bring_3 : decode cL_bring 3 = .ok (.iload_n 1, 1) := by decide +kernel
theorem dL_bring_4 : decode cL_bring 4 = .ok (.invokevirtual 40, 3) := by decide +kernel
theorem dL_bring_7 : decode cL_bring 7 = .ok (.i2l, 1) := by decide +kernel
theorem dL_bring_8 : decode cL_bring 8 = .ok (.lastore, 1) := by decide +kernel
theorem dL_bring_9 : decode cL_bring 9 = .ok (.goto 9, 3) := by decide +kernel
theorem dL_bring_12 : decode cL_bring 12 = .ok (.astore_n 3, 1) := by decide +kernel
theorem dL_bring_13 : decode cL_bring 13 = .ok (.iconst 1, 1) := by decide +kernel
theorem dL_bring_14 : decode cL_bring 14 = .ok (.ireturn, 1) := by decide +kernel
theorem dL_bring_15 : decode cL_bring 15 = .ok (.astore_n 3, 1) := by decide +kernel
theorem dL_bring_16 : decode cL_bring 16 = .ok (.iconst 2, 1) := by decide +kernel
theorem dL_bring_17 : decode cL_bring 17 = .ok (.ireturn, 1) := by decide +kernel
theorem dL_bring_18 : decode cL_bring 18 = .ok (.iconst 0, 1) := by decide +kernel
theorem dL_bring_19 : decode cL_bring 19 = .ok (.ireturn, 1) := by decide +kernel
theorem dL_addFlock_0 : decode cL_addFlock 0 = .ok (.aload_n 3, 1) := by decide +kernel
theorem dL_addFlock_1 : decode cL_addFlock 1 = .ok (.iconst 0, 1) := by decide +kernel
theorem dL_addFlock_2 : decode cL_addFlock 2 = .ok (.aload_n 0, 1) := by decide +kernel
theorem dL_addFlock_3 : decode cL_addFlock 3 = .ok (.iload_n 1, 1) := by decide +kernel
theorem dL_addFlock_4 : decode cL_addFlock 4 = .ok (.iload_n 2, 1) := by decide +kernel
theorem dL_addFlock_5 : decode cL_addFlock 5 = .ok (.invokevirtual 44, 3) := by decide +kernel
theorem dL_addFlock_8 : decode cL_addFlock 8 = .ok (.i2l, 1) := by decide +kernel
theorem dL_addFlock_9 : decode cL_addFlock 9 = .ok (.lastore, 1) := by decide +kernel
theorem dL_addFlock_10 : decode cL_addFlock 10 = .ok (.goto 15, 3) := by decide +kernel
theorem dL_addFlock_13 : decode cL_addFlock 13 = .ok (.astore 4, 2) := by decide +kernel
theorem dL_addFlock_15 : decode cL_addFlock 15 = .ok (.iconst 1, 1) := by decide +kernel
theorem dL_addFlock_16 : decode cL_addFlock 16 = .ok (.ireturn, 1) := by decide +kernel
theorem dL_addFlock_17 : decode cL_addFlock 17 = .ok (.astore 4, 2) := by decide +kernel
theorem dL_addFlock_19 : decode cL_addFlock 19 = .ok (.iconst 2, 1) := by decide +kernel
theorem dL_addFlock_20 : decode cL_addFlock 20 = .ok (.ireturn, 1) := by decide +kernel
theorem dL_addFlock_21 : decode cL_addFlock 21 = .ok (.astore 4, 2) := by decide +kernel
theorem dL_addFlock_23 : decode cL_addFlock 23 = .ok (.iconst 3, 1) := by decide +kernel
theorem dL_addFlock_24 : decode cL_addFlock 24 = .ok (.ireturn, 1) := by decide +kernel
theorem dL_addFlock_25 : decode cL_addFlock 25 = .ok (.iconst 0, 1) := by decide +kernel
theorem dL_addFlock_26 : decode cL_addFlock 26 = .ok (.ireturn, 1) := by decide +kernel
theorem dL_drive_0 : decode cL_drive 0 = .ok (.aload_n 3, 1) := by decide +kernel
theorem dL_drive_1 : decode cL_drive 1 = .ok (.iconst 0, 1) := by decide +kernel
theorem dL_drive_2 : decode cL_drive 2 = .ok (.aload_n 0, 1) := by decide +kernel
theorem dL_drive_3 : decode cL_drive 3 = .ok (.iload_n 1, 1) := by decide +kernel
theorem dL_drive_4 : decode cL_drive 4 = .ok (.iload_n 2, 1) := by decide +kernel
theorem dL_drive_5 : decode cL_drive 5 = .ok (.invokevirtual 47, 3) := by decide +kernel
theorem dL_drive_8 : decode cL_drive 8 = .ok (.i2l, 1) := by decide +kernel
theorem dL_drive_9 : decode cL_drive 9 = .ok (.lastore, 1) := by decide +kernel
theorem dL_drive_10 : decode cL_drive 10 = .ok (.goto 11, 3) := by decide +kernel
theorem dL_drive_13 : decode cL_drive 13 = .ok (.astore 4, 2) := by decide +kernel
theorem dL_drive_15 : decode cL_drive 15 = .ok (.iconst 1, 1) := by decide +kernel
theorem dL_drive_16 : decode cL_drive 16 = .ok (.ireturn, 1) := by decide +kernel
theorem dL_drive_17 : decode cL_drive 17 = .ok (.astore 4, 2) := by decide +kernel
theorem dL_drive_19 : decode cL_drive 19 = .ok (.iconst 2, 1) := by decide +kernel
theorem dL_drive_20 : decode cL_drive 20 = .ok (.ireturn, 1) := by decide +kernel
theorem dL_drive_21 : decode cL_drive 21 = .ok (.iconst 0, 1) := by decide +kernel
theorem dL_drive_22 : decode cL_drive 22 = .ok (.ireturn, 1) := by decide +kernel
theorem dL_setRoams_0 : decode cL_setRoams 0 = .ok (.aload_n 3, 1) := by decide +kernel
theorem dL_setRoams_1 : decode cL_setRoams 1 = .ok (.iconst 0, 1) := by decide +kernel
theorem dL_setRoams_2 : decode cL_setRoams 2 = .ok (.aload_n 0, 1) := by decide +kernel
theorem dL_setRoams_3 : decode cL_setRoams 3 = .ok (.iload_n 1, 1) := by decide +kernel
theorem dL_setRoams_4 : decode cL_setRoams 4 = .ok (.iload_n 2, 1) := by decide +kernel
theorem dL_setRoams_5 : decode cL_setRoams 5 = .ok (.invokevirtual 50, 3) := by decide +kernel
theorem dL_setRoams_8 : decode cL_setRoams 8 = .ok (.ifCond .eq 7, 3) := by decide +kernel
theorem dL_setRoams_11 : decode cL_setRoams 11 = .ok (.lconst 1, 1) := by decide +kernel
theorem dL_setRoams_12 : decode cL_setRoams 12 = .ok (.goto 4, 3) := by decide +kernel
theorem dL_setRoams_15 : decode cL_setRoams 15 = .ok (.lconst 0, 1) := by decide +kernel
theorem dL_setRoams_16 : decode cL_setRoams 16 = .ok (.lastore, 1) := by decide +kernel
theorem dL_setRoams_17 : decode cL_setRoams 17 = .ok (.goto 7, 3) := by decide +kernel
theorem dL_setRoams_20 : decode cL_setRoams 20 = .ok (.astore 4, 2) := by decide +kernel
theorem dL_setRoams_22 : decode cL_setRoams 22 = .ok (.iconst 1, 1) := by decide +kernel
theorem dL_setRoams_23 : decode cL_setRoams 23 = .ok (.ireturn, 1) := by decide +kernel
theorem dL_setRoams_24 : decode cL_setRoams 24 = .ok (.iconst 0, 1) := by decide +kernel
theorem dL_setRoams_25 : decode cL_setRoams 25 = .ok (.ireturn, 1) := by decide +kernel
theorem dL_flock_0 : decode cL_flock 0 = .ok (.aload_n 3, 1) := by decide +kernel
theorem dL_flock_1 : decode cL_flock 1 = .ok (.iconst 0, 1) := by decide +kernel
theorem dL_flock_2 : decode cL_flock 2 = .ok (.aload_n 0, 1) := by decide +kernel
theorem dL_flock_3 : decode cL_flock 3 = .ok (.iload_n 1, 1) := by decide +kernel
theorem dL_flock_4 : decode cL_flock 4 = .ok (.iload_n 2, 1) := by decide +kernel
theorem dL_flock_5 : decode cL_flock 5 = .ok (.invokevirtual 53, 3) := by decide +kernel
theorem dL_flock_8 : decode cL_flock 8 = .ok (.i2l, 1) := by decide +kernel
theorem dL_flock_9 : decode cL_flock 9 = .ok (.lastore, 1) := by decide +kernel
theorem dL_flock_10 : decode cL_flock 10 = .ok (.goto 7, 3) := by decide +kernel
theorem dL_flock_13 : decode cL_flock 13 = .ok (.astore 4, 2) := by decide +kernel
theorem dL_flock_15 : decode cL_flock 15 = .ok (.iconst 1, 1) := by decide +kernel
theorem dL_flock_16 : decode cL_flock 16 = .ok (.ireturn, 1) := by decide +kernel
theorem dL_flock_17 : decode cL_flock 17 = .ok (.iconst 0, 1) := by decide +kernel
theorem dL_flock_18 : decode cL_flock 18 = .ok (.ireturn, 1) := by decide +kernel
theorem dL_pass_0 : decode cL_pass 0 = .ok (.aload_n 2, 1) := by decide +kernel
theorem dL_pass_1 : decode cL_pass 1 = .ok (.iconst 0, 1) := by decide +kernel
theorem dL_pass_2 : decode cL_pass 2 = .ok (.aload_n 0, 1) := by decide +kernel
theorem dL_pass_3 : decode cL_pass 3 = .ok (.iload_n 1, 1) := by decide +kernel
theorem dL_pass_4 : decode cL_pass 4 = .ok (.invokevirtual 56, 3) := by decide +kernel
theorem dL_pass_7 : decode cL_pass 7 = .ok (.i2l, 1) := by decide +kernel
theorem dL_pass_8 : decode cL_pass 8 = .ok (.lastore, 1) := by decide +kernel
theorem dL_pass_9 : decode cL_pass 9 = .ok (.goto 6, 3) := by decide +kernel
theorem dL_pass_12 : decode cL_pass 12 = .ok (.astore_n 3, 1) := by decide +kernel
theorem dL_pass_13 : decode cL_pass 13 = .ok (.iconst 1, 1) := by decide +kernel
theorem dL_pass_14 : decode cL_pass 14 = .ok (.ireturn, 1) := by decide +kernel
theorem dL_pass_15 : decode cL_pass 15 = .ok (.iconst 0, 1) := by decide +kernel
theorem dL_pass_16 : decode cL_pass 16 = .ok (.ireturn, 1) := by decide +kernel
theorem dL_count_0 : decode cL_count 0 = .ok (.aload_n 2, 1) := by decide +kernel
theorem dL_count_1 : decode cL_count 1 = .ok (.iconst 0, 1) := by decide +kernel
theorem dL_count_2 : decode cL_count 2 = .ok (.aload_n 0, 1) := by decide +kernel
theorem dL_count_3 : decode cL_count 3 = .ok (.iload_n 1, 1) := by decide +kernel
theorem dL_count_4 : decode cL_count 4 = .ok (.invokevirtual 59, 3) := by decide +kernel
theorem dL_count_7 : decode cL_count 7 = .ok (.i2l, 1) := by decide +kernel
theorem dL_count_8 : decode cL_count 8 = .ok (.lastore, 1) := by decide +kernel
theorem dL_count_9 : decode cL_count 9 = .ok (.goto 6, 3) := by decide +kernel
theorem dL_count_12 : decode cL_count 12 = .ok (.astore_n 3, 1) := by decide +kernel
theorem dL_count_13 : decode cL_count 13 = .ok (.iconst 1, 1) := by decide +kernel
theorem dL_count_14 : decode cL_count 14 = .ok (.ireturn, 1) := by decide +kernel
theorem dL_count_15 : decode cL_count 15 = .ok (.iconst 0, 1) := by decide +kernel
theorem dL_count_16 : decode cL_count 16 = .ok (.ireturn, 1) := by decide +kernel
theorem dL_foresee_0 : decode cL_foresee 0 = .ok (.aload_n 3, 1) := by decide +kernel
theorem dL_foresee_1 : decode cL_foresee 1 = .ok (.iconst 0, 1) := by decide +kernel
theorem dL_foresee_2 : decode cL_foresee 2 = .ok (.aload_n 0, 1) := by decide +kernel
theorem dL_foresee_3 : decode cL_foresee 3 = .ok (.iload_n 1, 1) := by decide +kernel
theorem dL_foresee_4 : decode cL_foresee 4 = .ok (.iload_n 2, 1) := by decide +kernel
theorem dL_foresee_5 : decode cL_foresee 5 = .ok (.invokevirtual 62, 3) := by decide +kernel
theorem dL_foresee_8 : decode cL_foresee 8 = .ok (.i2l, 1) := by decide +kernel
theorem dL_foresee_9 : decode cL_foresee 9 = .ok (.lastore, 1) := by decide +kernel
theorem dL_foresee_10 : decode cL_foresee 10 = .ok (.goto 11, 3) := by decide +kernel
theorem dL_foresee_13 : decode cL_foresee 13 = .ok (.astore 4, 2) := by decide +kernel
theorem dL_foresee_15 : decode cL_foresee 15 = .ok (.iconst 1, 1) := by decide +kernel
theorem dL_foresee_16 : decode cL_foresee 16 = .ok (.ireturn, 1) := by decide +kernel
theorem dL_foresee_17 : decode cL_foresee 17 = .ok (.astore 4, 2) := by decide +kernel
theorem dL_foresee_19 : decode cL_foresee 19 = .ok (.iconst 2, 1) := by decide +kernel
theorem dL_foresee_20 : decode cL_foresee 20 = .ok (.ireturn, 1) := by decide +kernel
theorem dL_foresee_21 : decode cL_foresee 21 = .ok (.iconst 0, 1) := by decide +kernel
theorem dL_foresee_22 : decode cL_foresee 22 = .ok (.ireturn, 1) := by decide +kernel
theorem dL_lasts_0 : decode cL_lasts 0 = .ok (.aload_n 2, 1) := by decide +kernel
theorem dL_lasts_1 : decode cL_lasts 1 = .ok (.iconst 0, 1) := by decide +kernel
theorem dL_lasts_2 : decode cL_lasts 2 = .ok (.aload_n 0, 1) := by decide +kernel
theorem dL_lasts_3 : decode cL_lasts 3 = .ok (.iload_n 1, 1) := by decide +kernel
theorem dL_lasts_4 : decode cL_lasts 4 = .ok (.invokevirtual 65, 3) := by decide +kernel
theorem dL_lasts_7 : decode cL_lasts 7 = .ok (.i2l, 1) := by decide +kernel
theorem dL_lasts_8 : decode cL_lasts 8 = .ok (.lastore, 1) := by decide +kernel
theorem dL_lasts_9 : decode cL_lasts 9 = .ok (.goto 6, 3) := by decide +kernel
theorem dL_lasts_12 : decode cL_lasts 12 = .ok (.astore_n 3, 1) := by decide +kernel
theorem dL_lasts_13 : decode cL_lasts 13 = .ok (.iconst 1, 1) := by decide +kernel
theorem dL_lasts_14 : decode cL_lasts 14 = .ok (.ireturn, 1) := by decide +kernel
theorem dL_lasts_15 : decode cL_lasts 15 = .ok (.iconst 0, 1) := by decide +kernel
theorem dL_lasts_16 : decode cL_lasts 16 = .ok (.ireturn, 1) := by decide +kernel
theorem dL_keep_0 : decode cL_keep 0 = .ok (.aload_n 3, 1) := by decide +kernel
theorem dL_keep_1 : decode cL_keep 1 = .ok (.iconst 0, 1) := by decide +kernel
theorem dL_keep_2 : decode cL_keep 2 = .ok (.aload_n 0, 1) := by decide +kernel
theorem dL_keep_3 : decode cL_keep 3 = .ok (.iload_n 1, 1) := by decide +kernel
theorem dL_keep_4 : decode cL_keep 4 = .ok (.iload_n 2, 1) := by decide +kernel
theorem dL_keep_5 : decode cL_keep 5 = .ok (.invokevirtual 68, 3) := by decide +kernel
theorem dL_keep_8 : decode cL_keep 8 = .ok (.i2l, 1) := by decide +kernel
theorem dL_keep_9 : decode cL_keep 9 = .ok (.lastore, 1) := by decide +kernel
theorem dL_keep_10 : decode cL_keep 10 = .ok (.goto 11, 3) := by decide +kernel
theorem dL_keep_13 : decode cL_keep 13 = .ok (.astore 4, 2) := by decide +kernel
theorem dL_keep_15 : decode cL_keep 15 = .ok (.iconst 1, 1) := by decide +kernel
theorem dL_keep_16 : decode cL_keep 16 = .ok (.ireturn, 1) := by decide +kernel
theorem dL_keep_17 : decode cL_keep 17 = .ok (.astore 4, 2) := by decide +kernel
theorem dL_keep_19 : decode cL_keep 19 = .ok (.iconst 2, 1) := by decide +kernel
theorem dL_keep_20 : decode cL_keep 20 = .ok (.ireturn, 1) := by decide +kernel
theorem dL_keep_21 : decode cL_keep 21 = .ok (.iconst 0, 1) := by decide +kernel
theorem dL_keep_22 : decode cL_keep 22 = .ok (.ireturn, 1) := by decide +kernel
theorem dL_advise_0 : decode cL_advise 0 = .ok (.aload_n 2, 1) := by decide +kernel
theorem dL_advise_1 : decode cL_advise 1 = .ok (.iconst 0, 1) := by decide +kernel
theorem dL_advise_2 : decode cL_advise 2 = .ok (.aload_n 0, 1) := by decide +kernel
theorem dL_advise_3 : decode cL_advise 3 = .ok (.iload_n 1, 1) := by decide +kernel
theorem dL_advise_4 : decode cL_advise 4 = .ok (.invokevirtual 71, 3) := by decide +kernel
theorem dL_advise_7 : decode cL_advise 7 = .ok (.i2l, 1) := by decide +kernel
theorem dL_advise_8 : decode cL_advise 8 = .ok (.lastore, 1) := by decide +kernel
theorem dL_advise_9 : decode cL_advise 9 = .ok (.goto 6, 3) := by decide +kernel
theorem dL_advise_12 : decode cL_advise 12 = .ok (.astore_n 3, 1) := by decide +kernel
theorem dL_advise_13 : decode cL_advise 13 = .ok (.iconst 1, 1) := by decide +kernel
theorem dL_advise_14 : decode cL_advise 14 = .ok (.ireturn, 1) := by decide +kernel
theorem dL_advise_15 : decode cL_advise 15 = .ok (.iconst 0, 1) := by decide +kernel
theorem dL_advise_16 : decode cL_advise 16 = .ok (.ireturn, 1) := by decide +kernel
theorem dL_law_0 : decode cL_law 0 = .ok (.new 8, 3) := by decide +kernel
theorem dL_law_3 : decode cL_law 3 = .ok (.dup, 1) := by decide +kernel
theorem dL_law_4 : decode cL_law 4 = .ok (.invokespecial 74, 3) := by decide +kernel
theorem dL_law_7 : decode cL_law 7 = .ok (.astore_n 1, 1) := by decide +kernel
theorem dL_law_8 : decode cL_law 8 = .ok (.new 75, 3) := by decide +kernel
theorem dL_law_11 : decode cL_law 11 = .ok (.dup, 1) := by decide +kernel
theorem dL_law_12 : decode cL_law 12 = .ok (.invokespecial 77, 3) := by decide +kernel
theorem dL_law_15 : decode cL_law 15 = .ok (.astore_n 2, 1) := by decide +kernel
theorem dL_law_16 : decode cL_law 16 = .ok (.iconst 1, 1) := by decide +kernel
theorem dL_law_17 : decode cL_law 17 = .ok (.newarray .long, 2) := by decide +kernel
theorem dL_law_19 : decode cL_law 19 = .ok (.astore_n 3, 1) := by decide +kernel
theorem dL_law_20 : decode cL_law 20 = .ok (.iconst 0, 1) := by decide +kernel
theorem dL_law_21 : decode cL_law 21 = .ok (.istore 4, 2) := by decide +kernel
theorem dL_law_23 : decode cL_law 23 = .ok (.iload 4, 2) := by decide +kernel
theorem dL_law_25 : decode cL_law 25 = .ok (.aload_n 0, 1) := by decide +kernel
theorem dL_law_26 : decode cL_law 26 = .ok (.arraylength, 1) := by decide +kernel
theorem dL_law_27 : decode cL_law 27 = .ok (.bipush 6, 2) := by decide +kernel
theorem dL_law_29 : decode cL_law 29 = .ok (.isub, 1) := by decide +kernel
theorem dL_law_30 : decode cL_law 30 = .ok (.if_icmp .gt 1437, 3) := by decide +kernel
theorem dL_law_33 : decode cL_law 33 = .ok (.aload_n 0, 1) := by decide +kernel
theorem dL_law_34 : decode cL_law 34 = .ok (.iload 4, 2) := by decide +kernel
theorem dL_law_36 : decode cL_law 36 = .ok (.iaload, 1) := by decide +kernel
theorem dL_law_37 : decode cL_law 37 = .ok (.bipush 31, 2) := by decide +kernel
theorem dL_law_39 : decode cL_law 39 = .ok (.iand, 1) := by decide +kernel
theorem dL_law_40 : decode cL_law 40 = .ok (.tableswitch 1421 0 19 #[96, 200, 268, 336, 427, 495, 563, 655, 711, 779, 847, 938, 1006, 1062, 1118, 1186, 1242, 1310, 1366, 1407], 96) := by decide +kernel
theorem dL_law_136 : decode cL_law 136 = .ok (.aload_n 1, 1) := by decide +kernel
theorem dL_law_137 : decode cL_law 137 = .ok (.aload_n 0, 1) := by decide +kernel
theorem dL_law_138 : decode cL_law 138 = .ok (.iload 4, 2) := by decide +kernel
theorem dL_law_140 : decode cL_law 140 = .ok (.iconst 1, 1) := by decide +kernel
theorem dL_law_141 : decode cL_law 141 = .ok (.iadd, 1) := by decide +kernel
theorem dL_law_142 : decode cL_law 142 = .ok (.iaload, 1) := by decide +kernel
theorem dL_law_143 : decode cL_law 143 = .ok (.aload_n 0, 1) := by decide +kernel
theorem dL_law_144 : decode cL_law 144 = .ok (.iload 4, 2) := by decide +kernel
theorem dL_law_146 : decode cL_law 146 = .ok (.iconst 2, 1) := by decide +kernel
theorem dL_law_147 : decode cL_law 147 = .ok (.iadd, 1) := by decide +kernel
theorem dL_law_148 : decode cL_law 148 = .ok (.iaload, 1) := by decide +kernel
theorem dL_law_149 : decode cL_law 149 = .ok (.aload_n 0, 1) := by decide +kernel
theorem dL_law_150 : decode cL_law 150 = .ok (.iload 4, 2) := by decide +kernel
theorem dL_law_152 : decode cL_law 152 = .ok (.iconst 3, 1) := by decide +kernel
theorem dL_law_153 : decode cL_law 153 = .ok (.iadd, 1) := by decide +kernel
theorem dL_law_154 : decode cL_law 154 = .ok (.iaload, 1) := by decide +kernel
theorem dL_law_155 : decode cL_law 155 = .ok (.aload_n 0, 1) := by decide +kernel
theorem dL_law_156 : decode cL_law 156 = .ok (.iload 4, 2) := by decide +kernel
theorem dL_law_158 : decode cL_law 158 = .ok (.iconst 4, 1) := by decide +kernel
theorem dL_law_159 : decode cL_law 159 = .ok (.iadd, 1) := by decide +kernel
theorem dL_law_160 : decode cL_law 160 = .ok (.iaload, 1) := by decide +kernel
theorem dL_law_161 : decode cL_law 161 = .ok (.aload_n 0, 1) := by decide +kernel
theorem dL_law_162 : decode cL_law 162 = .ok (.iload 4, 2) := by decide +kernel
theorem dL_law_164 : decode cL_law 164 = .ok (.iconst 5, 1) := by decide +kernel
theorem dL_law_165 : decode cL_law 165 = .ok (.iadd, 1) := by decide +kernel
theorem dL_law_166 : decode cL_law 166 = .ok (.iaload, 1) := by decide +kernel
theorem dL_law_167 : decode cL_law 167 = .ok (.aload_n 3, 1) := by decide +kernel
theorem dL_law_168 : decode cL_law 168 = .ok (.invokestatic 78, 3) := by decide +kernel
theorem dL_law_171 : decode cL_law 171 = .ok (.istore 5, 2) := by decide +kernel
theorem dL_law_173 : decode cL_law 173 = .ok (.aload_n 2, 1) := by decide +kernel
theorem dL_law_174 : decode cL_law 174 = .ok (.aload_n 0, 1) := by decide +kernel
theorem dL_law_175 : decode cL_law 175 = .ok (.iload 4, 2) := by decide +kernel
theorem dL_law_177 : decode cL_law 177 = .ok (.iconst 1, 1) := by decide +kernel
theorem dL_law_178 : decode cL_law 178 = .ok (.iadd, 1) := by decide +kernel
theorem dL_law_179 : decode cL_law 179 = .ok (.iaload, 1) := by decide +kernel
theorem dL_law_180 : decode cL_law 180 = .ok (.aload_n 0, 1) := by decide +kernel
theorem dL_law_181 : decode cL_law 181 = .ok (.iload 4, 2) := by decide +kernel
theorem dL_law_183 : decode cL_law 183 = .ok (.iconst 2, 1) := by decide +kernel
theorem dL_law_184 : decode cL_law 184 = .ok (.iadd, 1) := by decide +kernel
theorem dL_law_185 : decode cL_law 185 = .ok (.iaload, 1) := by decide +kernel
theorem dL_law_186 : decode cL_law 186 = .ok (.aload_n 0, 1) := by decide +kernel
theorem dL_law_187 : decode cL_law 187 = .ok (.iload 4, 2) := by decide +kernel
theorem dL_law_189 : decode cL_law 189 = .ok (.iconst 3, 1) := by decide +kernel
theorem dL_law_190 : decode cL_law 190 = .ok (.iadd, 1) := by decide +kernel
theorem dL_law_191 : decode cL_law 191 = .ok (.iaload, 1) := by decide +kernel
theorem dL_law_192 : decode cL_law 192 = .ok (.aload_n 0, 1) := by decide +kernel
theorem dL_law_193 : decode cL_law 193 = .ok (.iload 4, 2) := by decide +kernel
theorem dL_law_195 : decode cL_law 195 = .ok (.iconst 4, 1) := by decide +kernel
theorem dL_law_196 : decode cL_law 196 = .ok (.iadd, 1) := by decide +kernel
theorem dL_law_197 : decode cL_law 197 = .ok (.iaload, 1) := by decide +kernel
theorem dL_law_198 : decode cL_law 198 = .ok (.aload_n 0, 1) := by decide +kernel
theorem dL_law_199 : decode cL_law 199 = .ok (.iload 4, 2) := by decide +kernel
theorem dL_law_201 : decode cL_law 201 = .ok (.iconst 5, 1) := by decide +kernel
theorem dL_law_202 : decode cL_law 202 = .ok (.iadd, 1) := by decide +kernel
theorem dL_law_203 : decode cL_law 203 = .ok (.iaload, 1) := by decide +kernel
theorem dL_law_204 : decode cL_law 204 = .ok (.invokevirtual 83, 3) := by decide +kernel
theorem dL_law_207 : decode cL_law 207 = .ok (.istore 6, 2) := by decide +kernel
theorem dL_law_209 : decode cL_law 209 = .ok (.aload_n 2, 1) := by decide +kernel
theorem dL_law_210 : decode cL_law 210 = .ok (.invokevirtual 84, 3) := by decide +kernel
theorem dL_law_213 : decode cL_law 213 = .ok (.iload 5, 2) := by decide +kernel
theorem dL_law_215 : decode cL_law 215 = .ok (.if_icmp .eq 5, 3) := by decide +kernel
theorem dL_law_218 : decode cL_law 218 = .ok (.iconst 0, 1) := by decide +kernel
theorem dL_law_219 : decode cL_law 219 = .ok (.ireturn, 1) := by decide +kernel
theorem dL_law_220 : decode cL_law 220 = .ok (.iload 5, 2) := by decide +kernel
theorem dL_law_222 : decode cL_law 222 = .ok (.ifCond .ne 15, 3) := by decide +kernel
theorem dL_law_225 : decode cL_law 225 = .ok (.aload_n 3, 1) := by decide +kernel
theorem dL_law_226 : decode cL_law 226 = .ok (.iconst 0, 1) := by decide +kernel
theorem dL_law_227 : decode cL_law 227 = .ok (.laload, 1) := by decide +kernel
theorem dL_law_228 : decode cL_law 228 = .ok (.iload 6, 2) := by decide +kernel
theorem dL_law_230 : decode cL_law 230 = .ok (.i2l, 1) := by decide +kernel
theorem dL_law_231 : decode cL_law 231 = .ok (.lcmp, 1) := by decide +kernel
theorem dL_law_232 : decode cL_law 232 = .ok (.ifCond .eq 5, 3) := by decide +kernel
theorem dL_law_235 : decode cL_law 235 = .ok (.iconst 0, 1) := by decide +kernel
theorem dL_law_236 : decode cL_law 236 = .ok (.ireturn, 1) := by decide +kernel
theorem dL_law_237 : decode cL_law 237 = .ok (.goto 1224, 3) := by decide +kernel
theorem dL_law_240 : decode cL_law 240 = .ok (.aload_n 1, 1) := by decide +kernel
theorem dL_law_241 : decode cL_law 241 = .ok (.aload_n 0, 1) := by decide +kernel
theorem dL_law_242 : decode cL_law 242 = .ok (.iload 4, 2) := by decide +kernel
theorem dL_law_244 : decode cL_law 244 = .ok (.iconst 1, 1) := by decide +kernel
theorem dL_law_245 : decode cL_law 245 = .ok (.iadd, 1) := by decide +kernel
theorem dL_law_246 : decode cL_law 246 = .ok (.iaload, 1) := by decide +kernel
theorem dL_law_247 : decode cL_law 247 = .ok (.aload_n 0, 1) := by decide +kernel
theorem dL_law_248 : decode cL_law 248 = .ok (.iload 4, 2) := by decide +kernel
theorem dL_law_250 : decode cL_law 250 = .ok (.iconst 2, 1) := by decide +kernel
theorem dL_law_251 : decode cL_law 251 = .ok (.iadd, 1) := by decide +kernel
theorem dL_law_252 : decode cL_law 252 = .ok (.iaload, 1) := by decide +kernel
theorem dL_law_253 : decode cL_law 253 = .ok (.aload_n 3, 1) := by decide +kernel
theorem dL_law_254 : decode cL_law 254 = .ok (.invokestatic 88, 3) := by decide +kernel
theorem dL_law_257 : decode cL_law 257 = .ok (.istore 5, 2) := by decide +kernel
theorem dL_law_259 : decode cL_law 259 = .ok (.aload_n 2, 1) := by decide +kernel
theorem dL_law_260 : decode cL_law 260 = .ok (.aload_n 0, 1) := by decide +kernel
theorem dL_law_261 : decode cL_law 261 = .ok (.iload 4, 2) := by decide +kernel
theorem dL_law_263 : decode cL_law 263 = .ok (.iconst 1, 1) := by decide +kernel
theorem dL_law_264 : decode cL_law 264 = .ok (.iadd, 1) := by decide +kernel
theorem dL_law_265 : decode cL_law 265 = .ok (.iaload, 1) := by decide +kernel
theorem dL_law_266 : decode cL_law 266 = .ok (.aload_n 0, 1) := by decide +kernel
theorem dL_law_267 : decode cL_law 267 = .ok (.iload 4, 2) := by decide +kernel
theorem dL_law_269 : decode cL_law 269 = .ok (.iconst 2, 1) := by decide +kernel
theorem dL_law_270 : decode cL_law 270 = .ok (.iadd, 1) := by decide +kernel
theorem dL_law_271 : decode cL_law 271 = .ok (.iaload, 1) := by decide +kernel
theorem dL_law_272 : decode cL_law 272 = .ok (.invokevirtual 91, 3) := by decide +kernel
theorem dL_law_275 : decode cL_law 275 = .ok (.istore 6, 2) := by decide +kernel
theorem dL_law_277 : decode cL_law 277 = .ok (.aload_n 2, 1) := by decide +kernel
theorem dL_law_278 : decode cL_law 278 = .ok (.invokevirtual 84, 3) := by decide +kernel
theorem dL_law_281 : decode cL_law 281 = .ok (.iload 5, 2) := by decide +kernel
theorem dL_law_283 : decode cL_law 283 = .ok (.if_icmp .eq 5, 3) := by decide +kernel
theorem dL_law_286 : decode cL_law 286 = .ok (.iconst 0, 1) := by decide +kernel
theorem dL_law_287 : decode cL_law 287 = .ok (.ireturn, 1) := by decide +kernel
theorem dL_law_288 : decode cL_law 288 = .ok (.iload 5, 2) := by decide +kernel
theorem dL_law_290 : decode cL_law 290 = .ok (.ifCond .ne 15, 3) := by decide +kernel
theorem dL_law_293 : decode cL_law 293 = .ok (.aload_n 3, 1) := by decide +kernel
theorem dL_law_294 : decode cL_law 294 = .ok (.iconst 0, 1) := by decide +kernel
theorem dL_law_295 : decode cL_law 295 = .ok (.laload, 1) := by decide +kernel
theorem dL_law_296 : decode cL_law 296 = .ok (.iload 6, 2) := by decide +kernel
theorem dL_law_298 : decode cL_law 298 = .ok (.i2l, 1) := by decide +kernel
theorem dL_law_299 : decode cL_law 299 = .ok (.lcmp, 1) := by decide +kernel
theorem dL_law_300 : decode cL_law 300 = .ok (.ifCond .eq 5, 3) := by decide +kernel
theorem dL_law_303 : decode cL_law 303 = .ok (.iconst 0, 1) := by decide +kernel
theorem dL_law_304 : decode cL_law 304 = .ok (.ireturn, 1) := by decide +kernel
theorem dL_law_305 : decode cL_law 305 = .ok (.goto 1156, 3) := by decide +kernel
theorem dL_law_308 : decode cL_law 308 = .ok (.aload_n 1, 1) := by decide +kernel
theorem dL_law_309 : decode cL_law 309 = .ok (.aload_n 0, 1) := by decide +kernel
theorem dL_law_310 : decode cL_law 310 = .ok (.iload 4, 2) := by decide +kernel
theorem dL_law_312 : decode cL_law 312 = .ok (.iconst 1, 1) := by decide +kernel
theorem dL_law_313 : decode cL_law 313 = .ok (.iadd, 1) := by decide +kernel
theorem dL_law_314 : decode cL_law 314 = .ok (.iaload, 1) := by decide +kernel
theorem dL_law_315 : decode cL_law 315 = .ok (.aload_n 0, 1) := by decide +kernel
theorem dL_law_316 : decode cL_law 316 = .ok (.iload 4, 2) := by decide +kernel
theorem dL_law_318 : decode cL_law 318 = .ok (.iconst 2, 1) := by decide +kernel
theorem dL_law_319 : decode cL_law 319 = .ok (.iadd, 1) := by decide +kernel
theorem dL_law_320 : decode cL_law 320 = .ok (.iaload, 1) := by decide +kernel
theorem dL_law_321 : decode cL_law 321 = .ok (.aload_n 3, 1) := by decide +kernel
theorem dL_law_322 : decode cL_law 322 = .ok (.invokestatic 92, 3) := by decide +kernel
theorem dL_law_325 : decode cL_law 325 = .ok (.istore 5, 2) := by decide +kernel
theorem dL_law_327 : decode cL_law 327 = .ok (.aload_n 2, 1) := by decide +kernel
theorem dL_law_328 : decode cL_law 328 = .ok (.aload_n 0, 1) := by decide +kernel
theorem dL_law_329 : decode cL_law 329 = .ok (.iload 4, 2) := by decide +kernel
theorem dL_law_331 : decode cL_law 331 = .ok (.iconst 1, 1) := by decide +kernel
theorem dL_law_332 : decode cL_law 332 = .ok (.iadd, 1) := by decide +kernel
theorem dL_law_333 : decode cL_law 333 = .ok (.iaload, 1) := by decide +kernel
theorem dL_law_334 : decode cL_law 334 = .ok (.aload_n 0, 1) := by decide +kernel
theorem dL_law_335 : decode cL_law 335 = .ok (.iload 4, 2) := by decide +kernel
theorem dL_law_337 : decode cL_law 337 = .ok (.iconst 2, 1) := by decide +kernel
theorem dL_law_338 : decode cL_law 338 = .ok (.iadd, 1) := by decide +kernel
theorem dL_law_339 : decode cL_law 339 = .ok (.iaload, 1) := by decide +kernel
theorem dL_law_340 : decode cL_law 340 = .ok (.invokevirtual 94, 3) := by decide +kernel
theorem dL_law_343 : decode cL_law 343 = .ok (.istore 6, 2) := by decide +kernel
theorem dL_law_345 : decode cL_law 345 = .ok (.aload_n 2, 1) := by decide +kernel
theorem dL_law_346 : decode cL_law 346 = .ok (.invokevirtual 84, 3) := by decide +kernel
theorem dL_law_349 : decode cL_law 349 = .ok (.iload 5, 2) := by decide +kernel
theorem dL_law_351 : decode cL_law 351 = .ok (.if_icmp .eq 5, 3) := by decide +kernel
theorem dL_law_354 : decode cL_law 354 = .ok (.iconst 0, 1) := by decide +kernel
theorem dL_law_355 : decode cL_law 355 = .ok (.ireturn, 1) := by decide +kernel
theorem dL_law_356 : decode cL_law 356 = .ok (.iload 5, 2) := by decide +kernel
theorem dL_law_358 : decode cL_law 358 = .ok (.ifCond .ne 15, 3) := by decide +kernel
theorem dL_law_361 : decode cL_law 361 = .ok (.aload_n 3, 1) := by decide +kernel
theorem dL_law_362 : decode cL_law 362 = .ok (.iconst 0, 1) := by decide +kernel
theorem dL_law_363 : decode cL_law 363 = .ok (.laload, 1) := by decide +kernel
theorem dL_law_364 : decode cL_law 364 = .ok (.iload 6, 2) := by decide +kernel
theorem dL_law_366 : decode cL_law 366 = .ok (.i2l, 1) := by decide +kernel
theorem dL_law_367 : decode cL_law 367 = .ok (.lcmp, 1) := by decide +kernel
theorem dL_law_368 : decode cL_law 368 = .ok (.ifCond .eq 5, 3) := by decide +kernel
theorem dL_law_371 : decode cL_law 371 = .ok (.iconst 0, 1) := by decide +kernel
theorem dL_law_372 : decode cL_law 372 = .ok (.ireturn, 1) := by decide +kernel
theorem dL_law_373 : decode cL_law 373 = .ok (.goto 1088, 3) := by decide +kernel
theorem dL_law_376 : decode cL_law 376 = .ok (.aload_n 1, 1) := by decide +kernel
theorem dL_law_377 : decode cL_law 377 = .ok (.aload_n 0, 1) := by decide +kernel
theorem dL_law_378 : decode cL_law 378 = .ok (.iload 4, 2) := by decide +kernel
theorem dL_law_380 : decode cL_law 380 = .ok (.iconst 1, 1) := by decide +kernel
theorem dL_law_381 : decode cL_law 381 = .ok (.iadd, 1) := by decide +kernel
theorem dL_law_382 : decode cL_law 382 = .ok (.iaload, 1) := by decide +kernel
theorem dL_law_383 : decode cL_law 383 = .ok (.aload_n 0, 1) := by decide +kernel
theorem dL_law_384 : decode cL_law 384 = .ok (.iload 4, 2) := by decide +kernel
theorem dL_law_386 : decode cL_law 386 = .ok (.iconst 2, 1) := by decide +kernel
theorem dL_law_387 : decode cL_law 387 = .ok (.iadd, 1) := by decide +kernel
theorem dL_law_388 : decode cL_law 388 = .ok (.iaload, 1) := by decide +kernel
theorem dL_law_389 : decode cL_law 389 = .ok (.ifCond .eq 7, 3) := by decide +kernel
theorem dL_law_392 : decode cL_law 392 = .ok (.iconst 1, 1) := by decide +kernel
theorem dL_law_393 : decode cL_law 393 = .ok (.goto 4, 3) := by decide +kernel
theorem dL_law_396 : decode cL_law 396 = .ok (.iconst 0, 1) := by decide +kernel
theorem dL_law_397 : decode cL_law 397 = .ok (.aload_n 3, 1) := by decide +kernel
theorem dL_law_398 : decode cL_law 398 = .ok (.invokestatic 95, 3) := by decide +kernel
theorem dL_law_401 : decode cL_law 401 = .ok (.istore 5, 2) := by decide +kernel
theorem dL_law_403 : decode cL_law 403 = .ok (.aload_n 2, 1) := by decide +kernel
theorem dL_law_404 : decode cL_law 404 = .ok (.aload_n 0, 1) := by decide +kernel
theorem dL_law_405 : decode cL_law 405 = .ok (.iload 4, 2) := by decide +kernel
theorem dL_law_407 : decode cL_law 407 = .ok (.iconst 1, 1) := by decide +kernel
theorem dL_law_408 : decode cL_law 408 = .ok (.iadd, 1) := by decide +kernel
theorem dL_law_409 : decode cL_law 409 = .ok (.iaload, 1) := by decide +kernel
theorem dL_law_410 : decode cL_law 410 = .ok (.aload_n 0, 1) := by decide +kernel
theorem dL_law_411 : decode cL_law 411 = .ok (.iload 4, 2) := by decide +kernel
theorem dL_law_413 : decode cL_law 413 = .ok (.iconst 2, 1) := by decide +kernel
theorem dL_law_414 : decode cL_law 414 = .ok (.iadd, 1) := by decide +kernel
theorem dL_law_415 : decode cL_law 415 = .ok (.iaload, 1) := by decide +kernel
theorem dL_law_416 : decode cL_law 416 = .ok (.ifCond .eq 7, 3) := by decide +kernel
theorem dL_law_419 : decode cL_law 419 = .ok (.iconst 1, 1) := by decide +kernel
theorem dL_law_420 : decode cL_law 420 = .ok (.goto 4, 3) := by decide +kernel
theorem dL_law_423 : decode cL_law 423 = .ok (.iconst 0, 1) := by decide +kernel
theorem dL_law_424 : decode cL_law 424 = .ok (.invokevirtual 98, 3) := by decide +kernel
theorem dL_law_427 : decode cL_law 427 = .ok (.istore 6, 2) := by decide +kernel
theorem dL_law_429 : decode cL_law 429 = .ok (.aload_n 2, 1) := by decide +kernel
theorem dL_law_430 : decode cL_law 430 = .ok (.invokevirtual 84, 3) := by decide +kernel
theorem dL_law_433 : decode cL_law 433 = .ok (.iload 5, 2) := by decide +kernel
theorem dL_law_435 : decode cL_law 435 = .ok (.if_icmp .eq 5, 3) := by decide +kernel
theorem dL_law_438 : decode cL_law 438 = .ok (.iconst 0, 1) := by decide +kernel
theorem dL_law_439 : decode cL_law 439 = .ok (.ireturn, 1) := by decide +kernel
theorem dL_law_440 : decode cL_law 440 = .ok (.iload 5, 2) := by decide +kernel
theorem dL_law_442 : decode cL_law 442 = .ok (.ifCond .ne 22, 3) := by decide +kernel
theorem dL_law_445 : decode cL_law 445 = .ok (.aload_n 3, 1) := by decide +kernel
theorem dL_law_446 : decode cL_law 446 = .ok (.iconst 0, 1) := by decide +kernel
theorem dL_law_447 : decode cL_law 447 = .ok (.laload, 1) := by decide +kernel
theorem dL_law_448 : decode cL_law 448 = .ok (.iload 6, 2) := by decide +kernel
theorem dL_law_450 : decode cL_law 450 = .ok (.ifCond .eq 7, 3) := by decide +kernel
theorem dL_law_453 : decode cL_law 453 = .ok (.lconst 1, 1) := by decide +kernel
theorem dL_law_454 : decode cL_law 454 = .ok (.goto 4, 3) := by decide +kernel
theorem dL_law_457 : decode cL_law 457 = .ok (.lconst 0, 1) := by decide +kernel
theorem dL_law_458 : decode cL_law 458 = .ok (.lcmp, 1) := by decide +kernel
theorem dL_law_459 : decode cL_law 459 = .ok (.ifCond .eq 5, 3) := by decide +kernel
theorem dL_law_462 : decode cL_law 462 = .ok (.iconst 0, 1) := by decide +kernel
theorem dL_law_463 : decode cL_law 463 = .ok (.ireturn, 1) := by decide +kernel
theorem dL_law_464 : decode cL_law 464 = .ok (.goto 997, 3) := by decide +kernel
theorem dL_law_467 : decode cL_law 467 = .ok (.aload_n 1, 1) := by decide +kernel
theorem dL_law_468 : decode cL_law 468 = .ok (.aload_n 0, 1) := by decide +kernel
theorem dL_law_469 : decode cL_law 469 = .ok (.iload 4, 2) := by decide +kernel
theorem dL_law_471 : decode cL_law 471 = .ok (.iconst 1, 1) := by decide +kernel
theorem dL_law_472 : decode cL_law 472 = .ok (.iadd, 1) := by decide +kernel
theorem dL_law_473 : decode cL_law 473 = .ok (.iaload, 1) := by decide +kernel
theorem dL_law_474 : decode cL_law 474 = .ok (.aload_n 0, 1) := by decide +kernel
theorem dL_law_475 : decode cL_law 475 = .ok (.iload 4, 2) := by decide +kernel
theorem dL_law_477 : decode cL_law 477 = .ok (.iconst 2, 1) := by decide +kernel
theorem dL_law_478 : decode cL_law 478 = .ok (.iadd, 1) := by decide +kernel
theorem dL_law_479 : decode cL_law 479 = .ok (.iaload, 1) := by decide +kernel
theorem dL_law_480 : decode cL_law 480 = .ok (.aload_n 3, 1) := by decide +kernel
theorem dL_law_481 : decode cL_law 481 = .ok (.invokestatic 99, 3) := by decide +kernel
theorem dL_law_484 : decode cL_law 484 = .ok (.istore 5, 2) := by decide +kernel
theorem dL_law_486 : decode cL_law 486 = .ok (.aload_n 2, 1) := by decide +kernel
theorem dL_law_487 : decode cL_law 487 = .ok (.aload_n 0, 1) := by decide +kernel
theorem dL_law_488 : decode cL_law 488 = .ok (.iload 4, 2) := by decide +kernel
theorem dL_law_490 : decode cL_law 490 = .ok (.iconst 1, 1) := by decide +kernel
theorem dL_law_491 : decode cL_law 491 = .ok (.iadd, 1) := by decide +kernel
theorem dL_law_492 : decode cL_law 492 = .ok (.iaload, 1) := by decide +kernel
theorem dL_law_493 : decode cL_law 493 = .ok (.aload_n 0, 1) := by decide +kernel
theorem dL_law_494 : decode cL_law 494 = .ok (.iload 4, 2) := by decide +kernel
theorem dL_law_496 : decode cL_law 496 = .ok (.iconst 2, 1) := by decide +kernel
theorem dL_law_497 : decode cL_law 497 = .ok (.iadd, 1) := by decide +kernel
theorem dL_law_498 : decode cL_law 498 = .ok (.iaload, 1) := by decide +kernel
theorem dL_law_499 : decode cL_law 499 = .ok (.invokevirtual 101, 3) := by decide +kernel
theorem dL_law_502 : decode cL_law 502 = .ok (.istore 6, 2) := by decide +kernel
theorem dL_law_504 : decode cL_law 504 = .ok (.aload_n 2, 1) := by decide +kernel
theorem dL_law_505 : decode cL_law 505 = .ok (.invokevirtual 84, 3) := by decide +kernel
theorem dL_law_508 : decode cL_law 508 = .ok (.iload 5, 2) := by decide +kernel
theorem dL_law_510 : decode cL_law 510 = .ok (.if_icmp .eq 5, 3) := by decide +kernel
theorem dL_law_513 : decode cL_law 513 = .ok (.iconst 0, 1) := by decide +kernel
theorem dL_law_514 : decode cL_law 514 = .ok (.ireturn, 1) := by decide +kernel
theorem dL_law_515 : decode cL_law 515 = .ok (.iload 5, 2) := by decide +kernel
theorem dL_law_517 : decode cL_law 517 = .ok (.ifCond .ne 15, 3) := by decide +kernel
theorem dL_law_520 : decode cL_law 520 = .ok (.aload_n 3, 1) := by decide +kernel
theorem dL_law_521 : decode cL_law 521 = .ok (.iconst 0, 1) := by decide +kernel
theorem dL_law_522 : decode cL_law 522 = .ok (.laload, 1) := by decide +kernel
theorem dL_law_523 : decode cL_law 523 = .ok (.iload 6, 2) := by decide +kernel
theorem dL_law_525 : decode cL_law 525 = .ok (.i2l, 1) := by decide +kernel
theorem dL_law_526 : decode cL_law 526 = .ok (.lcmp, 1) := by decide +kernel
theorem dL_law_527 : decode cL_law 527 = .ok (.ifCond .eq 5, 3) := by decide +kernel
theorem dL_law_530 : decode cL_law 530 = .ok (.iconst 0, 1) := by decide +kernel
theorem dL_law_531 : decode cL_law 531 = .ok (.ireturn, 1) := by decide +kernel
theorem dL_law_532 : decode cL_law 532 = .ok (.goto 929, 3) := by decide +kernel
theorem dL_law_535 : decode cL_law 535 = .ok (.aload_n 1, 1) := by decide +kernel
theorem dL_law_536 : decode cL_law 536 = .ok (.aload_n 0, 1) := by decide +kernel
theorem dL_law_537 : decode cL_law 537 = .ok (.iload 4, 2) := by decide +kernel
theorem dL_law_539 : decode cL_law 539 = .ok (.iconst 1, 1) := by decide +kernel
theorem dL_law_540 : decode cL_law 540 = .ok (.iadd, 1) := by decide +kernel
theorem dL_law_541 : decode cL_law 541 = .ok (.iaload, 1) := by decide +kernel
theorem dL_law_542 : decode cL_law 542 = .ok (.aload_n 0, 1) := by decide +kernel
theorem dL_law_543 : decode cL_law 543 = .ok (.iload 4, 2) := by decide +kernel
theorem dL_law_545 : decode cL_law 545 = .ok (.iconst 2, 1) := by decide +kernel
theorem dL_law_546 : decode cL_law 546 = .ok (.iadd, 1) := by decide +kernel
theorem dL_law_547 : decode cL_law 547 = .ok (.iaload, 1) := by decide +kernel
theorem dL_law_548 : decode cL_law 548 = .ok (.aload_n 3, 1) := by decide +kernel
theorem dL_law_549 : decode cL_law 549 = .ok (.invokestatic 102, 3) := by decide +kernel
theorem dL_law_552 : decode cL_law 552 = .ok (.istore 5, 2) := by decide +kernel
theorem dL_law_554 : decode cL_law 554 = .ok (.aload_n 2, 1) := by decide +kernel
theorem dL_law_555 : decode cL_law 555 = .ok (.aload_n 0, 1) := by decide +kernel
theorem dL_law_556 : decode cL_law 556 = .ok (.iload 4, 2) := by decide +kernel
theorem dL_law_558 : decode cL_law 558 = .ok (.iconst 1, 1) := by decide +kernel
theorem dL_law_559 : decode cL_law 559 = .ok (.iadd, 1) := by decide +kernel
theorem dL_law_560 : decode cL_law 560 = .ok (.iaload, 1) := by decide +kernel
theorem dL_law_561 : decode cL_law 561 = .ok (.aload_n 0, 1) := by decide +kernel
theorem dL_law_562 : decode cL_law 562 = .ok (.iload 4, 2) := by decide +kernel
theorem dL_law_564 : decode cL_law 564 = .ok (.iconst 2, 1) := by decide +kernel
theorem dL_law_565 : decode cL_law 565 = .ok (.iadd, 1) := by decide +kernel
theorem dL_law_566 : decode cL_law 566 = .ok (.iaload, 1) := by decide +kernel
theorem dL_law_567 : decode cL_law 567 = .ok (.invokevirtual 104, 3) := by decide +kernel
theorem dL_law_570 : decode cL_law 570 = .ok (.istore 6, 2) := by decide +kernel
theorem dL_law_572 : decode cL_law 572 = .ok (.aload_n 2, 1) := by decide +kernel
theorem dL_law_573 : decode cL_law 573 = .ok (.invokevirtual 84, 3) := by decide +kernel
theorem dL_law_576 : decode cL_law 576 = .ok (.iload 5, 2) := by decide +kernel
theorem dL_law_578 : decode cL_law 578 = .ok (.if_icmp .eq 5, 3) := by decide +kernel
theorem dL_law_581 : decode cL_law 581 = .ok (.iconst 0, 1) := by decide +kernel
theorem dL_law_582 : decode cL_law 582 = .ok (.ireturn, 1) := by decide +kernel
theorem dL_law_583 : decode cL_law 583 = .ok (.iload 5, 2) := by decide +kernel
theorem dL_law_585 : decode cL_law 585 = .ok (.ifCond .ne 15, 3) := by decide +kernel
theorem dL_law_588 : decode cL_law 588 = .ok (.aload_n 3, 1) := by decide +kernel
theorem dL_law_589 : decode cL_law 589 = .ok (.iconst 0, 1) := by decide +kernel
theorem dL_law_590 : decode cL_law 590 = .ok (.laload, 1) := by decide +kernel
theorem dL_law_591 : decode cL_law 591 = .ok (.iload 6, 2) := by decide +kernel
theorem dL_law_593 : decode cL_law 593 = .ok (.i2l, 1) := by decide +kernel
theorem dL_law_594 : decode cL_law 594 = .ok (.lcmp, 1) := by decide +kernel
theorem dL_law_595 : decode cL_law 595 = .ok (.ifCond .eq 5, 3) := by decide +kernel
theorem dL_law_598 : decode cL_law 598 = .ok (.iconst 0, 1) := by decide +kernel
theorem dL_law_599 : decode cL_law 599 = .ok (.ireturn, 1) := by decide +kernel
theorem dL_law_600 : decode cL_law 600 = .ok (.goto 861, 3) := by decide +kernel
theorem dL_law_603 : decode cL_law 603 = .ok (.aload_n 1, 1) := by decide +kernel
theorem dL_law_604 : decode cL_law 604 = .ok (.aload_n 0, 1) := by decide +kernel
theorem dL_law_605 : decode cL_law 605 = .ok (.iload 4, 2) := by decide +kernel
theorem dL_law_607 : decode cL_law 607 = .ok (.iconst 1, 1) := by decide +kernel
theorem dL_law_608 : decode cL_law 608 = .ok (.iadd, 1) := by decide +kernel
theorem dL_law_609 : decode cL_law 609 = .ok (.iaload, 1) := by decide +kernel
theorem dL_law_610 : decode cL_law 610 = .ok (.aload_n 0, 1) := by decide +kernel
theorem dL_law_611 : decode cL_law 611 = .ok (.iload 4, 2) := by decide +kernel
theorem dL_law_613 : decode cL_law 613 = .ok (.iconst 2, 1) := by decide +kernel
theorem dL_law_614 : decode cL_law 614 = .ok (.iadd, 1) := by decide +kernel
theorem dL_law_615 : decode cL_law 615 = .ok (.iaload, 1) := by decide +kernel
theorem dL_law_616 : decode cL_law 616 = .ok (.aload_n 0, 1) := by decide +kernel
theorem dL_law_617 : decode cL_law 617 = .ok (.iload 4, 2) := by decide +kernel
theorem dL_law_619 : decode cL_law 619 = .ok (.iconst 3, 1) := by decide +kernel
theorem dL_law_620 : decode cL_law 620 = .ok (.iadd, 1) := by decide +kernel
theorem dL_law_621 : decode cL_law 621 = .ok (.iaload, 1) := by decide +kernel
theorem dL_law_622 : decode cL_law 622 = .ok (.aload_n 0, 1) := by decide +kernel
theorem dL_law_623 : decode cL_law 623 = .ok (.iload 4, 2) := by decide +kernel
theorem dL_law_625 : decode cL_law 625 = .ok (.iconst 4, 1) := by decide +kernel
theorem dL_law_626 : decode cL_law 626 = .ok (.iadd, 1) := by decide +kernel
theorem dL_law_627 : decode cL_law 627 = .ok (.iaload, 1) := by decide +kernel
theorem dL_law_628 : decode cL_law 628 = .ok (.aload_n 3, 1) := by decide +kernel
theorem dL_law_629 : decode cL_law 629 = .ok (.invokestatic 105, 3) := by decide +kernel
theorem dL_law_632 : decode cL_law 632 = .ok (.istore 5, 2) := by decide +kernel
theorem dL_law_634 : decode cL_law 634 = .ok (.aload_n 2, 1) := by decide +kernel
theorem dL_law_635 : decode cL_law 635 = .ok (.aload_n 0, 1) := by decide +kernel
theorem dL_law_636 : decode cL_law 636 = .ok (.iload 4, 2) := by decide +kernel
theorem dL_law_638 : decode cL_law 638 = .ok (.iconst 1, 1) := by decide +kernel
theorem dL_law_639 : decode cL_law 639 = .ok (.iadd, 1) := by decide +kernel
theorem dL_law_640 : decode cL_law 640 = .ok (.iaload, 1) := by decide +kernel
theorem dL_law_641 : decode cL_law 641 = .ok (.aload_n 0, 1) := by decide +kernel
theorem dL_law_642 : decode cL_law 642 = .ok (.iload 4, 2) := by decide +kernel
theorem dL_law_644 : decode cL_law 644 = .ok (.iconst 2, 1) := by decide +kernel
theorem dL_law_645 : decode cL_law 645 = .ok (.iadd, 1) := by decide +kernel
theorem dL_law_646 : decode cL_law 646 = .ok (.iaload, 1) := by decide +kernel
theorem dL_law_647 : decode cL_law 647 = .ok (.aload_n 0, 1) := by decide +kernel
theorem dL_law_648 : decode cL_law 648 = .ok (.iload 4, 2) := by decide +kernel
theorem dL_law_650 : decode cL_law 650 = .ok (.iconst 3, 1) := by decide +kernel
theorem dL_law_651 : decode cL_law 651 = .ok (.iadd, 1) := by decide +kernel
theorem dL_law_652 : decode cL_law 652 = .ok (.iaload, 1) := by decide +kernel
theorem dL_law_653 : decode cL_law 653 = .ok (.aload_n 0, 1) := by decide +kernel
theorem dL_law_654 : decode cL_law 654 = .ok (.iload 4, 2) := by decide +kernel
theorem dL_law_656 : decode cL_law 656 = .ok (.iconst 4, 1) := by decide +kernel
theorem dL_law_657 : decode cL_law 657 = .ok (.iadd, 1) := by decide +kernel
theorem dL_law_658 : decode cL_law 658 = .ok (.iaload, 1) := by decide +kernel
theorem dL_law_659 : decode cL_law 659 = .ok (.invokevirtual 108, 3) := by decide +kernel
theorem dL_law_662 : decode cL_law 662 = .ok (.istore 6, 2) := by decide +kernel
theorem dL_law_664 : decode cL_law 664 = .ok (.aload_n 2, 1) := by decide +kernel
theorem dL_law_665 : decode cL_law 665 = .ok (.invokevirtual 84, 3) := by decide +kernel
theorem dL_law_668 : decode cL_law 668 = .ok (.iload 5, 2) := by decide +kernel
theorem dL_law_670 : decode cL_law 670 = .ok (.if_icmp .eq 5, 3) := by decide +kernel
theorem dL_law_673 : decode cL_law 673 = .ok (.iconst 0, 1) := by decide +kernel
theorem dL_law_674 : decode cL_law 674 = .ok (.ireturn, 1) := by decide +kernel
theorem dL_law_675 : decode cL_law 675 = .ok (.iload 5, 2) := by decide +kernel
theorem dL_law_677 : decode cL_law 677 = .ok (.ifCond .ne 15, 3) := by decide +kernel
theorem dL_law_680 : decode cL_law 680 = .ok (.aload_n 3, 1) := by decide +kernel
theorem dL_law_681 : decode cL_law 681 = .ok (.iconst 0, 1) := by decide +kernel
theorem dL_law_682 : decode cL_law 682 = .ok (.laload, 1) := by decide +kernel
theorem dL_law_683 : decode cL_law 683 = .ok (.iload 6, 2) := by decide +kernel
theorem dL_law_685 : decode cL_law 685 = .ok (.i2l, 1) := by decide +kernel
theorem dL_law_686 : decode cL_law 686 = .ok (.lcmp, 1) := by decide +kernel
theorem dL_law_687 : decode cL_law 687 = .ok (.ifCond .eq 5, 3) := by decide +kernel
theorem dL_law_690 : decode cL_law 690 = .ok (.iconst 0, 1) := by decide +kernel
theorem dL_law_691 : decode cL_law 691 = .ok (.ireturn, 1) := by decide +kernel
theorem dL_law_692 : decode cL_law 692 = .ok (.goto 769, 3) := by decide +kernel
theorem dL_law_695 : decode cL_law 695 = .ok (.aload_n 1, 1) := by decide +kernel
theorem dL_law_696 : decode cL_law 696 = .ok (.aload_n 0, 1) := by decide +kernel
theorem dL_law_697 : decode cL_law 697 = .ok (.iload 4, 2) := by decide +kernel
theorem dL_law_699 : decode cL_law 699 = .ok (.iconst 1, 1) := by decide +kernel
theorem dL_law_700 : decode cL_law 700 = .ok (.iadd, 1) := by decide +kernel
theorem dL_law_701 : decode cL_law 701 = .ok (.iaload, 1) := by decide +kernel
theorem dL_law_702 : decode cL_law 702 = .ok (.aload_n 3, 1) := by decide +kernel
theorem dL_law_703 : decode cL_law 703 = .ok (.invokestatic 109, 3) := by decide +kernel
theorem dL_law_706 : decode cL_law 706 = .ok (.istore 5, 2) := by decide +kernel
theorem dL_law_708 : decode cL_law 708 = .ok (.aload_n 2, 1) := by decide +kernel
theorem dL_law_709 : decode cL_law 709 = .ok (.aload_n 0, 1) := by decide +kernel
theorem dL_law_710 : decode cL_law 710 = .ok (.iload 4, 2) := by decide +kernel
theorem dL_law_712 : decode cL_law 712 = .ok (.iconst 1, 1) := by decide +kernel
theorem dL_law_713 : decode cL_law 713 = .ok (.iadd, 1) := by decide +kernel
theorem dL_law_714 : decode cL_law 714 = .ok (.iaload, 1) := by decide +kernel
theorem dL_law_715 : decode cL_law 715 = .ok (.invokevirtual 112, 3) := by decide +kernel
theorem dL_law_718 : decode cL_law 718 = .ok (.istore 6, 2) := by decide +kernel
theorem dL_law_720 : decode cL_law 720 = .ok (.aload_n 2, 1) := by decide +kernel
theorem dL_law_721 : decode cL_law 721 = .ok (.invokevirtual 84, 3) := by decide +kernel
theorem dL_law_724 : decode cL_law 724 = .ok (.iload 5, 2) := by decide +kernel
theorem dL_law_726 : decode cL_law 726 = .ok (.if_icmp .eq 5, 3) := by decide +kernel
theorem dL_law_729 : decode cL_law 729 = .ok (.iconst 0, 1) := by decide +kernel
theorem dL_law_730 : decode cL_law 730 = .ok (.ireturn, 1) := by decide +kernel
theorem dL_law_731 : decode cL_law 731 = .ok (.iload 5, 2) := by decide +kernel
theorem dL_law_733 : decode cL_law 733 = .ok (.ifCond .ne 15, 3) := by decide +kernel
theorem dL_law_736 : decode cL_law 736 = .ok (.aload_n 3, 1) := by decide +kernel
theorem dL_law_737 : decode cL_law 737 = .ok (.iconst 0, 1) := by decide +kernel
theorem dL_law_738 : decode cL_law 738 = .ok (.laload, 1) := by decide +kernel
theorem dL_law_739 : decode cL_law 739 = .ok (.iload 6, 2) := by decide +kernel
theorem dL_law_741 : decode cL_law 741 = .ok (.i2l, 1) := by decide +kernel
theorem dL_law_742 : decode cL_law 742 = .ok (.lcmp, 1) := by decide +kernel
theorem dL_law_743 : decode cL_law 743 = .ok (.ifCond .eq 5, 3) := by decide +kernel
theorem dL_law_746 : decode cL_law 746 = .ok (.iconst 0, 1) := by decide +kernel
theorem dL_law_747 : decode cL_law 747 = .ok (.ireturn, 1) := by decide +kernel
theorem dL_law_748 : decode cL_law 748 = .ok (.goto 713, 3) := by decide +kernel
theorem dL_law_751 : decode cL_law 751 = .ok (.aload_n 1, 1) := by decide +kernel
theorem dL_law_752 : decode cL_law 752 = .ok (.aload_n 0, 1) := by decide +kernel
theorem dL_law_753 : decode cL_law 753 = .ok (.iload 4, 2) := by decide +kernel
theorem dL_law_755 : decode cL_law 755 = .ok (.iconst 1, 1) := by decide +kernel
theorem dL_law_756 : decode cL_law 756 = .ok (.iadd, 1) := by decide +kernel
theorem dL_law_757 : decode cL_law 757 = .ok (.iaload, 1) := by decide +kernel
theorem dL_law_758 : decode cL_law 758 = .ok (.aload_n 0, 1) := by decide +kernel
theorem dL_law_759 : decode cL_law 759 = .ok (.iload 4, 2) := by decide +kernel
theorem dL_law_761 : decode cL_law 761 = .ok (.iconst 2, 1) := by decide +kernel
theorem dL_law_762 : decode cL_law 762 = .ok (.iadd, 1) := by decide +kernel
theorem dL_law_763 : decode cL_law 763 = .ok (.iaload, 1) := by decide +kernel
theorem dL_law_764 : decode cL_law 764 = .ok (.aload_n 3, 1) := by decide +kernel
theorem dL_law_765 : decode cL_law 765 = .ok (.invokestatic 113, 3) := by decide +kernel
theorem dL_law_768 : decode cL_law 768 = .ok (.istore 5, 2) := by decide +kernel
theorem dL_law_770 : decode cL_law 770 = .ok (.aload_n 2, 1) := by decide +kernel
theorem dL_law_771 : decode cL_law 771 = .ok (.aload_n 0, 1) := by decide +kernel
theorem dL_law_772 : decode cL_law 772 = .ok (.iload 4, 2) := by decide +kernel
theorem dL_law_774 : decode cL_law 774 = .ok (.iconst 1, 1) := by decide +kernel
theorem dL_law_775 : decode cL_law 775 = .ok (.iadd, 1) := by decide +kernel
theorem dL_law_776 : decode cL_law 776 = .ok (.iaload, 1) := by decide +kernel
theorem dL_law_777 : decode cL_law 777 = .ok (.aload_n 0, 1) := by decide +kernel
theorem dL_law_778 : decode cL_law 778 = .ok (.iload 4, 2) := by decide +kernel
theorem dL_law_780 : decode cL_law 780 = .ok (.iconst 2, 1) := by decide +kernel
theorem dL_law_781 : decode cL_law 781 = .ok (.iadd, 1) := by decide +kernel
theorem dL_law_782 : decode cL_law 782 = .ok (.iaload, 1) := by decide +kernel
theorem dL_law_783 : decode cL_law 783 = .ok (.invokevirtual 115, 3) := by decide +kernel
theorem dL_law_786 : decode cL_law 786 = .ok (.istore 6, 2) := by decide +kernel
theorem dL_law_788 : decode cL_law 788 = .ok (.aload_n 2, 1) := by decide +kernel
theorem dL_law_789 : decode cL_law 789 = .ok (.invokevirtual 84, 3) := by decide +kernel
theorem dL_law_792 : decode cL_law 792 = .ok (.iload 5, 2) := by decide +kernel
theorem dL_law_794 : decode cL_law 794 = .ok (.if_icmp .eq 5, 3) := by decide +kernel
theorem dL_law_797 : decode cL_law 797 = .ok (.iconst 0, 1) := by decide +kernel
theorem dL_law_798 : decode cL_law 798 = .ok (.ireturn, 1) := by decide +kernel
theorem dL_law_799 : decode cL_law 799 = .ok (.iload 5, 2) := by decide +kernel
theorem dL_law_801 : decode cL_law 801 = .ok (.ifCond .ne 15, 3) := by decide +kernel
theorem dL_law_804 : decode cL_law 804 = .ok (.aload_n 3, 1) := by decide +kernel
theorem dL_law_805 : decode cL_law 805 = .ok (.iconst 0, 1) := by decide +kernel
theorem dL_law_806 : decode cL_law 806 = .ok (.laload, 1) := by decide +kernel
theorem dL_law_807 : decode cL_law 807 = .ok (.iload 6, 2) := by decide +kernel
theorem dL_law_809 : decode cL_law 809 = .ok (.i2l, 1) := by decide +kernel
theorem dL_law_810 : decode cL_law 810 = .ok (.lcmp, 1) := by decide +kernel
theorem dL_law_811 : decode cL_law 811 = .ok (.ifCond .eq 5, 3) := by decide +kernel
theorem dL_law_814 : decode cL_law 814 = .ok (.iconst 0, 1) := by decide +kernel
theorem dL_law_815 : decode cL_law 815 = .ok (.ireturn, 1) := by decide +kernel
theorem dL_law_816 : decode cL_law 816 = .ok (.goto 645, 3) := by decide +kernel
theorem dL_law_819 : decode cL_law 819 = .ok (.aload_n 1, 1) := by decide +kernel
theorem dL_law_820 : decode cL_law 820 = .ok (.aload_n 0, 1) := by decide +kernel
theorem dL_law_821 : decode cL_law 821 = .ok (.iload 4, 2) := by decide +kernel
theorem dL_law_823 : decode cL_law 823 = .ok (.iconst 1, 1) := by decide +kernel
theorem dL_law_824 : decode cL_law 824 = .ok (.iadd, 1) := by decide +kernel
theorem dL_law_825 : decode cL_law 825 = .ok (.iaload, 1) := by decide +kernel
theorem dL_law_826 : decode cL_law 826 = .ok (.aload_n 0, 1) := by decide +kernel
theorem dL_law_827 : decode cL_law 827 = .ok (.iload 4, 2) := by decide +kernel
theorem dL_law_829 : decode cL_law 829 = .ok (.iconst 2, 1) := by decide +kernel
theorem dL_law_830 : decode cL_law 830 = .ok (.iadd, 1) := by decide +kernel
theorem dL_law_831 : decode cL_law 831 = .ok (.iaload, 1) := by decide +kernel
theorem dL_law_832 : decode cL_law 832 = .ok (.aload_n 3, 1) := by decide +kernel
theorem dL_law_833 : decode cL_law 833 = .ok (.invokestatic 116, 3) := by decide +kernel
theorem dL_law_836 : decode cL_law 836 = .ok (.istore 5, 2) := by decide +kernel
theorem dL_law_838 : decode cL_law 838 = .ok (.aload_n 2, 1) := by decide +kernel
theorem dL_law_839 : decode cL_law 839 = .ok (.aload_n 0, 1) := by decide +kernel
theorem dL_law_840 : decode cL_law 840 = .ok (.iload 4, 2) := by decide +kernel
theorem dL_law_842 : decode cL_law 842 = .ok (.iconst 1, 1) := by decide +kernel
theorem dL_law_843 : decode cL_law 843 = .ok (.iadd, 1) := by decide +kernel
theorem dL_law_844 : decode cL_law 844 = .ok (.iaload, 1) := by decide +kernel
theorem dL_law_845 : decode cL_law 845 = .ok (.aload_n 0, 1) := by decide +kernel
theorem dL_law_846 : decode cL_law 846 = .ok (.iload 4, 2) := by decide +kernel
theorem dL_law_848 : decode cL_law 848 = .ok (.iconst 2, 1) := by decide +kernel
theorem dL_law_849 : decode cL_law 849 = .ok (.iadd, 1) := by decide +kernel
theorem dL_law_850 : decode cL_law 850 = .ok (.iaload, 1) := by decide +kernel
theorem dL_law_851 : decode cL_law 851 = .ok (.invokevirtual 118, 3) := by decide +kernel
theorem dL_law_854 : decode cL_law 854 = .ok (.istore 6, 2) := by decide +kernel
theorem dL_law_856 : decode cL_law 856 = .ok (.aload_n 2, 1) := by decide +kernel
theorem dL_law_857 : decode cL_law 857 = .ok (.invokevirtual 84, 3) := by decide +kernel
theorem dL_law_860 : decode cL_law 860 = .ok (.iload 5, 2) := by decide +kernel
theorem dL_law_862 : decode cL_law 862 = .ok (.if_icmp .eq 5, 3) := by decide +kernel
theorem dL_law_865 : decode cL_law 865 = .ok (.iconst 0, 1) := by decide +kernel
theorem dL_law_866 : decode cL_law 866 = .ok (.ireturn, 1) := by decide +kernel
theorem dL_law_867 : decode cL_law 867 = .ok (.iload 5, 2) := by decide +kernel
theorem dL_law_869 : decode cL_law 869 = .ok (.ifCond .ne 15, 3) := by decide +kernel
theorem dL_law_872 : decode cL_law 872 = .ok (.aload_n 3, 1) := by decide +kernel
theorem dL_law_873 : decode cL_law 873 = .ok (.iconst 0, 1) := by decide +kernel
theorem dL_law_874 : decode cL_law 874 = .ok (.laload, 1) := by decide +kernel
theorem dL_law_875 : decode cL_law 875 = .ok (.iload 6, 2) := by decide +kernel
theorem dL_law_877 : decode cL_law 877 = .ok (.i2l, 1) := by decide +kernel
theorem dL_law_878 : decode cL_law 878 = .ok (.lcmp, 1) := by decide +kernel
theorem dL_law_879 : decode cL_law 879 = .ok (.ifCond .eq 5, 3) := by decide +kernel
theorem dL_law_882 : decode cL_law 882 = .ok (.iconst 0, 1) := by decide +kernel
theorem dL_law_883 : decode cL_law 883 = .ok (.ireturn, 1) := by decide +kernel
theorem dL_law_884 : decode cL_law 884 = .ok (.goto 577, 3) := by decide +kernel
theorem dL_law_887 : decode cL_law 887 = .ok (.aload_n 1, 1) := by decide +kernel
theorem dL_law_888 : decode cL_law 888 = .ok (.aload_n 0, 1) := by decide +kernel
theorem dL_law_889 : decode cL_law 889 = .ok (.iload 4, 2) := by decide +kernel
theorem dL_law_891 : decode cL_law 891 = .ok (.iconst 1, 1) := by decide +kernel
theorem dL_law_892 : decode cL_law 892 = .ok (.iadd, 1) := by decide +kernel
theorem dL_law_893 : decode cL_law 893 = .ok (.iaload, 1) := by decide +kernel
theorem dL_law_894 : decode cL_law 894 = .ok (.aload_n 0, 1) := by decide +kernel
theorem dL_law_895 : decode cL_law 895 = .ok (.iload 4, 2) := by decide +kernel
theorem dL_law_897 : decode cL_law 897 = .ok (.iconst 2, 1) := by decide +kernel
theorem dL_law_898 : decode cL_law 898 = .ok (.iadd, 1) := by decide +kernel
theorem dL_law_899 : decode cL_law 899 = .ok (.iaload, 1) := by decide +kernel
theorem dL_law_900 : decode cL_law 900 = .ok (.ifCond .eq 7, 3) := by decide +kernel
theorem dL_law_903 : decode cL_law 903 = .ok (.iconst 1, 1) := by decide +kernel
theorem dL_law_904 : decode cL_law 904 = .ok (.goto 4, 3) := by decide +kernel
theorem dL_law_907 : decode cL_law 907 = .ok (.iconst 0, 1) := by decide +kernel
theorem dL_law_908 : decode cL_law 908 = .ok (.aload_n 3, 1) := by decide +kernel
theorem dL_law_909 : decode cL_law 909 = .ok (.invokestatic 119, 3) := by decide +kernel
theorem dL_law_912 : decode cL_law 912 = .ok (.istore 5, 2) := by decide +kernel
theorem dL_law_914 : decode cL_law 914 = .ok (.aload_n 2, 1) := by decide +kernel
theorem dL_law_915 : decode cL_law 915 = .ok (.aload_n 0, 1) := by decide +kernel
theorem dL_law_916 : decode cL_law 916 = .ok (.iload 4, 2) := by decide +kernel
theorem dL_law_918 : decode cL_law 918 = .ok (.iconst 1, 1) := by decide +kernel
theorem dL_law_919 : decode cL_law 919 = .ok (.iadd, 1) := by decide +kernel
theorem dL_law_920 : decode cL_law 920 = .ok (.iaload, 1) := by decide +kernel
theorem dL_law_921 : decode cL_law 921 = .ok (.aload_n 0, 1) := by decide +kernel
theorem dL_law_922 : decode cL_law 922 = .ok (.iload 4, 2) := by decide +kernel
theorem dL_law_924 : decode cL_law 924 = .ok (.iconst 2, 1) := by decide +kernel
theorem dL_law_925 : decode cL_law 925 = .ok (.iadd, 1) := by decide +kernel
theorem dL_law_926 : decode cL_law 926 = .ok (.iaload, 1) := by decide +kernel
theorem dL_law_927 : decode cL_law 927 = .ok (.ifCond .eq 7, 3) := by decide +kernel
theorem dL_law_930 : decode cL_law 930 = .ok (.iconst 1, 1) := by decide +kernel
theorem dL_law_931 : decode cL_law 931 = .ok (.goto 4, 3) := by decide +kernel
theorem dL_law_934 : decode cL_law 934 = .ok (.iconst 0, 1) := by decide +kernel
theorem dL_law_935 : decode cL_law 935 = .ok (.invokevirtual 121, 3) := by decide +kernel
theorem dL_law_938 : decode cL_law 938 = .ok (.istore 6, 2) := by decide +kernel
theorem dL_law_940 : decode cL_law 940 = .ok (.aload_n 2, 1) := by decide +kernel
theorem dL_law_941 : decode cL_law 941 = .ok (.invokevirtual 84, 3) := by decide +kernel
theorem dL_law_944 : decode cL_law 944 = .ok (.iload 5, 2) := by decide +kernel
theorem dL_law_946 : decode cL_law 946 = .ok (.if_icmp .eq 5, 3) := by decide +kernel
theorem dL_law_949 : decode cL_law 949 = .ok (.iconst 0, 1) := by decide +kernel
theorem dL_law_950 : decode cL_law 950 = .ok (.ireturn, 1) := by decide +kernel
theorem dL_law_951 : decode cL_law 951 = .ok (.iload 5, 2) := by decide +kernel
theorem dL_law_953 : decode cL_law 953 = .ok (.ifCond .ne 22, 3) := by decide +kernel
theorem dL_law_956 : decode cL_law 956 = .ok (.aload_n 3, 1) := by decide +kernel
theorem dL_law_957 : decode cL_law 957 = .ok (.iconst 0, 1) := by decide +kernel
theorem dL_law_958 : decode cL_law 958 = .ok (.laload, 1) := by decide +kernel
theorem dL_law_959 : decode cL_law 959 = .ok (.iload 6, 2) := by decide +kernel
theorem dL_law_961 : decode cL_law 961 = .ok (.ifCond .eq 7, 3) := by decide +kernel
theorem dL_law_964 : decode cL_law 964 = .ok (.lconst 1, 1) := by decide +kernel
theorem dL_law_965 : decode cL_law 965 = .ok (.goto 4, 3) := by decide +kernel
theorem dL_law_968 : decode cL_law 968 = .ok (.lconst 0, 1) := by decide +kernel
theorem dL_law_969 : decode cL_law 969 = .ok (.lcmp, 1) := by decide +kernel
theorem dL_law_970 : decode cL_law 970 = .ok (.ifCond .eq 5, 3) := by decide +kernel
theorem dL_law_973 : decode cL_law 973 = .ok (.iconst 0, 1) := by decide +kernel
theorem dL_law_974 : decode cL_law 974 = .ok (.ireturn, 1) := by decide +kernel
theorem dL_law_975 : decode cL_law 975 = .ok (.goto 486, 3) := by decide +kernel
theorem dL_law_978 : decode cL_law 978 = .ok (.aload_n 1, 1) := by decide +kernel
theorem dL_law_979 : decode cL_law 979 = .ok (.aload_n 0, 1) := by decide +kernel
theorem dL_law_980 : decode cL_law 980 = .ok (.iload 4, 2) := by decide +kernel
theorem dL_law_982 : decode cL_law 982 = .ok (.iconst 1, 1) := by decide +kernel
theorem dL_law_983 : decode cL_law 983 = .ok (.iadd, 1) := by decide +kernel
theorem dL_law_984 : decode cL_law 984 = .ok (.iaload, 1) := by decide +kernel
theorem dL_law_985 : decode cL_law 985 = .ok (.aload_n 0, 1) := by decide +kernel
theorem dL_law_986 : decode cL_law 986 = .ok (.iload 4, 2) := by decide +kernel
theorem dL_law_988 : decode cL_law 988 = .ok (.iconst 2, 1) := by decide +kernel
theorem dL_law_989 : decode cL_law 989 = .ok (.iadd, 1) := by decide +kernel
theorem dL_law_990 : decode cL_law 990 = .ok (.iaload, 1) := by decide +kernel
theorem dL_law_991 : decode cL_law 991 = .ok (.aload_n 3, 1) := by decide +kernel
theorem dL_law_992 : decode cL_law 992 = .ok (.invokestatic 122, 3) := by decide +kernel
theorem dL_law_995 : decode cL_law 995 = .ok (.istore 5, 2) := by decide +kernel
theorem dL_law_997 : decode cL_law 997 = .ok (.aload_n 2, 1) := by decide +kernel
theorem dL_law_998 : decode cL_law 998 = .ok (.aload_n 0, 1) := by decide +kernel
theorem dL_law_999 : decode cL_law 999 = .ok (.iload 4, 2) := by decide +kernel
theorem dL_law_1001 : decode cL_law 1001 = .ok (.iconst 1, 1) := by decide +kernel
theorem dL_law_1002 : decode cL_law 1002 = .ok (.iadd, 1) := by decide +kernel
theorem dL_law_1003 : decode cL_law 1003 = .ok (.iaload, 1) := by decide +kernel
theorem dL_law_1004 : decode cL_law 1004 = .ok (.aload_n 0, 1) := by decide +kernel
theorem dL_law_1005 : decode cL_law 1005 = .ok (.iload 4, 2) := by decide +kernel
theorem dL_law_1007 : decode cL_law 1007 = .ok (.iconst 2, 1) := by decide +kernel
theorem dL_law_1008 : decode cL_law 1008 = .ok (.iadd, 1) := by decide +kernel
theorem dL_law_1009 : decode cL_law 1009 = .ok (.iaload, 1) := by decide +kernel
theorem dL_law_1010 : decode cL_law 1010 = .ok (.invokevirtual 124, 3) := by decide +kernel
theorem dL_law_1013 : decode cL_law 1013 = .ok (.istore 6, 2) := by decide +kernel
theorem dL_law_1015 : decode cL_law 1015 = .ok (.aload_n 2, 1) := by decide +kernel
theorem dL_law_1016 : decode cL_law 1016 = .ok (.invokevirtual 84, 3) := by decide +kernel
theorem dL_law_1019 : decode cL_law 1019 = .ok (.iload 5, 2) := by decide +kernel
theorem dL_law_1021 : decode cL_law 1021 = .ok (.if_icmp .eq 5, 3) := by decide +kernel
theorem dL_law_1024 : decode cL_law 1024 = .ok (.iconst 0, 1) := by decide +kernel
theorem dL_law_1025 : decode cL_law 1025 = .ok (.ireturn, 1) := by decide +kernel
theorem dL_law_1026 : decode cL_law 1026 = .ok (.iload 5, 2) := by decide +kernel
theorem dL_law_1028 : decode cL_law 1028 = .ok (.ifCond .ne 15, 3) := by decide +kernel
theorem dL_law_1031 : decode cL_law 1031 = .ok (.aload_n 3, 1) := by decide +kernel
theorem dL_law_1032 : decode cL_law 1032 = .ok (.iconst 0, 1) := by decide +kernel
theorem dL_law_1033 : decode cL_law 1033 = .ok (.laload, 1) := by decide +kernel
theorem dL_law_1034 : decode cL_law 1034 = .ok (.iload 6, 2) := by decide +kernel
theorem dL_law_1036 : decode cL_law 1036 = .ok (.i2l, 1) := by decide +kernel
theorem dL_law_1037 : decode cL_law 1037 = .ok (.lcmp, 1) := by decide +kernel
theorem dL_law_1038 : decode cL_law 1038 = .ok (.ifCond .eq 5, 3) := by decide +kernel
theorem dL_law_1041 : decode cL_law 1041 = .ok (.iconst 0, 1) := by decide +kernel
theorem dL_law_1042 : decode cL_law 1042 = .ok (.ireturn, 1) := by decide +kernel
theorem dL_law_1043 : decode cL_law 1043 = .ok (.goto 418, 3) := by decide +kernel
theorem dL_law_1046 : decode cL_law 1046 = .ok (.aload_n 1, 1) := by decide +kernel
theorem dL_law_1047 : decode cL_law 1047 = .ok (.aload_n 0, 1) := by decide +kernel
theorem dL_law_1048 : decode cL_law 1048 = .ok (.iload 4, 2) := by decide +kernel
theorem dL_law_1050 : decode cL_law 1050 = .ok (.iconst 1, 1) := by decide +kernel
theorem dL_law_1051 : decode cL_law 1051 = .ok (.iadd, 1) := by decide +kernel
theorem dL_law_1052 : decode cL_law 1052 = .ok (.iaload, 1) := by decide +kernel
theorem dL_law_1053 : decode cL_law 1053 = .ok (.aload_n 3, 1) := by decide +kernel
theorem dL_law_1054 : decode cL_law 1054 = .ok (.invokestatic 125, 3) := by decide +kernel
theorem dL_law_1057 : decode cL_law 1057 = .ok (.istore 5, 2) := by decide +kernel
theorem dL_law_1059 : decode cL_law 1059 = .ok (.aload_n 2, 1) := by decide +kernel
theorem dL_law_1060 : decode cL_law 1060 = .ok (.aload_n 0, 1) := by decide +kernel
theorem dL_law_1061 : decode cL_law 1061 = .ok (.iload 4, 2) := by decide +kernel
theorem dL_law_1063 : decode cL_law 1063 = .ok (.iconst 1, 1) := by decide +kernel
theorem dL_law_1064 : decode cL_law 1064 = .ok (.iadd, 1) := by decide +kernel
theorem dL_law_1065 : decode cL_law 1065 = .ok (.iaload, 1) := by decide +kernel
theorem dL_law_1066 : decode cL_law 1066 = .ok (.invokevirtual 127, 3) := by decide +kernel
theorem dL_law_1069 : decode cL_law 1069 = .ok (.istore 6, 2) := by decide +kernel
theorem dL_law_1071 : decode cL_law 1071 = .ok (.aload_n 2, 1) := by decide +kernel
theorem dL_law_1072 : decode cL_law 1072 = .ok (.invokevirtual 84, 3) := by decide +kernel
theorem dL_law_1075 : decode cL_law 1075 = .ok (.iload 5, 2) := by decide +kernel
theorem dL_law_1077 : decode cL_law 1077 = .ok (.if_icmp .eq 5, 3) := by decide +kernel
theorem dL_law_1080 : decode cL_law 1080 = .ok (.iconst 0, 1) := by decide +kernel
theorem dL_law_1081 : decode cL_law 1081 = .ok (.ireturn, 1) := by decide +kernel
theorem dL_law_1082 : decode cL_law 1082 = .ok (.iload 5, 2) := by decide +kernel
theorem dL_law_1084 : decode cL_law 1084 = .ok (.ifCond .ne 15, 3) := by decide +kernel
theorem dL_law_1087 : decode cL_law 1087 = .ok (.aload_n 3, 1) := by decide +kernel
theorem dL_law_1088 : decode cL_law 1088 = .ok (.iconst 0, 1) := by decide +kernel
theorem dL_law_1089 : decode cL_law 1089 = .ok (.laload, 1) := by decide +kernel
theorem dL_law_1090 : decode cL_law 1090 = .ok (.iload 6, 2) := by decide +kernel
theorem dL_law_1092 : decode cL_law 1092 = .ok (.i2l, 1) := by decide +kernel
theorem dL_law_1093 : decode cL_law 1093 = .ok (.lcmp, 1) := by decide +kernel
theorem dL_law_1094 : decode cL_law 1094 = .ok (.ifCond .eq 5, 3) := by decide +kernel
theorem dL_law_1097 : decode cL_law 1097 = .ok (.iconst 0, 1) := by decide +kernel
theorem dL_law_1098 : decode cL_law 1098 = .ok (.ireturn, 1) := by decide +kernel
theorem dL_law_1099 : decode cL_law 1099 = .ok (.goto 362, 3) := by decide +kernel
theorem dL_law_1102 : decode cL_law 1102 = .ok (.aload_n 1, 1) := by decide +kernel
theorem dL_law_1103 : decode cL_law 1103 = .ok (.aload_n 0, 1) := by decide +kernel
theorem dL_law_1104 : decode cL_law 1104 = .ok (.iload 4, 2) := by decide +kernel
theorem dL_law_1106 : decode cL_law 1106 = .ok (.iconst 1, 1) := by decide +kernel
theorem dL_law_1107 : decode cL_law 1107 = .ok (.iadd, 1) := by decide +kernel
theorem dL_law_1108 : decode cL_law 1108 = .ok (.iaload, 1) := by decide +kernel
theorem dL_law_1109 : decode cL_law 1109 = .ok (.aload_n 3, 1) := by decide +kernel
theorem dL_law_1110 : decode cL_law 1110 = .ok (.invokestatic 128, 3) := by decide +kernel
theorem dL_law_1113 : decode cL_law 1113 = .ok (.istore 5, 2) := by decide +kernel
theorem dL_law_1115 : decode cL_law 1115 = .ok (.aload_n 2, 1) := by decide +kernel
theorem dL_law_1116 : decode cL_law 1116 = .ok (.aload_n 0, 1) := by decide +kernel
theorem dL_law_1117 : decode cL_law 1117 = .ok (.iload 4, 2) := by decide +kernel
theorem dL_law_1119 : decode cL_law 1119 = .ok (.iconst 1, 1) := by decide +kernel
theorem dL_law_1120 : decode cL_law 1120 = .ok (.iadd, 1) := by decide +kernel
theorem dL_law_1121 : decode cL_law 1121 = .ok (.iaload, 1) := by decide +kernel
theorem dL_law_1122 : decode cL_law 1122 = .ok (.invokevirtual 130, 3) := by decide +kernel
theorem dL_law_1125 : decode cL_law 1125 = .ok (.istore 6, 2) := by decide +kernel
theorem dL_law_1127 : decode cL_law 1127 = .ok (.aload_n 2, 1) := by decide +kernel
theorem dL_law_1128 : decode cL_law 1128 = .ok (.invokevirtual 84, 3) := by decide +kernel
theorem dL_law_1131 : decode cL_law 1131 = .ok (.iload 5, 2) := by decide +kernel
theorem dL_law_1133 : decode cL_law 1133 = .ok (.if_icmp .eq 5, 3) := by decide +kernel
theorem dL_law_1136 : decode cL_law 1136 = .ok (.iconst 0, 1) := by decide +kernel
theorem dL_law_1137 : decode cL_law 1137 = .ok (.ireturn, 1) := by decide +kernel
theorem dL_law_1138 : decode cL_law 1138 = .ok (.iload 5, 2) := by decide +kernel
theorem dL_law_1140 : decode cL_law 1140 = .ok (.ifCond .ne 15, 3) := by decide +kernel
theorem dL_law_1143 : decode cL_law 1143 = .ok (.aload_n 3, 1) := by decide +kernel
theorem dL_law_1144 : decode cL_law 1144 = .ok (.iconst 0, 1) := by decide +kernel
theorem dL_law_1145 : decode cL_law 1145 = .ok (.laload, 1) := by decide +kernel
theorem dL_law_1146 : decode cL_law 1146 = .ok (.iload 6, 2) := by decide +kernel
theorem dL_law_1148 : decode cL_law 1148 = .ok (.i2l, 1) := by decide +kernel
theorem dL_law_1149 : decode cL_law 1149 = .ok (.lcmp, 1) := by decide +kernel
theorem dL_law_1150 : decode cL_law 1150 = .ok (.ifCond .eq 5, 3) := by decide +kernel
theorem dL_law_1153 : decode cL_law 1153 = .ok (.iconst 0, 1) := by decide +kernel
theorem dL_law_1154 : decode cL_law 1154 = .ok (.ireturn, 1) := by decide +kernel
theorem dL_law_1155 : decode cL_law 1155 = .ok (.goto 306, 3) := by decide +kernel
theorem dL_law_1158 : decode cL_law 1158 = .ok (.aload_n 1, 1) := by decide +kernel
theorem dL_law_1159 : decode cL_law 1159 = .ok (.aload_n 0, 1) := by decide +kernel
theorem dL_law_1160 : decode cL_law 1160 = .ok (.iload 4, 2) := by decide +kernel
theorem dL_law_1162 : decode cL_law 1162 = .ok (.iconst 1, 1) := by decide +kernel
theorem dL_law_1163 : decode cL_law 1163 = .ok (.iadd, 1) := by decide +kernel
theorem dL_law_1164 : decode cL_law 1164 = .ok (.iaload, 1) := by decide +kernel
theorem dL_law_1165 : decode cL_law 1165 = .ok (.aload_n 0, 1) := by decide +kernel
theorem dL_law_1166 : decode cL_law 1166 = .ok (.iload 4, 2) := by decide +kernel
theorem dL_law_1168 : decode cL_law 1168 = .ok (.iconst 2, 1) := by decide +kernel
theorem dL_law_1169 : decode cL_law 1169 = .ok (.iadd, 1) := by decide +kernel
theorem dL_law_1170 : decode cL_law 1170 = .ok (.iaload, 1) := by decide +kernel
theorem dL_law_1171 : decode cL_law 1171 = .ok (.aload_n 3, 1) := by decide +kernel
theorem dL_law_1172 : decode cL_law 1172 = .ok (.invokestatic 131, 3) := by decide +kernel
theorem dL_law_1175 : decode cL_law 1175 = .ok (.istore 5, 2) := by decide +kernel
theorem dL_law_1177 : decode cL_law 1177 = .ok (.aload_n 2, 1) := by decide +kernel
theorem dL_law_1178 : decode cL_law 1178 = .ok (.aload_n 0, 1) := by decide +kernel
theorem dL_law_1179 : decode cL_law 1179 = .ok (.iload 4, 2) := by decide +kernel
theorem dL_law_1181 : decode cL_law 1181 = .ok (.iconst 1, 1) := by decide +kernel
theorem dL_law_1182 : decode cL_law 1182 = .ok (.iadd, 1) := by decide +kernel
theorem dL_law_1183 : decode cL_law 1183 = .ok (.iaload, 1) := by decide +kernel
theorem dL_law_1184 : decode cL_law 1184 = .ok (.aload_n 0, 1) := by decide +kernel
theorem dL_law_1185 : decode cL_law 1185 = .ok (.iload 4, 2) := by decide +kernel
theorem dL_law_1187 : decode cL_law 1187 = .ok (.iconst 2, 1) := by decide +kernel
theorem dL_law_1188 : decode cL_law 1188 = .ok (.iadd, 1) := by decide +kernel
theorem dL_law_1189 : decode cL_law 1189 = .ok (.iaload, 1) := by decide +kernel
theorem dL_law_1190 : decode cL_law 1190 = .ok (.invokevirtual 133, 3) := by decide +kernel
theorem dL_law_1193 : decode cL_law 1193 = .ok (.istore 6, 2) := by decide +kernel
theorem dL_law_1195 : decode cL_law 1195 = .ok (.aload_n 2, 1) := by decide +kernel
theorem dL_law_1196 : decode cL_law 1196 = .ok (.invokevirtual 84, 3) := by decide +kernel
theorem dL_law_1199 : decode cL_law 1199 = .ok (.iload 5, 2) := by decide +kernel
theorem dL_law_1201 : decode cL_law 1201 = .ok (.if_icmp .eq 5, 3) := by decide +kernel
theorem dL_law_1204 : decode cL_law 1204 = .ok (.iconst 0, 1) := by decide +kernel
theorem dL_law_1205 : decode cL_law 1205 = .ok (.ireturn, 1) := by decide +kernel
theorem dL_law_1206 : decode cL_law 1206 = .ok (.iload 5, 2) := by decide +kernel
theorem dL_law_1208 : decode cL_law 1208 = .ok (.ifCond .ne 15, 3) := by decide +kernel
theorem dL_law_1211 : decode cL_law 1211 = .ok (.aload_n 3, 1) := by decide +kernel
theorem dL_law_1212 : decode cL_law 1212 = .ok (.iconst 0, 1) := by decide +kernel
theorem dL_law_1213 : decode cL_law 1213 = .ok (.laload, 1) := by decide +kernel
theorem dL_law_1214 : decode cL_law 1214 = .ok (.iload 6, 2) := by decide +kernel
theorem dL_law_1216 : decode cL_law 1216 = .ok (.i2l, 1) := by decide +kernel
theorem dL_law_1217 : decode cL_law 1217 = .ok (.lcmp, 1) := by decide +kernel
theorem dL_law_1218 : decode cL_law 1218 = .ok (.ifCond .eq 5, 3) := by decide +kernel
theorem dL_law_1221 : decode cL_law 1221 = .ok (.iconst 0, 1) := by decide +kernel
theorem dL_law_1222 : decode cL_law 1222 = .ok (.ireturn, 1) := by decide +kernel
theorem dL_law_1223 : decode cL_law 1223 = .ok (.goto 238, 3) := by decide +kernel
theorem dL_law_1226 : decode cL_law 1226 = .ok (.aload_n 1, 1) := by decide +kernel
theorem dL_law_1227 : decode cL_law 1227 = .ok (.aload_n 0, 1) := by decide +kernel
theorem dL_law_1228 : decode cL_law 1228 = .ok (.iload 4, 2) := by decide +kernel
theorem dL_law_1230 : decode cL_law 1230 = .ok (.iconst 1, 1) := by decide +kernel
theorem dL_law_1231 : decode cL_law 1231 = .ok (.iadd, 1) := by decide +kernel
theorem dL_law_1232 : decode cL_law 1232 = .ok (.iaload, 1) := by decide +kernel
theorem dL_law_1233 : decode cL_law 1233 = .ok (.aload_n 3, 1) := by decide +kernel
theorem dL_law_1234 : decode cL_law 1234 = .ok (.invokestatic 134, 3) := by decide +kernel
theorem dL_law_1237 : decode cL_law 1237 = .ok (.istore 5, 2) := by decide +kernel
theorem dL_law_1239 : decode cL_law 1239 = .ok (.aload_n 2, 1) := by decide +kernel
theorem dL_law_1240 : decode cL_law 1240 = .ok (.aload_n 0, 1) := by decide +kernel
theorem dL_law_1241 : decode cL_law 1241 = .ok (.iload 4, 2) := by decide +kernel
theorem dL_law_1243 : decode cL_law 1243 = .ok (.iconst 1, 1) := by decide +kernel
theorem dL_law_1244 : decode cL_law 1244 = .ok (.iadd, 1) := by decide +kernel
theorem dL_law_1245 : decode cL_law 1245 = .ok (.iaload, 1) := by decide +kernel
theorem dL_law_1246 : decode cL_law 1246 = .ok (.invokevirtual 136, 3) := by decide +kernel
theorem dL_law_1249 : decode cL_law 1249 = .ok (.istore 6, 2) := by decide +kernel
theorem dL_law_1251 : decode cL_law 1251 = .ok (.aload_n 2, 1) := by decide +kernel
theorem dL_law_1252 : decode cL_law 1252 = .ok (.invokevirtual 84, 3) := by decide +kernel
theorem dL_law_1255 : decode cL_law 1255 = .ok (.iload 5, 2) := by decide +kernel
theorem dL_law_1257 : decode cL_law 1257 = .ok (.if_icmp .eq 5, 3) := by decide +kernel
theorem dL_law_1260 : decode cL_law 1260 = .ok (.iconst 0, 1) := by decide +kernel
theorem dL_law_1261 : decode cL_law 1261 = .ok (.ireturn, 1) := by decide +kernel
theorem dL_law_1262 : decode cL_law 1262 = .ok (.iload 5, 2) := by decide +kernel
theorem dL_law_1264 : decode cL_law 1264 = .ok (.ifCond .ne 15, 3) := by decide +kernel
theorem dL_law_1267 : decode cL_law 1267 = .ok (.aload_n 3, 1) := by decide +kernel
theorem dL_law_1268 : decode cL_law 1268 = .ok (.iconst 0, 1) := by decide +kernel
theorem dL_law_1269 : decode cL_law 1269 = .ok (.laload, 1) := by decide +kernel
theorem dL_law_1270 : decode cL_law 1270 = .ok (.iload 6, 2) := by decide +kernel
theorem dL_law_1272 : decode cL_law 1272 = .ok (.i2l, 1) := by decide +kernel
theorem dL_law_1273 : decode cL_law 1273 = .ok (.lcmp, 1) := by decide +kernel
theorem dL_law_1274 : decode cL_law 1274 = .ok (.ifCond .eq 5, 3) := by decide +kernel
theorem dL_law_1277 : decode cL_law 1277 = .ok (.iconst 0, 1) := by decide +kernel
theorem dL_law_1278 : decode cL_law 1278 = .ok (.ireturn, 1) := by decide +kernel
theorem dL_law_1279 : decode cL_law 1279 = .ok (.goto 182, 3) := by decide +kernel
theorem dL_law_1282 : decode cL_law 1282 = .ok (.aload_n 1, 1) := by decide +kernel
theorem dL_law_1283 : decode cL_law 1283 = .ok (.aload_n 0, 1) := by decide +kernel
theorem dL_law_1284 : decode cL_law 1284 = .ok (.iload 4, 2) := by decide +kernel
theorem dL_law_1286 : decode cL_law 1286 = .ok (.iconst 1, 1) := by decide +kernel
theorem dL_law_1287 : decode cL_law 1287 = .ok (.iadd, 1) := by decide +kernel
theorem dL_law_1288 : decode cL_law 1288 = .ok (.iaload, 1) := by decide +kernel
theorem dL_law_1289 : decode cL_law 1289 = .ok (.aload_n 0, 1) := by decide +kernel
theorem dL_law_1290 : decode cL_law 1290 = .ok (.iload 4, 2) := by decide +kernel
theorem dL_law_1292 : decode cL_law 1292 = .ok (.iconst 2, 1) := by decide +kernel
theorem dL_law_1293 : decode cL_law 1293 = .ok (.iadd, 1) := by decide +kernel
theorem dL_law_1294 : decode cL_law 1294 = .ok (.iaload, 1) := by decide +kernel
theorem dL_law_1295 : decode cL_law 1295 = .ok (.aload_n 3, 1) := by decide +kernel
theorem dL_law_1296 : decode cL_law 1296 = .ok (.invokestatic 137, 3) := by decide +kernel
theorem dL_law_1299 : decode cL_law 1299 = .ok (.istore 5, 2) := by decide +kernel
theorem dL_law_1301 : decode cL_law 1301 = .ok (.aload_n 2, 1) := by decide +kernel
theorem dL_law_1302 : decode cL_law 1302 = .ok (.aload_n 0, 1) := by decide +kernel
theorem dL_law_1303 : decode cL_law 1303 = .ok (.iload 4, 2) := by decide +kernel
theorem dL_law_1305 : decode cL_law 1305 = .ok (.iconst 1, 1) := by decide +kernel
theorem dL_law_1306 : decode cL_law 1306 = .ok (.iadd, 1) := by decide +kernel
theorem dL_law_1307 : decode cL_law 1307 = .ok (.iaload, 1) := by decide +kernel
theorem dL_law_1308 : decode cL_law 1308 = .ok (.aload_n 0, 1) := by decide +kernel
theorem dL_law_1309 : decode cL_law 1309 = .ok (.iload 4, 2) := by decide +kernel
theorem dL_law_1311 : decode cL_law 1311 = .ok (.iconst 2, 1) := by decide +kernel
theorem dL_law_1312 : decode cL_law 1312 = .ok (.iadd, 1) := by decide +kernel
theorem dL_law_1313 : decode cL_law 1313 = .ok (.iaload, 1) := by decide +kernel
theorem dL_law_1314 : decode cL_law 1314 = .ok (.invokevirtual 139, 3) := by decide +kernel
theorem dL_law_1317 : decode cL_law 1317 = .ok (.istore 6, 2) := by decide +kernel
theorem dL_law_1319 : decode cL_law 1319 = .ok (.aload_n 2, 1) := by decide +kernel
theorem dL_law_1320 : decode cL_law 1320 = .ok (.invokevirtual 84, 3) := by decide +kernel
theorem dL_law_1323 : decode cL_law 1323 = .ok (.iload 5, 2) := by decide +kernel
theorem dL_law_1325 : decode cL_law 1325 = .ok (.if_icmp .eq 5, 3) := by decide +kernel
theorem dL_law_1328 : decode cL_law 1328 = .ok (.iconst 0, 1) := by decide +kernel
theorem dL_law_1329 : decode cL_law 1329 = .ok (.ireturn, 1) := by decide +kernel
theorem dL_law_1330 : decode cL_law 1330 = .ok (.iload 5, 2) := by decide +kernel
theorem dL_law_1332 : decode cL_law 1332 = .ok (.ifCond .ne 15, 3) := by decide +kernel
theorem dL_law_1335 : decode cL_law 1335 = .ok (.aload_n 3, 1) := by decide +kernel
theorem dL_law_1336 : decode cL_law 1336 = .ok (.iconst 0, 1) := by decide +kernel
theorem dL_law_1337 : decode cL_law 1337 = .ok (.laload, 1) := by decide +kernel
theorem dL_law_1338 : decode cL_law 1338 = .ok (.iload 6, 2) := by decide +kernel
theorem dL_law_1340 : decode cL_law 1340 = .ok (.i2l, 1) := by decide +kernel
theorem dL_law_1341 : decode cL_law 1341 = .ok (.lcmp, 1) := by decide +kernel
theorem dL_law_1342 : decode cL_law 1342 = .ok (.ifCond .eq 5, 3) := by decide +kernel
theorem dL_law_1345 : decode cL_law 1345 = .ok (.iconst 0, 1) := by decide +kernel
theorem dL_law_1346 : decode cL_law 1346 = .ok (.ireturn, 1) := by decide +kernel
theorem dL_law_1347 : decode cL_law 1347 = .ok (.goto 114, 3) := by decide +kernel
theorem dL_law_1350 : decode cL_law 1350 = .ok (.aload_n 1, 1) := by decide +kernel
theorem dL_law_1351 : decode cL_law 1351 = .ok (.aload_n 0, 1) := by decide +kernel
theorem dL_law_1352 : decode cL_law 1352 = .ok (.iload 4, 2) := by decide +kernel
theorem dL_law_1354 : decode cL_law 1354 = .ok (.iconst 1, 1) := by decide +kernel
theorem dL_law_1355 : decode cL_law 1355 = .ok (.iadd, 1) := by decide +kernel
theorem dL_law_1356 : decode cL_law 1356 = .ok (.iaload, 1) := by decide +kernel
theorem dL_law_1357 : decode cL_law 1357 = .ok (.aload_n 3, 1) := by decide +kernel
theorem dL_law_1358 : decode cL_law 1358 = .ok (.invokestatic 140, 3) := by decide +kernel
theorem dL_law_1361 : decode cL_law 1361 = .ok (.istore 5, 2) := by decide +kernel
theorem dL_law_1363 : decode cL_law 1363 = .ok (.aload_n 2, 1) := by decide +kernel
theorem dL_law_1364 : decode cL_law 1364 = .ok (.aload_n 0, 1) := by decide +kernel
theorem dL_law_1365 : decode cL_law 1365 = .ok (.iload 4, 2) := by decide +kernel
theorem dL_law_1367 : decode cL_law 1367 = .ok (.iconst 1, 1) := by decide +kernel
theorem dL_law_1368 : decode cL_law 1368 = .ok (.iadd, 1) := by decide +kernel
theorem dL_law_1369 : decode cL_law 1369 = .ok (.iaload, 1) := by decide +kernel
theorem dL_law_1370 : decode cL_law 1370 = .ok (.invokevirtual 142, 3) := by decide +kernel
theorem dL_law_1373 : decode cL_law 1373 = .ok (.istore 6, 2) := by decide +kernel
theorem dL_law_1375 : decode cL_law 1375 = .ok (.aload_n 2, 1) := by decide +kernel
theorem dL_law_1376 : decode cL_law 1376 = .ok (.invokevirtual 84, 3) := by decide +kernel
theorem dL_law_1379 : decode cL_law 1379 = .ok (.iload 5, 2) := by decide +kernel
theorem dL_law_1381 : decode cL_law 1381 = .ok (.if_icmp .eq 5, 3) := by decide +kernel
theorem dL_law_1384 : decode cL_law 1384 = .ok (.iconst 0, 1) := by decide +kernel
theorem dL_law_1385 : decode cL_law 1385 = .ok (.ireturn, 1) := by decide +kernel
theorem dL_law_1386 : decode cL_law 1386 = .ok (.iload 5, 2) := by decide +kernel
theorem dL_law_1388 : decode cL_law 1388 = .ok (.ifCond .ne 15, 3) := by decide +kernel
theorem dL_law_1391 : decode cL_law 1391 = .ok (.aload_n 3, 1) := by decide +kernel
theorem dL_law_1392 : decode cL_law 1392 = .ok (.iconst 0, 1) := by decide +kernel
theorem dL_law_1393 : decode cL_law 1393 = .ok (.laload, 1) := by decide +kernel
theorem dL_law_1394 : decode cL_law 1394 = .ok (.iload 6, 2) := by decide +kernel
theorem dL_law_1396 : decode cL_law 1396 = .ok (.i2l, 1) := by decide +kernel
theorem dL_law_1397 : decode cL_law 1397 = .ok (.lcmp, 1) := by decide +kernel
theorem dL_law_1398 : decode cL_law 1398 = .ok (.ifCond .eq 5, 3) := by decide +kernel
theorem dL_law_1401 : decode cL_law 1401 = .ok (.iconst 0, 1) := by decide +kernel
theorem dL_law_1402 : decode cL_law 1402 = .ok (.ireturn, 1) := by decide +kernel
theorem dL_law_1403 : decode cL_law 1403 = .ok (.goto 58, 3) := by decide +kernel
theorem dL_law_1406 : decode cL_law 1406 = .ok (.aload_n 1, 1) := by decide +kernel
theorem dL_law_1407 : decode cL_law 1407 = .ok (.invokevirtual 143, 3) := by decide +kernel
theorem dL_law_1410 : decode cL_law 1410 = .ok (.dstore 5, 2) := by decide +kernel
theorem dL_law_1412 : decode cL_law 1412 = .ok (.aload_n 2, 1) := by decide +kernel
theorem dL_law_1413 : decode cL_law 1413 = .ok (.invokevirtual 147, 3) := by decide +kernel
theorem dL_law_1416 : decode cL_law 1416 = .ok (.dstore 7, 2) := by decide +kernel
theorem dL_law_1418 : decode cL_law 1418 = .ok (.dload 5, 2) := by decide +kernel
theorem dL_law_1420 : decode cL_law 1420 = .ok (.dload 7, 2) := by decide +kernel
theorem dL_law_1422 : decode cL_law 1422 = .ok (.dcmp .l, 1) := by decide +kernel
theorem dL_law_1423 : decode cL_law 1423 = .ok (.ifCond .eq 21, 3) := by decide +kernel
theorem dL_law_1426 : decode cL_law 1426 = .ok (.dload 5, 2) := by decide +kernel
theorem dL_law_1428 : decode cL_law 1428 = .ok (.dload 5, 2) := by decide +kernel
theorem dL_law_1430 : decode cL_law 1430 = .ok (.dcmp .l, 1) := by decide +kernel
theorem dL_law_1431 : decode cL_law 1431 = .ok (.ifCond .eq 11, 3) := by decide +kernel
theorem dL_law_1434 : decode cL_law 1434 = .ok (.dload 7, 2) := by decide +kernel
theorem dL_law_1436 : decode cL_law 1436 = .ok (.dload 7, 2) := by decide +kernel
theorem dL_law_1438 : decode cL_law 1438 = .ok (.dcmp .l, 1) := by decide +kernel
theorem dL_law_1439 : decode cL_law 1439 = .ok (.ifCond .ne 5, 3) := by decide +kernel
theorem dL_law_1442 : decode cL_law 1442 = .ok (.iconst 0, 1) := by decide +kernel
theorem dL_law_1443 : decode cL_law 1443 = .ok (.ireturn, 1) := by decide +kernel
theorem dL_law_1444 : decode cL_law 1444 = .ok (.goto 17, 3) := by decide +kernel
theorem dL_law_1447 : decode cL_law 1447 = .ok (.aload_n 1, 1) := by decide +kernel
theorem dL_law_1448 : decode cL_law 1448 = .ok (.invokevirtual 148, 3) := by decide +kernel
theorem dL_law_1451 : decode cL_law 1451 = .ok (.aload_n 2, 1) := by decide +kernel
theorem dL_law_1452 : decode cL_law 1452 = .ok (.invokevirtual 152, 3) := by decide +kernel
theorem dL_law_1455 : decode cL_law 1455 = .ok (.lcmp, 1) := by decide +kernel
theorem dL_law_1456 : decode cL_law 1456 = .ok (.ifCond .eq 5, 3) := by decide +kernel
theorem dL_law_1459 : decode cL_law 1459 = .ok (.iconst 0, 1) := by decide +kernel
theorem dL_law_1460 : decode cL_law 1460 = .ok (.ireturn, 1) := by decide +kernel
theorem dL_law_1461 : decode cL_law 1461 = .ok (.iinc 4 6, 3) := by decide +kernel
theorem dL_law_1464 : decode cL_law 1464 = .ok (.goto (-1441), 3) := by decide +kernel
theorem dL_law_1467 : decode cL_law 1467 = .ok (.iconst 1, 1) := by decide +kernel
theorem dL_law_1468 : decode cL_law 1468 = .ok (.ireturn, 1) := by decide +kernel
end
section
def TT : List Cond := lw_tbl.filter goodWord
theorem tt_r {w : Cond} (h : w ∈ tables_1) (hg : goodWord w = true) : w ∈ TT := List.mem_filter.mpr ⟨List.mem_append_right _ h, hg⟩
theorem tt_s {w : Cond} (h : w ∈ k2_sels lw_privs) (hg : goodWord w = true) : w ∈ TT := List.mem_filter.mpr ⟨List.mem_append_left _ h, hg⟩
theorem tt_good {w : Cond} (h : w ∈ TT) : (w.onTables && w.keeps) = true ∨ ∃ ty, w = .arrayClass ty := good_of_word (List.mem_filter.mp h).2
theorem q_n_L : (Cond.initialized RL) ∈ TT := tt_r (List.mem_of_getElem? (i := 0) (by decide +kernel)) (by decide +kernel)
theorem q_n_X4 : (Cond.initialized RX4) ∈ TT := tt_r (List.mem_of_getElem? (i := 1) (by decide +kernel)) (by decide +kernel)
theorem q_n_X0 : (Cond.initialized RX0) ∈ TT := tt_r (List.mem_of_getElem? (i := 2) (by decide +kernel)) (by decide +kernel)
theorem q_n_X3 : (Cond.initialized RX3) ∈ TT := tt_r (List.mem_of_getElem? (i := 3) (by decide +kernel)) (by decide +kernel)
theorem q_n_X2 : (Cond.initialized RX2) ∈ TT := tt_r (List.mem_of_getElem? (i := 4) (by decide +kernel)) (by decide +kernel)
theorem q_n_J9 : (Cond.initialized "java/lang/Math") ∈ TT := tt_r (List.mem_of_getElem? (i := 5) (by decide +kernel)) (by decide +kernel)
theorem q_n_X1 : (Cond.initialized RX1) ∈ TT := tt_r (List.mem_of_getElem? (i := 6) (by decide +kernel)) (by decide +kernel)
theorem q_n_X5 : (Cond.initialized RX5) ∈ TT := tt_r (List.mem_of_getElem? (i := 7) (by decide +kernel)) (by decide +kernel)
theorem q_n_JS : (Cond.initialized "java/lang/System") ∈ TT := tt_r (List.mem_of_getElem? (i := 14) (by decide +kernel)) (by decide +kernel)
theorem q_k_L_8 : (Cond.classLink RL 8 RX4) ∈ TT := tt_r (List.mem_of_getElem? (i := 15) (by decide +kernel)) (by decide +kernel)
theorem q_a_X4 : (Cond.instantiable RX4 2) ∈ TT := tt_r (List.mem_of_getElem? (i := 16) (by decide +kernel)) (by decide +kernel)
theorem q_m_L_74 : (Cond.methodLink RL 74 yX4_init) ∈ TT := tt_r (List.mem_of_getElem? (i := 17) (by decide +kernel)) (by decide +kernel)
theorem q_i_X4_init : (Cond.instanceMethod yX4_init) ∈ TT := tt_r (List.mem_of_getElem? (i := 18) (by decide +kernel)) (by decide +kernel)
theorem q_c_X4_init : (Cond.code yX4_init cX4_init 1 none) ∈ TT := tt_r (List.mem_of_getElem? (i := 19) (by decide +kernel)) (by decide +kernel)
theorem q_m_X4_1 : (Cond.methodLink RX4 1 objectInit) ∈ TT := tt_r (List.mem_of_getElem? (i := 20) (by decide +kernel)) (by decide +kernel)
theorem q_i_J_oinit : (Cond.instanceMethod objectInit) ∈ TT := tt_r (List.mem_of_getElem? (i := 21) (by decide +kernel)) (by decide +kernel)
theorem q_c_J_oinit : (Cond.code objectInit ⟨#[0xb1]⟩ 1 none) ∈ TT := tt_r (List.mem_of_getElem? (i := 22) (by decide +kernel)) (by decide +kernel)
theorem q_k_X4_7 : (Cond.classLink RX4 7 RX0) ∈ TT := tt_r (List.mem_of_getElem? (i := 23) (by decide +kernel)) (by decide +kernel)
theorem q_a_X0 : (Cond.instantiable RX0 8) ∈ TT := tt_r (List.mem_of_getElem? (i := 24) (by decide +kernel)) (by decide +kernel)
theorem q_m_X4_11 : (Cond.methodLink RX4 11 yX0_init) ∈ TT := tt_r (List.mem_of_getElem? (i := 25) (by decide +kernel)) (by decide +kernel)
theorem q_i_X0_init : (Cond.instanceMethod yX0_init) ∈ TT := tt_r (List.mem_of_getElem? (i := 26) (by decide +kernel)) (by decide +kernel)
theorem q_c_X0_init : (Cond.code yX0_init cX0_init 3 none) ∈ TT := tt_r (List.mem_of_getElem? (i := 27) (by decide +kernel)) (by decide +kernel)
theorem q_m_X0_3 : (Cond.methodLink RX0 3 objectInit) ∈ TT := tt_r (List.mem_of_getElem? (i := 28) (by decide +kernel)) (by decide +kernel)
theorem q_k_X0_15 : (Cond.classLink RX0 15 RX3) ∈ TT := tt_r (List.mem_of_getElem? (i := 29) (by decide +kernel)) (by decide +kernel)
theorem q_a_X3 : (Cond.instantiable RX3 3) ∈ TT := tt_r (List.mem_of_getElem? (i := 31) (by decide +kernel)) (by decide +kernel)
theorem q_i_X3_init : (Cond.instanceMethod yX3_init) ∈ TT := tt_r (List.mem_of_getElem? (i := 33) (by decide +kernel)) (by decide +kernel)
theorem q_c_X3_init : (Cond.code yX3_init cX3_init 1 none) ∈ TT := tt_r (List.mem_of_getElem? (i := 34) (by decide +kernel)) (by decide +kernel)
theorem q_m_X3_1 : (Cond.methodLink RX3 1 objectInit) ∈ TT := tt_r (List.mem_of_getElem? (i := 35) (by decide +kernel)) (by decide +kernel)
theorem q_f_X3_7 : (Cond.fieldLink RX3 7 "DewPond$Weather" "mist" "I") ∈ TT := tt_r (List.mem_of_getElem? (i := 36) (by decide +kernel)) (by decide +kernel)
theorem q_f_X4_130 : (Cond.fieldLink RX4 130 "DewPond$Weather" "mist" "I") ∈ TT := tt_r (List.mem_of_getElem? (i := 37) (by decide +kernel)) (by decide +kernel)
theorem q_f_X0_126 : (Cond.fieldLink RX0 126 "DewPond$Weather" "mist" "I") ∈ TT := tt_r (List.mem_of_getElem? (i := 38) (by decide +kernel)) (by decide +kernel)
theorem q_f_X3_13 : (Cond.fieldLink RX3 13 "DewPond$Weather" "rain" "I") ∈ TT := tt_r (List.mem_of_getElem? (i := 39) (by decide +kernel)) (by decide +kernel)
theorem q_f_X4_133 : (Cond.fieldLink RX4 133 "DewPond$Weather" "rain" "I") ∈ TT := tt_r (List.mem_of_getElem? (i := 40) (by decide +kernel)) (by decide +kernel)
theorem q_f_X0_133 : (Cond.fieldLink RX0 133 "DewPond$Weather" "rain" "I") ∈ TT := tt_r (List.mem_of_getElem? (i := 41) (by decide +kernel)) (by decide +kernel)
theorem q_f_X3_16 : (Cond.fieldLink RX3 16 "DewPond$Weather" "sun" "I") ∈ TT := tt_r (List.mem_of_getElem? (i := 42) (by decide +kernel)) (by decide +kernel)
theorem q_f_X4_136 : (Cond.fieldLink RX4 136 "DewPond$Weather" "sun" "I") ∈ TT := tt_r (List.mem_of_getElem? (i := 43) (by decide +kernel)) (by decide +kernel)
theorem q_f_X0_142 : (Cond.fieldLink RX0 142 "DewPond$Weather" "sun" "I") ∈ TT := tt_r (List.mem_of_getElem? (i := 44) (by decide +kernel)) (by decide +kernel)
theorem q_k_X0_22 : (Cond.classLink RX0 22 RX2) ∈ TT := tt_r (List.mem_of_getElem? (i := 52) (by decide +kernel)) (by decide +kernel)
theorem q_a_X2 : (Cond.instantiable RX2 10) ∈ TT := tt_r (List.mem_of_getElem? (i := 54) (by decide +kernel)) (by decide +kernel)
theorem q_i_X2_init : (Cond.instanceMethod yX2_init) ∈ TT := tt_r (List.mem_of_getElem? (i := 56) (by decide +kernel)) (by decide +kernel)
theorem q_c_X2_init : (Cond.code yX2_init cX2_init 1 none) ∈ TT := tt_r (List.mem_of_getElem? (i := 57) (by decide +kernel)) (by decide +kernel)
theorem q_m_X2_3 : (Cond.methodLink RX2 3 objectInit) ∈ TT := tt_r (List.mem_of_getElem? (i := 58) (by decide +kernel)) (by decide +kernel)
theorem q_f_X2_15 : (Cond.fieldLink RX2 15 "DewPond$Pond" "x" "I") ∈ TT := tt_r (List.mem_of_getElem? (i := 59) (by decide +kernel)) (by decide +kernel)
theorem q_f_X0_90 : (Cond.fieldLink RX0 90 "DewPond$Pond" "x" "I") ∈ TT := tt_r (List.mem_of_getElem? (i := 60) (by decide +kernel)) (by decide +kernel)
theorem q_f_X4_93 : (Cond.fieldLink RX4 93 "DewPond$Pond" "x" "I") ∈ TT := tt_r (List.mem_of_getElem? (i := 61) (by decide +kernel)) (by decide +kernel)
theorem q_f_X2_18 : (Cond.fieldLink RX2 18 "DewPond$Pond" "y" "I") ∈ TT := tt_r (List.mem_of_getElem? (i := 62) (by decide +kernel)) (by decide +kernel)
theorem q_f_X0_93 : (Cond.fieldLink RX0 93 "DewPond$Pond" "y" "I") ∈ TT := tt_r (List.mem_of_getElem? (i := 63) (by decide +kernel)) (by decide +kernel)
theorem q_f_X4_96 : (Cond.fieldLink RX4 96 "DewPond$Pond" "y" "I") ∈ TT := tt_r (List.mem_of_getElem? (i := 64) (by decide +kernel)) (by decide +kernel)
theorem q_f_X2_21 : (Cond.fieldLink RX2 21 "DewPond$Pond" "height" "I") ∈ TT := tt_r (List.mem_of_getElem? (i := 65) (by decide +kernel)) (by decide +kernel)
theorem q_f_X4_42 : (Cond.fieldLink RX4 42 "DewPond$Pond" "height" "I") ∈ TT := tt_r (List.mem_of_getElem? (i := 66) (by decide +kernel)) (by decide +kernel)
theorem q_f_X0_96 : (Cond.fieldLink RX0 96 "DewPond$Pond" "height" "I") ∈ TT := tt_r (List.mem_of_getElem? (i := 67) (by decide +kernel)) (by decide +kernel)
theorem q_f_X2_24 : (Cond.fieldLink RX2 24 "DewPond$Pond" "size" "I") ∈ TT := tt_r (List.mem_of_getElem? (i := 68) (by decide +kernel)) (by decide +kernel)
theorem q_f_X0_99 : (Cond.fieldLink RX0 99 "DewPond$Pond" "size" "I") ∈ TT := tt_r (List.mem_of_getElem? (i := 69) (by decide +kernel)) (by decide +kernel)
theorem q_f_X4_99 : (Cond.fieldLink RX4 99 "DewPond$Pond" "size" "I") ∈ TT := tt_r (List.mem_of_getElem? (i := 70) (by decide +kernel)) (by decide +kernel)
theorem q_f_X2_27 : (Cond.fieldLink RX2 27 "DewPond$Pond" "depth" "I") ∈ TT := tt_r (List.mem_of_getElem? (i := 71) (by decide +kernel)) (by decide +kernel)
theorem q_f_X0_102 : (Cond.fieldLink RX0 102 "DewPond$Pond" "depth" "I") ∈ TT := tt_r (List.mem_of_getElem? (i := 72) (by decide +kernel)) (by decide +kernel)
theorem q_f_X2_30 : (Cond.fieldLink RX2 30 "DewPond$Pond" "water" "I") ∈ TT := tt_r (List.mem_of_getElem? (i := 73) (by decide +kernel)) (by decide +kernel)
theorem q_f_X4_83 : (Cond.fieldLink RX4 83 "DewPond$Pond" "water" "I") ∈ TT := tt_r (List.mem_of_getElem? (i := 74) (by decide +kernel)) (by decide +kernel)
theorem q_f_X0_191 : (Cond.fieldLink RX0 191 "DewPond$Pond" "water" "I") ∈ TT := tt_r (List.mem_of_getElem? (i := 75) (by decide +kernel)) (by decide +kernel)
theorem q_f_X2_33 : (Cond.fieldLink RX2 33 "DewPond$Pond" "lining" "I") ∈ TT := tt_r (List.mem_of_getElem? (i := 76) (by decide +kernel)) (by decide +kernel)
theorem q_f_X4_102 : (Cond.fieldLink RX4 102 "DewPond$Pond" "lining" "I") ∈ TT := tt_r (List.mem_of_getElem? (i := 77) (by decide +kernel)) (by decide +kernel)
theorem q_f_X2_36 : (Cond.fieldLink RX2 36 "DewPond$Pond" "hasStraw" "Z") ∈ TT := tt_r (List.mem_of_getElem? (i := 78) (by decide +kernel)) (by decide +kernel)
theorem q_f_X4_77 : (Cond.fieldLink RX4 77 "DewPond$Pond" "hasStraw" "Z") ∈ TT := tt_r (List.mem_of_getElem? (i := 79) (by decide +kernel)) (by decide +kernel)
theorem q_f_X0_207 : (Cond.fieldLink RX0 207 "DewPond$Pond" "hasStraw" "Z") ∈ TT := tt_r (List.mem_of_getElem? (i := 80) (by decide +kernel)) (by decide +kernel)
theorem q_f_X2_9 : (Cond.fieldLink RX2 9 "DewPond$Pond" "runsInto" "I") ∈ TT := tt_r (List.mem_of_getElem? (i := 81) (by decide +kernel)) (by decide +kernel)
theorem q_f_X4_50 : (Cond.fieldLink RX4 50 "DewPond$Pond" "runsInto" "I") ∈ TT := tt_r (List.mem_of_getElem? (i := 82) (by decide +kernel)) (by decide +kernel)
theorem q_f_X0_204 : (Cond.fieldLink RX0 204 "DewPond$Pond" "runsInto" "I") ∈ TT := tt_r (List.mem_of_getElem? (i := 83) (by decide +kernel)) (by decide +kernel)
theorem q_f_X2_40 : (Cond.fieldLink RX2 40 "DewPond$Pond" "ranOver" "I") ∈ TT := tt_r (List.mem_of_getElem? (i := 84) (by decide +kernel)) (by decide +kernel)
theorem q_f_X4_108 : (Cond.fieldLink RX4 108 "DewPond$Pond" "ranOver" "I") ∈ TT := tt_r (List.mem_of_getElem? (i := 85) (by decide +kernel)) (by decide +kernel)
theorem q_m_X0_33 : (Cond.methodLink RX0 33 Lib.Math.max.name) ∈ TT := tt_r (List.mem_of_getElem? (i := 108) (by decide +kernel)) (by decide +kernel)
theorem q_t_J_max : (Cond.static Lib.Math.max.name) ∈ TT := tt_r (List.mem_of_getElem? (i := 109) (by decide +kernel)) (by decide +kernel)
theorem q_c_J_max : (Cond.code Lib.Math.max.name Lib.Math.max.code 2 (some FieldType.int)) ∈ TT := tt_r (List.mem_of_getElem? (i := 110) (by decide +kernel)) (by decide +kernel)
theorem q_k_X0_39 : (Cond.classLink RX0 39 RX1) ∈ TT := tt_r (List.mem_of_getElem? (i := 111) (by decide +kernel)) (by decide +kernel)
theorem q_a_X1 : (Cond.instantiable RX1 5) ∈ TT := tt_r (List.mem_of_getElem? (i := 113) (by decide +kernel)) (by decide +kernel)
theorem q_i_X1_init : (Cond.instanceMethod yX1_init) ∈ TT := tt_r (List.mem_of_getElem? (i := 115) (by decide +kernel)) (by decide +kernel)
theorem q_c_X1_init : (Cond.code yX1_init cX1_init 1 none) ∈ TT := tt_r (List.mem_of_getElem? (i := 116) (by decide +kernel)) (by decide +kernel)
theorem q_m_X1_3 : (Cond.methodLink RX1 3 objectInit) ∈ TT := tt_r (List.mem_of_getElem? (i := 117) (by decide +kernel)) (by decide +kernel)
theorem q_f_X1_9 : (Cond.fieldLink RX1 9 "DewPond$Flock" "sheep" "I") ∈ TT := tt_r (List.mem_of_getElem? (i := 118) (by decide +kernel)) (by decide +kernel)
theorem q_f_X0_185 : (Cond.fieldLink RX0 185 "DewPond$Flock" "sheep" "I") ∈ TT := tt_r (List.mem_of_getElem? (i := 119) (by decide +kernel)) (by decide +kernel)
theorem q_f_X4_167 : (Cond.fieldLink RX4 167 "DewPond$Flock" "sheep" "I") ∈ TT := tt_r (List.mem_of_getElem? (i := 120) (by decide +kernel)) (by decide +kernel)
theorem q_f_X1_15 : (Cond.fieldLink RX1 15 "DewPond$Flock" "pond" "I") ∈ TT := tt_r (List.mem_of_getElem? (i := 121) (by decide +kernel)) (by decide +kernel)
theorem q_f_X0_172 : (Cond.fieldLink RX0 172 "DewPond$Flock" "pond" "I") ∈ TT := tt_r (List.mem_of_getElem? (i := 122) (by decide +kernel)) (by decide +kernel)
theorem q_f_X4_157 : (Cond.fieldLink RX4 157 "DewPond$Flock" "pond" "I") ∈ TT := tt_r (List.mem_of_getElem? (i := 123) (by decide +kernel)) (by decide +kernel)
theorem q_f_X1_18 : (Cond.fieldLink RX1 18 "DewPond$Flock" "thirst" "I") ∈ TT := tt_r (List.mem_of_getElem? (i := 124) (by decide +kernel)) (by decide +kernel)
theorem q_f_X0_165 : (Cond.fieldLink RX0 165 "DewPond$Flock" "thirst" "I") ∈ TT := tt_r (List.mem_of_getElem? (i := 125) (by decide +kernel)) (by decide +kernel)
theorem q_f_X4_170 : (Cond.fieldLink RX4 170 "DewPond$Flock" "thirst" "I") ∈ TT := tt_r (List.mem_of_getElem? (i := 126) (by decide +kernel)) (by decide +kernel)
theorem q_f_X1_21 : (Cond.fieldLink RX1 21 "DewPond$Flock" "roams" "Z") ∈ TT := tt_r (List.mem_of_getElem? (i := 127) (by decide +kernel)) (by decide +kernel)
theorem q_f_X0_161 : (Cond.fieldLink RX0 161 "DewPond$Flock" "roams" "Z") ∈ TT := tt_r (List.mem_of_getElem? (i := 128) (by decide +kernel)) (by decide +kernel)
theorem q_f_X4_164 : (Cond.fieldLink RX4 164 "DewPond$Flock" "roams" "Z") ∈ TT := tt_r (List.mem_of_getElem? (i := 129) (by decide +kernel)) (by decide +kernel)
theorem q_f_X1_25 : (Cond.fieldLink RX1 25 "DewPond$Flock" "drunk" "I") ∈ TT := tt_r (List.mem_of_getElem? (i := 130) (by decide +kernel)) (by decide +kernel)
theorem q_f_X4_173 : (Cond.fieldLink RX4 173 "DewPond$Flock" "drunk" "I") ∈ TT := tt_r (List.mem_of_getElem? (i := 131) (by decide +kernel)) (by decide +kernel)
theorem q_f_X0_17 : (Cond.fieldLink RX0 17 "DewPond$Downs" "weather" "[LDewPond$Weather;") ∈ TT := tt_r (List.mem_of_getElem? (i := 143) (by decide +kernel)) (by decide +kernel)
theorem q_f_X0_24 : (Cond.fieldLink RX0 24 "DewPond$Downs" "ponds" "[LDewPond$Pond;") ∈ TT := tt_r (List.mem_of_getElem? (i := 144) (by decide +kernel)) (by decide +kernel)
theorem q_f_X0_28 : (Cond.fieldLink RX0 28 "DewPond$Downs" "byHeight" "[I") ∈ TT := tt_r (List.mem_of_getElem? (i := 145) (by decide +kernel)) (by decide +kernel)
theorem q_f_X0_41 : (Cond.fieldLink RX0 41 "DewPond$Downs" "flocks" "[LDewPond$Flock;") ∈ TT := tt_r (List.mem_of_getElem? (i := 146) (by decide +kernel)) (by decide +kernel)
theorem q_f_X0_53 : (Cond.fieldLink RX0 53 "DewPond$Downs" "pondCount" "I") ∈ TT := tt_r (List.mem_of_getElem? (i := 147) (by decide +kernel)) (by decide +kernel)
theorem q_f_X4_186 : (Cond.fieldLink RX4 186 "DewPond$Downs" "pondCount" "I") ∈ TT := tt_r (List.mem_of_getElem? (i := 148) (by decide +kernel)) (by decide +kernel)
theorem q_f_X0_59 : (Cond.fieldLink RX0 59 "DewPond$Downs" "flockCount" "I") ∈ TT := tt_r (List.mem_of_getElem? (i := 149) (by decide +kernel)) (by decide +kernel)
theorem q_f_X4_189 : (Cond.fieldLink RX4 189 "DewPond$Downs" "flockCount" "I") ∈ TT := tt_r (List.mem_of_getElem? (i := 150) (by decide +kernel)) (by decide +kernel)
theorem q_f_X0_46 : (Cond.fieldLink RX0 46 "DewPond$Downs" "day" "I") ∈ TT := tt_r (List.mem_of_getElem? (i := 151) (by decide +kernel)) (by decide +kernel)
theorem q_f_X4_183 : (Cond.fieldLink RX4 183 "DewPond$Downs" "day" "I") ∈ TT := tt_r (List.mem_of_getElem? (i := 152) (by decide +kernel)) (by decide +kernel)
theorem q_f_X0_9 : (Cond.fieldLink RX0 9 "DewPond$Downs" "clay" "I") ∈ TT := tt_r (List.mem_of_getElem? (i := 153) (by decide +kernel)) (by decide +kernel)
theorem q_f_X4_64 : (Cond.fieldLink RX4 64 "DewPond$Downs" "clay" "I") ∈ TT := tt_r (List.mem_of_getElem? (i := 154) (by decide +kernel)) (by decide +kernel)
theorem q_f_X4_14 : (Cond.fieldLink RX4 14 "DewPond" "downs" "LDewPond$Downs;") ∈ TT := tt_r (List.mem_of_getElem? (i := 172) (by decide +kernel)) (by decide +kernel)
theorem q_f_X4_18 : (Cond.fieldLink RX4 18 "DewPond" "ahead" "LDewPond$Downs;") ∈ TT := tt_r (List.mem_of_getElem? (i := 173) (by decide +kernel)) (by decide +kernel)
theorem q_m_L_143 : (Cond.methodLink RL 143 yX4_full) ∈ TT := tt_r (List.mem_of_getElem? (i := 179) (by decide +kernel)) (by decide +kernel)
theorem q_i_X4_full : (Cond.instanceMethod yX4_full) ∈ TT := tt_r (List.mem_of_getElem? (i := 180) (by decide +kernel)) (by decide +kernel)
theorem q_s_X4_full : (Cond.selects RX4 yX4_full yX4_full) ∈ TT := tt_r (List.mem_of_getElem? (i := 181) (by decide +kernel)) (by decide +kernel)
theorem q_c_X4_full : (Cond.code yX4_full cX4_full 2 (some FieldType.double)) ∈ TT := tt_r (List.mem_of_getElem? (i := 182) (by decide +kernel)) (by decide +kernel)
theorem q_m_X4_221 : (Cond.methodLink RX4 221 yX0_allHold) ∈ TT := tt_r (List.mem_of_getElem? (i := 183) (by decide +kernel)) (by decide +kernel)
theorem q_i_X0_allHold : (Cond.instanceMethod yX0_allHold) ∈ TT := tt_r (List.mem_of_getElem? (i := 184) (by decide +kernel)) (by decide +kernel)
theorem q_s_X0_allHold : (Cond.selects RX0 yX0_allHold yX0_allHold) ∈ TT := tt_r (List.mem_of_getElem? (i := 185) (by decide +kernel)) (by decide +kernel)
theorem q_c_X0_allHold : (Cond.code yX0_allHold cX0_allHold 3 (some FieldType.int)) ∈ TT := tt_r (List.mem_of_getElem? (i := 186) (by decide +kernel)) (by decide +kernel)
theorem q_m_X0_213 : (Cond.methodLink RX0 213 yX2_holds) ∈ TT := tt_r (List.mem_of_getElem? (i := 187) (by decide +kernel)) (by decide +kernel)
theorem q_i_X2_holds : (Cond.instanceMethod yX2_holds) ∈ TT := tt_r (List.mem_of_getElem? (i := 188) (by decide +kernel)) (by decide +kernel)
theorem q_s_X2_holds : (Cond.selects RX2 yX2_holds yX2_holds) ∈ TT := tt_r (List.mem_of_getElem? (i := 189) (by decide +kernel)) (by decide +kernel)
theorem q_c_X2_holds : (Cond.code yX2_holds cX2_holds 1 (some FieldType.int)) ∈ TT := tt_r (List.mem_of_getElem? (i := 190) (by decide +kernel)) (by decide +kernel)
theorem q_m_X4_195 : (Cond.methodLink RX4 195 yX0_allWater) ∈ TT := tt_r (List.mem_of_getElem? (i := 191) (by decide +kernel)) (by decide +kernel)
theorem q_i_X0_allWater : (Cond.instanceMethod yX0_allWater) ∈ TT := tt_r (List.mem_of_getElem? (i := 192) (by decide +kernel)) (by decide +kernel)
theorem q_s_X0_allWater : (Cond.selects RX0 yX0_allWater yX0_allWater) ∈ TT := tt_r (List.mem_of_getElem? (i := 193) (by decide +kernel)) (by decide +kernel)
theorem q_c_X0_allWater : (Cond.code yX0_allWater cX0_allWater 3 (some FieldType.int)) ∈ TT := tt_r (List.mem_of_getElem? (i := 194) (by decide +kernel)) (by decide +kernel)
theorem q_m_L_148 : (Cond.methodLink RL 148 yX4_digest) ∈ TT := tt_r (List.mem_of_getElem? (i := 195) (by decide +kernel)) (by decide +kernel)
theorem q_i_X4_digest : (Cond.instanceMethod yX4_digest) ∈ TT := tt_r (List.mem_of_getElem? (i := 196) (by decide +kernel)) (by decide +kernel)
theorem q_s_X4_digest : (Cond.selects RX4 yX4_digest yX4_digest) ∈ TT := tt_r (List.mem_of_getElem? (i := 197) (by decide +kernel)) (by decide +kernel)
theorem q_c_X4_digest : (Cond.code yX4_digest cX4_digest 5 (some FieldType.long)) ∈ TT := tt_r (List.mem_of_getElem? (i := 198) (by decide +kernel)) (by decide +kernel)
theorem q_d_X4_224 : (Cond.constantLong RX4 224 (587 : Int64)) ∈ TT := tt_r (List.mem_of_getElem? (i := 199) (by decide +kernel)) (by decide +kernel)
theorem q_d_X4_226 : (Cond.constantLong RX4 226 (31 : Int64)) ∈ TT := tt_r (List.mem_of_getElem? (i := 200) (by decide +kernel)) (by decide +kernel)
theorem q_m_X4_228 : (Cond.methodLink RX4 228 yX4_count) ∈ TT := tt_r (List.mem_of_getElem? (i := 201) (by decide +kernel)) (by decide +kernel)
theorem q_i_X4_count : (Cond.instanceMethod yX4_count) ∈ TT := tt_r (List.mem_of_getElem? (i := 202) (by decide +kernel)) (by decide +kernel)
theorem q_s_X4_count : (Cond.selects RX4 yX4_count yX4_count) ∈ TT := tt_r (List.mem_of_getElem? (i := 203) (by decide +kernel)) (by decide +kernel)
theorem q_c_X4_count : (Cond.code yX4_count cX4_count 2 (some FieldType.int)) ∈ TT := tt_r (List.mem_of_getElem? (i := 204) (by decide +kernel)) (by decide +kernel)
theorem q_m_X4_192 : (Cond.methodLink RX4 192 yX0_lostFlocks) ∈ TT := tt_r (List.mem_of_getElem? (i := 205) (by decide +kernel)) (by decide +kernel)
theorem q_i_X0_lostFlocks : (Cond.instanceMethod yX0_lostFlocks) ∈ TT := tt_r (List.mem_of_getElem? (i := 206) (by decide +kernel)) (by decide +kernel)
theorem q_s_X0_lostFlocks : (Cond.selects RX0 yX0_lostFlocks yX0_lostFlocks) ∈ TT := tt_r (List.mem_of_getElem? (i := 207) (by decide +kernel)) (by decide +kernel)
theorem q_c_X0_lostFlocks : (Cond.code yX0_lostFlocks cX0_lostFlocks 3 (some FieldType.int)) ∈ TT := tt_r (List.mem_of_getElem? (i := 208) (by decide +kernel)) (by decide +kernel)
theorem q_m_X0_157 : (Cond.methodLink RX0 157 yX1_isLost) ∈ TT := tt_r (List.mem_of_getElem? (i := 209) (by decide +kernel)) (by decide +kernel)
theorem q_i_X1_isLost : (Cond.instanceMethod yX1_isLost) ∈ TT := tt_r (List.mem_of_getElem? (i := 210) (by decide +kernel)) (by decide +kernel)
theorem q_s_X1_isLost : (Cond.selects RX1 yX1_isLost yX1_isLost) ∈ TT := tt_r (List.mem_of_getElem? (i := 211) (by decide +kernel)) (by decide +kernel)
theorem q_c_X1_isLost : (Cond.code yX1_isLost cX1_isLost 1 (some FieldType.boolean)) ∈ TT := tt_r (List.mem_of_getElem? (i := 212) (by decide +kernel)) (by decide +kernel)
theorem q_m_X4_198 : (Cond.methodLink RX4 198 yX0_emptyPonds) ∈ TT := tt_r (List.mem_of_getElem? (i := 213) (by decide +kernel)) (by decide +kernel)
theorem q_i_X0_emptyPonds : (Cond.instanceMethod yX0_emptyPonds) ∈ TT := tt_r (List.mem_of_getElem? (i := 214) (by decide +kernel)) (by decide +kernel)
theorem q_s_X0_emptyPonds : (Cond.selects RX0 yX0_emptyPonds yX0_emptyPonds) ∈ TT := tt_r (List.mem_of_getElem? (i := 215) (by decide +kernel)) (by decide +kernel)
theorem q_c_X0_emptyPonds : (Cond.code yX0_emptyPonds cX0_emptyPonds 3 (some FieldType.int)) ∈ TT := tt_r (List.mem_of_getElem? (i := 216) (by decide +kernel)) (by decide +kernel)
theorem q_m_X4_201 : (Cond.methodLink RX4 201 yX0_livingSheep) ∈ TT := tt_r (List.mem_of_getElem? (i := 217) (by decide +kernel)) (by decide +kernel)
theorem q_i_X0_livingSheep : (Cond.instanceMethod yX0_livingSheep) ∈ TT := tt_r (List.mem_of_getElem? (i := 218) (by decide +kernel)) (by decide +kernel)
theorem q_s_X0_livingSheep : (Cond.selects RX0 yX0_livingSheep yX0_livingSheep) ∈ TT := tt_r (List.mem_of_getElem? (i := 219) (by decide +kernel)) (by decide +kernel)
theorem q_c_X0_livingSheep : (Cond.code yX0_livingSheep cX0_livingSheep 3 (some FieldType.int)) ∈ TT := tt_r (List.mem_of_getElem? (i := 220) (by decide +kernel)) (by decide +kernel)
theorem q_k_X4_114 : (Cond.classLink RX4 114 "java/lang/IndexOutOfBoundsException") ∈ TT := tt_r (List.mem_of_getElem? (i := 221) (by decide +kernel)) (by decide +kernel)
theorem q_m_X4_118 : (Cond.methodLink RX4 118 ⟨"java/lang/IndexOutOfBoundsException", "<init>", "(Ljava/lang/String;)V"⟩) ∈ TT := tt_r (List.mem_of_getElem? (i := 263) (by decide +kernel)) (by decide +kernel)
theorem q_m_X4_119 : (Cond.methodLink RX4 119 yX0_weatherAt) ∈ TT := tt_r (List.mem_of_getElem? (i := 289) (by decide +kernel)) (by decide +kernel)
theorem q_i_X0_weatherAt : (Cond.instanceMethod yX0_weatherAt) ∈ TT := tt_r (List.mem_of_getElem? (i := 290) (by decide +kernel)) (by decide +kernel)
theorem q_s_X0_weatherAt : (Cond.selects RX0 yX0_weatherAt yX0_weatherAt) ∈ TT := tt_r (List.mem_of_getElem? (i := 291) (by decide +kernel)) (by decide +kernel)
theorem q_c_X0_weatherAt : (Cond.code yX0_weatherAt cX0_weatherAt 2 (some (FieldType.object "DewPond$Weather"))) ∈ TT := tt_r (List.mem_of_getElem? (i := 292) (by decide +kernel)) (by decide +kernel)
theorem q_k_X0_68 : (Cond.classLink RX0 68 "java/lang/IndexOutOfBoundsException") ∈ TT := tt_r (List.mem_of_getElem? (i := 293) (by decide +kernel)) (by decide +kernel)
theorem q_m_X0_72 : (Cond.methodLink RX0 72 ⟨"java/lang/IndexOutOfBoundsException", "<init>", "(Ljava/lang/String;)V"⟩) ∈ TT := tt_r (List.mem_of_getElem? (i := 295) (by decide +kernel)) (by decide +kernel)
theorem q_m_X4_125 : (Cond.methodLink RX4 125 yX3_asNumber) ∈ TT := tt_r (List.mem_of_getElem? (i := 296) (by decide +kernel)) (by decide +kernel)
theorem q_i_X3_asNumber : (Cond.instanceMethod yX3_asNumber) ∈ TT := tt_r (List.mem_of_getElem? (i := 297) (by decide +kernel)) (by decide +kernel)
theorem q_s_X3_asNumber : (Cond.selects RX3 yX3_asNumber yX3_asNumber) ∈ TT := tt_r (List.mem_of_getElem? (i := 298) (by decide +kernel)) (by decide +kernel)
theorem q_c_X3_asNumber : (Cond.code yX3_asNumber cX3_asNumber 1 (some FieldType.int)) ∈ TT := tt_r (List.mem_of_getElem? (i := 299) (by decide +kernel)) (by decide +kernel)
theorem q_m_X4_231 : (Cond.methodLink RX4 231 yX4_pond) ∈ TT := tt_r (List.mem_of_getElem? (i := 300) (by decide +kernel)) (by decide +kernel)
theorem q_i_X4_pond : (Cond.instanceMethod yX4_pond) ∈ TT := tt_r (List.mem_of_getElem? (i := 301) (by decide +kernel)) (by decide +kernel)
theorem q_s_X4_pond : (Cond.selects RX4 yX4_pond yX4_pond) ∈ TT := tt_r (List.mem_of_getElem? (i := 302) (by decide +kernel)) (by decide +kernel)
theorem q_c_X4_pond : (Cond.code yX4_pond cX4_pond 4 (some FieldType.int)) ∈ TT := tt_r (List.mem_of_getElem? (i := 303) (by decide +kernel)) (by decide +kernel)
theorem q_m_X4_38 : (Cond.methodLink RX4 38 yX0_pondAt) ∈ TT := tt_r (List.mem_of_getElem? (i := 304) (by decide +kernel)) (by decide +kernel)
theorem q_i_X0_pondAt : (Cond.instanceMethod yX0_pondAt) ∈ TT := tt_r (List.mem_of_getElem? (i := 305) (by decide +kernel)) (by decide +kernel)
theorem q_s_X0_pondAt : (Cond.selects RX0 yX0_pondAt yX0_pondAt) ∈ TT := tt_r (List.mem_of_getElem? (i := 306) (by decide +kernel)) (by decide +kernel)
theorem q_c_X0_pondAt : (Cond.code yX0_pondAt cX0_pondAt 2 (some (FieldType.object "DewPond$Pond"))) ∈ TT := tt_r (List.mem_of_getElem? (i := 307) (by decide +kernel)) (by decide +kernel)
theorem q_m_X4_86 : (Cond.methodLink RX4 86 yX2_holds) ∈ TT := tt_r (List.mem_of_getElem? (i := 309) (by decide +kernel)) (by decide +kernel)
theorem q_m_X4_105 : (Cond.methodLink RX4 105 yX0_flocksAt) ∈ TT := tt_r (List.mem_of_getElem? (i := 310) (by decide +kernel)) (by decide +kernel)
theorem q_i_X0_flocksAt : (Cond.instanceMethod yX0_flocksAt) ∈ TT := tt_r (List.mem_of_getElem? (i := 311) (by decide +kernel)) (by decide +kernel)
theorem q_s_X0_flocksAt : (Cond.selects RX0 yX0_flocksAt yX0_flocksAt) ∈ TT := tt_r (List.mem_of_getElem? (i := 312) (by decide +kernel)) (by decide +kernel)
theorem q_c_X0_flocksAt : (Cond.code yX0_flocksAt cX0_flocksAt 4 (some FieldType.int)) ∈ TT := tt_r (List.mem_of_getElem? (i := 313) (by decide +kernel)) (by decide +kernel)
theorem q_m_X4_111 : (Cond.methodLink RX4 111 yX0_sourcesOf) ∈ TT := tt_r (List.mem_of_getElem? (i := 314) (by decide +kernel)) (by decide +kernel)
theorem q_i_X0_sourcesOf : (Cond.instanceMethod yX0_sourcesOf) ∈ TT := tt_r (List.mem_of_getElem? (i := 315) (by decide +kernel)) (by decide +kernel)
theorem q_s_X0_sourcesOf : (Cond.selects RX0 yX0_sourcesOf yX0_sourcesOf) ∈ TT := tt_r (List.mem_of_getElem? (i := 316) (by decide +kernel)) (by decide +kernel)
theorem q_c_X0_sourcesOf : (Cond.code yX0_sourcesOf cX0_sourcesOf 4 (some FieldType.int)) ∈ TT := tt_r (List.mem_of_getElem? (i := 317) (by decide +kernel)) (by decide +kernel)
theorem q_m_X0_210 : (Cond.methodLink RX0 210 yX0_runsDownTo) ∈ TT := tt_r (List.mem_of_getElem? (i := 318) (by decide +kernel)) (by decide +kernel)
theorem q_i_X0_runsDownTo : (Cond.instanceMethod yX0_runsDownTo) ∈ TT := tt_r (List.mem_of_getElem? (i := 320) (by decide +kernel)) (by decide +kernel)
theorem q_c_X0_runsDownTo : (Cond.code yX0_runsDownTo cX0_runsDownTo 5 (some FieldType.boolean)) ∈ TT := tt_r (List.mem_of_getElem? (i := 321) (by decide +kernel)) (by decide +kernel)
theorem q_m_X0_105 : (Cond.methodLink RX0 105 yX0_pondAt) ∈ TT := tt_r (List.mem_of_getElem? (i := 322) (by decide +kernel)) (by decide +kernel)
theorem q_m_X4_233 : (Cond.methodLink RX4 233 yX4_flock) ∈ TT := tt_r (List.mem_of_getElem? (i := 324) (by decide +kernel)) (by decide +kernel)
theorem q_i_X4_flock : (Cond.instanceMethod yX4_flock) ∈ TT := tt_r (List.mem_of_getElem? (i := 325) (by decide +kernel)) (by decide +kernel)
theorem q_s_X4_flock : (Cond.selects RX4 yX4_flock yX4_flock) ∈ TT := tt_r (List.mem_of_getElem? (i := 326) (by decide +kernel)) (by decide +kernel)
theorem q_c_X4_flock : (Cond.code yX4_flock cX4_flock 4 (some FieldType.int)) ∈ TT := tt_r (List.mem_of_getElem? (i := 327) (by decide +kernel)) (by decide +kernel)
theorem q_m_X4_146 : (Cond.methodLink RX4 146 yX0_flockAt) ∈ TT := tt_r (List.mem_of_getElem? (i := 328) (by decide +kernel)) (by decide +kernel)
theorem q_i_X0_flockAt : (Cond.instanceMethod yX0_flockAt) ∈ TT := tt_r (List.mem_of_getElem? (i := 329) (by decide +kernel)) (by decide +kernel)
theorem q_s_X0_flockAt : (Cond.selects RX0 yX0_flockAt yX0_flockAt) ∈ TT := tt_r (List.mem_of_getElem? (i := 330) (by decide +kernel)) (by decide +kernel)
theorem q_c_X0_flockAt : (Cond.code yX0_flockAt cX0_flockAt 2 (some (FieldType.object "DewPond$Flock"))) ∈ TT := tt_r (List.mem_of_getElem? (i := 331) (by decide +kernel)) (by decide +kernel)
theorem q_m_X4_150 : (Cond.methodLink RX4 150 yX1_isLost) ∈ TT := tt_r (List.mem_of_getElem? (i := 333) (by decide +kernel)) (by decide +kernel)
theorem q_m_L_78 : (Cond.methodLink RL 78 yL_dig) ∈ TT := tt_r (List.mem_of_getElem? (i := 335) (by decide +kernel)) (by decide +kernel)
theorem q_t_L_dig : (Cond.static yL_dig) ∈ TT := tt_r (List.mem_of_getElem? (i := 336) (by decide +kernel)) (by decide +kernel)
theorem q_k_L_13 : (Cond.classLink RL 13 "java/lang/IllegalArgumentException") ∈ TT := tt_r (List.mem_of_getElem? (i := 338) (by decide +kernel)) (by decide +kernel)
theorem q_k_L_15 : (Cond.classLink RL 15 "java/lang/IllegalStateException") ∈ TT := tt_r (List.mem_of_getElem? (i := 339) (by decide +kernel)) (by decide +kernel)
theorem q_m_L_7 : (Cond.methodLink RL 7 yX4_dig) ∈ TT := tt_r (List.mem_of_getElem? (i := 340) (by decide +kernel)) (by decide +kernel)
theorem q_i_X4_dig : (Cond.instanceMethod yX4_dig) ∈ TT := tt_r (List.mem_of_getElem? (i := 341) (by decide +kernel)) (by decide +kernel)
theorem q_s_X4_dig : (Cond.selects RX4 yX4_dig yX4_dig) ∈ TT := tt_r (List.mem_of_getElem? (i := 342) (by decide +kernel)) (by decide +kernel)
theorem q_c_X4_dig : (Cond.code yX4_dig cX4_dig 6 (some FieldType.int)) ∈ TT := tt_r (List.mem_of_getElem? (i := 343) (by decide +kernel)) (by decide +kernel)
theorem q_m_X4_21 : (Cond.methodLink RX4 21 yX4_isWithin) ∈ TT := tt_r (List.mem_of_getElem? (i := 344) (by decide +kernel)) (by decide +kernel)
theorem q_t_X4_isWithin : (Cond.static yX4_isWithin) ∈ TT := tt_r (List.mem_of_getElem? (i := 345) (by decide +kernel)) (by decide +kernel)
theorem q_c_X4_isWithin : (Cond.code yX4_isWithin cX4_isWithin 3 (some FieldType.boolean)) ∈ TT := tt_r (List.mem_of_getElem? (i := 346) (by decide +kernel)) (by decide +kernel)
theorem q_k_X4_25 : (Cond.classLink RX4 25 "java/lang/IllegalArgumentException") ∈ TT := tt_r (List.mem_of_getElem? (i := 347) (by decide +kernel)) (by decide +kernel)
theorem q_m_X4_29 : (Cond.methodLink RX4 29 ⟨"java/lang/IllegalArgumentException", "<init>", "(Ljava/lang/String;)V"⟩) ∈ TT := tt_r (List.mem_of_getElem? (i := 357) (by decide +kernel)) (by decide +kernel)
theorem q_m_X4_34 : (Cond.methodLink RX4 34 yX0_makePond) ∈ TT := tt_r (List.mem_of_getElem? (i := 364) (by decide +kernel)) (by decide +kernel)
theorem q_i_X0_makePond : (Cond.instanceMethod yX0_makePond) ∈ TT := tt_r (List.mem_of_getElem? (i := 365) (by decide +kernel)) (by decide +kernel)
theorem q_s_X0_makePond : (Cond.selects RX0 yX0_makePond yX0_makePond) ∈ TT := tt_r (List.mem_of_getElem? (i := 366) (by decide +kernel)) (by decide +kernel)
theorem q_c_X0_makePond : (Cond.code yX0_makePond cX0_makePond 9 (some FieldType.int)) ∈ TT := tt_r (List.mem_of_getElem? (i := 367) (by decide +kernel)) (by decide +kernel)
theorem q_k_X0_79 : (Cond.classLink RX0 79 "java/lang/IllegalStateException") ∈ TT := tt_r (List.mem_of_getElem? (i := 368) (by decide +kernel)) (by decide +kernel)
theorem q_m_X0_83 : (Cond.methodLink RX0 83 ⟨"java/lang/IllegalStateException", "<init>", "(Ljava/lang/String;)V"⟩) ∈ TT := tt_r (List.mem_of_getElem? (i := 378) (by decide +kernel)) (by decide +kernel)
theorem q_m_X0_84 : (Cond.methodLink RX0 84 yX0_isTaken) ∈ TT := tt_r (List.mem_of_getElem? (i := 384) (by decide +kernel)) (by decide +kernel)
theorem q_i_X0_isTaken : (Cond.instanceMethod yX0_isTaken) ∈ TT := tt_r (List.mem_of_getElem? (i := 386) (by decide +kernel)) (by decide +kernel)
theorem q_c_X0_isTaken : (Cond.code yX0_isTaken cX0_isTaken 4 (some FieldType.boolean)) ∈ TT := tt_r (List.mem_of_getElem? (i := 387) (by decide +kernel)) (by decide +kernel)
theorem q_m_L_88 : (Cond.methodLink RL 88 yL_link) ∈ TT := tt_r (List.mem_of_getElem? (i := 389) (by decide +kernel)) (by decide +kernel)
theorem q_t_L_link : (Cond.static yL_link) ∈ TT := tt_r (List.mem_of_getElem? (i := 390) (by decide +kernel)) (by decide +kernel)
theorem q_k_L_21 : (Cond.classLink RL 21 "java/lang/IndexOutOfBoundsException") ∈ TT := tt_r (List.mem_of_getElem? (i := 392) (by decide +kernel)) (by decide +kernel)
theorem q_m_L_17 : (Cond.methodLink RL 17 yX4_link) ∈ TT := tt_r (List.mem_of_getElem? (i := 393) (by decide +kernel)) (by decide +kernel)
theorem q_i_X4_link : (Cond.instanceMethod yX4_link) ∈ TT := tt_r (List.mem_of_getElem? (i := 394) (by decide +kernel)) (by decide +kernel)
theorem q_s_X4_link : (Cond.selects RX4 yX4_link yX4_link) ∈ TT := tt_r (List.mem_of_getElem? (i := 395) (by decide +kernel)) (by decide +kernel)
theorem q_c_X4_link : (Cond.code yX4_link cX4_link 5 (some FieldType.int)) ∈ TT := tt_r (List.mem_of_getElem? (i := 396) (by decide +kernel)) (by decide +kernel)
theorem q_m_L_92 : (Cond.methodLink RL 92 yL_puddle) ∈ TT := tt_r (List.mem_of_getElem? (i := 398) (by decide +kernel)) (by decide +kernel)
theorem q_t_L_puddle : (Cond.static yL_puddle) ∈ TT := tt_r (List.mem_of_getElem? (i := 399) (by decide +kernel)) (by decide +kernel)
theorem q_m_L_23 : (Cond.methodLink RL 23 yX4_puddle) ∈ TT := tt_r (List.mem_of_getElem? (i := 401) (by decide +kernel)) (by decide +kernel)
theorem q_i_X4_puddle : (Cond.instanceMethod yX4_puddle) ∈ TT := tt_r (List.mem_of_getElem? (i := 402) (by decide +kernel)) (by decide +kernel)
theorem q_s_X4_puddle : (Cond.selects RX4 yX4_puddle yX4_puddle) ∈ TT := tt_r (List.mem_of_getElem? (i := 403) (by decide +kernel)) (by decide +kernel)
theorem q_c_X4_puddle : (Cond.code yX4_puddle cX4_puddle 5 (some FieldType.int)) ∈ TT := tt_r (List.mem_of_getElem? (i := 404) (by decide +kernel)) (by decide +kernel)
theorem q_m_X4_55 : (Cond.methodLink RX4 55 yX2_isLowEnoughToPuddle) ∈ TT := tt_r (List.mem_of_getElem? (i := 406) (by decide +kernel)) (by decide +kernel)
theorem q_i_X2_isLowEnoughToPuddle : (Cond.instanceMethod yX2_isLowEnoughToPuddle) ∈ TT := tt_r (List.mem_of_getElem? (i := 407) (by decide +kernel)) (by decide +kernel)
theorem q_s_X2_isLowEnoughToPuddle : (Cond.selects RX2 yX2_isLowEnoughToPuddle yX2_isLowEnoughToPuddle) ∈ TT := tt_r (List.mem_of_getElem? (i := 408) (by decide +kernel)) (by decide +kernel)
theorem q_c_X2_isLowEnoughToPuddle : (Cond.code yX2_isLowEnoughToPuddle cX2_isLowEnoughToPuddle 1 (some FieldType.boolean)) ∈ TT := tt_r (List.mem_of_getElem? (i := 409) (by decide +kernel)) (by decide +kernel)
theorem q_m_X2_49 : (Cond.methodLink RX2 49 yX2_holds) ∈ TT := tt_r (List.mem_of_getElem? (i := 410) (by decide +kernel)) (by decide +kernel)
theorem q_k_X4_59 : (Cond.classLink RX4 59 "java/lang/IllegalStateException") ∈ TT := tt_r (List.mem_of_getElem? (i := 411) (by decide +kernel)) (by decide +kernel)
theorem q_m_X4_63 : (Cond.methodLink RX4 63 ⟨"java/lang/IllegalStateException", "<init>", "(Ljava/lang/String;)V"⟩) ∈ TT := tt_r (List.mem_of_getElem? (i := 413) (by decide +kernel)) (by decide +kernel)
theorem q_m_X4_67 : (Cond.methodLink RX4 67 Lib.Math.min.name) ∈ TT := tt_r (List.mem_of_getElem? (i := 414) (by decide +kernel)) (by decide +kernel)
theorem q_t_J_min : (Cond.static Lib.Math.min.name) ∈ TT := tt_r (List.mem_of_getElem? (i := 415) (by decide +kernel)) (by decide +kernel)
theorem q_c_J_min : (Cond.code Lib.Math.min.name Lib.Math.min.code 2 (some FieldType.int)) ∈ TT := tt_r (List.mem_of_getElem? (i := 416) (by decide +kernel)) (by decide +kernel)
theorem q_m_X4_73 : (Cond.methodLink RX4 73 yX2_lineWith) ∈ TT := tt_r (List.mem_of_getElem? (i := 417) (by decide +kernel)) (by decide +kernel)
theorem q_i_X2_lineWith : (Cond.instanceMethod yX2_lineWith) ∈ TT := tt_r (List.mem_of_getElem? (i := 418) (by decide +kernel)) (by decide +kernel)
theorem q_s_X2_lineWith : (Cond.selects RX2 yX2_lineWith yX2_lineWith) ∈ TT := tt_r (List.mem_of_getElem? (i := 419) (by decide +kernel)) (by decide +kernel)
theorem q_c_X2_lineWith : (Cond.code yX2_lineWith cX2_lineWith 3 (some FieldType.int)) ∈ TT := tt_r (List.mem_of_getElem? (i := 420) (by decide +kernel)) (by decide +kernel)
theorem q_m_X2_53 : (Cond.methodLink RX2 53 Lib.Math.min.name) ∈ TT := tt_r (List.mem_of_getElem? (i := 421) (by decide +kernel)) (by decide +kernel)
theorem q_m_L_95 : (Cond.methodLink RL 95 yL_strew) ∈ TT := tt_r (List.mem_of_getElem? (i := 422) (by decide +kernel)) (by decide +kernel)
theorem q_t_L_strew : (Cond.static yL_strew) ∈ TT := tt_r (List.mem_of_getElem? (i := 423) (by decide +kernel)) (by decide +kernel)
theorem q_m_L_26 : (Cond.methodLink RL 26 yX4_strew) ∈ TT := tt_r (List.mem_of_getElem? (i := 425) (by decide +kernel)) (by decide +kernel)
theorem q_i_X4_strew : (Cond.instanceMethod yX4_strew) ∈ TT := tt_r (List.mem_of_getElem? (i := 426) (by decide +kernel)) (by decide +kernel)
theorem q_s_X4_strew : (Cond.selects RX4 yX4_strew yX4_strew) ∈ TT := tt_r (List.mem_of_getElem? (i := 427) (by decide +kernel)) (by decide +kernel)
theorem q_c_X4_strew : (Cond.code yX4_strew cX4_strew 5 (some FieldType.boolean)) ∈ TT := tt_r (List.mem_of_getElem? (i := 428) (by decide +kernel)) (by decide +kernel)
theorem q_m_L_99 : (Cond.methodLink RL 99 yL_pour) ∈ TT := tt_r (List.mem_of_getElem? (i := 429) (by decide +kernel)) (by decide +kernel)
theorem q_t_L_pour : (Cond.static yL_pour) ∈ TT := tt_r (List.mem_of_getElem? (i := 430) (by decide +kernel)) (by decide +kernel)
theorem q_m_L_30 : (Cond.methodLink RL 30 yX4_pour) ∈ TT := tt_r (List.mem_of_getElem? (i := 432) (by decide +kernel)) (by decide +kernel)
theorem q_i_X4_pour : (Cond.instanceMethod yX4_pour) ∈ TT := tt_r (List.mem_of_getElem? (i := 433) (by decide +kernel)) (by decide +kernel)
theorem q_s_X4_pour : (Cond.selects RX4 yX4_pour yX4_pour) ∈ TT := tt_r (List.mem_of_getElem? (i := 434) (by decide +kernel)) (by decide +kernel)
theorem q_c_X4_pour : (Cond.code yX4_pour cX4_pour 4 (some FieldType.int)) ∈ TT := tt_r (List.mem_of_getElem? (i := 435) (by decide +kernel)) (by decide +kernel)
theorem q_m_X4_90 : (Cond.methodLink RX4 90 Lib.Math.max.name) ∈ TT := tt_r (List.mem_of_getElem? (i := 437) (by decide +kernel)) (by decide +kernel)
theorem q_m_L_102 : (Cond.methodLink RL 102 yL_pond) ∈ TT := tt_r (List.mem_of_getElem? (i := 438) (by decide +kernel)) (by decide +kernel)
theorem q_t_L_pond : (Cond.static yL_pond) ∈ TT := tt_r (List.mem_of_getElem? (i := 439) (by decide +kernel)) (by decide +kernel)
theorem q_m_L_33 : (Cond.methodLink RL 33 yX4_pond) ∈ TT := tt_r (List.mem_of_getElem? (i := 441) (by decide +kernel)) (by decide +kernel)
theorem q_m_L_105 : (Cond.methodLink RL 105 yL_setWeather) ∈ TT := tt_r (List.mem_of_getElem? (i := 442) (by decide +kernel)) (by decide +kernel)
theorem q_t_L_setWeather : (Cond.static yL_setWeather) ∈ TT := tt_r (List.mem_of_getElem? (i := 443) (by decide +kernel)) (by decide +kernel)
theorem q_m_L_36 : (Cond.methodLink RL 36 yX4_setWeather) ∈ TT := tt_r (List.mem_of_getElem? (i := 445) (by decide +kernel)) (by decide +kernel)
theorem q_i_X4_setWeather : (Cond.instanceMethod yX4_setWeather) ∈ TT := tt_r (List.mem_of_getElem? (i := 446) (by decide +kernel)) (by decide +kernel)
theorem q_s_X4_setWeather : (Cond.selects RX4 yX4_setWeather yX4_setWeather) ∈ TT := tt_r (List.mem_of_getElem? (i := 447) (by decide +kernel)) (by decide +kernel)
theorem q_c_X4_setWeather : (Cond.code yX4_setWeather cX4_setWeather 7 (some FieldType.int)) ∈ TT := tt_r (List.mem_of_getElem? (i := 448) (by decide +kernel)) (by decide +kernel)
theorem q_m_L_109 : (Cond.methodLink RL 109 yL_bring) ∈ TT := tt_r (List.mem_of_getElem? (i := 450) (by decide +kernel)) (by decide +kernel)
theorem q_t_L_bring : (Cond.static yL_bring) ∈ TT := tt_r (List.mem_of_getElem? (i := 451) (by decide +kernel)) (by decide +kernel)
theorem q_m_L_40 : (Cond.methodLink RL 40 yX4_bring) ∈ TT := tt_r (List.mem_of_getElem? (i := 453) (by decide +kernel)) (by decide +kernel)
theorem q_i_X4_bring : (Cond.instanceMethod yX4_bring) ∈ TT := tt_r (List.mem_of_getElem? (i := 454) (by decide +kernel)) (by decide +kernel)
theorem q_s_X4_bring : (Cond.selects RX4 yX4_bring yX4_bring) ∈ TT := tt_r (List.mem_of_getElem? (i := 455) (by decide +kernel)) (by decide +kernel)
theorem q_c_X4_bring : (Cond.code yX4_bring cX4_bring 2 (some FieldType.int)) ∈ TT := tt_r (List.mem_of_getElem? (i := 456) (by decide +kernel)) (by decide +kernel)
theorem q_m_L_113 : (Cond.methodLink RL 113 yL_addFlock) ∈ TT := tt_r (List.mem_of_getElem? (i := 458) (by decide +kernel)) (by decide +kernel)
theorem q_t_L_addFlock : (Cond.static yL_addFlock) ∈ TT := tt_r (List.mem_of_getElem? (i := 459) (by decide +kernel)) (by decide +kernel)
theorem q_m_L_44 : (Cond.methodLink RL 44 yX4_addFlock) ∈ TT := tt_r (List.mem_of_getElem? (i := 461) (by decide +kernel)) (by decide +kernel)
theorem q_i_X4_addFlock : (Cond.instanceMethod yX4_addFlock) ∈ TT := tt_r (List.mem_of_getElem? (i := 462) (by decide +kernel)) (by decide +kernel)
theorem q_s_X4_addFlock : (Cond.selects RX4 yX4_addFlock yX4_addFlock) ∈ TT := tt_r (List.mem_of_getElem? (i := 463) (by decide +kernel)) (by decide +kernel)
theorem q_c_X4_addFlock : (Cond.code yX4_addFlock cX4_addFlock 3 (some FieldType.int)) ∈ TT := tt_r (List.mem_of_getElem? (i := 464) (by decide +kernel)) (by decide +kernel)
theorem q_m_X4_143 : (Cond.methodLink RX4 143 yX0_makeFlock) ∈ TT := tt_r (List.mem_of_getElem? (i := 466) (by decide +kernel)) (by decide +kernel)
theorem q_i_X0_makeFlock : (Cond.instanceMethod yX0_makeFlock) ∈ TT := tt_r (List.mem_of_getElem? (i := 467) (by decide +kernel)) (by decide +kernel)
theorem q_s_X0_makeFlock : (Cond.selects RX0 yX0_makeFlock yX0_makeFlock) ∈ TT := tt_r (List.mem_of_getElem? (i := 468) (by decide +kernel)) (by decide +kernel)
theorem q_c_X0_makeFlock : (Cond.code yX0_makeFlock cX0_makeFlock 4 (some FieldType.int)) ∈ TT := tt_r (List.mem_of_getElem? (i := 469) (by decide +kernel)) (by decide +kernel)
theorem q_m_X0_111 : (Cond.methodLink RX0 111 yX1_startAt) ∈ TT := tt_r (List.mem_of_getElem? (i := 471) (by decide +kernel)) (by decide +kernel)
theorem q_i_X1_startAt : (Cond.instanceMethod yX1_startAt) ∈ TT := tt_r (List.mem_of_getElem? (i := 472) (by decide +kernel)) (by decide +kernel)
theorem q_s_X1_startAt : (Cond.selects RX1 yX1_startAt yX1_startAt) ∈ TT := tt_r (List.mem_of_getElem? (i := 473) (by decide +kernel)) (by decide +kernel)
theorem q_c_X1_startAt : (Cond.code yX1_startAt cX1_startAt 3 none) ∈ TT := tt_r (List.mem_of_getElem? (i := 474) (by decide +kernel)) (by decide +kernel)
theorem q_m_L_116 : (Cond.methodLink RL 116 yL_drive) ∈ TT := tt_r (List.mem_of_getElem? (i := 475) (by decide +kernel)) (by decide +kernel)
theorem q_t_L_drive : (Cond.static yL_drive) ∈ TT := tt_r (List.mem_of_getElem? (i := 476) (by decide +kernel)) (by decide +kernel)
theorem q_m_L_47 : (Cond.methodLink RL 47 yX4_drive) ∈ TT := tt_r (List.mem_of_getElem? (i := 478) (by decide +kernel)) (by decide +kernel)
theorem q_i_X4_drive : (Cond.instanceMethod yX4_drive) ∈ TT := tt_r (List.mem_of_getElem? (i := 479) (by decide +kernel)) (by decide +kernel)
theorem q_s_X4_drive : (Cond.selects RX4 yX4_drive yX4_drive) ∈ TT := tt_r (List.mem_of_getElem? (i := 480) (by decide +kernel)) (by decide +kernel)
theorem q_c_X4_drive : (Cond.code yX4_drive cX4_drive 6 (some FieldType.int)) ∈ TT := tt_r (List.mem_of_getElem? (i := 481) (by decide +kernel)) (by decide +kernel)
theorem q_m_X4_160 : (Cond.methodLink RX4 160 yX2_distanceTo) ∈ TT := tt_r (List.mem_of_getElem? (i := 483) (by decide +kernel)) (by decide +kernel)
theorem q_i_X2_distanceTo : (Cond.instanceMethod yX2_distanceTo) ∈ TT := tt_r (List.mem_of_getElem? (i := 484) (by decide +kernel)) (by decide +kernel)
theorem q_s_X2_distanceTo : (Cond.selects RX2 yX2_distanceTo yX2_distanceTo) ∈ TT := tt_r (List.mem_of_getElem? (i := 485) (by decide +kernel)) (by decide +kernel)
theorem q_c_X2_distanceTo : (Cond.code yX2_distanceTo cX2_distanceTo 2 (some FieldType.int)) ∈ TT := tt_r (List.mem_of_getElem? (i := 486) (by decide +kernel)) (by decide +kernel)
theorem q_m_X2_43 : (Cond.methodLink RX2 43 Lib.Math.abs.name) ∈ TT := tt_r (List.mem_of_getElem? (i := 487) (by decide +kernel)) (by decide +kernel)
theorem q_t_J_abs : (Cond.static Lib.Math.abs.name) ∈ TT := tt_r (List.mem_of_getElem? (i := 488) (by decide +kernel)) (by decide +kernel)
theorem q_c_J_abs : (Cond.code Lib.Math.abs.name Lib.Math.abs.code 1 (some FieldType.int)) ∈ TT := tt_r (List.mem_of_getElem? (i := 489) (by decide +kernel)) (by decide +kernel)
theorem q_m_L_119 : (Cond.methodLink RL 119 yL_setRoams) ∈ TT := tt_r (List.mem_of_getElem? (i := 490) (by decide +kernel)) (by decide +kernel)
theorem q_t_L_setRoams : (Cond.static yL_setRoams) ∈ TT := tt_r (List.mem_of_getElem? (i := 491) (by decide +kernel)) (by decide +kernel)
theorem q_m_L_50 : (Cond.methodLink RL 50 yX4_setRoams) ∈ TT := tt_r (List.mem_of_getElem? (i := 493) (by decide +kernel)) (by decide +kernel)
theorem q_i_X4_setRoams : (Cond.instanceMethod yX4_setRoams) ∈ TT := tt_r (List.mem_of_getElem? (i := 494) (by decide +kernel)) (by decide +kernel)
theorem q_s_X4_setRoams : (Cond.selects RX4 yX4_setRoams yX4_setRoams) ∈ TT := tt_r (List.mem_of_getElem? (i := 495) (by decide +kernel)) (by decide +kernel)
theorem q_c_X4_setRoams : (Cond.code yX4_setRoams cX4_setRoams 5 (some FieldType.boolean)) ∈ TT := tt_r (List.mem_of_getElem? (i := 496) (by decide +kernel)) (by decide +kernel)
theorem q_m_L_122 : (Cond.methodLink RL 122 yL_flock) ∈ TT := tt_r (List.mem_of_getElem? (i := 497) (by decide +kernel)) (by decide +kernel)
theorem q_t_L_flock : (Cond.static yL_flock) ∈ TT := tt_r (List.mem_of_getElem? (i := 498) (by decide +kernel)) (by decide +kernel)
theorem q_m_L_53 : (Cond.methodLink RL 53 yX4_flock) ∈ TT := tt_r (List.mem_of_getElem? (i := 500) (by decide +kernel)) (by decide +kernel)
theorem q_m_L_125 : (Cond.methodLink RL 125 yL_pass) ∈ TT := tt_r (List.mem_of_getElem? (i := 501) (by decide +kernel)) (by decide +kernel)
theorem q_t_L_pass : (Cond.static yL_pass) ∈ TT := tt_r (List.mem_of_getElem? (i := 502) (by decide +kernel)) (by decide +kernel)
theorem q_m_L_56 : (Cond.methodLink RL 56 yX4_pass) ∈ TT := tt_r (List.mem_of_getElem? (i := 504) (by decide +kernel)) (by decide +kernel)
theorem q_i_X4_pass : (Cond.instanceMethod yX4_pass) ∈ TT := tt_r (List.mem_of_getElem? (i := 505) (by decide +kernel)) (by decide +kernel)
theorem q_s_X4_pass : (Cond.selects RX4 yX4_pass yX4_pass) ∈ TT := tt_r (List.mem_of_getElem? (i := 506) (by decide +kernel)) (by decide +kernel)
theorem q_c_X4_pass : (Cond.code yX4_pass cX4_pass 2 (some FieldType.int)) ∈ TT := tt_r (List.mem_of_getElem? (i := 507) (by decide +kernel)) (by decide +kernel)
theorem q_m_X4_180 : (Cond.methodLink RX4 180 yX0_liveDays) ∈ TT := tt_r (List.mem_of_getElem? (i := 509) (by decide +kernel)) (by decide +kernel)
theorem q_i_X0_liveDays : (Cond.instanceMethod yX0_liveDays) ∈ TT := tt_r (List.mem_of_getElem? (i := 510) (by decide +kernel)) (by decide +kernel)
theorem q_s_X0_liveDays : (Cond.selects RX0 yX0_liveDays yX0_liveDays) ∈ TT := tt_r (List.mem_of_getElem? (i := 511) (by decide +kernel)) (by decide +kernel)
theorem q_c_X0_liveDays : (Cond.code yX0_liveDays cX0_liveDays 4 (some FieldType.int)) ∈ TT := tt_r (List.mem_of_getElem? (i := 512) (by decide +kernel)) (by decide +kernel)
theorem q_m_X0_115 : (Cond.methodLink RX0 115 yX0_liveDay) ∈ TT := tt_r (List.mem_of_getElem? (i := 513) (by decide +kernel)) (by decide +kernel)
theorem q_i_X0_liveDay : (Cond.instanceMethod yX0_liveDay) ∈ TT := tt_r (List.mem_of_getElem? (i := 514) (by decide +kernel)) (by decide +kernel)
theorem q_s_X0_liveDay : (Cond.selects RX0 yX0_liveDay yX0_liveDay) ∈ TT := tt_r (List.mem_of_getElem? (i := 515) (by decide +kernel)) (by decide +kernel)
theorem q_c_X0_liveDay : (Cond.code yX0_liveDay cX0_liveDay 5 (some FieldType.int)) ∈ TT := tt_r (List.mem_of_getElem? (i := 516) (by decide +kernel)) (by decide +kernel)
theorem q_m_X0_119 : (Cond.methodLink RX0 119 yJ9_floorMod_7cf53) ∈ TT := tt_r (List.mem_of_getElem? (i := 517) (by decide +kernel)) (by decide +kernel)
theorem q_t_J9_floorMod_7cf53 : (Cond.static yJ9_floorMod_7cf53) ∈ TT := tt_r (List.mem_of_getElem? (i := 518) (by decide +kernel)) (by decide +kernel)
theorem q_c_J9_floorMod_7cf53 : (Cond.code yJ9_floorMod_7cf53 cJ9_floorMod_7cf53 3 (some FieldType.int)) ∈ TT := tt_r (List.mem_of_getElem? (i := 519) (by decide +kernel)) (by decide +kernel)
theorem q_m_X0_122 : (Cond.methodLink RX0 122 yX0_weatherAt) ∈ TT := tt_r (List.mem_of_getElem? (i := 520) (by decide +kernel)) (by decide +kernel)
theorem q_m_X0_129 : (Cond.methodLink RX0 129 yX2_takeMist) ∈ TT := tt_r (List.mem_of_getElem? (i := 521) (by decide +kernel)) (by decide +kernel)
theorem q_i_X2_takeMist : (Cond.instanceMethod yX2_takeMist) ∈ TT := tt_r (List.mem_of_getElem? (i := 522) (by decide +kernel)) (by decide +kernel)
theorem q_s_X2_takeMist : (Cond.selects RX2 yX2_takeMist yX2_takeMist) ∈ TT := tt_r (List.mem_of_getElem? (i := 523) (by decide +kernel)) (by decide +kernel)
theorem q_c_X2_takeMist : (Cond.code yX2_takeMist cX2_takeMist 3 none) ∈ TT := tt_r (List.mem_of_getElem? (i := 524) (by decide +kernel)) (by decide +kernel)
theorem q_m_X0_136 : (Cond.methodLink RX0 136 yX2_takeRain) ∈ TT := tt_r (List.mem_of_getElem? (i := 525) (by decide +kernel)) (by decide +kernel)
theorem q_i_X2_takeRain : (Cond.instanceMethod yX2_takeRain) ∈ TT := tt_r (List.mem_of_getElem? (i := 526) (by decide +kernel)) (by decide +kernel)
theorem q_s_X2_takeRain : (Cond.selects RX2 yX2_takeRain yX2_takeRain) ∈ TT := tt_r (List.mem_of_getElem? (i := 527) (by decide +kernel)) (by decide +kernel)
theorem q_c_X2_takeRain : (Cond.code yX2_takeRain cX2_takeRain 2 none) ∈ TT := tt_r (List.mem_of_getElem? (i := 528) (by decide +kernel)) (by decide +kernel)
theorem q_m_X0_139 : (Cond.methodLink RX0 139 yX0_waterFlocks) ∈ TT := tt_r (List.mem_of_getElem? (i := 529) (by decide +kernel)) (by decide +kernel)
theorem q_i_X0_waterFlocks : (Cond.instanceMethod yX0_waterFlocks) ∈ TT := tt_r (List.mem_of_getElem? (i := 531) (by decide +kernel)) (by decide +kernel)
theorem q_c_X0_waterFlocks : (Cond.code yX0_waterFlocks cX0_waterFlocks 6 (some FieldType.int)) ∈ TT := tt_r (List.mem_of_getElem? (i := 532) (by decide +kernel)) (by decide +kernel)
theorem q_m_X0_168 : (Cond.methodLink RX0 168 yX0_nearestWaterFor) ∈ TT := tt_r (List.mem_of_getElem? (i := 533) (by decide +kernel)) (by decide +kernel)
theorem q_i_X0_nearestWaterFor : (Cond.instanceMethod yX0_nearestWaterFor) ∈ TT := tt_r (List.mem_of_getElem? (i := 535) (by decide +kernel)) (by decide +kernel)
theorem q_c_X0_nearestWaterFor : (Cond.code yX0_nearestWaterFor cX0_nearestWaterFor 7 (some FieldType.int)) ∈ TT := tt_r (List.mem_of_getElem? (i := 536) (by decide +kernel)) (by decide +kernel)
theorem q_m_X0_175 : (Cond.methodLink RX0 175 yX1_need) ∈ TT := tt_r (List.mem_of_getElem? (i := 537) (by decide +kernel)) (by decide +kernel)
theorem q_i_X1_need : (Cond.instanceMethod yX1_need) ∈ TT := tt_r (List.mem_of_getElem? (i := 538) (by decide +kernel)) (by decide +kernel)
theorem q_s_X1_need : (Cond.selects RX1 yX1_need yX1_need) ∈ TT := tt_r (List.mem_of_getElem? (i := 539) (by decide +kernel)) (by decide +kernel)
theorem q_c_X1_need : (Cond.code yX1_need cX1_need 1 (some FieldType.int)) ∈ TT := tt_r (List.mem_of_getElem? (i := 540) (by decide +kernel)) (by decide +kernel)
theorem q_d_X0_196 : (Cond.constant RX0 196 (2147483647 : Int32)) ∈ TT := tt_r (List.mem_of_getElem? (i := 541) (by decide +kernel)) (by decide +kernel)
theorem q_m_X0_197 : (Cond.methodLink RX0 197 yX2_distanceTo) ∈ TT := tt_r (List.mem_of_getElem? (i := 542) (by decide +kernel)) (by decide +kernel)
theorem q_m_X0_178 : (Cond.methodLink RX0 178 yX2_giveDrink) ∈ TT := tt_r (List.mem_of_getElem? (i := 543) (by decide +kernel)) (by decide +kernel)
theorem q_i_X2_giveDrink : (Cond.instanceMethod yX2_giveDrink) ∈ TT := tt_r (List.mem_of_getElem? (i := 544) (by decide +kernel)) (by decide +kernel)
theorem q_s_X2_giveDrink : (Cond.selects RX2 yX2_giveDrink yX2_giveDrink) ∈ TT := tt_r (List.mem_of_getElem? (i := 545) (by decide +kernel)) (by decide +kernel)
theorem q_c_X2_giveDrink : (Cond.code yX2_giveDrink cX2_giveDrink 3 (some FieldType.int)) ∈ TT := tt_r (List.mem_of_getElem? (i := 546) (by decide +kernel)) (by decide +kernel)
theorem q_m_X0_182 : (Cond.methodLink RX0 182 yX1_drink) ∈ TT := tt_r (List.mem_of_getElem? (i := 547) (by decide +kernel)) (by decide +kernel)
theorem q_i_X1_drink : (Cond.instanceMethod yX1_drink) ∈ TT := tt_r (List.mem_of_getElem? (i := 548) (by decide +kernel)) (by decide +kernel)
theorem q_s_X1_drink : (Cond.selects RX1 yX1_drink yX1_drink) ∈ TT := tt_r (List.mem_of_getElem? (i := 549) (by decide +kernel)) (by decide +kernel)
theorem q_c_X1_drink : (Cond.code yX1_drink cX1_drink 2 none) ∈ TT := tt_r (List.mem_of_getElem? (i := 550) (by decide +kernel)) (by decide +kernel)
theorem q_m_X1_28 : (Cond.methodLink RX1 28 yX1_need) ∈ TT := tt_r (List.mem_of_getElem? (i := 551) (by decide +kernel)) (by decide +kernel)
theorem q_m_X1_32 : (Cond.methodLink RX1 32 Lib.Math.max.name) ∈ TT := tt_r (List.mem_of_getElem? (i := 552) (by decide +kernel)) (by decide +kernel)
theorem q_m_X1_38 : (Cond.methodLink RX1 38 Lib.Math.min.name) ∈ TT := tt_r (List.mem_of_getElem? (i := 553) (by decide +kernel)) (by decide +kernel)
theorem q_m_X0_188 : (Cond.methodLink RX0 188 yX2_treadBy) ∈ TT := tt_r (List.mem_of_getElem? (i := 554) (by decide +kernel)) (by decide +kernel)
theorem q_i_X2_treadBy : (Cond.instanceMethod yX2_treadBy) ∈ TT := tt_r (List.mem_of_getElem? (i := 555) (by decide +kernel)) (by decide +kernel)
theorem q_s_X2_treadBy : (Cond.selects RX2 yX2_treadBy yX2_treadBy) ∈ TT := tt_r (List.mem_of_getElem? (i := 556) (by decide +kernel)) (by decide +kernel)
theorem q_c_X2_treadBy : (Cond.code yX2_treadBy cX2_treadBy 2 none) ∈ TT := tt_r (List.mem_of_getElem? (i := 557) (by decide +kernel)) (by decide +kernel)
theorem q_m_X2_57 : (Cond.methodLink RX2 57 Lib.Math.max.name) ∈ TT := tt_r (List.mem_of_getElem? (i := 558) (by decide +kernel)) (by decide +kernel)
theorem q_m_X0_145 : (Cond.methodLink RX0 145 yX2_dryBy) ∈ TT := tt_r (List.mem_of_getElem? (i := 559) (by decide +kernel)) (by decide +kernel)
theorem q_i_X2_dryBy : (Cond.instanceMethod yX2_dryBy) ∈ TT := tt_r (List.mem_of_getElem? (i := 560) (by decide +kernel)) (by decide +kernel)
theorem q_s_X2_dryBy : (Cond.selects RX2 yX2_dryBy yX2_dryBy) ∈ TT := tt_r (List.mem_of_getElem? (i := 561) (by decide +kernel)) (by decide +kernel)
theorem q_c_X2_dryBy : (Cond.code yX2_dryBy cX2_dryBy 3 none) ∈ TT := tt_r (List.mem_of_getElem? (i := 562) (by decide +kernel)) (by decide +kernel)
theorem q_m_X0_148 : (Cond.methodLink RX0 148 yX2_leak) ∈ TT := tt_r (List.mem_of_getElem? (i := 563) (by decide +kernel)) (by decide +kernel)
theorem q_i_X2_leak : (Cond.instanceMethod yX2_leak) ∈ TT := tt_r (List.mem_of_getElem? (i := 564) (by decide +kernel)) (by decide +kernel)
theorem q_s_X2_leak : (Cond.selects RX2 yX2_leak yX2_leak) ∈ TT := tt_r (List.mem_of_getElem? (i := 565) (by decide +kernel)) (by decide +kernel)
theorem q_c_X2_leak : (Cond.code yX2_leak cX2_leak 1 none) ∈ TT := tt_r (List.mem_of_getElem? (i := 566) (by decide +kernel)) (by decide +kernel)
theorem q_m_X0_151 : (Cond.methodLink RX0 151 yX0_runOver) ∈ TT := tt_r (List.mem_of_getElem? (i := 567) (by decide +kernel)) (by decide +kernel)
theorem q_i_X0_runOver : (Cond.instanceMethod yX0_runOver) ∈ TT := tt_r (List.mem_of_getElem? (i := 569) (by decide +kernel)) (by decide +kernel)
theorem q_c_X0_runOver : (Cond.code yX0_runOver cX0_runOver 4 none) ∈ TT := tt_r (List.mem_of_getElem? (i := 570) (by decide +kernel)) (by decide +kernel)
theorem q_m_X0_201 : (Cond.methodLink RX0 201 yX2_spill) ∈ TT := tt_r (List.mem_of_getElem? (i := 571) (by decide +kernel)) (by decide +kernel)
theorem q_i_X2_spill : (Cond.instanceMethod yX2_spill) ∈ TT := tt_r (List.mem_of_getElem? (i := 572) (by decide +kernel)) (by decide +kernel)
theorem q_s_X2_spill : (Cond.selects RX2 yX2_spill yX2_spill) ∈ TT := tt_r (List.mem_of_getElem? (i := 573) (by decide +kernel)) (by decide +kernel)
theorem q_c_X2_spill : (Cond.code yX2_spill cX2_spill 2 (some FieldType.int)) ∈ TT := tt_r (List.mem_of_getElem? (i := 574) (by decide +kernel)) (by decide +kernel)
theorem q_m_X0_154 : (Cond.methodLink RX0 154 yX0_rotStraw) ∈ TT := tt_r (List.mem_of_getElem? (i := 575) (by decide +kernel)) (by decide +kernel)
theorem q_i_X0_rotStraw : (Cond.instanceMethod yX0_rotStraw) ∈ TT := tt_r (List.mem_of_getElem? (i := 577) (by decide +kernel)) (by decide +kernel)
theorem q_c_X0_rotStraw : (Cond.code yX0_rotStraw cX0_rotStraw 2 none) ∈ TT := tt_r (List.mem_of_getElem? (i := 578) (by decide +kernel)) (by decide +kernel)
theorem q_m_L_128 : (Cond.methodLink RL 128 yL_count) ∈ TT := tt_r (List.mem_of_getElem? (i := 579) (by decide +kernel)) (by decide +kernel)
theorem q_t_L_count : (Cond.static yL_count) ∈ TT := tt_r (List.mem_of_getElem? (i := 580) (by decide +kernel)) (by decide +kernel)
theorem q_m_L_59 : (Cond.methodLink RL 59 yX4_count) ∈ TT := tt_r (List.mem_of_getElem? (i := 582) (by decide +kernel)) (by decide +kernel)
theorem q_m_L_131 : (Cond.methodLink RL 131 yL_foresee) ∈ TT := tt_r (List.mem_of_getElem? (i := 583) (by decide +kernel)) (by decide +kernel)
theorem q_t_L_foresee : (Cond.static yL_foresee) ∈ TT := tt_r (List.mem_of_getElem? (i := 584) (by decide +kernel)) (by decide +kernel)
theorem q_m_L_62 : (Cond.methodLink RL 62 yX4_foresee) ∈ TT := tt_r (List.mem_of_getElem? (i := 586) (by decide +kernel)) (by decide +kernel)
theorem q_i_X4_foresee : (Cond.instanceMethod yX4_foresee) ∈ TT := tt_r (List.mem_of_getElem? (i := 587) (by decide +kernel)) (by decide +kernel)
theorem q_s_X4_foresee : (Cond.selects RX4 yX4_foresee yX4_foresee) ∈ TT := tt_r (List.mem_of_getElem? (i := 588) (by decide +kernel)) (by decide +kernel)
theorem q_c_X4_foresee : (Cond.code yX4_foresee cX4_foresee 3 (some FieldType.int)) ∈ TT := tt_r (List.mem_of_getElem? (i := 589) (by decide +kernel)) (by decide +kernel)
theorem q_m_X4_206 : (Cond.methodLink RX4 206 yX0_becomeLike) ∈ TT := tt_r (List.mem_of_getElem? (i := 590) (by decide +kernel)) (by decide +kernel)
theorem q_i_X0_becomeLike : (Cond.instanceMethod yX0_becomeLike) ∈ TT := tt_r (List.mem_of_getElem? (i := 591) (by decide +kernel)) (by decide +kernel)
theorem q_s_X0_becomeLike : (Cond.selects RX0 yX0_becomeLike yX0_becomeLike) ∈ TT := tt_r (List.mem_of_getElem? (i := 592) (by decide +kernel)) (by decide +kernel)
theorem q_c_X0_becomeLike : (Cond.code yX0_becomeLike cX0_becomeLike 3 none) ∈ TT := tt_r (List.mem_of_getElem? (i := 593) (by decide +kernel)) (by decide +kernel)
theorem q_m_X0_49 : (Cond.methodLink RX0 49 yX3_becomeLike) ∈ TT := tt_r (List.mem_of_getElem? (i := 594) (by decide +kernel)) (by decide +kernel)
theorem q_i_X3_becomeLike : (Cond.instanceMethod yX3_becomeLike) ∈ TT := tt_r (List.mem_of_getElem? (i := 595) (by decide +kernel)) (by decide +kernel)
theorem q_s_X3_becomeLike : (Cond.selects RX3 yX3_becomeLike yX3_becomeLike) ∈ TT := tt_r (List.mem_of_getElem? (i := 596) (by decide +kernel)) (by decide +kernel)
theorem q_c_X3_becomeLike : (Cond.code yX3_becomeLike cX3_becomeLike 2 none) ∈ TT := tt_r (List.mem_of_getElem? (i := 597) (by decide +kernel)) (by decide +kernel)
theorem q_m_X0_56 : (Cond.methodLink RX0 56 yX2_becomeLike) ∈ TT := tt_r (List.mem_of_getElem? (i := 598) (by decide +kernel)) (by decide +kernel)
theorem q_i_X2_becomeLike : (Cond.instanceMethod yX2_becomeLike) ∈ TT := tt_r (List.mem_of_getElem? (i := 599) (by decide +kernel)) (by decide +kernel)
theorem q_s_X2_becomeLike : (Cond.selects RX2 yX2_becomeLike yX2_becomeLike) ∈ TT := tt_r (List.mem_of_getElem? (i := 600) (by decide +kernel)) (by decide +kernel)
theorem q_c_X2_becomeLike : (Cond.code yX2_becomeLike cX2_becomeLike 2 none) ∈ TT := tt_r (List.mem_of_getElem? (i := 601) (by decide +kernel)) (by decide +kernel)
theorem q_m_X0_62 : (Cond.methodLink RX0 62 Lib.Math.min.name) ∈ TT := tt_r (List.mem_of_getElem? (i := 602) (by decide +kernel)) (by decide +kernel)
theorem q_m_X0_65 : (Cond.methodLink RX0 65 yX1_becomeLike) ∈ TT := tt_r (List.mem_of_getElem? (i := 603) (by decide +kernel)) (by decide +kernel)
theorem q_i_X1_becomeLike : (Cond.instanceMethod yX1_becomeLike) ∈ TT := tt_r (List.mem_of_getElem? (i := 604) (by decide +kernel)) (by decide +kernel)
theorem q_s_X1_becomeLike : (Cond.selects RX1 yX1_becomeLike yX1_becomeLike) ∈ TT := tt_r (List.mem_of_getElem? (i := 605) (by decide +kernel)) (by decide +kernel)
theorem q_c_X1_becomeLike : (Cond.code yX1_becomeLike cX1_becomeLike 2 none) ∈ TT := tt_r (List.mem_of_getElem? (i := 606) (by decide +kernel)) (by decide +kernel)
theorem q_m_L_134 : (Cond.methodLink RL 134 yL_lasts) ∈ TT := tt_r (List.mem_of_getElem? (i := 607) (by decide +kernel)) (by decide +kernel)
theorem q_t_L_lasts : (Cond.static yL_lasts) ∈ TT := tt_r (List.mem_of_getElem? (i := 608) (by decide +kernel)) (by decide +kernel)
theorem q_m_L_65 : (Cond.methodLink RL 65 yX4_lasts) ∈ TT := tt_r (List.mem_of_getElem? (i := 610) (by decide +kernel)) (by decide +kernel)
theorem q_i_X4_lasts : (Cond.instanceMethod yX4_lasts) ∈ TT := tt_r (List.mem_of_getElem? (i := 611) (by decide +kernel)) (by decide +kernel)
theorem q_s_X4_lasts : (Cond.selects RX4 yX4_lasts yX4_lasts) ∈ TT := tt_r (List.mem_of_getElem? (i := 612) (by decide +kernel)) (by decide +kernel)
theorem q_c_X4_lasts : (Cond.code yX4_lasts cX4_lasts 4 (some FieldType.int)) ∈ TT := tt_r (List.mem_of_getElem? (i := 613) (by decide +kernel)) (by decide +kernel)
theorem q_m_X4_210 : (Cond.methodLink RX4 210 yX0_liveDay) ∈ TT := tt_r (List.mem_of_getElem? (i := 614) (by decide +kernel)) (by decide +kernel)
theorem q_m_L_137 : (Cond.methodLink RL 137 yL_keep) ∈ TT := tt_r (List.mem_of_getElem? (i := 615) (by decide +kernel)) (by decide +kernel)
theorem q_t_L_keep : (Cond.static yL_keep) ∈ TT := tt_r (List.mem_of_getElem? (i := 616) (by decide +kernel)) (by decide +kernel)
theorem q_m_L_68 : (Cond.methodLink RL 68 yX4_keep) ∈ TT := tt_r (List.mem_of_getElem? (i := 618) (by decide +kernel)) (by decide +kernel)
theorem q_i_X4_keep : (Cond.instanceMethod yX4_keep) ∈ TT := tt_r (List.mem_of_getElem? (i := 619) (by decide +kernel)) (by decide +kernel)
theorem q_s_X4_keep : (Cond.selects RX4 yX4_keep yX4_keep) ∈ TT := tt_r (List.mem_of_getElem? (i := 620) (by decide +kernel)) (by decide +kernel)
theorem q_c_X4_keep : (Cond.code yX4_keep cX4_keep 4 (some FieldType.int)) ∈ TT := tt_r (List.mem_of_getElem? (i := 621) (by decide +kernel)) (by decide +kernel)
theorem q_m_X4_215 : (Cond.methodLink RX4 215 yX4_canKeep) ∈ TT := tt_r (List.mem_of_getElem? (i := 623) (by decide +kernel)) (by decide +kernel)
theorem q_i_X4_canKeep : (Cond.instanceMethod yX4_canKeep) ∈ TT := tt_r (List.mem_of_getElem? (i := 625) (by decide +kernel)) (by decide +kernel)
theorem q_c_X4_canKeep : (Cond.code yX4_canKeep cX4_canKeep 6 (some FieldType.boolean)) ∈ TT := tt_r (List.mem_of_getElem? (i := 626) (by decide +kernel)) (by decide +kernel)
theorem q_m_L_140 : (Cond.methodLink RL 140 yL_advise) ∈ TT := tt_r (List.mem_of_getElem? (i := 627) (by decide +kernel)) (by decide +kernel)
theorem q_t_L_advise : (Cond.static yL_advise) ∈ TT := tt_r (List.mem_of_getElem? (i := 628) (by decide +kernel)) (by decide +kernel)
theorem q_m_L_71 : (Cond.methodLink RL 71 yX4_advise) ∈ TT := tt_r (List.mem_of_getElem? (i := 630) (by decide +kernel)) (by decide +kernel)
theorem q_i_X4_advise : (Cond.instanceMethod yX4_advise) ∈ TT := tt_r (List.mem_of_getElem? (i := 631) (by decide +kernel)) (by decide +kernel)
theorem q_s_X4_advise : (Cond.selects RX4 yX4_advise yX4_advise) ∈ TT := tt_r (List.mem_of_getElem? (i := 632) (by decide +kernel)) (by decide +kernel)
theorem q_c_X4_advise : (Cond.code yX4_advise cX4_advise 6 (some FieldType.int)) ∈ TT := tt_r (List.mem_of_getElem? (i := 633) (by decide +kernel)) (by decide +kernel)
theorem q_m_X4_218 : (Cond.methodLink RX4 218 yX4_waterBehind) ∈ TT := tt_r (List.mem_of_getElem? (i := 634) (by decide +kernel)) (by decide +kernel)
theorem q_i_X4_waterBehind : (Cond.instanceMethod yX4_waterBehind) ∈ TT := tt_r (List.mem_of_getElem? (i := 636) (by decide +kernel)) (by decide +kernel)
theorem q_c_X4_waterBehind : (Cond.code yX4_waterBehind cX4_waterBehind 3 (some FieldType.int)) ∈ TT := tt_r (List.mem_of_getElem? (i := 637) (by decide +kernel)) (by decide +kernel)
theorem q_k_L_75 : (Cond.classLink RL 75 RX5) ∈ TT := tt_r (List.mem_of_getElem? (i := 638) (by decide +kernel)) (by decide +kernel)
theorem q_a_X5 : (Cond.instantiable RX5 8) ∈ TT := tt_r (List.mem_of_getElem? (i := 639) (by decide +kernel)) (by decide +kernel)
theorem q_m_L_77 : (Cond.methodLink RL 77 yX5_init) ∈ TT := tt_r (List.mem_of_getElem? (i := 640) (by decide +kernel)) (by decide +kernel)
theorem q_i_X5_init : (Cond.instanceMethod yX5_init) ∈ TT := tt_r (List.mem_of_getElem? (i := 641) (by decide +kernel)) (by decide +kernel)
theorem q_c_X5_init : (Cond.code yX5_init cX5_init 1 none) ∈ TT := tt_r (List.mem_of_getElem? (i := 642) (by decide +kernel)) (by decide +kernel)
theorem q_m_X5_1 : (Cond.methodLink RX5 1 objectInit) ∈ TT := tt_r (List.mem_of_getElem? (i := 643) (by decide +kernel)) (by decide +kernel)
theorem q_f_X5_25 : (Cond.fieldLink RX5 25 "DewPondModel" "thrown" "I") ∈ TT := tt_r (List.mem_of_getElem? (i := 644) (by decide +kernel)) (by decide +kernel)
theorem q_f_X5_29 : (Cond.fieldLink RX5 29 "DewPondModel" "ponds" "I") ∈ TT := tt_r (List.mem_of_getElem? (i := 645) (by decide +kernel)) (by decide +kernel)
theorem q_f_X5_9 : (Cond.fieldLink RX5 9 "DewPondModel" "fixed" "[I") ∈ TT := tt_r (List.mem_of_getElem? (i := 646) (by decide +kernel)) (by decide +kernel)
theorem q_f_X5_36 : (Cond.fieldLink RX5 36 "DewPondModel" "flocks" "I") ∈ TT := tt_r (List.mem_of_getElem? (i := 647) (by decide +kernel)) (by decide +kernel)
theorem q_f_X5_13 : (Cond.fieldLink RX5 13 "DewPondModel" "weather" "[I") ∈ TT := tt_r (List.mem_of_getElem? (i := 648) (by decide +kernel)) (by decide +kernel)
theorem q_f_X5_16 : (Cond.fieldLink RX5 16 "DewPondModel" "table" "[I") ∈ TT := tt_r (List.mem_of_getElem? (i := 649) (by decide +kernel)) (by decide +kernel)
theorem q_f_X5_19 : (Cond.fieldLink RX5 19 "DewPondModel" "herds" "[I") ∈ TT := tt_r (List.mem_of_getElem? (i := 650) (by decide +kernel)) (by decide +kernel)
theorem q_f_X5_22 : (Cond.fieldLink RX5 22 "DewPondModel" "numbers" "[I") ∈ TT := tt_r (List.mem_of_getElem? (i := 651) (by decide +kernel)) (by decide +kernel)
theorem q_m_L_84 : (Cond.methodLink RL 84 yX5_thrown) ∈ TT := tt_r (List.mem_of_getElem? (i := 669) (by decide +kernel)) (by decide +kernel)
theorem q_i_X5_thrown : (Cond.instanceMethod yX5_thrown) ∈ TT := tt_r (List.mem_of_getElem? (i := 670) (by decide +kernel)) (by decide +kernel)
theorem q_s_X5_thrown : (Cond.selects RX5 yX5_thrown yX5_thrown) ∈ TT := tt_r (List.mem_of_getElem? (i := 671) (by decide +kernel)) (by decide +kernel)
theorem q_c_X5_thrown : (Cond.code yX5_thrown cX5_thrown 1 (some FieldType.int)) ∈ TT := tt_r (List.mem_of_getElem? (i := 672) (by decide +kernel)) (by decide +kernel)
theorem q_m_L_83 : (Cond.methodLink RL 83 yX5_dig) ∈ TT := tt_r (List.mem_of_getElem? (i := 673) (by decide +kernel)) (by decide +kernel)
theorem q_i_X5_dig : (Cond.instanceMethod yX5_dig) ∈ TT := tt_r (List.mem_of_getElem? (i := 674) (by decide +kernel)) (by decide +kernel)
theorem q_s_X5_dig : (Cond.selects RX5 yX5_dig yX5_dig) ∈ TT := tt_r (List.mem_of_getElem? (i := 675) (by decide +kernel)) (by decide +kernel)
theorem q_c_X5_dig : (Cond.code yX5_dig cX5_dig 8 (some FieldType.int)) ∈ TT := tt_r (List.mem_of_getElem? (i := 676) (by decide +kernel)) (by decide +kernel)
theorem q_m_X5_32 : (Cond.methodLink RX5 32 yX5_isIn) ∈ TT := tt_r (List.mem_of_getElem? (i := 677) (by decide +kernel)) (by decide +kernel)
theorem q_t_X5_isIn : (Cond.static yX5_isIn) ∈ TT := tt_r (List.mem_of_getElem? (i := 678) (by decide +kernel)) (by decide +kernel)
theorem q_c_X5_isIn : (Cond.code yX5_isIn cX5_isIn 3 (some FieldType.boolean)) ∈ TT := tt_r (List.mem_of_getElem? (i := 679) (by decide +kernel)) (by decide +kernel)
theorem q_m_X5_49 : (Cond.methodLink RX5 49 yX5_fail) ∈ TT := tt_r (List.mem_of_getElem? (i := 680) (by decide +kernel)) (by decide +kernel)
theorem q_i_X5_fail : (Cond.instanceMethod yX5_fail) ∈ TT := tt_r (List.mem_of_getElem? (i := 682) (by decide +kernel)) (by decide +kernel)
theorem q_c_X5_fail : (Cond.code yX5_fail cX5_fail 2 (some FieldType.int)) ∈ TT := tt_r (List.mem_of_getElem? (i := 683) (by decide +kernel)) (by decide +kernel)
theorem q_m_X5_39 : (Cond.methodLink RX5 39 yX5_fx) ∈ TT := tt_r (List.mem_of_getElem? (i := 684) (by decide +kernel)) (by decide +kernel)
theorem q_i_X5_fx : (Cond.instanceMethod yX5_fx) ∈ TT := tt_r (List.mem_of_getElem? (i := 686) (by decide +kernel)) (by decide +kernel)
theorem q_c_X5_fx : (Cond.code yX5_fx cX5_fx 3 (some FieldType.int)) ∈ TT := tt_r (List.mem_of_getElem? (i := 687) (by decide +kernel)) (by decide +kernel)
theorem q_m_X5_52 : (Cond.methodLink RX5 52 arraycopyName) ∈ TT := tt_r (List.mem_of_getElem? (i := 688) (by decide +kernel)) (by decide +kernel)
theorem q_t_J_arraycopy : (Cond.static arraycopyName) ∈ TT := tt_r (List.mem_of_getElem? (i := 689) (by decide +kernel)) (by decide +kernel)
theorem q_nat_J_arraycopy : (Cond.native arraycopyName) ∈ TT := tt_r (List.mem_of_getElem? (i := 690) (by decide +kernel)) (by decide +kernel)
theorem q_m_X5_58 : (Cond.methodLink RX5 58 yX5_set) ∈ TT := tt_r (List.mem_of_getElem? (i := 691) (by decide +kernel)) (by decide +kernel)
theorem q_i_X5_set : (Cond.instanceMethod yX5_set) ∈ TT := tt_r (List.mem_of_getElem? (i := 693) (by decide +kernel)) (by decide +kernel)
theorem q_c_X5_set : (Cond.code yX5_set cX5_set 4 none) ∈ TT := tt_r (List.mem_of_getElem? (i := 694) (by decide +kernel)) (by decide +kernel)
theorem q_m_L_91 : (Cond.methodLink RL 91 yX5_link) ∈ TT := tt_r (List.mem_of_getElem? (i := 695) (by decide +kernel)) (by decide +kernel)
theorem q_i_X5_link : (Cond.instanceMethod yX5_link) ∈ TT := tt_r (List.mem_of_getElem? (i := 696) (by decide +kernel)) (by decide +kernel)
theorem q_s_X5_link : (Cond.selects RX5 yX5_link yX5_link) ∈ TT := tt_r (List.mem_of_getElem? (i := 697) (by decide +kernel)) (by decide +kernel)
theorem q_c_X5_link : (Cond.code yX5_link cX5_link 4 (some FieldType.int)) ∈ TT := tt_r (List.mem_of_getElem? (i := 698) (by decide +kernel)) (by decide +kernel)
theorem q_m_X5_62 : (Cond.methodLink RX5 62 yX5_isPond) ∈ TT := tt_r (List.mem_of_getElem? (i := 699) (by decide +kernel)) (by decide +kernel)
theorem q_i_X5_isPond : (Cond.instanceMethod yX5_isPond) ∈ TT := tt_r (List.mem_of_getElem? (i := 701) (by decide +kernel)) (by decide +kernel)
theorem q_c_X5_isPond : (Cond.code yX5_isPond cX5_isPond 2 (some FieldType.boolean)) ∈ TT := tt_r (List.mem_of_getElem? (i := 702) (by decide +kernel)) (by decide +kernel)
theorem q_m_X5_66 : (Cond.methodLink RX5 66 yX5_po) ∈ TT := tt_r (List.mem_of_getElem? (i := 703) (by decide +kernel)) (by decide +kernel)
theorem q_i_X5_po : (Cond.instanceMethod yX5_po) ∈ TT := tt_r (List.mem_of_getElem? (i := 705) (by decide +kernel)) (by decide +kernel)
theorem q_c_X5_po : (Cond.code yX5_po cX5_po 3 (some FieldType.int)) ∈ TT := tt_r (List.mem_of_getElem? (i := 706) (by decide +kernel)) (by decide +kernel)
theorem q_m_L_94 : (Cond.methodLink RL 94 yX5_puddle) ∈ TT := tt_r (List.mem_of_getElem? (i := 707) (by decide +kernel)) (by decide +kernel)
theorem q_i_X5_puddle : (Cond.instanceMethod yX5_puddle) ∈ TT := tt_r (List.mem_of_getElem? (i := 708) (by decide +kernel)) (by decide +kernel)
theorem q_s_X5_puddle : (Cond.selects RX5 yX5_puddle yX5_puddle) ∈ TT := tt_r (List.mem_of_getElem? (i := 709) (by decide +kernel)) (by decide +kernel)
theorem q_c_X5_puddle : (Cond.code yX5_puddle cX5_puddle 3 (some FieldType.int)) ∈ TT := tt_r (List.mem_of_getElem? (i := 710) (by decide +kernel)) (by decide +kernel)
theorem q_m_X5_75 : (Cond.methodLink RX5 75 yX5_isLow) ∈ TT := tt_r (List.mem_of_getElem? (i := 711) (by decide +kernel)) (by decide +kernel)
theorem q_i_X5_isLow : (Cond.instanceMethod yX5_isLow) ∈ TT := tt_r (List.mem_of_getElem? (i := 713) (by decide +kernel)) (by decide +kernel)
theorem q_c_X5_isLow : (Cond.code yX5_isLow cX5_isLow 2 (some FieldType.boolean)) ∈ TT := tt_r (List.mem_of_getElem? (i := 714) (by decide +kernel)) (by decide +kernel)
theorem q_m_X5_69 : (Cond.methodLink RX5 69 yX5_holds) ∈ TT := tt_r (List.mem_of_getElem? (i := 715) (by decide +kernel)) (by decide +kernel)
theorem q_i_X5_holds : (Cond.instanceMethod yX5_holds) ∈ TT := tt_r (List.mem_of_getElem? (i := 717) (by decide +kernel)) (by decide +kernel)
theorem q_c_X5_holds : (Cond.code yX5_holds cX5_holds 2 (some FieldType.int)) ∈ TT := tt_r (List.mem_of_getElem? (i := 718) (by decide +kernel)) (by decide +kernel)
theorem q_m_X5_78 : (Cond.methodLink RX5 78 yX5_use) ∈ TT := tt_r (List.mem_of_getElem? (i := 719) (by decide +kernel)) (by decide +kernel)
theorem q_i_X5_use : (Cond.instanceMethod yX5_use) ∈ TT := tt_r (List.mem_of_getElem? (i := 721) (by decide +kernel)) (by decide +kernel)
theorem q_c_X5_use : (Cond.code yX5_use cX5_use 4 (some FieldType.int)) ∈ TT := tt_r (List.mem_of_getElem? (i := 722) (by decide +kernel)) (by decide +kernel)
theorem q_m_X5_72 : (Cond.methodLink RX5 72 Lib.Math.min.name) ∈ TT := tt_r (List.mem_of_getElem? (i := 723) (by decide +kernel)) (by decide +kernel)
theorem q_m_L_98 : (Cond.methodLink RL 98 yX5_strew) ∈ TT := tt_r (List.mem_of_getElem? (i := 724) (by decide +kernel)) (by decide +kernel)
theorem q_i_X5_strew : (Cond.instanceMethod yX5_strew) ∈ TT := tt_r (List.mem_of_getElem? (i := 725) (by decide +kernel)) (by decide +kernel)
theorem q_s_X5_strew : (Cond.selects RX5 yX5_strew yX5_strew) ∈ TT := tt_r (List.mem_of_getElem? (i := 726) (by decide +kernel)) (by decide +kernel)
theorem q_c_X5_strew : (Cond.code yX5_strew cX5_strew 4 (some FieldType.boolean)) ∈ TT := tt_r (List.mem_of_getElem? (i := 727) (by decide +kernel)) (by decide +kernel)
theorem q_m_L_101 : (Cond.methodLink RL 101 yX5_pour) ∈ TT := tt_r (List.mem_of_getElem? (i := 728) (by decide +kernel)) (by decide +kernel)
theorem q_i_X5_pour : (Cond.instanceMethod yX5_pour) ∈ TT := tt_r (List.mem_of_getElem? (i := 729) (by decide +kernel)) (by decide +kernel)
theorem q_s_X5_pour : (Cond.selects RX5 yX5_pour yX5_pour) ∈ TT := tt_r (List.mem_of_getElem? (i := 730) (by decide +kernel)) (by decide +kernel)
theorem q_c_X5_pour : (Cond.code yX5_pour cX5_pour 3 (some FieldType.int)) ∈ TT := tt_r (List.mem_of_getElem? (i := 731) (by decide +kernel)) (by decide +kernel)
theorem q_m_X5_81 : (Cond.methodLink RX5 81 Lib.Math.max.name) ∈ TT := tt_r (List.mem_of_getElem? (i := 732) (by decide +kernel)) (by decide +kernel)
theorem q_m_L_104 : (Cond.methodLink RL 104 yX5_pond) ∈ TT := tt_r (List.mem_of_getElem? (i := 733) (by decide +kernel)) (by decide +kernel)
theorem q_i_X5_pond : (Cond.instanceMethod yX5_pond) ∈ TT := tt_r (List.mem_of_getElem? (i := 734) (by decide +kernel)) (by decide +kernel)
theorem q_s_X5_pond : (Cond.selects RX5 yX5_pond yX5_pond) ∈ TT := tt_r (List.mem_of_getElem? (i := 735) (by decide +kernel)) (by decide +kernel)
theorem q_c_X5_pond : (Cond.code yX5_pond cX5_pond 3 (some FieldType.int)) ∈ TT := tt_r (List.mem_of_getElem? (i := 736) (by decide +kernel)) (by decide +kernel)
theorem q_m_X5_96 : (Cond.methodLink RX5 96 yX5_pondTold) ∈ TT := tt_r (List.mem_of_getElem? (i := 737) (by decide +kernel)) (by decide +kernel)
theorem q_i_X5_pondTold : (Cond.instanceMethod yX5_pondTold) ∈ TT := tt_r (List.mem_of_getElem? (i := 739) (by decide +kernel)) (by decide +kernel)
theorem q_c_X5_pondTold : (Cond.code yX5_pondTold cX5_pondTold 3 (some FieldType.int)) ∈ TT := tt_r (List.mem_of_getElem? (i := 740) (by decide +kernel)) (by decide +kernel)
theorem q_m_X5_90 : (Cond.methodLink RX5 90 yX5_flocksAt) ∈ TT := tt_r (List.mem_of_getElem? (i := 741) (by decide +kernel)) (by decide +kernel)
theorem q_i_X5_flocksAt : (Cond.instanceMethod yX5_flocksAt) ∈ TT := tt_r (List.mem_of_getElem? (i := 743) (by decide +kernel)) (by decide +kernel)
theorem q_c_X5_flocksAt : (Cond.code yX5_flocksAt cX5_flocksAt 4 (some FieldType.int)) ∈ TT := tt_r (List.mem_of_getElem? (i := 744) (by decide +kernel)) (by decide +kernel)
theorem q_m_X5_84 : (Cond.methodLink RX5 84 yX5_fl) ∈ TT := tt_r (List.mem_of_getElem? (i := 745) (by decide +kernel)) (by decide +kernel)
theorem q_i_X5_fl : (Cond.instanceMethod yX5_fl) ∈ TT := tt_r (List.mem_of_getElem? (i := 747) (by decide +kernel)) (by decide +kernel)
theorem q_c_X5_fl : (Cond.code yX5_fl cX5_fl 3 (some FieldType.int)) ∈ TT := tt_r (List.mem_of_getElem? (i := 748) (by decide +kernel)) (by decide +kernel)
theorem q_m_X5_87 : (Cond.methodLink RX5 87 yX5_isLost) ∈ TT := tt_r (List.mem_of_getElem? (i := 749) (by decide +kernel)) (by decide +kernel)
theorem q_i_X5_isLost : (Cond.instanceMethod yX5_isLost) ∈ TT := tt_r (List.mem_of_getElem? (i := 751) (by decide +kernel)) (by decide +kernel)
theorem q_c_X5_isLost : (Cond.code yX5_isLost cX5_isLost 2 (some FieldType.boolean)) ∈ TT := tt_r (List.mem_of_getElem? (i := 752) (by decide +kernel)) (by decide +kernel)
theorem q_m_X5_93 : (Cond.methodLink RX5 93 yX5_above) ∈ TT := tt_r (List.mem_of_getElem? (i := 753) (by decide +kernel)) (by decide +kernel)
theorem q_i_X5_above : (Cond.instanceMethod yX5_above) ∈ TT := tt_r (List.mem_of_getElem? (i := 755) (by decide +kernel)) (by decide +kernel)
theorem q_c_X5_above : (Cond.code yX5_above cX5_above 5 (some FieldType.int)) ∈ TT := tt_r (List.mem_of_getElem? (i := 756) (by decide +kernel)) (by decide +kernel)
theorem q_m_L_108 : (Cond.methodLink RL 108 yX5_setWeather) ∈ TT := tt_r (List.mem_of_getElem? (i := 757) (by decide +kernel)) (by decide +kernel)
theorem q_i_X5_setWeather : (Cond.instanceMethod yX5_setWeather) ∈ TT := tt_r (List.mem_of_getElem? (i := 758) (by decide +kernel)) (by decide +kernel)
theorem q_s_X5_setWeather : (Cond.selects RX5 yX5_setWeather yX5_setWeather) ∈ TT := tt_r (List.mem_of_getElem? (i := 759) (by decide +kernel)) (by decide +kernel)
theorem q_c_X5_setWeather : (Cond.code yX5_setWeather cX5_setWeather 6 (some FieldType.int)) ∈ TT := tt_r (List.mem_of_getElem? (i := 760) (by decide +kernel)) (by decide +kernel)
theorem q_m_X5_99 : (Cond.methodLink RX5 99 yX5_weatherTold) ∈ TT := tt_r (List.mem_of_getElem? (i := 761) (by decide +kernel)) (by decide +kernel)
theorem q_i_X5_weatherTold : (Cond.instanceMethod yX5_weatherTold) ∈ TT := tt_r (List.mem_of_getElem? (i := 763) (by decide +kernel)) (by decide +kernel)
theorem q_c_X5_weatherTold : (Cond.code yX5_weatherTold cX5_weatherTold 2 (some FieldType.int)) ∈ TT := tt_r (List.mem_of_getElem? (i := 764) (by decide +kernel)) (by decide +kernel)
theorem q_m_L_112 : (Cond.methodLink RL 112 yX5_bring) ∈ TT := tt_r (List.mem_of_getElem? (i := 765) (by decide +kernel)) (by decide +kernel)
theorem q_i_X5_bring : (Cond.instanceMethod yX5_bring) ∈ TT := tt_r (List.mem_of_getElem? (i := 766) (by decide +kernel)) (by decide +kernel)
theorem q_s_X5_bring : (Cond.selects RX5 yX5_bring yX5_bring) ∈ TT := tt_r (List.mem_of_getElem? (i := 767) (by decide +kernel)) (by decide +kernel)
theorem q_c_X5_bring : (Cond.code yX5_bring cX5_bring 2 (some FieldType.int)) ∈ TT := tt_r (List.mem_of_getElem? (i := 768) (by decide +kernel)) (by decide +kernel)
theorem q_m_L_115 : (Cond.methodLink RL 115 yX5_addFlock) ∈ TT := tt_r (List.mem_of_getElem? (i := 769) (by decide +kernel)) (by decide +kernel)
theorem q_i_X5_addFlock : (Cond.instanceMethod yX5_addFlock) ∈ TT := tt_r (List.mem_of_getElem? (i := 770) (by decide +kernel)) (by decide +kernel)
theorem q_s_X5_addFlock : (Cond.selects RX5 yX5_addFlock yX5_addFlock) ∈ TT := tt_r (List.mem_of_getElem? (i := 771) (by decide +kernel)) (by decide +kernel)
theorem q_c_X5_addFlock : (Cond.code yX5_addFlock cX5_addFlock 3 (some FieldType.int)) ∈ TT := tt_r (List.mem_of_getElem? (i := 772) (by decide +kernel)) (by decide +kernel)
theorem q_m_X5_102 : (Cond.methodLink RX5 102 yX5_putFlock) ∈ TT := tt_r (List.mem_of_getElem? (i := 773) (by decide +kernel)) (by decide +kernel)
theorem q_i_X5_putFlock : (Cond.instanceMethod yX5_putFlock) ∈ TT := tt_r (List.mem_of_getElem? (i := 775) (by decide +kernel)) (by decide +kernel)
theorem q_c_X5_putFlock : (Cond.code yX5_putFlock cX5_putFlock 4 none) ∈ TT := tt_r (List.mem_of_getElem? (i := 776) (by decide +kernel)) (by decide +kernel)
theorem q_m_L_118 : (Cond.methodLink RL 118 yX5_drive) ∈ TT := tt_r (List.mem_of_getElem? (i := 777) (by decide +kernel)) (by decide +kernel)
theorem q_i_X5_drive : (Cond.instanceMethod yX5_drive) ∈ TT := tt_r (List.mem_of_getElem? (i := 778) (by decide +kernel)) (by decide +kernel)
theorem q_s_X5_drive : (Cond.selects RX5 yX5_drive yX5_drive) ∈ TT := tt_r (List.mem_of_getElem? (i := 779) (by decide +kernel)) (by decide +kernel)
theorem q_c_X5_drive : (Cond.code yX5_drive cX5_drive 4 (some FieldType.int)) ∈ TT := tt_r (List.mem_of_getElem? (i := 780) (by decide +kernel)) (by decide +kernel)
theorem q_m_X5_106 : (Cond.methodLink RX5 106 yX5_isFlock) ∈ TT := tt_r (List.mem_of_getElem? (i := 781) (by decide +kernel)) (by decide +kernel)
theorem q_i_X5_isFlock : (Cond.instanceMethod yX5_isFlock) ∈ TT := tt_r (List.mem_of_getElem? (i := 783) (by decide +kernel)) (by decide +kernel)
theorem q_c_X5_isFlock : (Cond.code yX5_isFlock cX5_isFlock 2 (some FieldType.boolean)) ∈ TT := tt_r (List.mem_of_getElem? (i := 784) (by decide +kernel)) (by decide +kernel)
theorem q_m_X5_109 : (Cond.methodLink RX5 109 yX5_far) ∈ TT := tt_r (List.mem_of_getElem? (i := 785) (by decide +kernel)) (by decide +kernel)
theorem q_i_X5_far : (Cond.instanceMethod yX5_far) ∈ TT := tt_r (List.mem_of_getElem? (i := 787) (by decide +kernel)) (by decide +kernel)
theorem q_c_X5_far : (Cond.code yX5_far cX5_far 3 (some FieldType.int)) ∈ TT := tt_r (List.mem_of_getElem? (i := 788) (by decide +kernel)) (by decide +kernel)
theorem q_m_X5_43 : (Cond.methodLink RX5 43 Lib.Math.abs.name) ∈ TT := tt_r (List.mem_of_getElem? (i := 789) (by decide +kernel)) (by decide +kernel)
theorem q_m_X5_112 : (Cond.methodLink RX5 112 yX5_setFl) ∈ TT := tt_r (List.mem_of_getElem? (i := 790) (by decide +kernel)) (by decide +kernel)
theorem q_i_X5_setFl : (Cond.instanceMethod yX5_setFl) ∈ TT := tt_r (List.mem_of_getElem? (i := 792) (by decide +kernel)) (by decide +kernel)
theorem q_c_X5_setFl : (Cond.code yX5_setFl cX5_setFl 4 none) ∈ TT := tt_r (List.mem_of_getElem? (i := 793) (by decide +kernel)) (by decide +kernel)
theorem q_m_L_121 : (Cond.methodLink RL 121 yX5_setRoams) ∈ TT := tt_r (List.mem_of_getElem? (i := 794) (by decide +kernel)) (by decide +kernel)
theorem q_i_X5_setRoams : (Cond.instanceMethod yX5_setRoams) ∈ TT := tt_r (List.mem_of_getElem? (i := 795) (by decide +kernel)) (by decide +kernel)
theorem q_s_X5_setRoams : (Cond.selects RX5 yX5_setRoams yX5_setRoams) ∈ TT := tt_r (List.mem_of_getElem? (i := 796) (by decide +kernel)) (by decide +kernel)
theorem q_c_X5_setRoams : (Cond.code yX5_setRoams cX5_setRoams 4 (some FieldType.boolean)) ∈ TT := tt_r (List.mem_of_getElem? (i := 797) (by decide +kernel)) (by decide +kernel)
theorem q_m_L_124 : (Cond.methodLink RL 124 yX5_flock) ∈ TT := tt_r (List.mem_of_getElem? (i := 798) (by decide +kernel)) (by decide +kernel)
theorem q_i_X5_flock : (Cond.instanceMethod yX5_flock) ∈ TT := tt_r (List.mem_of_getElem? (i := 799) (by decide +kernel)) (by decide +kernel)
theorem q_s_X5_flock : (Cond.selects RX5 yX5_flock yX5_flock) ∈ TT := tt_r (List.mem_of_getElem? (i := 800) (by decide +kernel)) (by decide +kernel)
theorem q_c_X5_flock : (Cond.code yX5_flock cX5_flock 3 (some FieldType.int)) ∈ TT := tt_r (List.mem_of_getElem? (i := 801) (by decide +kernel)) (by decide +kernel)
theorem q_m_X5_115 : (Cond.methodLink RX5 115 yX5_flockTold) ∈ TT := tt_r (List.mem_of_getElem? (i := 802) (by decide +kernel)) (by decide +kernel)
theorem q_i_X5_flockTold : (Cond.instanceMethod yX5_flockTold) ∈ TT := tt_r (List.mem_of_getElem? (i := 804) (by decide +kernel)) (by decide +kernel)
theorem q_c_X5_flockTold : (Cond.code yX5_flockTold cX5_flockTold 3 (some FieldType.int)) ∈ TT := tt_r (List.mem_of_getElem? (i := 805) (by decide +kernel)) (by decide +kernel)
theorem q_m_L_127 : (Cond.methodLink RL 127 yX5_pass) ∈ TT := tt_r (List.mem_of_getElem? (i := 806) (by decide +kernel)) (by decide +kernel)
theorem q_i_X5_pass : (Cond.instanceMethod yX5_pass) ∈ TT := tt_r (List.mem_of_getElem? (i := 807) (by decide +kernel)) (by decide +kernel)
theorem q_s_X5_pass : (Cond.selects RX5 yX5_pass yX5_pass) ∈ TT := tt_r (List.mem_of_getElem? (i := 808) (by decide +kernel)) (by decide +kernel)
theorem q_c_X5_pass : (Cond.code yX5_pass cX5_pass 4 (some FieldType.int)) ∈ TT := tt_r (List.mem_of_getElem? (i := 809) (by decide +kernel)) (by decide +kernel)
theorem q_m_X5_131 : (Cond.methodLink RX5 131 yX5_dayOn) ∈ TT := tt_r (List.mem_of_getElem? (i := 810) (by decide +kernel)) (by decide +kernel)
theorem q_i_X5_dayOn : (Cond.instanceMethod yX5_dayOn) ∈ TT := tt_r (List.mem_of_getElem? (i := 812) (by decide +kernel)) (by decide +kernel)
theorem q_c_X5_dayOn : (Cond.code yX5_dayOn cX5_dayOn 4 (some FieldType.int)) ∈ TT := tt_r (List.mem_of_getElem? (i := 813) (by decide +kernel)) (by decide +kernel)
theorem q_m_X5_122 : (Cond.methodLink RX5 122 yX5_change) ∈ TT := tt_r (List.mem_of_getElem? (i := 814) (by decide +kernel)) (by decide +kernel)
theorem q_i_X5_change : (Cond.instanceMethod yX5_change) ∈ TT := tt_r (List.mem_of_getElem? (i := 816) (by decide +kernel)) (by decide +kernel)
theorem q_c_X5_change : (Cond.code yX5_change cX5_change 3 none) ∈ TT := tt_r (List.mem_of_getElem? (i := 817) (by decide +kernel)) (by decide +kernel)
theorem q_m_X5_125 : (Cond.methodLink RX5 125 yX5_drink) ∈ TT := tt_r (List.mem_of_getElem? (i := 818) (by decide +kernel)) (by decide +kernel)
theorem q_i_X5_drink : (Cond.instanceMethod yX5_drink) ∈ TT := tt_r (List.mem_of_getElem? (i := 820) (by decide +kernel)) (by decide +kernel)
theorem q_c_X5_drink : (Cond.code yX5_drink cX5_drink 5 (some FieldType.int)) ∈ TT := tt_r (List.mem_of_getElem? (i := 821) (by decide +kernel)) (by decide +kernel)
theorem q_m_X5_118 : (Cond.methodLink RX5 118 yX5_roam) ∈ TT := tt_r (List.mem_of_getElem? (i := 822) (by decide +kernel)) (by decide +kernel)
theorem q_i_X5_roam : (Cond.instanceMethod yX5_roam) ∈ TT := tt_r (List.mem_of_getElem? (i := 824) (by decide +kernel)) (by decide +kernel)
theorem q_c_X5_roam : (Cond.code yX5_roam cX5_roam 6 none) ∈ TT := tt_r (List.mem_of_getElem? (i := 825) (by decide +kernel)) (by decide +kernel)
theorem q_m_X5_128 : (Cond.methodLink RX5 128 yX5_runOver) ∈ TT := tt_r (List.mem_of_getElem? (i := 826) (by decide +kernel)) (by decide +kernel)
theorem q_i_X5_runOver : (Cond.instanceMethod yX5_runOver) ∈ TT := tt_r (List.mem_of_getElem? (i := 828) (by decide +kernel)) (by decide +kernel)
theorem q_c_X5_runOver : (Cond.code yX5_runOver cX5_runOver 4 none) ∈ TT := tt_r (List.mem_of_getElem? (i := 829) (by decide +kernel)) (by decide +kernel)
theorem q_m_L_130 : (Cond.methodLink RL 130 yX5_count) ∈ TT := tt_r (List.mem_of_getElem? (i := 830) (by decide +kernel)) (by decide +kernel)
theorem q_i_X5_count : (Cond.instanceMethod yX5_count) ∈ TT := tt_r (List.mem_of_getElem? (i := 831) (by decide +kernel)) (by decide +kernel)
theorem q_s_X5_count : (Cond.selects RX5 yX5_count yX5_count) ∈ TT := tt_r (List.mem_of_getElem? (i := 832) (by decide +kernel)) (by decide +kernel)
theorem q_c_X5_count : (Cond.code yX5_count cX5_count 2 (some FieldType.int)) ∈ TT := tt_r (List.mem_of_getElem? (i := 833) (by decide +kernel)) (by decide +kernel)
theorem q_m_X5_138 : (Cond.methodLink RX5 138 yX5_counted) ∈ TT := tt_r (List.mem_of_getElem? (i := 834) (by decide +kernel)) (by decide +kernel)
theorem q_i_X5_counted : (Cond.instanceMethod yX5_counted) ∈ TT := tt_r (List.mem_of_getElem? (i := 836) (by decide +kernel)) (by decide +kernel)
theorem q_c_X5_counted : (Cond.code yX5_counted cX5_counted 4 (some FieldType.int)) ∈ TT := tt_r (List.mem_of_getElem? (i := 837) (by decide +kernel)) (by decide +kernel)
theorem q_m_X5_135 : (Cond.methodLink RX5 135 yX5_allWater) ∈ TT := tt_r (List.mem_of_getElem? (i := 838) (by decide +kernel)) (by decide +kernel)
theorem q_i_X5_allWater : (Cond.instanceMethod yX5_allWater) ∈ TT := tt_r (List.mem_of_getElem? (i := 840) (by decide +kernel)) (by decide +kernel)
theorem q_c_X5_allWater : (Cond.code yX5_allWater cX5_allWater 3 (some FieldType.int)) ∈ TT := tt_r (List.mem_of_getElem? (i := 841) (by decide +kernel)) (by decide +kernel)
theorem q_m_L_133 : (Cond.methodLink RL 133 yX5_foresee) ∈ TT := tt_r (List.mem_of_getElem? (i := 842) (by decide +kernel)) (by decide +kernel)
theorem q_i_X5_foresee : (Cond.instanceMethod yX5_foresee) ∈ TT := tt_r (List.mem_of_getElem? (i := 843) (by decide +kernel)) (by decide +kernel)
theorem q_s_X5_foresee : (Cond.selects RX5 yX5_foresee yX5_foresee) ∈ TT := tt_r (List.mem_of_getElem? (i := 844) (by decide +kernel)) (by decide +kernel)
theorem q_c_X5_foresee : (Cond.code yX5_foresee cX5_foresee 5 (some FieldType.int)) ∈ TT := tt_r (List.mem_of_getElem? (i := 845) (by decide +kernel)) (by decide +kernel)
theorem q_m_X5_146 : (Cond.methodLink RX5 146 yX5_kept) ∈ TT := tt_r (List.mem_of_getElem? (i := 846) (by decide +kernel)) (by decide +kernel)
theorem q_i_X5_kept : (Cond.instanceMethod yX5_kept) ∈ TT := tt_r (List.mem_of_getElem? (i := 848) (by decide +kernel)) (by decide +kernel)
theorem q_c_X5_kept : (Cond.code yX5_kept cX5_kept 1 (some (FieldType.array (FieldType.array FieldType.int)))) ∈ TT := tt_r (List.mem_of_getElem? (i := 849) (by decide +kernel)) (by decide +kernel)
theorem q_k_X5_141 : (Cond.classLink RX5 141 "[I") ∈ TT := tt_r (List.mem_of_getElem? (i := 850) (by decide +kernel)) (by decide +kernel)
theorem q_m_X5_142 : (Cond.methodLink RX5 142 ⟨"[I", "clone", "()Ljava/lang/Object;"⟩) ∈ TT := tt_r (List.mem_of_getElem? (i := 852) (by decide +kernel)) (by decide +kernel)
theorem q_m_X5_150 : (Cond.methodLink RX5 150 yX5_bringBack) ∈ TT := tt_r (List.mem_of_getElem? (i := 858) (by decide +kernel)) (by decide +kernel)
theorem q_i_X5_bringBack : (Cond.instanceMethod yX5_bringBack) ∈ TT := tt_r (List.mem_of_getElem? (i := 860) (by decide +kernel)) (by decide +kernel)
theorem q_c_X5_bringBack : (Cond.code yX5_bringBack cX5_bringBack 2 none) ∈ TT := tt_r (List.mem_of_getElem? (i := 861) (by decide +kernel)) (by decide +kernel)
theorem q_m_L_136 : (Cond.methodLink RL 136 yX5_lasts) ∈ TT := tt_r (List.mem_of_getElem? (i := 862) (by decide +kernel)) (by decide +kernel)
theorem q_i_X5_lasts : (Cond.instanceMethod yX5_lasts) ∈ TT := tt_r (List.mem_of_getElem? (i := 863) (by decide +kernel)) (by decide +kernel)
theorem q_s_X5_lasts : (Cond.selects RX5 yX5_lasts yX5_lasts) ∈ TT := tt_r (List.mem_of_getElem? (i := 864) (by decide +kernel)) (by decide +kernel)
theorem q_c_X5_lasts : (Cond.code yX5_lasts cX5_lasts 4 (some FieldType.int)) ∈ TT := tt_r (List.mem_of_getElem? (i := 865) (by decide +kernel)) (by decide +kernel)
theorem q_m_L_139 : (Cond.methodLink RL 139 yX5_keep) ∈ TT := tt_r (List.mem_of_getElem? (i := 866) (by decide +kernel)) (by decide +kernel)
theorem q_i_X5_keep : (Cond.instanceMethod yX5_keep) ∈ TT := tt_r (List.mem_of_getElem? (i := 867) (by decide +kernel)) (by decide +kernel)
theorem q_s_X5_keep : (Cond.selects RX5 yX5_keep yX5_keep) ∈ TT := tt_r (List.mem_of_getElem? (i := 868) (by decide +kernel)) (by decide +kernel)
theorem q_c_X5_keep : (Cond.code yX5_keep cX5_keep 8 (some FieldType.int)) ∈ TT := tt_r (List.mem_of_getElem? (i := 869) (by decide +kernel)) (by decide +kernel)
theorem q_m_L_142 : (Cond.methodLink RL 142 yX5_advise) ∈ TT := tt_r (List.mem_of_getElem? (i := 870) (by decide +kernel)) (by decide +kernel)
theorem q_i_X5_advise : (Cond.instanceMethod yX5_advise) ∈ TT := tt_r (List.mem_of_getElem? (i := 871) (by decide +kernel)) (by decide +kernel)
theorem q_s_X5_advise : (Cond.selects RX5 yX5_advise yX5_advise) ∈ TT := tt_r (List.mem_of_getElem? (i := 872) (by decide +kernel)) (by decide +kernel)
theorem q_c_X5_advise : (Cond.code yX5_advise cX5_advise 7 (some FieldType.int)) ∈ TT := tt_r (List.mem_of_getElem? (i := 873) (by decide +kernel)) (by decide +kernel)
theorem q_m_X5_154 : (Cond.methodLink RX5 154 yX5_waterBy) ∈ TT := tt_r (List.mem_of_getElem? (i := 874) (by decide +kernel)) (by decide +kernel)
theorem q_i_X5_waterBy : (Cond.instanceMethod yX5_waterBy) ∈ TT := tt_r (List.mem_of_getElem? (i := 876) (by decide +kernel)) (by decide +kernel)
theorem q_c_X5_waterBy : (Cond.code yX5_waterBy cX5_waterBy 3 (some FieldType.int)) ∈ TT := tt_r (List.mem_of_getElem? (i := 877) (by decide +kernel)) (by decide +kernel)
theorem q_m_L_147 : (Cond.methodLink RL 147 yX5_full) ∈ TT := tt_r (List.mem_of_getElem? (i := 878) (by decide +kernel)) (by decide +kernel)
theorem q_i_X5_full : (Cond.instanceMethod yX5_full) ∈ TT := tt_r (List.mem_of_getElem? (i := 879) (by decide +kernel)) (by decide +kernel)
theorem q_s_X5_full : (Cond.selects RX5 yX5_full yX5_full) ∈ TT := tt_r (List.mem_of_getElem? (i := 880) (by decide +kernel)) (by decide +kernel)
theorem q_c_X5_full : (Cond.code yX5_full cX5_full 3 (some FieldType.double)) ∈ TT := tt_r (List.mem_of_getElem? (i := 881) (by decide +kernel)) (by decide +kernel)
theorem q_m_L_152 : (Cond.methodLink RL 152 yX5_digest) ∈ TT := tt_r (List.mem_of_getElem? (i := 882) (by decide +kernel)) (by decide +kernel)
theorem q_i_X5_digest : (Cond.instanceMethod yX5_digest) ∈ TT := tt_r (List.mem_of_getElem? (i := 883) (by decide +kernel)) (by decide +kernel)
theorem q_s_X5_digest : (Cond.selects RX5 yX5_digest yX5_digest) ∈ TT := tt_r (List.mem_of_getElem? (i := 884) (by decide +kernel)) (by decide +kernel)
theorem q_c_X5_digest : (Cond.code yX5_digest cX5_digest 5 (some FieldType.long)) ∈ TT := tt_r (List.mem_of_getElem? (i := 885) (by decide +kernel)) (by decide +kernel)
theorem q_d_X5_157 : (Cond.constantLong RX5 157 (587 : Int64)) ∈ TT := tt_r (List.mem_of_getElem? (i := 886) (by decide +kernel)) (by decide +kernel)
theorem q_d_X5_159 : (Cond.constantLong RX5 159 (31 : Int64)) ∈ TT := tt_r (List.mem_of_getElem? (i := 887) (by decide +kernel)) (by decide +kernel)
theorem q_s_X0_runsDownTo : (Cond.selects RX0 yX0_runsDownTo yX0_runsDownTo) ∈ TT := tt_s (List.mem_of_getElem? (i := 1) (by decide +kernel)) (by decide +kernel)
theorem q_s_X0_isTaken : (Cond.selects RX0 yX0_isTaken yX0_isTaken) ∈ TT := tt_s (List.mem_of_getElem? (i := 2) (by decide +kernel)) (by decide +kernel)
theorem q_s_X0_waterFlocks : (Cond.selects RX0 yX0_waterFlocks yX0_waterFlocks) ∈ TT := tt_s (List.mem_of_getElem? (i := 3) (by decide +kernel)) (by decide +kernel)
theorem q_s_X0_nearestWaterFor : (Cond.selects RX0 yX0_nearestWaterFor yX0_nearestWaterFor) ∈ TT := tt_s (List.mem_of_getElem? (i := 4) (by decide +kernel)) (by decide +kernel)
theorem q_s_X0_runOver : (Cond.selects RX0 yX0_runOver yX0_runOver) ∈ TT := tt_s (List.mem_of_getElem? (i := 5) (by decide +kernel)) (by decide +kernel)
theorem q_s_X0_rotStraw : (Cond.selects RX0 yX0_rotStraw yX0_rotStraw) ∈ TT := tt_s (List.mem_of_getElem? (i := 6) (by decide +kernel)) (by decide +kernel)
theorem q_s_X4_canKeep : (Cond.selects RX4 yX4_canKeep yX4_canKeep) ∈ TT := tt_s (List.mem_of_getElem? (i := 7) (by decide +kernel)) (by decide +kernel)
theorem q_s_X4_waterBehind : (Cond.selects RX4 yX4_waterBehind yX4_waterBehind) ∈ TT := tt_s (List.mem_of_getElem? (i := 8) (by decide +kernel)) (by decide +kernel)
theorem q_s_X5_fail : (Cond.selects RX5 yX5_fail yX5_fail) ∈ TT := tt_s (List.mem_of_getElem? (i := 9) (by decide +kernel)) (by decide +kernel)
theorem q_s_X5_fx : (Cond.selects RX5 yX5_fx yX5_fx) ∈ TT := tt_s (List.mem_of_getElem? (i := 10) (by decide +kernel)) (by decide +kernel)
theorem q_s_X5_set : (Cond.selects RX5 yX5_set yX5_set) ∈ TT := tt_s (List.mem_of_getElem? (i := 11) (by decide +kernel)) (by decide +kernel)
theorem q_s_X5_isPond : (Cond.selects RX5 yX5_isPond yX5_isPond) ∈ TT := tt_s (List.mem_of_getElem? (i := 12) (by decide +kernel)) (by decide +kernel)
theorem q_s_X5_po : (Cond.selects RX5 yX5_po yX5_po) ∈ TT := tt_s (List.mem_of_getElem? (i := 13) (by decide +kernel)) (by decide +kernel)
theorem q_s_X5_isLow : (Cond.selects RX5 yX5_isLow yX5_isLow) ∈ TT := tt_s (List.mem_of_getElem? (i := 14) (by decide +kernel)) (by decide +kernel)
theorem q_s_X5_holds : (Cond.selects RX5 yX5_holds yX5_holds) ∈ TT := tt_s (List.mem_of_getElem? (i := 15) (by decide +kernel)) (by decide +kernel)
theorem q_s_X5_use : (Cond.selects RX5 yX5_use yX5_use) ∈ TT := tt_s (List.mem_of_getElem? (i := 16) (by decide +kernel)) (by decide +kernel)
theorem q_s_X5_pondTold : (Cond.selects RX5 yX5_pondTold yX5_pondTold) ∈ TT := tt_s (List.mem_of_getElem? (i := 17) (by decide +kernel)) (by decide +kernel)
theorem q_s_X5_flocksAt : (Cond.selects RX5 yX5_flocksAt yX5_flocksAt) ∈ TT := tt_s (List.mem_of_getElem? (i := 18) (by decide +kernel)) (by decide +kernel)
theorem q_s_X5_fl : (Cond.selects RX5 yX5_fl yX5_fl) ∈ TT := tt_s (List.mem_of_getElem? (i := 19) (by decide +kernel)) (by decide +kernel)
theorem q_s_X5_isLost : (Cond.selects RX5 yX5_isLost yX5_isLost) ∈ TT := tt_s (List.mem_of_getElem? (i := 20) (by decide +kernel)) (by decide +kernel)
theorem q_s_X5_above : (Cond.selects RX5 yX5_above yX5_above) ∈ TT := tt_s (List.mem_of_getElem? (i := 21) (by decide +kernel)) (by decide +kernel)
theorem q_s_X5_weatherTold : (Cond.selects RX5 yX5_weatherTold yX5_weatherTold) ∈ TT := tt_s (List.mem_of_getElem? (i := 22) (by decide +kernel)) (by decide +kernel)
theorem q_s_X5_putFlock : (Cond.selects RX5 yX5_putFlock yX5_putFlock) ∈ TT := tt_s (List.mem_of_getElem? (i := 23) (by decide +kernel)) (by decide +kernel)
theorem q_s_X5_isFlock : (Cond.selects RX5 yX5_isFlock yX5_isFlock) ∈ TT := tt_s (List.mem_of_getElem? (i := 24) (by decide +kernel)) (by decide +kernel)
theorem q_s_X5_far : (Cond.selects RX5 yX5_far yX5_far) ∈ TT := tt_s (List.mem_of_getElem? (i := 25) (by decide +kernel)) (by decide +kernel)
theorem q_s_X5_setFl : (Cond.selects RX5 yX5_setFl yX5_setFl) ∈ TT := tt_s (List.mem_of_getElem? (i := 26) (by decide +kernel)) (by decide +kernel)
theorem q_s_X5_flockTold : (Cond.selects RX5 yX5_flockTold yX5_flockTold) ∈ TT := tt_s (List.mem_of_getElem? (i := 27) (by decide +kernel)) (by decide +kernel)
theorem q_s_X5_dayOn : (Cond.selects RX5 yX5_dayOn yX5_dayOn) ∈ TT := tt_s (List.mem_of_getElem? (i := 28) (by decide +kernel)) (by decide +kernel)
theorem q_s_X5_change : (Cond.selects RX5 yX5_change yX5_change) ∈ TT := tt_s (List.mem_of_getElem? (i := 29) (by decide +kernel)) (by decide +kernel)
theorem q_s_X5_drink : (Cond.selects RX5 yX5_drink yX5_drink) ∈ TT := tt_s (List.mem_of_getElem? (i := 30) (by decide +kernel)) (by decide +kernel)
theorem q_s_X5_roam : (Cond.selects RX5 yX5_roam yX5_roam) ∈ TT := tt_s (List.mem_of_getElem? (i := 31) (by decide +kernel)) (by decide +kernel)
theorem q_s_X5_runOver : (Cond.selects RX5 yX5_runOver yX5_runOver) ∈ TT := tt_s (List.mem_of_getElem? (i := 32) (by decide +kernel)) (by decide +kernel)
theorem q_s_X5_counted : (Cond.selects RX5 yX5_counted yX5_counted) ∈ TT := tt_s (List.mem_of_getElem? (i := 33) (by decide +kernel)) (by decide +kernel)
theorem q_s_X5_allWater : (Cond.selects RX5 yX5_allWater yX5_allWater) ∈ TT := tt_s (List.mem_of_getElem? (i := 34) (by decide +kernel)) (by decide +kernel)
theorem q_s_X5_kept : (Cond.selects RX5 yX5_kept yX5_kept) ∈ TT := tt_s (List.mem_of_getElem? (i := 35) (by decide +kernel)) (by decide +kernel)
theorem q_s_X5_bringBack : (Cond.selects RX5 yX5_bringBack yX5_bringBack) ∈ TT := tt_s (List.mem_of_getElem? (i := 36) (by decide +kernel)) (by decide +kernel)
theorem q_s_X5_waterBy : (Cond.selects RX5 yX5_waterBy yX5_waterBy) ∈ TT := tt_s (List.mem_of_getElem? (i := 37) (by decide +kernel)) (by decide +kernel)
theorem inX0 : ∀ w ∈ u_ws RX0 TX0 8, w ∈ TT := by decide +kernel
theorem inX1 : ∀ w ∈ u_ws RX1 TX1 5, w ∈ TT := by decide +kernel
theorem inX2 : ∀ w ∈ u_ws RX2 TX2 10, w ∈ TT := by decide +kernel
theorem inX3 : ∀ w ∈ u_ws RX3 TX3 3, w ∈ TT := by decide +kernel
theorem inX4 : ∀ w ∈ u_ws RX4 TX4 2, w ∈ TT := by decide +kernel
theorem inX5 : ∀ w ∈ u_ws RX5 TX5 8, w ∈ TT := by decide +kernel
end
section
/-! THE WORLD OF WHOLE. All objects of the class and of the reference, and the law's own row, lie one behind another from the address gB g on: 71 cells. h o k: the number in slot k of the object o (o counts from gB g). References never change: they are in the picture ce, not in h. X: further cells (rows that a call makes and drops). -/
abbrev gW : Type := (Nat → ClassId) × (Nat → Nat → Nat) × (Nat → ClassId) × Nat
abbrev gD (g : gW) : va_G := (g.1, g.2.1)
abbrev gA (g : gW) : Nat → ClassId := g.2.2.1
abbrev gB (g : gW) : Nat := g.2.2.2
abbrev Hp : Type := Nat → Nat → Int32
def hp_up (h : Hp) (o k : Nat) (v : Int32) : Hp := fun a => if a = o then upd (h o) k v else h a
abbrev gT (g : gW) : List (ClassId × FieldType) := [(gA g 0, .int), (gA g 1, .object RX3), (gA g 2, .object RX2), (gA g 3, .object RX1), (gA g 4, .long), (gA g 5, .array .int)]
def rfs (f : Nat → Nat) : Nat → Option Nat := fun j => some (f j)
def dn (g : gW) (r : Nat → Int32) (d R o : Nat) : va_E :=
  if o = d then .inr (0, [.ref (gB g + (d + 1)), .ref (gB g + (d + 12)), .ref (gB g + (d + 13)), .ref (gB g + (d + 24)), .int (r 4), .int (r 5), .int (r 6), .int (r 7)])
  else if o = d + 1 then .inl (gA g 1, 10, .inr (.inr (.inr (.inr (rfs (fun j => gB g + (d + 2 + j)))))))
  else if o < d + 12 then .inr (3, [.int (r 0), .int (r 1), .int (r 2)])
  else if o = d + 12 then .inl (gA g 2, 10, .inr (.inr (.inr (.inr (rfs (fun j => gB g + (d + 14 + j)))))))
  else if o = d + 13 then .inl (gA g 0, 10, .inl r)
  else if o < d + 24 then .inr (2, [.int (r 0), .int (r 1), .int (r 2), .int (r 3), .int (r 4), .int (r 5), .int (r 6), .int (r 7), .int (r 8), .int (r 9)])
  else if o = d + 24 then .inl (gA g 3, R, .inr (.inr (.inr (.inr (rfs (fun j => gB g + (d + 25 + j)))))))
  else .inr (1, [.int (r 0), .int (r 1), .int (r 2), .int (r 3), .int (r 4)])
def ce (g : gW) (r : Nat → Int32) (o : Nat) : va_E :=
  if o = 0 then .inr (4, [.ref (gB g + 1), .ref (gB g + 32)])
  else if o < 32 then dn g r 1 6 o
  else if o < 64 then dn g r 32 7 o
  else if o = 64 then .inr (5, [.int (r 0), .int (r 1), .ref (gB g + 65), .int (r 3), .ref (gB g + 66), .ref (gB g + 67), .ref (gB g + 68), .ref (gB g + 69)])
  else if o = 65 then .inl (gA g 0, 50, .inl r)
  else if o = 66 then .inl (gA g 0, 30, .inl r)
  else if o = 67 then .inl (gA g 0, 50, .inl r)
  else if o = 68 then .inl (gA g 0, 35, .inl r)
  else if o = 69 then .inl (gA g 0, 2, .inl r)
  else .inl (gA g 4, 1, .inr (.inl (fun _ => (r 0).toInt64)))
def wl (g : gW) (X : va_W) (h : Hp) : va_W := (List.range 71).map (fun o => (gB g + o, ce g (h o) o)) ++ X
theorem wl_get {g : gW} {X : va_W} {h : Hp} {o : Nat} (ho : o < 71) : (wl g X h)[o]? = some (gB g + o, ce g (h o) o) := by
  unfold wl
  rw [List.getElem?_append_left (by simpa using ho)]
  simp [ho]
theorem wl_set {g : gW} {X : va_W} {h : Hp} {o : Nat} (ho : o < 71) (k : Nat) (v : Int32) : (wl g X h).set o (gB g + o, ce g (upd (h o) k v) o) = wl g X (hp_up h o k v) := by
  unfold wl
  apply List.ext_getElem?
  intro j
  by_cases hj : j = o
  · subst hj
    rw [List.getElem?_set_self (by simp; omega), List.getElem?_append_left (by simpa using ho)]
    simp [ho, hp_up]
  · rw [List.getElem?_set_ne (Ne.symm hj)]
    by_cases hl : j < 71
    · rw [List.getElem?_append_left (by simpa using hl), List.getElem?_append_left (by simpa using hl)]
      simp [hl, hp_up, hj]
    · rw [List.getElem?_append_right (by simp; omega), List.getElem?_append_right (by simp; omega)]
      simp
def isD (d : Nat) : Prop := d = 1 ∨ d = 32
def rmD (d : Nat) : Nat := if d = 1 then 6 else 7
def isP (o : Nat) : Prop := ∃ d j, isD d ∧ j < 10 ∧ o = d + 14 + j
def isF (o : Nat) : Prop := ∃ d j, isD d ∧ j < rmD d ∧ o = d + 25 + j
def isWt (o : Nat) : Prop := ∃ d j, isD d ∧ j < 10 ∧ o = d + 2 + j
theorem isD_lt {d : Nat} (h : isD d) : d < 71 := by rcases h with rfl | rfl <;> omega
theorem isP_lt {o : Nat} (h : isP o) : o < 71 := by obtain ⟨d, j, rfl | rfl, hj, rfl⟩ := h <;> omega
theorem isF_lt {o : Nat} (h : isF o) : o < 71 := by obtain ⟨d, j, rfl | rfl, hj, rfl⟩ := h <;> simp [rmD] at hj <;> omega
theorem isWt_lt {o : Nat} (h : isWt o) : o < 71 := by obtain ⟨d, j, rfl | rfl, hj, rfl⟩ := h <;> omega
theorem isP_of {d j : Nat} (h : isD d) (hj : j < 10) : isP (d + 14 + j) := ⟨d, j, h, hj, rfl⟩
theorem isF_of {d j : Nat} (h : isD d) (hj : j < rmD d) : isF (d + 25 + j) := ⟨d, j, h, hj, rfl⟩
theorem isWt_of {d j : Nat} (h : isD d) (hj : j < 10) : isWt (d + 2 + j) := ⟨d, j, h, hj, rfl⟩
theorem ce_D {g : gW} {r : Nat → Int32} {d : Nat} (h : isD d) : ce g r d = .inr (0, [.ref (gB g + (d + 1)), .ref (gB g + (d + 12)), .ref (gB g + (d + 13)), .ref (gB g + (d + 24)), .int (r 4), .int (r 5), .int (r 6), .int (r 7)]) := by
  rcases h with rfl | rfl <;> rfl
theorem ce_Wa {g : gW} {r : Nat → Int32} {d : Nat} (h : isD d) : ce g r (d + 1) = .inl (gA g 1, 10, .inr (.inr (.inr (.inr (rfs (fun j => gB g + (d + 2 + j))))))) := by
  rcases h with rfl | rfl <;> rfl
theorem ce_Pa {g : gW} {r : Nat → Int32} {d : Nat} (h : isD d) : ce g r (d + 12) = .inl (gA g 2, 10, .inr (.inr (.inr (.inr (rfs (fun j => gB g + (d + 14 + j))))))) := by
  rcases h with rfl | rfl <;> rfl
theorem ce_Ba {g : gW} {r : Nat → Int32} {d : Nat} (h : isD d) : ce g r (d + 13) = .inl (gA g 0, 10, .inl r) := by
  rcases h with rfl | rfl <;> rfl
theorem ce_Fa {g : gW} {r : Nat → Int32} {d : Nat} (h : isD d) : ce g r (d + 24) = .inl (gA g 3, rmD d, .inr (.inr (.inr (.inr (rfs (fun j => gB g + (d + 25 + j))))))) := by
  rcases h with rfl | rfl <;> rfl
theorem dn_P {g : gW} {r : Nat → Int32} {d R j : Nat} (hj : j < 10) : dn g r d R (d + 14 + j) = .inr (2, [.int (r 0), .int (r 1), .int (r 2), .int (r 3), .int (r 4), .int (r 5), .int (r 6), .int (r 7), .int (r 8), .int (r 9)]) := by
  unfold dn
  rw [if_neg (by omega), if_neg (by omega), if_neg (by omega), if_neg (by omega), if_neg (by omega), if_pos (by omega)]
theorem dn_F {g : gW} {r : Nat → Int32} {d R j : Nat} : dn g r d R (d + 25 + j) = .inr (1, [.int (r 0), .int (r 1), .int (r 2), .int (r 3), .int (r 4)]) := by
  unfold dn
  rw [if_neg (by omega), if_neg (by omega), if_neg (by omega), if_neg (by omega), if_neg (by omega), if_neg (by omega), if_neg (by omega)]
theorem dn_W {g : gW} {r : Nat → Int32} {d R j : Nat} (hj : j < 10) : dn g r d R (d + 2 + j) = .inr (3, [.int (r 0), .int (r 1), .int (r 2)]) := by
  unfold dn
  rw [if_neg (by omega), if_neg (by omega), if_pos (by omega)]
theorem ce_P {g : gW} {r : Nat → Int32} {o : Nat} (h : isP o) : ce g r o = .inr (2, [.int (r 0), .int (r 1), .int (r 2), .int (r 3), .int (r 4), .int (r 5), .int (r 6), .int (r 7), .int (r 8), .int (r 9)]) := by
  obtain ⟨d, j, rfl | rfl, hj, rfl⟩ := h <;> unfold ce
  · rw [if_neg (by omega), if_pos (by omega)]; exact dn_P hj
  · rw [if_neg (by omega), if_neg (by omega), if_pos (by omega)]; exact dn_P hj
theorem ce_F {g : gW} {r : Nat → Int32} {o : Nat} (h : isF o) : ce g r o = .inr (1, [.int (r 0), .int (r 1), .int (r 2), .int (r 3), .int (r 4)]) := by
  obtain ⟨d, j, rfl | rfl, hj, rfl⟩ := h <;> simp [rmD] at hj <;> unfold ce
  · rw [if_neg (by omega), if_pos (by omega)]; exact dn_F
  · rw [if_neg (by omega), if_neg (by omega), if_pos (by omega)]; exact dn_F
theorem ce_W {g : gW} {r : Nat → Int32} {o : Nat} (h : isWt o) : ce g r o = .inr (3, [.int (r 0), .int (r 1), .int (r 2)]) := by
  obtain ⟨d, j, rfl | rfl, hj, rfl⟩ := h <;> unfold ce
  · rw [if_neg (by omega), if_pos (by omega)]; exact dn_W hj
  · rw [if_neg (by omega), if_neg (by omega), if_pos (by omega)]; exact dn_W hj
/-- which cells a method may change: the world's, and those that it makes -/
def AA (g : gW) (sz : Nat) : Nat → Prop := fun q => (gB g ≤ q ∧ q < gB g + 71) ∨ sz ≤ q
/-- a method's surroundings -/
def CX (g : gW) (p : Program) (s : State) (m : MethodId) (args : Array Value) (meth : Method) (c : Code) (cc : ByteArray) (nL : Nat) (own : String) : Prop :=
  p.tables.exec = Jvm.exec ∧ c.code = cc ∧ c.maxLocals = nL ∧ s.vm.findClass own = some m.cls ∧ (∀ w ∈ TT, w.before args s = true) ∧ va_K (gD g) vwCl (gT g) s ∧ meth.locks = false ∧ gB g + 71 ≤ s.heap.size
def lk : List (Nat × Value) → Nat → Option Value
  | [], _ => none
  | (j, v) :: t, i => cond (Nat.beq j i) (some v) (lk t i)
def c2 : Value → Bool
  | .long _ => true
  | .double _ => true
  | _ => false
/-- the locals that stay when i is stored -/
def rm : List (Nat × Value) → Nat → List (Nat × Value)
  | [], _ => []
  | (j, v) :: t, i => cond (Nat.beq j i) (rm t i) (cond (Nat.beq (j + 1) i) (cond (c2 v) (rm t i) ((j, v) :: rm t i)) ((j, v) :: rm t i))
theorem lk_mem : ∀ {l : List (Nat × Value)} {i : Nat} {v : Value}, lk l i = some v → (i, v) ∈ l
  | [], _, _, h => by cases h
  | (j, w) :: t, i, v, h => by
    unfold lk at h
    cases hb : Nat.beq j i with
    | true =>
      rw [hb] at h
      have : j = i := Nat.eq_of_beq_eq_true hb
      cases h; subst this; exact List.mem_cons_self
    | false =>
      rw [hb] at h
      exact List.mem_cons_of_mem _ (lk_mem h)
theorem lk_at {ls : Array Slot} {nL : Nat} {l : List (Nat × Value)} (h : lv_has ls nL l) {i : Nat} {v : Value} (hk : lk l i = some v) : ls[i]? = some (.val v) := h.2.2 (i, v) (lk_mem hk)
theorem c2_cat {v : Value} : (v.category == 2) = c2 v := by cases v <;> rfl
theorem rm_sub (i : Nat) : ∀ (l : List (Nat × Value)) (q : Nat × Value), q ∈ rm l i → q ∈ l.filter (fun q => !(q.1 == i) && !(q.1 + 1 == i && q.2.category == 2))
  | [], q, h => by cases h
  | (j, v) :: t, q, h => by
    unfold rm at h
    have ih := rm_sub i t q
    have keep : ∀ {b : Prop}, q ∈ t.filter (fun q => !(q.1 == i) && !(q.1 + 1 == i && q.2.category == 2)) → q ∈ ((j, v) :: t).filter (fun q => !(q.1 == i) && !(q.1 + 1 == i && q.2.category == 2)) := fun {_} h2 => by
      rw [List.mem_filter] at h2 ⊢
      exact ⟨List.mem_cons_of_mem _ h2.1, h2.2⟩
    have new : Nat.beq j i = false → (Nat.beq (j + 1) i = false ∨ c2 v = false) → q = (j, v) → q ∈ ((j, v) :: t).filter (fun q => !(q.1 == i) && !(q.1 + 1 == i && q.2.category == 2)) := by
      intro h1 h2 h3
      subst h3
      rw [List.mem_filter]
      refine ⟨List.mem_cons_self, ?_⟩
      have h1' : (j == i) = false := beq_eq_false_iff_ne.mpr (Nat.ne_of_beq_eq_false h1)
      have e : (v.category == 2) = c2 v := c2_cat
      show (!(j == i) && !((j + 1 == i) && (v.category == 2))) = true
      rw [h1', e]
      rcases h2 with h2 | h2
      · have h2' : (j + 1 == i) = false := beq_eq_false_iff_ne.mpr (Nat.ne_of_beq_eq_false h2)
        rw [h2']; rfl
      · rw [h2, Bool.and_false]; rfl
    cases h1 : Nat.beq j i with
    | true => rw [h1] at h; exact keep (b := True) (ih h)
    | false =>
      rw [h1] at h
      cases h2 : Nat.beq (j + 1) i with
      | false =>
        rw [h2] at h
        rcases List.mem_cons.mp h with h3 | h3
        · exact new h1 (Or.inl h2) h3
        · exact keep (b := True) (ih h3)
      | true =>
        rw [h2] at h
        cases h4 : c2 v with
        | true => rw [h4] at h; exact keep (b := True) (ih h)
        | false =>
          rw [h4] at h
          rcases List.mem_cons.mp h with h3 | h3
          · exact new h1 (Or.inr h4) h3
          · exact keep (b := True) (ih h3)
/-- all of the second list's values stand in the first -/
def hasA (l : List (Nat × Value)) : List (Nat × Value) → Prop
  | [] => True
  | (i, v) :: t => lk l i = some v ∧ hasA l t
theorem hasA_sub {ls : Array Slot} {nL : Nat} {l : List (Nat × Value)} (h : lv_has ls nL l) : ∀ {l' : List (Nat × Value)}, hasA l l' → lv_has ls nL l'
  | [], _ => ⟨h.1, h.2.1, fun q hq => by cases hq⟩
  | (i, v) :: t, hh => ⟨h.1, h.2.1, fun q hq => by
      rcases List.mem_cons.mp hq with h2 | h2
      · subst h2; exact lk_at h hh.1
      · exact (hasA_sub h hh.2).2.2 q h2⟩
end
section
def WW (g : gW) (p : Program) (l : Launch) (e : Env) (R : Room) (s : State) (m : MethodId) (args : Array Value) (below : List Frame) (meth : Method) (c : Code) (nL : Nat) (X : va_W) (h : Hp) (lv : List (Nat × Value)) (cells slots : Nat) (Q : State → Prop) (pc : Nat) (st : List Value) : Prop :=
  ∀ (H : Heap) (locs : List Loc) (ls : Array Slot), va_P (gD g) vwCl (wl g X h) H → va_D (AA g s.heap.size) (wl g X h) → va_S (AA g s.heap.size) s.heap H locs → lv_has ls nL lv → W p l e R s m args below meth c H locs cells slots Q (F0 m pc ls st)
def mxI (x y : Int32) : Int32 := if x < y then y else x
def mnI (x y : Int32) : Int32 := if y < x then y else x
def abI (x : Int32) : Int32 := if 0 ≤ x then x else 0 - x
theorem rm_has {ls2 : Array Slot} {nL i : Nat} {v : Value} {lv : List (Nat × Value)} (h2 : lv_has ls2 nL ((i, v) :: lv.filter (fun q => !(q.1 == i) && !(q.1 + 1 == i && q.2.category == 2)))) : lv_has ls2 nL ((i, v) :: rm lv i) :=
  ⟨h2.1, h2.2.1, fun q hq => h2.2.2 q ((List.mem_cons.mp hq).elim (fun h3 => h3 ▸ List.mem_cons_self) (fun h3 => List.mem_cons_of_mem _ (rm_sub i lv q h3)))⟩
section GWR
variable {g : gW} {p : Program} {l : Launch} {e : Env} {R : Room} {s : State} {m : MethodId} {args : Array Value} {below : List Frame} {meth : Method} {c : Code} {cc : ByteArray} {nL : Nat} {own : String} {X : va_W} {h : Hp} {lv : List (Nat × Value)} {cells slots : Nat} {Q : State → Prop} {pc : Nat} {st : List Value}

theorem ww_iconst (C : CX g p s m args meth c cc nL own) {n : Int} {v : Int32}  (hd : decode cc pc = .ok (.iconst n, 1)) (hv : Int32.ofInt n = v) (k : WW g p l e R s m args below meth c nL X h lv cells slots Q (pc + 1) (.int v :: st)) : WW g p l e R s m args below meth c nL X h lv cells slots Q pc st :=
  fun H locs ls hP hD hS hl => lv_iconst C.1 C.2.1 hd hv (k H locs ls hP hD hS hl)
theorem ww_bipush (C : CX g p s m args meth c cc nL own) {n : Int} {v : Int32}  (hd : decode cc pc = .ok (.bipush n, 2)) (hv : (Int8.ofInt n).toInt32 = v) (k : WW g p l e R s m args below meth c nL X h lv cells slots Q (pc + 2) (.int v :: st)) : WW g p l e R s m args below meth c nL X h lv cells slots Q pc st :=
  fun H locs ls hP hD hS hl => lv_bipush C.1 C.2.1 hd hv (k H locs ls hP hD hS hl)
theorem ww_sipush (C : CX g p s m args meth c cc nL own) {n : Int} {v : Int32}  (hd : decode cc pc = .ok (.sipush n, 3)) (hv : (Int16.ofInt n).toInt32 = v) (k : WW g p l e R s m args below meth c nL X h lv cells slots Q (pc + 3) (.int v :: st)) : WW g p l e R s m args below meth c nL X h lv cells slots Q pc st :=
  fun H locs ls hP hD hS hl => lv_sipush C.1 C.2.1 hd hv (k H locs ls hP hD hS hl)
theorem ww_lconst (C : CX g p s m args meth c cc nL own) {n : Fin 2} {v : Int64}  (hd : decode cc pc = .ok (.lconst n, 1)) (hv : Int64.ofNat (n : Nat) = v) (k : WW g p l e R s m args below meth c nL X h lv cells slots Q (pc + 1) (.long v :: st)) : WW g p l e R s m args below meth c nL X h lv cells slots Q pc st :=
  fun H locs ls hP hD hS hl => lv_lconst C.1 C.2.1 hd hv (k H locs ls hP hD hS hl)
theorem ww_iload_n (C : CX g p s m args meth c cc nL own) {k0 : Fin 4} {x : Int32}  (hd : decode cc pc = .ok (.iload_n k0, 1)) (i : Nat) (hi : (k0 : Nat) = i) (hv : lk lv i = some (.int x)) (k : WW g p l e R s m args below meth c nL X h lv cells slots Q (pc + 1) (.int x :: st)) : WW g p l e R s m args below meth c nL X h lv cells slots Q pc st :=
  fun H locs ls hP hD hS hl => lv_iload_n C.1 C.2.1 hd hi (lk_at hl hv) (k H locs ls hP hD hS hl)
theorem ww_iload (C : CX g p s m args meth c cc nL own) {i : Nat} {x : Int32}  (hd : decode cc pc = .ok (.iload i, 2)) (hv : lk lv i = some (.int x)) (k : WW g p l e R s m args below meth c nL X h lv cells slots Q (pc + 2) (.int x :: st)) : WW g p l e R s m args below meth c nL X h lv cells slots Q pc st :=
  fun H locs ls hP hD hS hl => lv_iload C.1 C.2.1 hd (lk_at hl hv) (k H locs ls hP hD hS hl)
theorem ww_aload_n (C : CX g p s m args meth c cc nL own) {k0 : Fin 4} {x : Nat}  (hd : decode cc pc = .ok (.aload_n k0, 1)) (i : Nat) (hi : (k0 : Nat) = i) (hv : lk lv i = some (.ref x)) (k : WW g p l e R s m args below meth c nL X h lv cells slots Q (pc + 1) (.ref x :: st)) : WW g p l e R s m args below meth c nL X h lv cells slots Q pc st :=
  fun H locs ls hP hD hS hl => lv_aload_n C.1 C.2.1 hd hi (lk_at hl hv) (k H locs ls hP hD hS hl)
theorem ww_aload (C : CX g p s m args meth c cc nL own) {i : Nat} {x : Nat}  (hd : decode cc pc = .ok (.aload i, 2)) (hv : lk lv i = some (.ref x)) (k : WW g p l e R s m args below meth c nL X h lv cells slots Q (pc + 2) (.ref x :: st)) : WW g p l e R s m args below meth c nL X h lv cells slots Q pc st :=
  fun H locs ls hP hD hS hl => lv_aload C.1 C.2.1 hd (lk_at hl hv) (k H locs ls hP hD hS hl)
theorem ww_lload_n (C : CX g p s m args meth c cc nL own) {k0 : Fin 4} {x : Int64}  (hd : decode cc pc = .ok (.lload_n k0, 1)) (i : Nat) (hi : (k0 : Nat) = i) (hv : lk lv i = some (.long x)) (k : WW g p l e R s m args below meth c nL X h lv cells slots Q (pc + 1) (.long x :: st)) : WW g p l e R s m args below meth c nL X h lv cells slots Q pc st :=
  fun H locs ls hP hD hS hl => lv_lload_n C.1 C.2.1 hd hi (lk_at hl hv) (k H locs ls hP hD hS hl)
theorem ww_iadd (C : CX g p s m args meth c cc nL own) {x y : Int32} (hd : decode cc pc = .ok (.iadd, 1))  (k : WW g p l e R s m args below meth c nL X h lv cells slots Q (pc + 1) (.int (x + y) :: st)) : WW g p l e R s m args below meth c nL X h lv cells slots Q pc (.int y :: .int x :: st) :=
  fun H locs ls hP hD hS hl => lv_iadd C.1 C.2.1 hd (k H locs ls hP hD hS hl)
theorem ww_isub (C : CX g p s m args meth c cc nL own) {x y : Int32} (hd : decode cc pc = .ok (.isub, 1))  (k : WW g p l e R s m args below meth c nL X h lv cells slots Q (pc + 1) (.int (x - y) :: st)) : WW g p l e R s m args below meth c nL X h lv cells slots Q pc (.int y :: .int x :: st) :=
  fun H locs ls hP hD hS hl => lv_isub C.1 C.2.1 hd (k H locs ls hP hD hS hl)
theorem ww_imul (C : CX g p s m args meth c cc nL own) {x y : Int32} (hd : decode cc pc = .ok (.imul, 1))  (k : WW g p l e R s m args below meth c nL X h lv cells slots Q (pc + 1) (.int (x * y) :: st)) : WW g p l e R s m args below meth c nL X h lv cells slots Q pc (.int y :: .int x :: st) :=
  fun H locs ls hP hD hS hl => lv_imul C.1 C.2.1 hd (k H locs ls hP hD hS hl)
theorem ww_ior (C : CX g p s m args meth c cc nL own) {x y : Int32} (hd : decode cc pc = .ok (.ior, 1))  (k : WW g p l e R s m args below meth c nL X h lv cells slots Q (pc + 1) (.int (x ||| y) :: st)) : WW g p l e R s m args below meth c nL X h lv cells slots Q pc (.int y :: .int x :: st) :=
  fun H locs ls hP hD hS hl => lv_ior C.1 C.2.1 hd (k H locs ls hP hD hS hl)
theorem ww_iand (C : CX g p s m args meth c cc nL own) {x y : Int32} (hd : decode cc pc = .ok (.iand, 1))  (k : WW g p l e R s m args below meth c nL X h lv cells slots Q (pc + 1) (.int (x &&& y) :: st)) : WW g p l e R s m args below meth c nL X h lv cells slots Q pc (.int y :: .int x :: st) :=
  fun H locs ls hP hD hS hl => lv_iand C.1 C.2.1 hd (k H locs ls hP hD hS hl)
theorem ww_ixor (C : CX g p s m args meth c cc nL own) {x y : Int32} (hd : decode cc pc = .ok (.ixor, 1))  (k : WW g p l e R s m args below meth c nL X h lv cells slots Q (pc + 1) (.int (x ^^^ y) :: st)) : WW g p l e R s m args below meth c nL X h lv cells slots Q pc (.int y :: .int x :: st) :=
  fun H locs ls hP hD hS hl => lv_ixor C.1 C.2.1 hd (k H locs ls hP hD hS hl)
theorem ww_ishl (C : CX g p s m args meth c cc nL own) {x y : Int32} (hd : decode cc pc = .ok (.ishl, 1))  (k : WW g p l e R s m args below meth c nL X h lv cells slots Q (pc + 1) (.int (x <<< (y &&& 31)) :: st)) : WW g p l e R s m args below meth c nL X h lv cells slots Q pc (.int y :: .int x :: st) :=
  fun H locs ls hP hD hS hl => lv_ishl C.1 C.2.1 hd (k H locs ls hP hD hS hl)
theorem ww_idiv (C : CX g p s m args meth c cc nL own) {x y : Int32}  (hd : decode cc pc = .ok (.idiv, 1)) (hne : ¬ y = 0) (k : WW g p l e R s m args below meth c nL X h lv cells slots Q (pc + 1) (.int (x / y) :: st)) : WW g p l e R s m args below meth c nL X h lv cells slots Q pc (.int y :: .int x :: st) :=
  fun H locs ls hP hD hS hl => lv_idiv C.1 C.2.1 hd hne (k H locs ls hP hD hS hl)
theorem ww_irem (C : CX g p s m args meth c cc nL own) {x y : Int32}  (hd : decode cc pc = .ok (.irem, 1)) (hne : ¬ y = 0) (k : WW g p l e R s m args below meth c nL X h lv cells slots Q (pc + 1) (.int (x - x / y * y) :: st)) : WW g p l e R s m args below meth c nL X h lv cells slots Q pc (.int y :: .int x :: st) :=
  fun H locs ls hP hD hS hl => lv_irem C.1 C.2.1 hd hne (k H locs ls hP hD hS hl)
theorem ww_ineg (C : CX g p s m args meth c cc nL own) {x : Int32} (hd : decode cc pc = .ok (.ineg, 1))  (k : WW g p l e R s m args below meth c nL X h lv cells slots Q (pc + 1) (.int (-x) :: st)) : WW g p l e R s m args below meth c nL X h lv cells slots Q pc (.int x :: st) :=
  fun H locs ls hP hD hS hl => lv_ineg C.1 C.2.1 hd (k H locs ls hP hD hS hl)
theorem ww_i2l (C : CX g p s m args meth c cc nL own) {x : Int32} (hd : decode cc pc = .ok (.i2l, 1))  (k : WW g p l e R s m args below meth c nL X h lv cells slots Q (pc + 1) (.long x.toInt64 :: st)) : WW g p l e R s m args below meth c nL X h lv cells slots Q pc (.int x :: st) :=
  fun H locs ls hP hD hS hl => lv_i2l C.1 C.2.1 hd rfl (k H locs ls hP hD hS hl)
theorem ww_lmul (C : CX g p s m args meth c cc nL own) {x y : Int64} (hd : decode cc pc = .ok (.lmul, 1))  (k : WW g p l e R s m args below meth c nL X h lv cells slots Q (pc + 1) (.long (x * y) :: st)) : WW g p l e R s m args below meth c nL X h lv cells slots Q pc (.long y :: .long x :: st) :=
  fun H locs ls hP hD hS hl => lv_lmul C.1 C.2.1 hd (k H locs ls hP hD hS hl)
theorem ww_ladd (C : CX g p s m args meth c cc nL own) {x y : Int64} (hd : decode cc pc = .ok (.ladd, 1))  (k : WW g p l e R s m args below meth c nL X h lv cells slots Q (pc + 1) (.long (x + y) :: st)) : WW g p l e R s m args below meth c nL X h lv cells slots Q pc (.long y :: .long x :: st) :=
  fun H locs ls hP hD hS hl => lv_ladd C.1 C.2.1 hd (k H locs ls hP hD hS hl)
theorem ww_dup (C : CX g p s m args meth c cc nL own) {va : Value}  (hd : decode cc pc = .ok (.dup, 1)) (hva : va.category = 1) (k : WW g p l e R s m args below meth c nL X h lv cells slots Q (pc + 1) (va :: va :: st)) : WW g p l e R s m args below meth c nL X h lv cells slots Q pc (va :: st) :=
  fun H locs ls hP hD hS hl => lv_dup C.1 C.2.1 hd hva (k H locs ls hP hD hS hl)
theorem ww_pop (C : CX g p s m args meth c cc nL own) {va : Value}  (hd : decode cc pc = .ok (.pop, 1)) (hva : va.category = 1) (k : WW g p l e R s m args below meth c nL X h lv cells slots Q (pc + 1) st) : WW g p l e R s m args below meth c nL X h lv cells slots Q pc (va :: st) :=
  fun H locs ls hP hD hS hl => lv_pop C.1 C.2.1 hd hva (k H locs ls hP hD hS hl)
theorem ww_dup2 (C : CX g p s m args meth c cc nL own) {va vb : Value}  (hd : decode cc pc = .ok (.dup2, 1)) (hva : va.category = 1) (hvb : vb.category = 1) (k : WW g p l e R s m args below meth c nL X h lv cells slots Q (pc + 1) (va :: vb :: va :: vb :: st)) : WW g p l e R s m args below meth c nL X h lv cells slots Q pc (va :: vb :: st) :=
  fun H locs ls hP hD hS hl => lv_dup2_11 C.1 C.2.1 hd hva hvb (k H locs ls hP hD hS hl)
theorem ww_ldc (C : CX g p s m args meth c cc nL own) {idx : Nat} {v : Int32}  (hd : decode cc pc = .ok (.ldc idx, 2)) (hw : Cond.constant own idx v ∈ TT) (k : WW g p l e R s m args below meth c nL X h lv cells slots Q (pc + 2) (.int v :: st)) : WW g p l e R s m args below meth c nL X h lv cells slots Q pc st :=
  fun H locs ls hP hD hS hl => lv_ldc C.1 C.2.1 C.2.2.2.1 (C.2.2.2.2.1 _ hw) hd (k H locs ls hP hD hS hl)
theorem ww_ldc2 (C : CX g p s m args meth c cc nL own) {idx : Nat} {v : Int64}  (hd : decode cc pc = .ok (.ldc2_w idx, 3)) (hw : Cond.constantLong own idx v ∈ TT) (k : WW g p l e R s m args below meth c nL X h lv cells slots Q (pc + 3) (.long v :: st)) : WW g p l e R s m args below meth c nL X h lv cells slots Q pc st :=
  fun H locs ls hP hD hS hl => lv_ldc2 C.1 C.2.1 C.2.2.2.1 (C.2.2.2.2.1 _ hw) hd (k H locs ls hP hD hS hl)
theorem ww_istore_n (C : CX g p s m args meth c cc nL own) {k0 : Fin 4} {x : Int32}  (hd : decode cc pc = .ok (.istore_n k0, 1)) (i : Nat) (hi : (k0 : Nat) = i) (hn : i < nL) (k : WW g p l e R s m args below meth c nL X h ((i, .int x) :: rm lv i) cells slots Q (pc + 1) st) : WW g p l e R s m args below meth c nL X h lv cells slots Q pc (.int x :: st) := by
  intro H locs ls hP hD hS hl
  exact lv_istore_n C.1 C.2.1 hd hi hl hn rfl (fun ls2 h2 => k H locs ls2 hP hD hS (rm_has h2))
theorem ww_istore (C : CX g p s m args meth c cc nL own) {i : Nat} {x : Int32} (hd : decode cc pc = .ok (.istore i, 2))  (hn : i < nL) (k : WW g p l e R s m args below meth c nL X h ((i, .int x) :: rm lv i) cells slots Q (pc + 2) st) : WW g p l e R s m args below meth c nL X h lv cells slots Q pc (.int x :: st) := by
  intro H locs ls hP hD hS hl
  exact lv_istore C.1 C.2.1 hd hl hn rfl (fun ls2 h2 => k H locs ls2 hP hD hS (rm_has h2))
theorem ww_astore_n (C : CX g p s m args meth c cc nL own) {k0 : Fin 4} {x : Nat}  (hd : decode cc pc = .ok (.astore_n k0, 1)) (i : Nat) (hi : (k0 : Nat) = i) (hn : i < nL) (k : WW g p l e R s m args below meth c nL X h ((i, .ref x) :: rm lv i) cells slots Q (pc + 1) st) : WW g p l e R s m args below meth c nL X h lv cells slots Q pc (.ref x :: st) := by
  intro H locs ls hP hD hS hl
  exact lv_astore_n C.1 C.2.1 hd hi hl hn rfl (fun ls2 h2 => k H locs ls2 hP hD hS (rm_has h2))
theorem ww_astore (C : CX g p s m args meth c cc nL own) {i : Nat} {x : Nat} (hd : decode cc pc = .ok (.astore i, 2))  (hn : i < nL) (k : WW g p l e R s m args below meth c nL X h ((i, .ref x) :: rm lv i) cells slots Q (pc + 2) st) : WW g p l e R s m args below meth c nL X h lv cells slots Q pc (.ref x :: st) := by
  intro H locs ls hP hD hS hl
  exact lv_astore C.1 C.2.1 hd hl hn rfl (fun ls2 h2 => k H locs ls2 hP hD hS (rm_has h2))
theorem ww_iinc (C : CX g p s m args meth c cc nL own) {i : Nat} {n : Int} {x v : Int32} (hd : decode cc pc = .ok (.iinc i n, 3)) (hv : lk lv i = some (.int x)) (he : x + Int32.ofInt n = v) (hn : i < nL) (k : WW g p l e R s m args below meth c nL X h ((i, .int v) :: rm lv i) cells slots Q (pc + 3) st) : WW g p l e R s m args below meth c nL X h lv cells slots Q pc st := by
  intro H locs ls hP hD hS hl
  obtain ⟨k0, hk0⟩ := List.getElem?_of_mem (lk_mem hv)
  exact lv_iinc C.1 C.2.1 hd hl hk0 he hn rfl (fun ls2 h2 => k H locs ls2 hP hD hS (rm_has h2))
theorem ww_icmp_ge (C : CX g p s m args meth c cc nL own) {x y : Int32} {off : Int} (hd : decode cc pc = .ok (.if_icmp .ge off, 3)) (tgt : Nat) (ht : (pc : Int) + off = (tgt : Int)) (kt : y ≤ x → WW g p l e R s m args below meth c nL X h lv cells slots Q tgt st) (kf : ¬ y ≤ x → WW g p l e R s m args below meth c nL X h lv cells slots Q (pc + 3) st) : WW g p l e R s m args below meth c nL X h lv cells slots Q pc (.int y :: .int x :: st) :=
  fun H locs ls hP hD hS hl => lv_icmp_ge C.1 C.2.1 hd ht (fun q => kt q H locs ls hP hD hS hl) (fun q => kf q H locs ls hP hD hS hl)
theorem ww_icmp_lt (C : CX g p s m args meth c cc nL own) {x y : Int32} {off : Int} (hd : decode cc pc = .ok (.if_icmp .lt off, 3)) (tgt : Nat) (ht : (pc : Int) + off = (tgt : Int)) (kt : x < y → WW g p l e R s m args below meth c nL X h lv cells slots Q tgt st) (kf : ¬ x < y → WW g p l e R s m args below meth c nL X h lv cells slots Q (pc + 3) st) : WW g p l e R s m args below meth c nL X h lv cells slots Q pc (.int y :: .int x :: st) :=
  fun H locs ls hP hD hS hl => lv_icmp_lt C.1 C.2.1 hd ht (fun q => kt q H locs ls hP hD hS hl) (fun q => kf q H locs ls hP hD hS hl)
theorem ww_icmp_gt (C : CX g p s m args meth c cc nL own) {x y : Int32} {off : Int} (hd : decode cc pc = .ok (.if_icmp .gt off, 3)) (tgt : Nat) (ht : (pc : Int) + off = (tgt : Int)) (kt : y < x → WW g p l e R s m args below meth c nL X h lv cells slots Q tgt st) (kf : ¬ y < x → WW g p l e R s m args below meth c nL X h lv cells slots Q (pc + 3) st) : WW g p l e R s m args below meth c nL X h lv cells slots Q pc (.int y :: .int x :: st) :=
  fun H locs ls hP hD hS hl => lv_icmp_gt C.1 C.2.1 hd ht (fun q => kt q H locs ls hP hD hS hl) (fun q => kf q H locs ls hP hD hS hl)
theorem ww_icmp_le (C : CX g p s m args meth c cc nL own) {x y : Int32} {off : Int} (hd : decode cc pc = .ok (.if_icmp .le off, 3)) (tgt : Nat) (ht : (pc : Int) + off = (tgt : Int)) (kt : x ≤ y → WW g p l e R s m args below meth c nL X h lv cells slots Q tgt st) (kf : ¬ x ≤ y → WW g p l e R s m args below meth c nL X h lv cells slots Q (pc + 3) st) : WW g p l e R s m args below meth c nL X h lv cells slots Q pc (.int y :: .int x :: st) :=
  fun H locs ls hP hD hS hl => lv_icmp_le C.1 C.2.1 hd ht (fun q => kt q H locs ls hP hD hS hl) (fun q => kf q H locs ls hP hD hS hl)
theorem ww_icmp_eq (C : CX g p s m args meth c cc nL own) {x y : Int32} {off : Int} (hd : decode cc pc = .ok (.if_icmp .eq off, 3)) (tgt : Nat) (ht : (pc : Int) + off = (tgt : Int)) (kt : x = y → WW g p l e R s m args below meth c nL X h lv cells slots Q tgt st) (kf : ¬ x = y → WW g p l e R s m args below meth c nL X h lv cells slots Q (pc + 3) st) : WW g p l e R s m args below meth c nL X h lv cells slots Q pc (.int y :: .int x :: st) :=
  fun H locs ls hP hD hS hl => lv_icmp_eq C.1 C.2.1 hd ht (fun q => kt q H locs ls hP hD hS hl) (fun q => kf q H locs ls hP hD hS hl)
theorem ww_icmp_ne (C : CX g p s m args meth c cc nL own) {x y : Int32} {off : Int} (hd : decode cc pc = .ok (.if_icmp .ne off, 3)) (tgt : Nat) (ht : (pc : Int) + off = (tgt : Int)) (kt : ¬ x = y → WW g p l e R s m args below meth c nL X h lv cells slots Q tgt st) (kf : x = y → WW g p l e R s m args below meth c nL X h lv cells slots Q (pc + 3) st) : WW g p l e R s m args below meth c nL X h lv cells slots Q pc (.int y :: .int x :: st) :=
  fun H locs ls hP hD hS hl => lv_icmp_ne C.1 C.2.1 hd ht (fun q => kt q H locs ls hP hD hS hl) (fun q => kf q H locs ls hP hD hS hl)
theorem ww_if_ge (C : CX g p s m args meth c cc nL own) {x : Int32} {off : Int} (hd : decode cc pc = .ok (.ifCond .ge off, 3)) (tgt : Nat) (ht : (pc : Int) + off = (tgt : Int)) (kt : 0 ≤ x → WW g p l e R s m args below meth c nL X h lv cells slots Q tgt st) (kf : ¬ 0 ≤ x → WW g p l e R s m args below meth c nL X h lv cells slots Q (pc + 3) st) : WW g p l e R s m args below meth c nL X h lv cells slots Q pc (.int x :: st) :=
  fun H locs ls hP hD hS hl => lv_if_ge C.1 C.2.1 hd ht (fun q => kt q H locs ls hP hD hS hl) (fun q => kf q H locs ls hP hD hS hl)
theorem ww_if_lt (C : CX g p s m args meth c cc nL own) {x : Int32} {off : Int} (hd : decode cc pc = .ok (.ifCond .lt off, 3)) (tgt : Nat) (ht : (pc : Int) + off = (tgt : Int)) (kt : x < 0 → WW g p l e R s m args below meth c nL X h lv cells slots Q tgt st) (kf : ¬ x < 0 → WW g p l e R s m args below meth c nL X h lv cells slots Q (pc + 3) st) : WW g p l e R s m args below meth c nL X h lv cells slots Q pc (.int x :: st) :=
  fun H locs ls hP hD hS hl => lv_if_lt C.1 C.2.1 hd ht (fun q => kt q H locs ls hP hD hS hl) (fun q => kf q H locs ls hP hD hS hl)
theorem ww_if_gt (C : CX g p s m args meth c cc nL own) {x : Int32} {off : Int} (hd : decode cc pc = .ok (.ifCond .gt off, 3)) (tgt : Nat) (ht : (pc : Int) + off = (tgt : Int)) (kt : 0 < x → WW g p l e R s m args below meth c nL X h lv cells slots Q tgt st) (kf : ¬ 0 < x → WW g p l e R s m args below meth c nL X h lv cells slots Q (pc + 3) st) : WW g p l e R s m args below meth c nL X h lv cells slots Q pc (.int x :: st) :=
  fun H locs ls hP hD hS hl => lv_if_gt C.1 C.2.1 hd ht (fun q => kt q H locs ls hP hD hS hl) (fun q => kf q H locs ls hP hD hS hl)
theorem ww_if_le (C : CX g p s m args meth c cc nL own) {x : Int32} {off : Int} (hd : decode cc pc = .ok (.ifCond .le off, 3)) (tgt : Nat) (ht : (pc : Int) + off = (tgt : Int)) (kt : x ≤ 0 → WW g p l e R s m args below meth c nL X h lv cells slots Q tgt st) (kf : ¬ x ≤ 0 → WW g p l e R s m args below meth c nL X h lv cells slots Q (pc + 3) st) : WW g p l e R s m args below meth c nL X h lv cells slots Q pc (.int x :: st) :=
  fun H locs ls hP hD hS hl => lv_if_le C.1 C.2.1 hd ht (fun q => kt q H locs ls hP hD hS hl) (fun q => kf q H locs ls hP hD hS hl)
theorem ww_if_eq (C : CX g p s m args meth c cc nL own) {x : Int32} {off : Int} (hd : decode cc pc = .ok (.ifCond .eq off, 3)) (tgt : Nat) (ht : (pc : Int) + off = (tgt : Int)) (kt : x = 0 → WW g p l e R s m args below meth c nL X h lv cells slots Q tgt st) (kf : ¬ x = 0 → WW g p l e R s m args below meth c nL X h lv cells slots Q (pc + 3) st) : WW g p l e R s m args below meth c nL X h lv cells slots Q pc (.int x :: st) :=
  fun H locs ls hP hD hS hl => lv_if_eq C.1 C.2.1 hd ht (fun q => kt q H locs ls hP hD hS hl) (fun q => kf q H locs ls hP hD hS hl)
theorem ww_if_ne (C : CX g p s m args meth c cc nL own) {x : Int32} {off : Int} (hd : decode cc pc = .ok (.ifCond .ne off, 3)) (tgt : Nat) (ht : (pc : Int) + off = (tgt : Int)) (kt : ¬ x = 0 → WW g p l e R s m args below meth c nL X h lv cells slots Q tgt st) (kf : x = 0 → WW g p l e R s m args below meth c nL X h lv cells slots Q (pc + 3) st) : WW g p l e R s m args below meth c nL X h lv cells slots Q pc (.int x :: st) :=
  fun H locs ls hP hD hS hl => lv_if_ne C.1 C.2.1 hd ht (fun q => kt q H locs ls hP hD hS hl) (fun q => kf q H locs ls hP hD hS hl)
theorem ww_goto (C : CX g p s m args meth c cc nL own) {off : Int} (hd : decode cc pc = .ok (.goto off, 3)) (tgt : Nat) (ht : (pc : Int) + off = (tgt : Int)) (k : WW g p l e R s m args below meth c nL X h lv cells slots Q tgt st) : WW g p l e R s m args below meth c nL X h lv cells slots Q pc st :=
  fun H locs ls hP hD hS hl => lv_goto C.1 C.2.1 hd ht (k H locs ls hP hD hS hl)
theorem ww_lv (lv2 : List (Nat × Value)) (hh : hasA lv lv2) (k : WW g p l e R s m args below meth c nL X h lv2 cells slots Q pc st) : WW g p l e R s m args below meth c nL X h lv cells slots Q pc st :=
  fun H locs ls hP hD hS hl => k H locs ls hP hD hS (hasA_sub hl hh)
theorem ww_wide (k2 n2 : Nat) (h1 : cells ≤ k2) (h2 : slots ≤ n2) (k : WW g p l e R s m args below meth c nL X h lv k2 n2 Q pc st) : WW g p l e R s m args below meth c nL X h lv cells slots Q pc st :=
  fun H locs ls hP hD hS hl => W.widen h1 h2 (k H locs ls hP hD hS hl)
theorem ww_heap {h2 : Hp} (he : h = h2) (k : WW g p l e R s m args below meth c nL X h2 lv cells slots Q pc st) : WW g p l e R s m args below meth c nL X h lv cells slots Q pc st := by subst he; exact k
theorem ww_top {x y : Int32} (he : x = y) (k : WW g p l e R s m args below meth c nL X h lv cells slots Q pc (.int y :: st)) : WW g p l e R s m args below meth c nL X h lv cells slots Q pc (.int x :: st) := by subst he; exact k
theorem ww_get (C : CX g p s m args meth c cc nL own) {o ci : Nat} {fs : List Value} {cn : String} {T : u_T} {N : Nat} {idx : Nat} (ho : o < 71) (he : ce g (h o) o = .inr (ci, fs)) (hc : vwCl[ci]? = some (cn, T, N)) (hin : ∀ w ∈ u_ws cn T N, w ∈ TT) (k : Nat) (hk : k < N) (hlink : Cond.fieldLink own idx (T k).1 (T k).2.1 (T k).2.2.1 ∈ TT) {v : Value} (hv : fs[k]? = some v) (hd : decode cc pc = .ok (.getfield idx, 3)) (kk : WW g p l e R s m args below meth c nL X h lv cells slots Q (pc + 3) (v :: st)) : WW g p l e R s m args below meth c nL X h lv cells slots Q pc (.ref (gB g + o) :: st) :=
  fun H locs ls hP hD hS hl => va_get (D := gD g) (Ts := TT) C.1 C.2.1 C.2.2.2.2.1 hin C.2.2.2.1 C.2.2.2.2.2.1 hP o (by rw [wl_get ho, he]) hc k hk (C.2.2.2.2.1 _ hlink) (fun _ h9 => h9) hv hd (kk H locs ls hP hD hS hl)
theorem ww_put (C : CX g p s m args meth c cc nL own) {o ci : Nat} {fs : List Value} {cn : String} {T : u_T} {N : Nat} {idx : Nat} (ho : o < 71) (he : ce g (h o) o = .inr (ci, fs)) (hc : vwCl[ci]? = some (cn, T, N)) (hin : ∀ w ∈ u_ws cn T N, w ∈ TT) (ty0 : Nat → FieldType) (hty : ∀ k, k < N → parseFieldDescriptor (T k).2.2.1 = some (ty0 k)) (hnm : ∀ a, a < N → ∀ b, b < N → a ≠ b → (T a).2.1 ≠ (T b).2.1) (k : Nat) (hk : k < N) (hlink : Cond.fieldLink own idx (T k).1 (T k).2.1 (T k).2.2.1 ∈ TT) (hfin : (T k).2.2.2 = false) {v : Int32} (hn : narrow (ty0 k) (.int v) = .int v) (hfit : fits (ty0 k) (.int v) = true) (hl0 : k < fs.length) (he2 : ce g (upd (h o) k v) o = .inr (ci, fs.set k (.int v))) (hd : decode cc pc = .ok (.putfield idx, 3)) (kk : WW g p l e R s m args below meth c nL X (hp_up h o k v) lv cells slots Q (pc + 3) st) : WW g p l e R s m args below meth c nL X h lv cells slots Q pc (.int v :: .ref (gB g + o) :: st) := by
  intro H locs ls hP hD hS hl
  refine va_put (D := gD g) (Ts := TT) C.1 C.2.1 C.2.2.2.2.1 hin ty0 hty hnm C.2.2.2.1 C.2.2.2.2.2.1 hP hD hS o (by rw [wl_get ho, he]) hc k hk (C.2.2.2.2.1 _ hlink) (fun _ h9 => h9) hfin (hty k hk) hn hfit hl0 hd (fun H1 locs1 hP1 hD1 hS1 => ?_)
  rw [← he2, wl_set ho] at hP1 hD1
  exact kk H1 locs1 ls hP1 hD1 hS1 hl
theorem ww_getP (C : CX g p s m args meth c cc nL own) {o idx : Nat} (ho : isP o) (k : Nat) (hk : k < 10) (hlink : Cond.fieldLink own idx (TX2 k).1 (TX2 k).2.1 (TX2 k).2.2.1 ∈ TT) (hd : decode cc pc = .ok (.getfield idx, 3)) (kk : WW g p l e R s m args below meth c nL X h lv cells slots Q (pc + 3) (.int (h o k) :: st)) : WW g p l e R s m args below meth c nL X h lv cells slots Q pc (.ref (gB g + o) :: st) :=
  ww_get (T := TX2) (N := 10) C (isP_lt ho) (ce_P ho) rfl inX2 k (by omega) hlink (by rcases (show k = 0 ∨ k = 1 ∨ k = 2 ∨ k = 3 ∨ k = 4 ∨ k = 5 ∨ k = 6 ∨ k = 7 ∨ k = 8 ∨ k = 9 by omega) with rfl | rfl | rfl | rfl | rfl | rfl | rfl | rfl | rfl | rfl <;> rfl) hd kk
theorem ww_putP (C : CX g p s m args meth c cc nL own) {o idx : Nat} (ho : isP o) (k : Nat) (hk : k = 0 ∨ k = 1 ∨ k = 2 ∨ k = 3 ∨ k = 4 ∨ k = 5 ∨ k = 6 ∨ k = 8 ∨ k = 9) {v : Int32} (hlink : Cond.fieldLink own idx (TX2 k).1 (TX2 k).2.1 (TX2 k).2.2.1 ∈ TT) (hd : decode cc pc = .ok (.putfield idx, 3)) (kk : WW g p l e R s m args below meth c nL X (hp_up h o k v) lv cells slots Q (pc + 3) st) : WW g p l e R s m args below meth c nL X h lv cells slots Q pc (.int v :: .ref (gB g + o) :: st) := by
  rcases hk with rfl | rfl | rfl | rfl | rfl | rfl | rfl | rfl | rfl <;> exact ww_put (T := TX2) (N := 10) C (isP_lt ho) (ce_P ho) rfl inX2 tyX2 tyX2_ok nmX2 _ (by decide) hlink rfl rfl rfl (Nat.le_of_ble_eq_true rfl) (ce_P ho) hd kk
theorem ww_putPb (C : CX g p s m args meth c cc nL own) {o idx : Nat} (ho : isP o) {v : Int32} (hv : v = 0 ∨ v = 1) (hlink : Cond.fieldLink own idx (TX2 7).1 (TX2 7).2.1 (TX2 7).2.2.1 ∈ TT) (hd : decode cc pc = .ok (.putfield idx, 3)) (kk : WW g p l e R s m args below meth c nL X (hp_up h o 7 v) lv cells slots Q (pc + 3) st) : WW g p l e R s m args below meth c nL X h lv cells slots Q pc (.int v :: .ref (gB g + o) :: st) :=
  ww_put (T := TX2) (N := 10) C (isP_lt ho) (ce_P ho) rfl inX2 tyX2 tyX2_ok nmX2 7 (by decide) hlink rfl (by rcases hv with rfl | rfl <;> rfl) (by rcases hv with rfl | rfl <;> rfl) (Nat.le_of_ble_eq_true rfl) (ce_P ho) hd kk
theorem ww_getF (C : CX g p s m args meth c cc nL own) {o idx : Nat} (ho : isF o) (k : Nat) (hk : k < 5) (hlink : Cond.fieldLink own idx (TX1 k).1 (TX1 k).2.1 (TX1 k).2.2.1 ∈ TT) (hd : decode cc pc = .ok (.getfield idx, 3)) (kk : WW g p l e R s m args below meth c nL X h lv cells slots Q (pc + 3) (.int (h o k) :: st)) : WW g p l e R s m args below meth c nL X h lv cells slots Q pc (.ref (gB g + o) :: st) :=
  ww_get (T := TX1) (N := 5) C (isF_lt ho) (ce_F ho) rfl inX1 k (by omega) hlink (by rcases (show k = 0 ∨ k = 1 ∨ k = 2 ∨ k = 3 ∨ k = 4 by omega) with rfl | rfl | rfl | rfl | rfl <;> rfl) hd kk
theorem ww_putF (C : CX g p s m args meth c cc nL own) {o idx : Nat} (ho : isF o) (k : Nat) (hk : k = 0 ∨ k = 1 ∨ k = 2 ∨ k = 4) {v : Int32} (hlink : Cond.fieldLink own idx (TX1 k).1 (TX1 k).2.1 (TX1 k).2.2.1 ∈ TT) (hd : decode cc pc = .ok (.putfield idx, 3)) (kk : WW g p l e R s m args below meth c nL X (hp_up h o k v) lv cells slots Q (pc + 3) st) : WW g p l e R s m args below meth c nL X h lv cells slots Q pc (.int v :: .ref (gB g + o) :: st) := by
  rcases hk with rfl | rfl | rfl | rfl <;> exact ww_put (T := TX1) (N := 5) C (isF_lt ho) (ce_F ho) rfl inX1 tyX1 tyX1_ok nmX1 _ (by decide) hlink rfl rfl rfl (Nat.le_of_ble_eq_true rfl) (ce_F ho) hd kk
theorem ww_putFb (C : CX g p s m args meth c cc nL own) {o idx : Nat} (ho : isF o) {v : Int32} (hv : v = 0 ∨ v = 1) (hlink : Cond.fieldLink own idx (TX1 3).1 (TX1 3).2.1 (TX1 3).2.2.1 ∈ TT) (hd : decode cc pc = .ok (.putfield idx, 3)) (kk : WW g p l e R s m args below meth c nL X (hp_up h o 3 v) lv cells slots Q (pc + 3) st) : WW g p l e R s m args below meth c nL X h lv cells slots Q pc (.int v :: .ref (gB g + o) :: st) :=
  ww_put (T := TX1) (N := 5) C (isF_lt ho) (ce_F ho) rfl inX1 tyX1 tyX1_ok nmX1 3 (by decide) hlink rfl (by rcases hv with rfl | rfl <;> rfl) (by rcases hv with rfl | rfl <;> rfl) (Nat.le_of_ble_eq_true rfl) (ce_F ho) hd kk
theorem ww_getW (C : CX g p s m args meth c cc nL own) {o idx : Nat} (ho : isWt o) (k : Nat) (hk : k < 3) (hlink : Cond.fieldLink own idx (TX3 k).1 (TX3 k).2.1 (TX3 k).2.2.1 ∈ TT) (hd : decode cc pc = .ok (.getfield idx, 3)) (kk : WW g p l e R s m args below meth c nL X h lv cells slots Q (pc + 3) (.int (h o k) :: st)) : WW g p l e R s m args below meth c nL X h lv cells slots Q pc (.ref (gB g + o) :: st) :=
  ww_get (T := TX3) (N := 3) C (isWt_lt ho) (ce_W ho) rfl inX3 k (by omega) hlink (by rcases (show k = 0 ∨ k = 1 ∨ k = 2 by omega) with rfl | rfl | rfl <;> rfl) hd kk
theorem ww_putW (C : CX g p s m args meth c cc nL own) {o idx : Nat} (ho : isWt o) (k : Nat) (hk : k = 0 ∨ k = 1 ∨ k = 2) {v : Int32} (hlink : Cond.fieldLink own idx (TX3 k).1 (TX3 k).2.1 (TX3 k).2.2.1 ∈ TT) (hd : decode cc pc = .ok (.putfield idx, 3)) (kk : WW g p l e R s m args below meth c nL X (hp_up h o k v) lv cells slots Q (pc + 3) st) : WW g p l e R s m args below meth c nL X h lv cells slots Q pc (.int v :: .ref (gB g + o) :: st) := by
  rcases hk with rfl | rfl | rfl <;> exact ww_put (T := TX3) (N := 3) C (isWt_lt ho) (ce_W ho) rfl inX3 tyX3 tyX3_ok nmX3 _ (by decide) hlink rfl rfl rfl (Nat.le_of_ble_eq_true rfl) (ce_W ho) hd kk
theorem ww_getD (C : CX g p s m args meth c cc nL own) {o idx : Nat} (ho : isD o) (k : Nat) (hk : k = 4 ∨ k = 5 ∨ k = 6 ∨ k = 7) (hlink : Cond.fieldLink own idx (TX0 k).1 (TX0 k).2.1 (TX0 k).2.2.1 ∈ TT) (hd : decode cc pc = .ok (.getfield idx, 3)) (kk : WW g p l e R s m args below meth c nL X h lv cells slots Q (pc + 3) (.int (h o k) :: st)) : WW g p l e R s m args below meth c nL X h lv cells slots Q pc (.ref (gB g + o) :: st) :=
  ww_get (T := TX0) (N := 8) C (isD_lt ho) (ce_D ho) rfl inX0 k (by omega) hlink (by rcases (show k = 4 ∨ k = 5 ∨ k = 6 ∨ k = 7 by omega) with rfl | rfl | rfl | rfl <;> rfl) hd kk
theorem ww_putD (C : CX g p s m args meth c cc nL own) {o idx : Nat} (ho : isD o) (k : Nat) (hk : k = 4 ∨ k = 5 ∨ k = 6 ∨ k = 7) {v : Int32} (hlink : Cond.fieldLink own idx (TX0 k).1 (TX0 k).2.1 (TX0 k).2.2.1 ∈ TT) (hd : decode cc pc = .ok (.putfield idx, 3)) (kk : WW g p l e R s m args below meth c nL X (hp_up h o k v) lv cells slots Q (pc + 3) st) : WW g p l e R s m args below meth c nL X h lv cells slots Q pc (.int v :: .ref (gB g + o) :: st) := by
  rcases hk with rfl | rfl | rfl | rfl <;> exact ww_put (T := TX0) (N := 8) C (isD_lt ho) (ce_D ho) rfl inX0 tyX0 tyX0_ok nmX0 _ (by decide) hlink rfl rfl rfl (Nat.le_of_ble_eq_true rfl) (ce_D ho) hd kk
theorem ww_getDw (C : CX g p s m args meth c cc nL own) {o idx : Nat} (ho : isD o) (hlink : Cond.fieldLink own idx (TX0 0).1 (TX0 0).2.1 (TX0 0).2.2.1 ∈ TT) (hd : decode cc pc = .ok (.getfield idx, 3)) (kk : WW g p l e R s m args below meth c nL X h lv cells slots Q (pc + 3) (.ref (gB g + (o + 1)) :: st)) : WW g p l e R s m args below meth c nL X h lv cells slots Q pc (.ref (gB g + o) :: st) :=
  ww_get (T := TX0) (N := 8) C (isD_lt ho) (ce_D ho) rfl inX0 0 (by decide) hlink rfl hd kk
theorem ww_getDp (C : CX g p s m args meth c cc nL own) {o idx : Nat} (ho : isD o) (hlink : Cond.fieldLink own idx (TX0 1).1 (TX0 1).2.1 (TX0 1).2.2.1 ∈ TT) (hd : decode cc pc = .ok (.getfield idx, 3)) (kk : WW g p l e R s m args below meth c nL X h lv cells slots Q (pc + 3) (.ref (gB g + (o + 12)) :: st)) : WW g p l e R s m args below meth c nL X h lv cells slots Q pc (.ref (gB g + o) :: st) :=
  ww_get (T := TX0) (N := 8) C (isD_lt ho) (ce_D ho) rfl inX0 1 (by decide) hlink rfl hd kk
theorem ww_getDb (C : CX g p s m args meth c cc nL own) {o idx : Nat} (ho : isD o) (hlink : Cond.fieldLink own idx (TX0 2).1 (TX0 2).2.1 (TX0 2).2.2.1 ∈ TT) (hd : decode cc pc = .ok (.getfield idx, 3)) (kk : WW g p l e R s m args below meth c nL X h lv cells slots Q (pc + 3) (.ref (gB g + (o + 13)) :: st)) : WW g p l e R s m args below meth c nL X h lv cells slots Q pc (.ref (gB g + o) :: st) :=
  ww_get (T := TX0) (N := 8) C (isD_lt ho) (ce_D ho) rfl inX0 2 (by decide) hlink rfl hd kk
theorem ww_getDf (C : CX g p s m args meth c cc nL own) {o idx : Nat} (ho : isD o) (hlink : Cond.fieldLink own idx (TX0 3).1 (TX0 3).2.1 (TX0 3).2.2.1 ∈ TT) (hd : decode cc pc = .ok (.getfield idx, 3)) (kk : WW g p l e R s m args below meth c nL X h lv cells slots Q (pc + 3) (.ref (gB g + (o + 24)) :: st)) : WW g p l e R s m args below meth c nL X h lv cells slots Q pc (.ref (gB g + o) :: st) :=
  ww_get (T := TX0) (N := 8) C (isD_lt ho) (ce_D ho) rfl inX0 3 (by decide) hlink rfl hd kk
theorem ww_getXd (C : CX g p s m args meth c cc nL own) {idx : Nat} (hlink : Cond.fieldLink own idx (TX4 0).1 (TX4 0).2.1 (TX4 0).2.2.1 ∈ TT) (hd : decode cc pc = .ok (.getfield idx, 3)) (kk : WW g p l e R s m args below meth c nL X h lv cells slots Q (pc + 3) (.ref (gB g + 1) :: st)) : WW g p l e R s m args below meth c nL X h lv cells slots Q pc (.ref (gB g + 0) :: st) :=
  ww_get (T := TX4) (N := 2) C (show 0 < 71 by omega) rfl rfl inX4 0 (by decide) hlink rfl hd kk
theorem ww_getXa (C : CX g p s m args meth c cc nL own) {idx : Nat} (hlink : Cond.fieldLink own idx (TX4 1).1 (TX4 1).2.1 (TX4 1).2.2.1 ∈ TT) (hd : decode cc pc = .ok (.getfield idx, 3)) (kk : WW g p l e R s m args below meth c nL X h lv cells slots Q (pc + 3) (.ref (gB g + 32) :: st)) : WW g p l e R s m args below meth c nL X h lv cells slots Q pc (.ref (gB g + 0) :: st) :=
  ww_get (T := TX4) (N := 2) C (show 0 < 71 by omega) rfl rfl inX4 1 (by decide) hlink rfl hd kk
theorem ww_getMf (C : CX g p s m args meth c cc nL own) {idx : Nat} (hlink : Cond.fieldLink own idx (TX5 2).1 (TX5 2).2.1 (TX5 2).2.2.1 ∈ TT) (hd : decode cc pc = .ok (.getfield idx, 3)) (kk : WW g p l e R s m args below meth c nL X h lv cells slots Q (pc + 3) (.ref (gB g + 65) :: st)) : WW g p l e R s m args below meth c nL X h lv cells slots Q pc (.ref (gB g + 64) :: st) :=
  ww_get (T := TX5) (N := 8) C (show 64 < 71 by omega) rfl rfl inX5 2 (by decide) hlink rfl hd kk
theorem ww_getMw (C : CX g p s m args meth c cc nL own) {idx : Nat} (hlink : Cond.fieldLink own idx (TX5 4).1 (TX5 4).2.1 (TX5 4).2.2.1 ∈ TT) (hd : decode cc pc = .ok (.getfield idx, 3)) (kk : WW g p l e R s m args below meth c nL X h lv cells slots Q (pc + 3) (.ref (gB g + 66) :: st)) : WW g p l e R s m args below meth c nL X h lv cells slots Q pc (.ref (gB g + 64) :: st) :=
  ww_get (T := TX5) (N := 8) C (show 64 < 71 by omega) rfl rfl inX5 4 (by decide) hlink rfl hd kk
theorem ww_getMt (C : CX g p s m args meth c cc nL own) {idx : Nat} (hlink : Cond.fieldLink own idx (TX5 5).1 (TX5 5).2.1 (TX5 5).2.2.1 ∈ TT) (hd : decode cc pc = .ok (.getfield idx, 3)) (kk : WW g p l e R s m args below meth c nL X h lv cells slots Q (pc + 3) (.ref (gB g + 67) :: st)) : WW g p l e R s m args below meth c nL X h lv cells slots Q pc (.ref (gB g + 64) :: st) :=
  ww_get (T := TX5) (N := 8) C (show 64 < 71 by omega) rfl rfl inX5 5 (by decide) hlink rfl hd kk
theorem ww_getMh (C : CX g p s m args meth c cc nL own) {idx : Nat} (hlink : Cond.fieldLink own idx (TX5 6).1 (TX5 6).2.1 (TX5 6).2.2.1 ∈ TT) (hd : decode cc pc = .ok (.getfield idx, 3)) (kk : WW g p l e R s m args below meth c nL X h lv cells slots Q (pc + 3) (.ref (gB g + 68) :: st)) : WW g p l e R s m args below meth c nL X h lv cells slots Q pc (.ref (gB g + 64) :: st) :=
  ww_get (T := TX5) (N := 8) C (show 64 < 71 by omega) rfl rfl inX5 6 (by decide) hlink rfl hd kk
theorem ww_getMn (C : CX g p s m args meth c cc nL own) {idx : Nat} (hlink : Cond.fieldLink own idx (TX5 7).1 (TX5 7).2.1 (TX5 7).2.2.1 ∈ TT) (hd : decode cc pc = .ok (.getfield idx, 3)) (kk : WW g p l e R s m args below meth c nL X h lv cells slots Q (pc + 3) (.ref (gB g + 69) :: st)) : WW g p l e R s m args below meth c nL X h lv cells slots Q pc (.ref (gB g + 64) :: st) :=
  ww_get (T := TX5) (N := 8) C (show 64 < 71 by omega) rfl rfl inX5 7 (by decide) hlink rfl hd kk
theorem ww_getM (C : CX g p s m args meth c cc nL own) {idx : Nat} (k : Nat) (hk : k = 0 ∨ k = 1 ∨ k = 3) (hlink : Cond.fieldLink own idx (TX5 k).1 (TX5 k).2.1 (TX5 k).2.2.1 ∈ TT) (hd : decode cc pc = .ok (.getfield idx, 3)) (kk : WW g p l e R s m args below meth c nL X h lv cells slots Q (pc + 3) (.int (h 64 k) :: st)) : WW g p l e R s m args below meth c nL X h lv cells slots Q pc (.ref (gB g + 64) :: st) := by
  rcases hk with rfl | rfl | rfl <;> exact ww_get (T := TX5) (N := 8) C (show 64 < 71 by omega) rfl rfl inX5 _ (by decide) hlink rfl hd kk
theorem ww_putM (C : CX g p s m args meth c cc nL own) {idx : Nat} (k : Nat) (hk : k = 0 ∨ k = 1 ∨ k = 3) {v : Int32} (hlink : Cond.fieldLink own idx (TX5 k).1 (TX5 k).2.1 (TX5 k).2.2.1 ∈ TT) (hd : decode cc pc = .ok (.putfield idx, 3)) (kk : WW g p l e R s m args below meth c nL X (hp_up h 64 k v) lv cells slots Q (pc + 3) st) : WW g p l e R s m args below meth c nL X h lv cells slots Q pc (.int v :: .ref (gB g + 64) :: st) := by
  rcases hk with rfl | rfl | rfl <;> exact ww_put (T := TX5) (N := 8) C (show 64 < 71 by omega) rfl rfl inX5 tyX5 tyX5_ok nmX5 _ (by decide) hlink rfl rfl rfl (Nat.le_of_ble_eq_true rfl) rfl hd kk
theorem ww_iald (C : CX g p s m args meth c cc nL own) {o n j : Nat} (ho : o < 71) (he : ∀ r : Nat → Int32, ce g r o = .inl (gA g 0, n, .inl r)) (hj : j < n) (hn31 : n < 2 ^ 31) (hd : decode cc pc = .ok (.iaload, 1)) (kk : WW g p l e R s m args below meth c nL X h lv cells slots Q (pc + 1) (.int (h o j) :: st)) : WW g p l e R s m args below meth c nL X h lv cells slots Q pc (.int (nI j) :: .ref (gB g + o) :: st) := by
  intro H locs ls hP hD hS hl
  have ej : (nI j).toNatClampNeg = j := nI_clamp (by omega)
  refine va_iald (D := gD g) C.1 C.2.1 C.2.2.2.2.2.1 hP o 0 (by rw [wl_get ho, he]) rfl (vp_in_nI hj hn31) hd ?_
  rw [ej]
  exact kk H locs ls hP hD hS hl
theorem ww_iast (C : CX g p s m args meth c cc nL own) {o n j : Nat} {v : Int32} (ho : o < 71) (he : ∀ r : Nat → Int32, ce g r o = .inl (gA g 0, n, .inl r)) (hj : j < n) (hn31 : n < 2 ^ 31) (hd : decode cc pc = .ok (.iastore, 1)) (kk : WW g p l e R s m args below meth c nL X (hp_up h o j v) lv cells slots Q (pc + 1) st) : WW g p l e R s m args below meth c nL X h lv cells slots Q pc (.int v :: .int (nI j) :: .ref (gB g + o) :: st) := by
  intro H locs ls hP hD hS hl
  have ej : (nI j).toNatClampNeg = j := nI_clamp (by omega)
  refine va_iast (D := gD g) C.1 C.2.1 C.2.2.2.2.2.1 hP hD hS o 0 (by rw [wl_get ho, he]) rfl (vp_in_nI hj hn31) hd (fun H1 locs1 hP1 hD1 hS1 => ?_)
  rw [ej, ← he, wl_set ho] at hP1 hD1
  exact kk H1 locs1 ls hP1 hD1 hS1 hl
theorem ww_aaldW (C : CX g p s m args meth c cc nL own) {d j : Nat} (ho : isD d) (hj : j < 10) (hd : decode cc pc = .ok (.aaload, 1)) (kk : WW g p l e R s m args below meth c nL X h lv cells slots Q (pc + 1) (.ref (gB g + (d + 2 + j)) :: st)) : WW g p l e R s m args below meth c nL X h lv cells slots Q pc (.int (nI j) :: .ref (gB g + (d + 1)) :: st) := by
  intro H locs ls hP hD hS hl
  have hb : 10 < 2 ^ 31 := by omega
  have ej : (nI j).toNatClampNeg = j := nI_clamp (by omega)
  have hlt : d + 1 < 71 := by rcases ho with rfl | rfl <;> omega
  refine va_aldq (D := gD g) C.1 C.2.1 C.2.2.2.2.2.1 hP (d + 1) 1 (by rw [wl_get hlt, ce_Wa ho]) rfl (vp_in_nI hj hb) hd ?_
  rw [ej]
  exact kk H locs ls hP hD hS hl
theorem ww_alenW (C : CX g p s m args meth c cc nL own) {d : Nat} {v : Int32} (ho : isD d) (hv : nI (10) = v) (hd : decode cc pc = .ok (.arraylength, 1)) (kk : WW g p l e R s m args below meth c nL X h lv cells slots Q (pc + 1) (.int v :: st)) : WW g p l e R s m args below meth c nL X h lv cells slots Q pc (.ref (gB g + (d + 1)) :: st) := by
  intro H locs ls hP hD hS hl
  have hlt : d + 1 < 71 := by rcases ho with rfl | rfl <;> omega
  exact va_alen (D := gD g) C.1 C.2.1 C.2.2.2.2.2.1 hP (d + 1) 1 (by rw [wl_get hlt, ce_Wa ho]) rfl (by exact hv) hd (kk H locs ls hP hD hS hl)
theorem ww_aaldP (C : CX g p s m args meth c cc nL own) {d j : Nat} (ho : isD d) (hj : j < 10) (hd : decode cc pc = .ok (.aaload, 1)) (kk : WW g p l e R s m args below meth c nL X h lv cells slots Q (pc + 1) (.ref (gB g + (d + 14 + j)) :: st)) : WW g p l e R s m args below meth c nL X h lv cells slots Q pc (.int (nI j) :: .ref (gB g + (d + 12)) :: st) := by
  intro H locs ls hP hD hS hl
  have hb : 10 < 2 ^ 31 := by omega
  have ej : (nI j).toNatClampNeg = j := nI_clamp (by omega)
  have hlt : d + 12 < 71 := by rcases ho with rfl | rfl <;> omega
  refine va_aldq (D := gD g) C.1 C.2.1 C.2.2.2.2.2.1 hP (d + 12) 2 (by rw [wl_get hlt, ce_Pa ho]) rfl (vp_in_nI hj hb) hd ?_
  rw [ej]
  exact kk H locs ls hP hD hS hl
theorem ww_alenP (C : CX g p s m args meth c cc nL own) {d : Nat} {v : Int32} (ho : isD d) (hv : nI (10) = v) (hd : decode cc pc = .ok (.arraylength, 1)) (kk : WW g p l e R s m args below meth c nL X h lv cells slots Q (pc + 1) (.int v :: st)) : WW g p l e R s m args below meth c nL X h lv cells slots Q pc (.ref (gB g + (d + 12)) :: st) := by
  intro H locs ls hP hD hS hl
  have hlt : d + 12 < 71 := by rcases ho with rfl | rfl <;> omega
  exact va_alen (D := gD g) C.1 C.2.1 C.2.2.2.2.2.1 hP (d + 12) 2 (by rw [wl_get hlt, ce_Pa ho]) rfl (by exact hv) hd (kk H locs ls hP hD hS hl)
theorem ww_aaldF (C : CX g p s m args meth c cc nL own) {d j : Nat} (ho : isD d) (hj : j < rmD d) (hd : decode cc pc = .ok (.aaload, 1)) (kk : WW g p l e R s m args below meth c nL X h lv cells slots Q (pc + 1) (.ref (gB g + (d + 25 + j)) :: st)) : WW g p l e R s m args below meth c nL X h lv cells slots Q pc (.int (nI j) :: .ref (gB g + (d + 24)) :: st) := by
  intro H locs ls hP hD hS hl
  have hb : rmD d < 2 ^ 31 := by unfold rmD; split <;> omega
  have ej : (nI j).toNatClampNeg = j := nI_clamp (by omega)
  have hlt : d + 24 < 71 := by rcases ho with rfl | rfl <;> omega
  refine va_aldq (D := gD g) C.1 C.2.1 C.2.2.2.2.2.1 hP (d + 24) 3 (by rw [wl_get hlt, ce_Fa ho]) rfl (vp_in_nI hj hb) hd ?_
  rw [ej]
  exact kk H locs ls hP hD hS hl
theorem ww_alenF (C : CX g p s m args meth c cc nL own) {d : Nat} {v : Int32} (ho : isD d) (hv : nI (rmD d) = v) (hd : decode cc pc = .ok (.arraylength, 1)) (kk : WW g p l e R s m args below meth c nL X h lv cells slots Q (pc + 1) (.int v :: st)) : WW g p l e R s m args below meth c nL X h lv cells slots Q pc (.ref (gB g + (d + 24)) :: st) := by
  intro H locs ls hP hD hS hl
  have hlt : d + 24 < 71 := by rcases ho with rfl | rfl <;> omega
  exact va_alen (D := gD g) C.1 C.2.1 C.2.2.2.2.2.1 hP (d + 24) 3 (by rw [wl_get hlt, ce_Fa ho]) rfl (by exact hv) hd (kk H locs ls hP hD hS hl)
theorem ww_mmax (C : CX g p s m args meth c cc nL own) {x y : Int32} {idx : Nat} (hlink : Cond.methodLink own idx Lib.Math.max.name ∈ TT) (hfr : 1 ≤ R.frames) (hlo : (st.map fun v => v.category).sum + 13 ≤ R.locals) (hce : cells ≤ R.cells) (hsl : slots ≤ R.slots) (hd : decode cc pc = .ok (.invokestatic idx, 3)) (kk : WW g p l e R s m args below meth c nL X h lv cells slots Q (pc + 3) (.int (mxI x y) :: st)) : WW g p l e R s m args below meth c nL X h lv cells slots Q pc (.int y :: .int x :: st) := by
  intro H locs ls hP hD hS hl
  have ht := C.2.2.2.2.1
  exact va_mmax C.1 C.2.1 (C.2.2.1.trans hl.1.symm) C.2.2.2.1 (ht _ hlink) (ht _ q_t_J_max) (ht _ q_n_J9) (ht _ q_c_J_max) hfr hlo hce hsl hd (kk H locs ls hP hD hS hl)
theorem ww_mmin (C : CX g p s m args meth c cc nL own) {x y : Int32} {idx : Nat} (hlink : Cond.methodLink own idx Lib.Math.min.name ∈ TT) (hfr : 1 ≤ R.frames) (hlo : (st.map fun v => v.category).sum + 13 ≤ R.locals) (hce : cells ≤ R.cells) (hsl : slots ≤ R.slots) (hd : decode cc pc = .ok (.invokestatic idx, 3)) (kk : WW g p l e R s m args below meth c nL X h lv cells slots Q (pc + 3) (.int (mnI x y) :: st)) : WW g p l e R s m args below meth c nL X h lv cells slots Q pc (.int y :: .int x :: st) := by
  intro H locs ls hP hD hS hl
  have ht := C.2.2.2.2.1
  exact va_mmin C.1 C.2.1 (C.2.2.1.trans hl.1.symm) C.2.2.2.1 (ht _ hlink) (ht _ q_t_J_min) (ht _ q_n_J9) (ht _ q_c_J_min) hfr hlo hce hsl hd (kk H locs ls hP hD hS hl)
theorem ww_mabs (C : CX g p s m args meth c cc nL own) {x : Int32} {idx : Nat} (hlink : Cond.methodLink own idx Lib.Math.abs.name ∈ TT) (hfr : 1 ≤ R.frames) (hlo : (st.map fun v => v.category).sum + 13 ≤ R.locals) (hce : cells ≤ R.cells) (hsl : slots ≤ R.slots) (hd : decode cc pc = .ok (.invokestatic idx, 3)) (kk : WW g p l e R s m args below meth c nL X h lv cells slots Q (pc + 3) (.int (abI x) :: st)) : WW g p l e R s m args below meth c nL X h lv cells slots Q pc (.int x :: st) := by
  intro H locs ls hP hD hS hl
  have ht := C.2.2.2.2.1
  exact va_mabs C.1 C.2.1 (C.2.2.1.trans hl.1.symm) C.2.2.2.1 (ht _ hlink) (ht _ q_t_J_abs) (ht _ q_n_J9) (ht _ q_c_J_abs) hfr hlo hce hsl hd (kk H locs ls hP hD hS hl)
end GWR
end
section
/-! CONTRACTS over the world: 'CT .. args h v h2': from the numbers h, with these arguments, the method returns v and leaves the numbers h2. -/
def ws_ (y : MethodName) (cc : ByteArray) (n : Nat) (rt : Option FieldType) : List Cond := .code y cc n rt :: TT
abbrev rK (k mc ms : Nat) : Room := { frames := k, cells := mc, slots := ms, locals := 28 * k }
def PW (g : gW) (h : Hp) (sz : Nat) : State → Prop := fun U => U.heap.size = sz ∧ gB g + 71 ≤ sz ∧ va_P (gD g) vwCl (wl g [] h) U.heap ∧ va_K (gD g) vwCl (gT g) U
def QW (g : gW) (sz : Nat) (v : Option Value) (h2 : Hp) : Array Value → State → Outcome → State → Prop := fun _ st oc t => oc = .returned v ∧ va_P (gD g) vwCl (wl g [] h2) t.heap ∧ va_F (AA g sz) st t
def CT (g : gW) (l : Launch) (y : MethodName) (cc : ByteArray) (nL : Nat) (rt : Option FieldType) (k mc ms : Nat) (As : List Value) (h : Hp) (v : Option Value) (h2 : Hp) : Prop :=
  ∀ sz : Nat, Met l y (ws_ y cc nL rt) (rK k mc ms) (va_Pc As (PW g h sz)) (QW g sz v h2) mc ms (AA g sz)
theorem PW_blind (g : gW) (As : List Value) (h : Hp) (sz : Nat) : FrameBlind (va_Pc As (PW g h sz)) := by
  intro a U gg mk q
  obtain ⟨q0, q1, q2, q3, q4⟩ := q
  exact ⟨q0, q1, q2, q3, va_K.moved (u := U) (U := U.calling gg mk a) (Vm.Alike.refl U.vm) q4⟩
theorem AA_mono {g : gW} {a b q : Nat} (hab : a ≤ b) (h : AA g b q) : AA g a q := h.elim Or.inl (fun z => Or.inr (Nat.le_trans hab z))
theorem wl_len {g : gW} {X : va_W} {h : Hp} : (wl g X h).length = 71 + X.length := by simp [wl]
theorem wl_addr {g : gW} {X : va_W} {h h2 : Hp} {k : Nat} {q : Nat × va_E} (hk : (wl g X h)[k]? = some q) : ∃ q2, (wl g X h2)[k]? = some q2 ∧ q2.1 = q.1 := by
  by_cases hl : k < 71
  · rw [wl_get hl] at hk
    cases hk
    exact ⟨_, wl_get hl, rfl⟩
  · unfold wl at hk ⊢
    rw [List.getElem?_append_right (by simp; omega)] at hk ⊢
    simp only [List.length_map, List.length_range] at hk ⊢
    exact ⟨q, hk, rfl⟩
theorem wl_D {g : gW} {X : va_W} {A : Nat → Prop} {h : Hp} (h2 : Hp) (hD : va_D A (wl g X h)) : va_D A (wl g X h2) := by
  refine ⟨fun i j x y hx hy hxy => ?_, fun k q hk => ?_⟩
  · obtain ⟨x2, a1, a2⟩ := wl_addr (h2 := h) hx
    obtain ⟨y2, b1, b2⟩ := wl_addr (h2 := h) hy
    exact hD.1 i j x2 y2 a1 b1 (a2.trans (hxy.trans b2.symm))
  · obtain ⟨q2, a1, a2⟩ := wl_addr (h2 := h) hk
    rw [← a2]
    exact hD.2 k q2 a1
theorem wl_X {g : gW} {X : va_W} {h : Hp} {i : Nat} {q : Nat × va_E} (hi : X[i]? = some q) : (wl g X h)[71 + i]? = some q := by
  unfold wl
  rw [List.getElem?_append_right (by simp)]
  simpa using hi
/-- a cell of X is none of the world's -/
theorem wl_apart {g : gW} {X : va_W} {A : Nat → Prop} {h : Hp} (hD : va_D A (wl g X h)) {i : Nat} {q : Nat × va_E} (hi : X[i]? = some q) : ¬ (gB g ≤ q.1 ∧ q.1 < gB g + 71) := by
  intro hz
  have h1 := wl_X (g := g) (h := h) hi
  have h2 := wl_get (g := g) (X := X) (h := h) (show q.1 - gB g < 71 by omega)
  have := hD.1 _ _ _ _ h1 h2 (by show q.1 = gB g + (q.1 - gB g); omega)
  omega
/-- the world without X, in the other heap, and X as it was -/
theorem wl_join {g : gW} {X : va_W} {A : Nat → Prop} {h h2 : Hp} {H H1 : Heap} (hP : va_P (gD g) vwCl (wl g X h) H) (hD : va_D A (wl g X h)) (hP1 : va_P (gD g) vwCl (wl g [] h2) H1) (hk : ∀ q : Nat, q < H.size → ¬ AA g H.size q → H1[q]? = H[q]?) : va_P (gD g) vwCl (wl g X h2) H1 := by
  intro k q hq
  by_cases hl : k < 71
  · rw [wl_get hl] at hq
    exact hP1 k q (by rw [wl_get hl]; exact hq)
  · have hq2 : X[k - 71]? = some q := by
      unfold wl at hq
      rw [List.getElem?_append_right (by simp; omega)] at hq
      simpa using hq
    have h1 := hP _ q (wl_X hq2)
    have hlt := h1.lt
    refine h1.kept (hk q.1 hlt (fun z => ?_))
    rcases z with z | z
    · exact wl_apart hD hq2 z
    · omega
theorem wl_sub {g : gW} {X : va_W} {h : Hp} {H : Heap} (hP : va_P (gD g) vwCl (wl g X h) H) : va_P (gD g) vwCl (wl g [] h) H := by
  intro k q hq
  have hl : k < 71 := by
    have := (List.getElem?_eq_some_iff.mp hq).1
    rw [wl_len] at this
    simpa using this
  rw [wl_get hl] at hq
  exact hP k q (by rw [wl_get hl]; exact hq)
theorem wl_D0 {g : gW} {h : Hp} {A : Nat → Prop} (hA : ∀ q, gB g ≤ q ∧ q < gB g + 71 → A q) : va_D A (wl g [] h) := by
  have key : ∀ (k : Nat) (q : Nat × va_E), (wl g [] h)[k]? = some q → k < 71 ∧ q.1 = gB g + k := by
    intro k q hq
    have hl : k < 71 := by
      have := (List.getElem?_eq_some_iff.mp hq).1
      rw [wl_len] at this
      simpa using this
    rw [wl_get hl] at hq
    cases hq
    exact ⟨hl, rfl⟩
  refine ⟨fun i j x y hx hy hxy => ?_, fun k q hk => ?_⟩
  · have := key i x hx
    have := key j y hy
    omega
  · have := key k q hk
    exact hA _ (by omega)
/-- a method's words: it can be called by its name -/
def MFb (y : MethodName) (cY : ByteArray) (nLY : Nat) (rt : Option FieldType) (n : Nat) : Prop :=
  Cond.code y cY nLY rt ∈ TT ∧ Cond.initialized y.cls ∈ TT ∧ (y.cls ≠ "java/lang/invoke/MethodHandle" ∧ y.cls ≠ "java/lang/invoke/VarHandle" ∧ (parseMethodDescriptor y.desc).map (fun d => d.parameters.length) = some n) ∧ plainFor y = true
def MFv (y : MethodName) (cY : ByteArray) (nLY : Nat) (rt : Option FieldType) (n : Nat) : Prop := MFb y cY nLY rt n ∧ Cond.instanceMethod y ∈ TT ∧ Cond.selects y.cls y y ∈ TT
def MFs (y : MethodName) (cY : ByteArray) (nLY : Nat) (rt : Option FieldType) (n : Nat) : Prop := MFb y cY nLY rt n ∧ Cond.static y ∈ TT
theorem ws_good {own : String} {idx : Nat} {y : MethodName} {cY : ByteArray} {nLY : Nat} {rt : Option FieldType} (hc : Cond.code y cY nLY rt ∈ TT) : GoodIn TT (ws_ y cY nLY rt) := by
  intro w hw
  rcases List.mem_cons.mp hw with h | h
  · subst h; exact ⟨hc, tt_good hc⟩
  · exact ⟨h, tt_good h⟩
section GWC
variable {g : gW} {p : Program} {l : Launch} {e : Env} {R : Room} {s : State} {m : MethodId} {args : Array Value} {below : List Frame} {meth : Method} {c : Code} {cc : ByteArray} {nL : Nat} {own : String} {X : va_W} {h : Hp} {lv : List (Nat × Value)} {cells slots : Nat} {Q : State → Prop} {pc : Nat} {st : List Value}
/-- a method's proof: its walk -/
theorem CT.of {y : MethodName} {rt : Option FieldType} {k mc ms : Nat} {As : List Value} {v : Option Value} {h2 : Hp} {lv0 : List (Nat × Value)} (hy : plainFor y = true) (hn : (lg_sl As).length ≤ nL) (hl0 : lv_args 0 As = lv0)
    (body : ∀ (p : Program) (e : Env) (s : State) (m : MethodId) (below : List Frame) (meth : Method) (c : Code), CX g p s m As.toArray meth c cc nL y.cls → meth.sig.returnType = rt →
      WW g p l e (rK k mc ms) s m As.toArray below meth c nL [] h lv0 0 0 (MQ below (QW g s.heap.size v h2) As.toArray s mc ms (AA g s.heap.size)) 0 []) : CT g l y cc nL rt k mc ms As h v h2 := by
  intro sz
  refine va_MetF (cc := cc) (maxL := nL) (ret := rt) (ws' := TT) hy rfl ?_
  intro p e s m args below meth c s₁ B hml hv
  obtain ⟨rfl, hsz, hb71, hP, hK⟩ := hv
  subst hsz
  have hts := atoms_spec (ws := ws_ y cc nL rt) B.pre
  have hown : s.vm.findClass y.cls = some m.cls := findClass_of_methodNamed B.named
  have hl := lv_entry As (n := nL) hn
  rw [lg_entry_eq]
  rw [hl0] at hl
  exact body p e s m below meth c ⟨B.exec, B.bytes, hml, hown, fun w hw => hts w (List.mem_cons_of_mem _ hw), hK, B.notSynchronized, hb71⟩ B.returns s.heap [] _ hP (wl_D0 (fun q hq => Or.inl hq)) va_S.rf hl
/-- behind a call: what the callee left -/
theorem ww_after {mc ms : Nat} {v : Option Value} {h2 : Hp} {rest st0 : List Value} {a : Array Value} (C : CX g p s m args meth c cc nL own) {H : Heap} {locs : List Loc} {ls : Array Slot} (hP : va_P (gD g) vwCl (wl g X h) H) (hD : va_D (AA g s.heap.size) (wl g X h)) (hS : va_S (AA g s.heap.size) s.heap H locs) (hl : lv_has ls nL lv)
    (hr : va_Run p l e R s m args below meth c H locs cells slots mc ms (F0 m pc ls st0) rest (QW g H.size v h2 a) (AA g H.size))
    (kk : WW g p l e R s m args below meth c nL X h2 lv (cells + mc) (slots + ms) Q (pc + 3) (v.toList ++ rest)) : W p l e R s m args below meth c H locs cells slots Q (F0 m pc ls st0) := by
  intro T hT X0
  obtain ⟨v9, st₀, t, T', L, h0, X', hL, e1, e2, ⟨hv, hp, hz, hk⟩, st9⟩ := hr T hT X0
  cases hv
  rw [h0] at hz hk
  have hA : ∀ q, AA g H.size q → AA g s.heap.size q := fun q hq => AA_mono hS.1 hq
  obtain ⟨t2, a1, b1⟩ := kk T'.heap (locs ++ L) ls (by rw [e1]; exact wl_join hP hD hp hk) (wl_D h2 hD)
    ⟨Nat.le_trans hS.1 (by rw [e1]; exact hz), fun q h1 h2 => by rw [e1, hk q (Nat.lt_of_lt_of_le h1 hS.1) (fun z => h2 (hA q z))]; exact hS.2.1 q h1 h2, fun q hq => by
      rcases List.mem_append.mp hq with h3 | h3
      · exact hS.2.2 q h3
      · exact hA _ (hL q h3)⟩ hl T' rfl X'
  exact ⟨t2, st9 t2 a1, b1⟩
theorem PW_now {y : MethodName} {As : List Value} (C : CX g p s m args meth c cc nL own) {H : Heap} {locs : List Loc} (hP : va_P (gD g) vwCl (wl g X h) H) (hS : va_S (AA g s.heap.size) s.heap H locs) : ∀ U : State, U.heap = H → s.WarmedH U.vm → va_Pc As (PW g h H.size) As.toArray U := by
  intro U hU hW
  exact ⟨rfl, by rw [hU], Nat.le_trans C.2.2.2.2.2.2.2 hS.1, by rw [hU]; exact wl_sub hP, va_K.moved hW.alike C.2.2.2.2.2.1⟩
theorem ww_callV (C : CX g p s m args meth c cc nL own) {y : MethodName} {cY : ByteArray} {nLY k mc ms o n idx ci : Nat} {rt : Option FieldType} {As rest : List Value} {v : Option Value} {h2 : Hp} (hF : MFv y cY nLY rt n) (hM : CT g l y cY nLY rt k mc ms (.ref (gB g + o) :: As) h v h2) (hlink : Cond.methodLink own idx y ∈ TT)
    (ho : o < 71) {q : vw_C} (hq : vwCl[ci]? = some q) (hqc : q.1 = y.cls) (hce : ∃ fs, ce g (h o) o = .inr (ci, fs)) (hAs : As.length = n) (hst : st = As.reverse ++ .ref (gB g + o) :: rest) (hcat : (rest.map fun v => v.category).sum ≤ 8) (hk : k + 1 ≤ R.frames ∧ 8 + (nLY + 11) + 28 * k ≤ R.locals) (hr : cells + mc ≤ R.cells ∧ slots + ms ≤ R.slots) (hd : decode cc pc = .ok (.invokevirtual idx, 3))
    (kk : WW g p l e R s m args below meth c nL X h2 lv (cells + mc) (slots + ms) Q (pc + 3) (v.toList ++ rest)) : WW g p l e R s m args below meth c nL X h lv cells slots Q pc st := by
  intro H locs ls hP hD hS hl
  have ht := C.2.2.2.2.1
  obtain ⟨⟨f1, f2, ⟨f3, f4, f5⟩, -⟩, f6, f7⟩ := hF
  obtain ⟨fs, hce⟩ := hce
  have hcell : ∃ cellB : Cell, H[gB g + o]? = some cellB ∧ cellB.vm.isStatics = false ∧ s.vm.findClass y.cls = some cellB.cls := by
    have := va_recv C.2.2.2.2.2.1 hP hq (show (wl g X h)[o]? = some (gB g + o, .inr (ci, fs)) by rw [wl_get ho, hce])
    rw [hqc] at this
    exact this
  refine ww_after C hP hD hS hl (va_runV (Ts := TT) (own := own) (C := y.cls) (As := As) (rest := rest) ⟨C.1, C.2.1, C.2.2.1, C.2.2.2.1, ht⟩ (hM H.size) ⟨callB_of n ht (ws_good (own := own) (idx := idx) f1) rfl rfl rfl (ht _ f2) (ht _ hlink) ⟨f3, f4, f5⟩ hk, ht _ f6, ht _ f7⟩ ⟨PW_blind g _ h _, hcell, PW_now (y := y) (As := .ref (gB g + o) :: As) C hP hS⟩ rfl hAs hl.1 hst (lv_room hcat) hd hr) kk
theorem ww_callS (C : CX g p s m args meth c cc nL own) {y : MethodName} {cY : ByteArray} {nLY k mc ms n idx : Nat} {rt : Option FieldType} {As rest : List Value} {v : Option Value} {h2 : Hp} (hF : MFs y cY nLY rt n) (hM : CT g l y cY nLY rt k mc ms As h v h2) (hlink : Cond.methodLink own idx y ∈ TT)
    (hAs : As.length = n) (hst : st = As.reverse ++ rest) (hcat : (rest.map fun v => v.category).sum ≤ 8) (hk : k + 1 ≤ R.frames ∧ 8 + (nLY + 11) + 28 * k ≤ R.locals) (hr : cells + mc ≤ R.cells ∧ slots + ms ≤ R.slots) (hd : decode cc pc = .ok (.invokestatic idx, 3))
    (kk : WW g p l e R s m args below meth c nL X h2 lv (cells + mc) (slots + ms) Q (pc + 3) (v.toList ++ rest)) : WW g p l e R s m args below meth c nL X h lv cells slots Q pc st := by
  intro H locs ls hP hD hS hl
  have ht := C.2.2.2.2.1
  obtain ⟨⟨f1, f2, ⟨f3, f4, f5⟩, -⟩, f6⟩ := hF
  refine ww_after C hP hD hS hl (va_runS (Ts := TT) (own := own) (As := As) (rest := rest) ⟨C.1, C.2.1, C.2.2.1, C.2.2.2.1, ht⟩ (hM H.size) ⟨callB_of n ht (ws_good (own := own) (idx := idx) f1) rfl rfl rfl (ht _ f2) (ht _ hlink) ⟨f3, f4, f5⟩ hk, ht _ f6⟩ ⟨PW_blind g _ h _, PW_now (y := y) C hP hS⟩ rfl hAs hl.1 hst (lv_room hcat) hd hr) kk
/-- the ends -/
theorem QW_now {v : Option Value} (C : CX g p s m args meth c cc nL own) {H : Heap} {locs : List Loc} (hP : va_P (gD g) vwCl (wl g X h) H) (hS : va_S (AA g s.heap.size) s.heap H locs) : ∀ t : State, t.heap = H → s.WarmedH t.vm → QW g s.heap.size v h args s (.returned v) t :=
  fun t ht _ => ⟨rfl, by rw [ht]; exact wl_sub hP, hS.F ht⟩
theorem ww_iret (C : CX g p s m args meth c cc nL own) {r : Int32} {v : Option Value} {h2 : Hp} (hr : meth.sig.returnType = some .int) (hv : v = some (.int r)) (hh : h2 = h) (hd : decode cc pc = .ok (.ireturn, 1)) : WW g p l e R s m args below meth c nL X h lv cells slots (MQ below (QW g s.heap.size v h2) args s cells slots (AA g s.heap.size)) pc [.int r] := by
  intro H locs ls hP hD hS hl
  subst hv; subst hh
  exact W.iret C.1 C.2.1 hr (QW_now C hP hS) hS.2.2 hd C.2.2.2.2.2.2.1
theorem ww_zret (C : CX g p s m args meth c cc nL own) {r : Int32} {v : Option Value} {h2 : Hp} (hr : meth.sig.returnType = some .boolean) (hz : r = 0 ∨ r = 1) (hv : v = some (.int r)) (hh : h2 = h) (hd : decode cc pc = .ok (.ireturn, 1)) : WW g p l e R s m args below meth c nL X h lv cells slots (MQ below (QW g s.heap.size v h2) args s cells slots (AA g s.heap.size)) pc [.int r] := by
  intro H locs ls hP hD hS hl
  subst hv; subst hh
  exact W.zret C.1 C.2.1 hr (by rcases hz with rfl | rfl <;> rfl) (QW_now C hP hS) hS.2.2 hd C.2.2.2.2.2.2.1
theorem ww_vret (C : CX g p s m args meth c cc nL own) {v : Option Value} {h2 : Hp} (hr : meth.sig.returnType = none) (hv : v = none) (hh : h2 = h) (hd : decode cc pc = .ok (.return_, 1)) : WW g p l e R s m args below meth c nL X h lv cells slots (MQ below (QW g s.heap.size v h2) args s cells slots (AA g s.heap.size)) pc [] := by
  intro H locs ls hP hD hS hl
  subst hv; subst hh
  exact W.vret C.1 C.2.1 hr (QW_now C hP hS) hS.2.2 hd C.2.2.2.2.2.2.1
theorem ww_lret (C : CX g p s m args meth c cc nL own) {r : Int64} {v : Option Value} {h2 : Hp} (hr : meth.sig.returnType = some .long) (hv : v = some (.long r)) (hh : h2 = h) (hd : decode cc pc = .ok (.lreturn, 1)) : WW g p l e R s m args below meth c nL X h lv cells slots (MQ below (QW g s.heap.size v h2) args s cells slots (AA g s.heap.size)) pc [.long r] := by
  intro H locs ls hP hD hS hl
  subst hv; subst hh
  exact W.lret C.1 C.2.1 hr (QW_now C hP hS) hS.2.2 hd C.2.2.2.2.2.2.1
theorem ww_aret (C : CX g p s m args meth c cc nL own) {a : Nat} {n : String} {v : Option Value} {h2 : Hp} (hr : meth.sig.returnType = some (.object n)) (hv : v = some (.ref a)) (hh : h2 = h) (hd : decode cc pc = .ok (.areturn, 1)) : WW g p l e R s m args below meth c nL X h lv cells slots (MQ below (QW g s.heap.size v h2) args s cells slots (AA g s.heap.size)) pc [.ref a] := by
  intro H locs ls hP hD hS hl
  subst hv; subst hh
  exact W.aret C.1 C.2.1 hr (Or.inl ⟨n, rfl⟩) (Or.inr ⟨a, rfl⟩) (QW_now C hP hS) hS.2.2 hd C.2.2.2.2.2.2.1
end GWC
end
section
theorem mf_X0_init : MFb yX0_init cX0_init 3 none 1 := ⟨q_c_X0_init, q_n_X0, by decide +kernel, by decide +kernel⟩
theorem mf_X0_becomeLike : MFv yX0_becomeLike cX0_becomeLike 3 none 1 := ⟨⟨q_c_X0_becomeLike, q_n_X0, by decide +kernel, by decide +kernel⟩, q_i_X0_becomeLike, q_s_X0_becomeLike⟩
theorem mf_X0_weatherAt : MFv yX0_weatherAt cX0_weatherAt 2 (some (FieldType.object "DewPond$Weather")) 1 := ⟨⟨q_c_X0_weatherAt, q_n_X0, by decide +kernel, by decide +kernel⟩, q_i_X0_weatherAt, q_s_X0_weatherAt⟩
theorem mf_X0_pondAt : MFv yX0_pondAt cX0_pondAt 2 (some (FieldType.object "DewPond$Pond")) 1 := ⟨⟨q_c_X0_pondAt, q_n_X0, by decide +kernel, by decide +kernel⟩, q_i_X0_pondAt, q_s_X0_pondAt⟩
theorem mf_X0_flockAt : MFv yX0_flockAt cX0_flockAt 2 (some (FieldType.object "DewPond$Flock")) 1 := ⟨⟨q_c_X0_flockAt, q_n_X0, by decide +kernel, by decide +kernel⟩, q_i_X0_flockAt, q_s_X0_flockAt⟩
theorem mf_X0_makePond : MFv yX0_makePond cX0_makePond 9 (some FieldType.int) 5 := ⟨⟨q_c_X0_makePond, q_n_X0, by decide +kernel, by decide +kernel⟩, q_i_X0_makePond, q_s_X0_makePond⟩
theorem mf_X0_makeFlock : MFv yX0_makeFlock cX0_makeFlock 4 (some FieldType.int) 2 := ⟨⟨q_c_X0_makeFlock, q_n_X0, by decide +kernel, by decide +kernel⟩, q_i_X0_makeFlock, q_s_X0_makeFlock⟩
theorem mf_X0_liveDays : MFv yX0_liveDays cX0_liveDays 4 (some FieldType.int) 1 := ⟨⟨q_c_X0_liveDays, q_n_X0, by decide +kernel, by decide +kernel⟩, q_i_X0_liveDays, q_s_X0_liveDays⟩
theorem mf_X0_liveDay : MFv yX0_liveDay cX0_liveDay 5 (some FieldType.int) 0 := ⟨⟨q_c_X0_liveDay, q_n_X0, by decide +kernel, by decide +kernel⟩, q_i_X0_liveDay, q_s_X0_liveDay⟩
theorem mf_X0_waterFlocks : MFv yX0_waterFlocks cX0_waterFlocks 6 (some FieldType.int) 0 := ⟨⟨q_c_X0_waterFlocks, q_n_X0, by decide +kernel, by decide +kernel⟩, q_i_X0_waterFlocks, q_s_X0_waterFlocks⟩
theorem mf_X0_nearestWaterFor : MFv yX0_nearestWaterFor cX0_nearestWaterFor 7 (some FieldType.int) 1 := ⟨⟨q_c_X0_nearestWaterFor, q_n_X0, by decide +kernel, by decide +kernel⟩, q_i_X0_nearestWaterFor, q_s_X0_nearestWaterFor⟩
theorem mf_X0_runOver : MFv yX0_runOver cX0_runOver 4 none 0 := ⟨⟨q_c_X0_runOver, q_n_X0, by decide +kernel, by decide +kernel⟩, q_i_X0_runOver, q_s_X0_runOver⟩
theorem mf_X0_rotStraw : MFv yX0_rotStraw cX0_rotStraw 2 none 0 := ⟨⟨q_c_X0_rotStraw, q_n_X0, by decide +kernel, by decide +kernel⟩, q_i_X0_rotStraw, q_s_X0_rotStraw⟩
theorem mf_X0_isTaken : MFv yX0_isTaken cX0_isTaken 4 (some FieldType.boolean) 2 := ⟨⟨q_c_X0_isTaken, q_n_X0, by decide +kernel, by decide +kernel⟩, q_i_X0_isTaken, q_s_X0_isTaken⟩
theorem mf_X0_sourcesOf : MFv yX0_sourcesOf cX0_sourcesOf 4 (some FieldType.int) 1 := ⟨⟨q_c_X0_sourcesOf, q_n_X0, by decide +kernel, by decide +kernel⟩, q_i_X0_sourcesOf, q_s_X0_sourcesOf⟩
theorem mf_X0_runsDownTo : MFv yX0_runsDownTo cX0_runsDownTo 5 (some FieldType.boolean) 2 := ⟨⟨q_c_X0_runsDownTo, q_n_X0, by decide +kernel, by decide +kernel⟩, q_i_X0_runsDownTo, q_s_X0_runsDownTo⟩
theorem mf_X0_flocksAt : MFv yX0_flocksAt cX0_flocksAt 4 (some FieldType.int) 1 := ⟨⟨q_c_X0_flocksAt, q_n_X0, by decide +kernel, by decide +kernel⟩, q_i_X0_flocksAt, q_s_X0_flocksAt⟩
theorem mf_X0_lostFlocks : MFv yX0_lostFlocks cX0_lostFlocks 3 (some FieldType.int) 0 := ⟨⟨q_c_X0_lostFlocks, q_n_X0, by decide +kernel, by decide +kernel⟩, q_i_X0_lostFlocks, q_s_X0_lostFlocks⟩
theorem mf_X0_livingSheep : MFv yX0_livingSheep cX0_livingSheep 3 (some FieldType.int) 0 := ⟨⟨q_c_X0_livingSheep, q_n_X0, by decide +kernel, by decide +kernel⟩, q_i_X0_livingSheep, q_s_X0_livingSheep⟩
theorem mf_X0_allWater : MFv yX0_allWater cX0_allWater 3 (some FieldType.int) 0 := ⟨⟨q_c_X0_allWater, q_n_X0, by decide +kernel, by decide +kernel⟩, q_i_X0_allWater, q_s_X0_allWater⟩
theorem mf_X0_allHold : MFv yX0_allHold cX0_allHold 3 (some FieldType.int) 0 := ⟨⟨q_c_X0_allHold, q_n_X0, by decide +kernel, by decide +kernel⟩, q_i_X0_allHold, q_s_X0_allHold⟩
theorem mf_X0_emptyPonds : MFv yX0_emptyPonds cX0_emptyPonds 3 (some FieldType.int) 0 := ⟨⟨q_c_X0_emptyPonds, q_n_X0, by decide +kernel, by decide +kernel⟩, q_i_X0_emptyPonds, q_s_X0_emptyPonds⟩
theorem mf_X1_init : MFb yX1_init cX1_init 1 none 0 := ⟨q_c_X1_init, q_n_X1, by decide +kernel, by decide +kernel⟩
theorem mf_X1_becomeLike : MFv yX1_becomeLike cX1_becomeLike 2 none 1 := ⟨⟨q_c_X1_becomeLike, q_n_X1, by decide +kernel, by decide +kernel⟩, q_i_X1_becomeLike, q_s_X1_becomeLike⟩
theorem mf_X1_startAt : MFv yX1_startAt cX1_startAt 3 none 2 := ⟨⟨q_c_X1_startAt, q_n_X1, by decide +kernel, by decide +kernel⟩, q_i_X1_startAt, q_s_X1_startAt⟩
theorem mf_X1_isLost : MFv yX1_isLost cX1_isLost 1 (some FieldType.boolean) 0 := ⟨⟨q_c_X1_isLost, q_n_X1, by decide +kernel, by decide +kernel⟩, q_i_X1_isLost, q_s_X1_isLost⟩
theorem mf_X1_need : MFv yX1_need cX1_need 1 (some FieldType.int) 0 := ⟨⟨q_c_X1_need, q_n_X1, by decide +kernel, by decide +kernel⟩, q_i_X1_need, q_s_X1_need⟩
theorem mf_X1_drink : MFv yX1_drink cX1_drink 2 none 1 := ⟨⟨q_c_X1_drink, q_n_X1, by decide +kernel, by decide +kernel⟩, q_i_X1_drink, q_s_X1_drink⟩
theorem mf_X2_init : MFb yX2_init cX2_init 1 none 0 := ⟨q_c_X2_init, q_n_X2, by decide +kernel, by decide +kernel⟩
theorem mf_X2_becomeLike : MFv yX2_becomeLike cX2_becomeLike 2 none 1 := ⟨⟨q_c_X2_becomeLike, q_n_X2, by decide +kernel, by decide +kernel⟩, q_i_X2_becomeLike, q_s_X2_becomeLike⟩
theorem mf_X2_holds : MFv yX2_holds cX2_holds 1 (some FieldType.int) 0 := ⟨⟨q_c_X2_holds, q_n_X2, by decide +kernel, by decide +kernel⟩, q_i_X2_holds, q_s_X2_holds⟩
theorem mf_X2_distanceTo : MFv yX2_distanceTo cX2_distanceTo 2 (some FieldType.int) 1 := ⟨⟨q_c_X2_distanceTo, q_n_X2, by decide +kernel, by decide +kernel⟩, q_i_X2_distanceTo, q_s_X2_distanceTo⟩
theorem mf_X2_isLowEnoughToPuddle : MFv yX2_isLowEnoughToPuddle cX2_isLowEnoughToPuddle 1 (some FieldType.boolean) 0 := ⟨⟨q_c_X2_isLowEnoughToPuddle, q_n_X2, by decide +kernel, by decide +kernel⟩, q_i_X2_isLowEnoughToPuddle, q_s_X2_isLowEnoughToPuddle⟩
theorem mf_X2_lineWith : MFv yX2_lineWith cX2_lineWith 3 (some FieldType.int) 1 := ⟨⟨q_c_X2_lineWith, q_n_X2, by decide +kernel, by decide +kernel⟩, q_i_X2_lineWith, q_s_X2_lineWith⟩
theorem mf_X2_takeMist : MFv yX2_takeMist cX2_takeMist 3 none 1 := ⟨⟨q_c_X2_takeMist, q_n_X2, by decide +kernel, by decide +kernel⟩, q_i_X2_takeMist, q_s_X2_takeMist⟩
theorem mf_X2_takeRain : MFv yX2_takeRain cX2_takeRain 2 none 1 := ⟨⟨q_c_X2_takeRain, q_n_X2, by decide +kernel, by decide +kernel⟩, q_i_X2_takeRain, q_s_X2_takeRain⟩
theorem mf_X2_giveDrink : MFv yX2_giveDrink cX2_giveDrink 3 (some FieldType.int) 1 := ⟨⟨q_c_X2_giveDrink, q_n_X2, by decide +kernel, by decide +kernel⟩, q_i_X2_giveDrink, q_s_X2_giveDrink⟩
theorem mf_X2_treadBy : MFv yX2_treadBy cX2_treadBy 2 none 1 := ⟨⟨q_c_X2_treadBy, q_n_X2, by decide +kernel, by decide +kernel⟩, q_i_X2_treadBy, q_s_X2_treadBy⟩
theorem mf_X2_dryBy : MFv yX2_dryBy cX2_dryBy 3 none 1 := ⟨⟨q_c_X2_dryBy, q_n_X2, by decide +kernel, by decide +kernel⟩, q_i_X2_dryBy, q_s_X2_dryBy⟩
theorem mf_X2_leak : MFv yX2_leak cX2_leak 1 none 0 := ⟨⟨q_c_X2_leak, q_n_X2, by decide +kernel, by decide +kernel⟩, q_i_X2_leak, q_s_X2_leak⟩
theorem mf_X2_spill : MFv yX2_spill cX2_spill 2 (some FieldType.int) 0 := ⟨⟨q_c_X2_spill, q_n_X2, by decide +kernel, by decide +kernel⟩, q_i_X2_spill, q_s_X2_spill⟩
theorem mf_X3_init : MFb yX3_init cX3_init 1 none 0 := ⟨q_c_X3_init, q_n_X3, by decide +kernel, by decide +kernel⟩
theorem mf_X3_becomeLike : MFv yX3_becomeLike cX3_becomeLike 2 none 1 := ⟨⟨q_c_X3_becomeLike, q_n_X3, by decide +kernel, by decide +kernel⟩, q_i_X3_becomeLike, q_s_X3_becomeLike⟩
theorem mf_X3_asNumber : MFv yX3_asNumber cX3_asNumber 1 (some FieldType.int) 0 := ⟨⟨q_c_X3_asNumber, q_n_X3, by decide +kernel, by decide +kernel⟩, q_i_X3_asNumber, q_s_X3_asNumber⟩
theorem mf_X4_init : MFb yX4_init cX4_init 1 none 0 := ⟨q_c_X4_init, q_n_X4, by decide +kernel, by decide +kernel⟩
theorem mf_X4_dig : MFv yX4_dig cX4_dig 6 (some FieldType.int) 5 := ⟨⟨q_c_X4_dig, q_n_X4, by decide +kernel, by decide +kernel⟩, q_i_X4_dig, q_s_X4_dig⟩
theorem mf_X4_link : MFv yX4_link cX4_link 5 (some FieldType.int) 2 := ⟨⟨q_c_X4_link, q_n_X4, by decide +kernel, by decide +kernel⟩, q_i_X4_link, q_s_X4_link⟩
theorem mf_X4_puddle : MFv yX4_puddle cX4_puddle 5 (some FieldType.int) 2 := ⟨⟨q_c_X4_puddle, q_n_X4, by decide +kernel, by decide +kernel⟩, q_i_X4_puddle, q_s_X4_puddle⟩
theorem mf_X4_strew : MFv yX4_strew cX4_strew 5 (some FieldType.boolean) 2 := ⟨⟨q_c_X4_strew, q_n_X4, by decide +kernel, by decide +kernel⟩, q_i_X4_strew, q_s_X4_strew⟩
theorem mf_X4_pour : MFv yX4_pour cX4_pour 4 (some FieldType.int) 2 := ⟨⟨q_c_X4_pour, q_n_X4, by decide +kernel, by decide +kernel⟩, q_i_X4_pour, q_s_X4_pour⟩
theorem mf_X4_pond : MFv yX4_pond cX4_pond 4 (some FieldType.int) 2 := ⟨⟨q_c_X4_pond, q_n_X4, by decide +kernel, by decide +kernel⟩, q_i_X4_pond, q_s_X4_pond⟩
theorem mf_X4_setWeather : MFv yX4_setWeather cX4_setWeather 7 (some FieldType.int) 4 := ⟨⟨q_c_X4_setWeather, q_n_X4, by decide +kernel, by decide +kernel⟩, q_i_X4_setWeather, q_s_X4_setWeather⟩
theorem mf_X4_bring : MFv yX4_bring cX4_bring 2 (some FieldType.int) 1 := ⟨⟨q_c_X4_bring, q_n_X4, by decide +kernel, by decide +kernel⟩, q_i_X4_bring, q_s_X4_bring⟩
theorem mf_X4_addFlock : MFv yX4_addFlock cX4_addFlock 3 (some FieldType.int) 2 := ⟨⟨q_c_X4_addFlock, q_n_X4, by decide +kernel, by decide +kernel⟩, q_i_X4_addFlock, q_s_X4_addFlock⟩
theorem mf_X4_drive : MFv yX4_drive cX4_drive 6 (some FieldType.int) 2 := ⟨⟨q_c_X4_drive, q_n_X4, by decide +kernel, by decide +kernel⟩, q_i_X4_drive, q_s_X4_drive⟩
theorem mf_X4_setRoams : MFv yX4_setRoams cX4_setRoams 5 (some FieldType.boolean) 2 := ⟨⟨q_c_X4_setRoams, q_n_X4, by decide +kernel, by decide +kernel⟩, q_i_X4_setRoams, q_s_X4_setRoams⟩
theorem mf_X4_flock : MFv yX4_flock cX4_flock 4 (some FieldType.int) 2 := ⟨⟨q_c_X4_flock, q_n_X4, by decide +kernel, by decide +kernel⟩, q_i_X4_flock, q_s_X4_flock⟩
theorem mf_X4_pass : MFv yX4_pass cX4_pass 2 (some FieldType.int) 1 := ⟨⟨q_c_X4_pass, q_n_X4, by decide +kernel, by decide +kernel⟩, q_i_X4_pass, q_s_X4_pass⟩
theorem mf_X4_count : MFv yX4_count cX4_count 2 (some FieldType.int) 1 := ⟨⟨q_c_X4_count, q_n_X4, by decide +kernel, by decide +kernel⟩, q_i_X4_count, q_s_X4_count⟩
theorem mf_X4_foresee : MFv yX4_foresee cX4_foresee 3 (some FieldType.int) 2 := ⟨⟨q_c_X4_foresee, q_n_X4, by decide +kernel, by decide +kernel⟩, q_i_X4_foresee, q_s_X4_foresee⟩
theorem mf_X4_lasts : MFv yX4_lasts cX4_lasts 4 (some FieldType.int) 1 := ⟨⟨q_c_X4_lasts, q_n_X4, by decide +kernel, by decide +kernel⟩, q_i_X4_lasts, q_s_X4_lasts⟩
theorem mf_X4_keep : MFv yX4_keep cX4_keep 4 (some FieldType.int) 2 := ⟨⟨q_c_X4_keep, q_n_X4, by decide +kernel, by decide +kernel⟩, q_i_X4_keep, q_s_X4_keep⟩
theorem mf_X4_advise : MFv yX4_advise cX4_advise 6 (some FieldType.int) 1 := ⟨⟨q_c_X4_advise, q_n_X4, by decide +kernel, by decide +kernel⟩, q_i_X4_advise, q_s_X4_advise⟩
theorem mf_X4_full : MFv yX4_full cX4_full 2 (some FieldType.double) 0 := ⟨⟨q_c_X4_full, q_n_X4, by decide +kernel, by decide +kernel⟩, q_i_X4_full, q_s_X4_full⟩
theorem mf_X4_digest : MFv yX4_digest cX4_digest 5 (some FieldType.long) 0 := ⟨⟨q_c_X4_digest, q_n_X4, by decide +kernel, by decide +kernel⟩, q_i_X4_digest, q_s_X4_digest⟩
theorem mf_X4_canKeep : MFv yX4_canKeep cX4_canKeep 6 (some FieldType.boolean) 3 := ⟨⟨q_c_X4_canKeep, q_n_X4, by decide +kernel, by decide +kernel⟩, q_i_X4_canKeep, q_s_X4_canKeep⟩
theorem mf_X4_waterBehind : MFv yX4_waterBehind cX4_waterBehind 3 (some FieldType.int) 2 := ⟨⟨q_c_X4_waterBehind, q_n_X4, by decide +kernel, by decide +kernel⟩, q_i_X4_waterBehind, q_s_X4_waterBehind⟩
theorem mf_X4_isWithin : MFs yX4_isWithin cX4_isWithin 3 (some FieldType.boolean) 3 := ⟨⟨q_c_X4_isWithin, q_n_X4, by decide +kernel, by decide +kernel⟩, q_t_X4_isWithin⟩
theorem mf_X5_init : MFb yX5_init cX5_init 1 none 0 := ⟨q_c_X5_init, q_n_X5, by decide +kernel, by decide +kernel⟩
theorem mf_X5_thrown : MFv yX5_thrown cX5_thrown 1 (some FieldType.int) 0 := ⟨⟨q_c_X5_thrown, q_n_X5, by decide +kernel, by decide +kernel⟩, q_i_X5_thrown, q_s_X5_thrown⟩
theorem mf_X5_fail : MFv yX5_fail cX5_fail 2 (some FieldType.int) 1 := ⟨⟨q_c_X5_fail, q_n_X5, by decide +kernel, by decide +kernel⟩, q_i_X5_fail, q_s_X5_fail⟩
theorem mf_X5_isIn : MFs yX5_isIn cX5_isIn 3 (some FieldType.boolean) 3 := ⟨⟨q_c_X5_isIn, q_n_X5, by decide +kernel, by decide +kernel⟩, q_t_X5_isIn⟩
theorem mf_X5_isPond : MFv yX5_isPond cX5_isPond 2 (some FieldType.boolean) 1 := ⟨⟨q_c_X5_isPond, q_n_X5, by decide +kernel, by decide +kernel⟩, q_i_X5_isPond, q_s_X5_isPond⟩
theorem mf_X5_isFlock : MFv yX5_isFlock cX5_isFlock 2 (some FieldType.boolean) 1 := ⟨⟨q_c_X5_isFlock, q_n_X5, by decide +kernel, by decide +kernel⟩, q_i_X5_isFlock, q_s_X5_isFlock⟩
theorem mf_X5_fx : MFv yX5_fx cX5_fx 3 (some FieldType.int) 2 := ⟨⟨q_c_X5_fx, q_n_X5, by decide +kernel, by decide +kernel⟩, q_i_X5_fx, q_s_X5_fx⟩
theorem mf_X5_po : MFv yX5_po cX5_po 3 (some FieldType.int) 2 := ⟨⟨q_c_X5_po, q_n_X5, by decide +kernel, by decide +kernel⟩, q_i_X5_po, q_s_X5_po⟩
theorem mf_X5_set : MFv yX5_set cX5_set 4 none 3 := ⟨⟨q_c_X5_set, q_n_X5, by decide +kernel, by decide +kernel⟩, q_i_X5_set, q_s_X5_set⟩
theorem mf_X5_fl : MFv yX5_fl cX5_fl 3 (some FieldType.int) 2 := ⟨⟨q_c_X5_fl, q_n_X5, by decide +kernel, by decide +kernel⟩, q_i_X5_fl, q_s_X5_fl⟩
theorem mf_X5_setFl : MFv yX5_setFl cX5_setFl 4 none 3 := ⟨⟨q_c_X5_setFl, q_n_X5, by decide +kernel, by decide +kernel⟩, q_i_X5_setFl, q_s_X5_setFl⟩
theorem mf_X5_holds : MFv yX5_holds cX5_holds 2 (some FieldType.int) 1 := ⟨⟨q_c_X5_holds, q_n_X5, by decide +kernel, by decide +kernel⟩, q_i_X5_holds, q_s_X5_holds⟩
theorem mf_X5_far : MFv yX5_far cX5_far 3 (some FieldType.int) 2 := ⟨⟨q_c_X5_far, q_n_X5, by decide +kernel, by decide +kernel⟩, q_i_X5_far, q_s_X5_far⟩
theorem mf_X5_dig : MFv yX5_dig cX5_dig 8 (some FieldType.int) 5 := ⟨⟨q_c_X5_dig, q_n_X5, by decide +kernel, by decide +kernel⟩, q_i_X5_dig, q_s_X5_dig⟩
theorem mf_X5_link : MFv yX5_link cX5_link 4 (some FieldType.int) 2 := ⟨⟨q_c_X5_link, q_n_X5, by decide +kernel, by decide +kernel⟩, q_i_X5_link, q_s_X5_link⟩
theorem mf_X5_isLow : MFv yX5_isLow cX5_isLow 2 (some FieldType.boolean) 1 := ⟨⟨q_c_X5_isLow, q_n_X5, by decide +kernel, by decide +kernel⟩, q_i_X5_isLow, q_s_X5_isLow⟩
theorem mf_X5_use : MFv yX5_use cX5_use 4 (some FieldType.int) 2 := ⟨⟨q_c_X5_use, q_n_X5, by decide +kernel, by decide +kernel⟩, q_i_X5_use, q_s_X5_use⟩
theorem mf_X5_puddle : MFv yX5_puddle cX5_puddle 3 (some FieldType.int) 2 := ⟨⟨q_c_X5_puddle, q_n_X5, by decide +kernel, by decide +kernel⟩, q_i_X5_puddle, q_s_X5_puddle⟩
theorem mf_X5_strew : MFv yX5_strew cX5_strew 4 (some FieldType.boolean) 2 := ⟨⟨q_c_X5_strew, q_n_X5, by decide +kernel, by decide +kernel⟩, q_i_X5_strew, q_s_X5_strew⟩
theorem mf_X5_pour : MFv yX5_pour cX5_pour 3 (some FieldType.int) 2 := ⟨⟨q_c_X5_pour, q_n_X5, by decide +kernel, by decide +kernel⟩, q_i_X5_pour, q_s_X5_pour⟩
theorem mf_X5_flocksAt : MFv yX5_flocksAt cX5_flocksAt 4 (some FieldType.int) 1 := ⟨⟨q_c_X5_flocksAt, q_n_X5, by decide +kernel, by decide +kernel⟩, q_i_X5_flocksAt, q_s_X5_flocksAt⟩
theorem mf_X5_above : MFv yX5_above cX5_above 5 (some FieldType.int) 1 := ⟨⟨q_c_X5_above, q_n_X5, by decide +kernel, by decide +kernel⟩, q_i_X5_above, q_s_X5_above⟩
theorem mf_X5_pondTold : MFv yX5_pondTold cX5_pondTold 3 (some FieldType.int) 2 := ⟨⟨q_c_X5_pondTold, q_n_X5, by decide +kernel, by decide +kernel⟩, q_i_X5_pondTold, q_s_X5_pondTold⟩
theorem mf_X5_pond : MFv yX5_pond cX5_pond 3 (some FieldType.int) 2 := ⟨⟨q_c_X5_pond, q_n_X5, by decide +kernel, by decide +kernel⟩, q_i_X5_pond, q_s_X5_pond⟩
theorem mf_X5_weatherTold : MFv yX5_weatherTold cX5_weatherTold 2 (some FieldType.int) 1 := ⟨⟨q_c_X5_weatherTold, q_n_X5, by decide +kernel, by decide +kernel⟩, q_i_X5_weatherTold, q_s_X5_weatherTold⟩
theorem mf_X5_setWeather : MFv yX5_setWeather cX5_setWeather 6 (some FieldType.int) 4 := ⟨⟨q_c_X5_setWeather, q_n_X5, by decide +kernel, by decide +kernel⟩, q_i_X5_setWeather, q_s_X5_setWeather⟩
theorem mf_X5_bring : MFv yX5_bring cX5_bring 2 (some FieldType.int) 1 := ⟨⟨q_c_X5_bring, q_n_X5, by decide +kernel, by decide +kernel⟩, q_i_X5_bring, q_s_X5_bring⟩
theorem mf_X5_putFlock : MFv yX5_putFlock cX5_putFlock 4 none 2 := ⟨⟨q_c_X5_putFlock, q_n_X5, by decide +kernel, by decide +kernel⟩, q_i_X5_putFlock, q_s_X5_putFlock⟩
theorem mf_X5_addFlock : MFv yX5_addFlock cX5_addFlock 3 (some FieldType.int) 2 := ⟨⟨q_c_X5_addFlock, q_n_X5, by decide +kernel, by decide +kernel⟩, q_i_X5_addFlock, q_s_X5_addFlock⟩
theorem mf_X5_isLost : MFv yX5_isLost cX5_isLost 2 (some FieldType.boolean) 1 := ⟨⟨q_c_X5_isLost, q_n_X5, by decide +kernel, by decide +kernel⟩, q_i_X5_isLost, q_s_X5_isLost⟩
theorem mf_X5_drive : MFv yX5_drive cX5_drive 4 (some FieldType.int) 2 := ⟨⟨q_c_X5_drive, q_n_X5, by decide +kernel, by decide +kernel⟩, q_i_X5_drive, q_s_X5_drive⟩
theorem mf_X5_setRoams : MFv yX5_setRoams cX5_setRoams 4 (some FieldType.boolean) 2 := ⟨⟨q_c_X5_setRoams, q_n_X5, by decide +kernel, by decide +kernel⟩, q_i_X5_setRoams, q_s_X5_setRoams⟩
theorem mf_X5_flockTold : MFv yX5_flockTold cX5_flockTold 3 (some FieldType.int) 2 := ⟨⟨q_c_X5_flockTold, q_n_X5, by decide +kernel, by decide +kernel⟩, q_i_X5_flockTold, q_s_X5_flockTold⟩
theorem mf_X5_flock : MFv yX5_flock cX5_flock 3 (some FieldType.int) 2 := ⟨⟨q_c_X5_flock, q_n_X5, by decide +kernel, by decide +kernel⟩, q_i_X5_flock, q_s_X5_flock⟩
theorem mf_X5_roam : MFv yX5_roam cX5_roam 6 none 1 := ⟨⟨q_c_X5_roam, q_n_X5, by decide +kernel, by decide +kernel⟩, q_i_X5_roam, q_s_X5_roam⟩
theorem mf_X5_drink : MFv yX5_drink cX5_drink 5 (some FieldType.int) 1 := ⟨⟨q_c_X5_drink, q_n_X5, by decide +kernel, by decide +kernel⟩, q_i_X5_drink, q_s_X5_drink⟩
theorem mf_X5_change : MFv yX5_change cX5_change 3 none 2 := ⟨⟨q_c_X5_change, q_n_X5, by decide +kernel, by decide +kernel⟩, q_i_X5_change, q_s_X5_change⟩
theorem mf_X5_runOver : MFv yX5_runOver cX5_runOver 4 none 0 := ⟨⟨q_c_X5_runOver, q_n_X5, by decide +kernel, by decide +kernel⟩, q_i_X5_runOver, q_s_X5_runOver⟩
theorem mf_X5_dayOn : MFv yX5_dayOn cX5_dayOn 4 (some FieldType.int) 0 := ⟨⟨q_c_X5_dayOn, q_n_X5, by decide +kernel, by decide +kernel⟩, q_i_X5_dayOn, q_s_X5_dayOn⟩
theorem mf_X5_pass : MFv yX5_pass cX5_pass 4 (some FieldType.int) 1 := ⟨⟨q_c_X5_pass, q_n_X5, by decide +kernel, by decide +kernel⟩, q_i_X5_pass, q_s_X5_pass⟩
theorem mf_X5_allWater : MFv yX5_allWater cX5_allWater 3 (some FieldType.int) 0 := ⟨⟨q_c_X5_allWater, q_n_X5, by decide +kernel, by decide +kernel⟩, q_i_X5_allWater, q_s_X5_allWater⟩
theorem mf_X5_counted : MFv yX5_counted cX5_counted 4 (some FieldType.int) 1 := ⟨⟨q_c_X5_counted, q_n_X5, by decide +kernel, by decide +kernel⟩, q_i_X5_counted, q_s_X5_counted⟩
theorem mf_X5_count : MFv yX5_count cX5_count 2 (some FieldType.int) 1 := ⟨⟨q_c_X5_count, q_n_X5, by decide +kernel, by decide +kernel⟩, q_i_X5_count, q_s_X5_count⟩
theorem mf_X5_kept : MFv yX5_kept cX5_kept 1 (some (FieldType.array (FieldType.array FieldType.int))) 0 := ⟨⟨q_c_X5_kept, q_n_X5, by decide +kernel, by decide +kernel⟩, q_i_X5_kept, q_s_X5_kept⟩
theorem mf_X5_bringBack : MFv yX5_bringBack cX5_bringBack 2 none 1 := ⟨⟨q_c_X5_bringBack, q_n_X5, by decide +kernel, by decide +kernel⟩, q_i_X5_bringBack, q_s_X5_bringBack⟩
theorem mf_X5_foresee : MFv yX5_foresee cX5_foresee 5 (some FieldType.int) 2 := ⟨⟨q_c_X5_foresee, q_n_X5, by decide +kernel, by decide +kernel⟩, q_i_X5_foresee, q_s_X5_foresee⟩
theorem mf_X5_lasts : MFv yX5_lasts cX5_lasts 4 (some FieldType.int) 1 := ⟨⟨q_c_X5_lasts, q_n_X5, by decide +kernel, by decide +kernel⟩, q_i_X5_lasts, q_s_X5_lasts⟩
theorem mf_X5_keep : MFv yX5_keep cX5_keep 8 (some FieldType.int) 2 := ⟨⟨q_c_X5_keep, q_n_X5, by decide +kernel, by decide +kernel⟩, q_i_X5_keep, q_s_X5_keep⟩
theorem mf_X5_waterBy : MFv yX5_waterBy cX5_waterBy 3 (some FieldType.int) 1 := ⟨⟨q_c_X5_waterBy, q_n_X5, by decide +kernel, by decide +kernel⟩, q_i_X5_waterBy, q_s_X5_waterBy⟩
theorem mf_X5_advise : MFv yX5_advise cX5_advise 7 (some FieldType.int) 1 := ⟨⟨q_c_X5_advise, q_n_X5, by decide +kernel, by decide +kernel⟩, q_i_X5_advise, q_s_X5_advise⟩
theorem mf_X5_full : MFv yX5_full cX5_full 3 (some FieldType.double) 0 := ⟨⟨q_c_X5_full, q_n_X5, by decide +kernel, by decide +kernel⟩, q_i_X5_full, q_s_X5_full⟩
theorem mf_X5_digest : MFv yX5_digest cX5_digest 5 (some FieldType.long) 0 := ⟨⟨q_c_X5_digest, q_n_X5, by decide +kernel, by decide +kernel⟩, q_i_X5_digest, q_s_X5_digest⟩
theorem mf_J9_floorMod_7cf53 : MFs yJ9_floorMod_7cf53 cJ9_floorMod_7cf53 3 (some FieldType.int) 2 := ⟨⟨q_c_J9_floorMod_7cf53, q_n_J9, by decide +kernel, by decide +kernel⟩, q_t_J9_floorMod_7cf53⟩
section GWV
variable {g : gW} {p : Program} {l : Launch} {e : Env} {R : Room} {s : State} {m : MethodId} {args : Array Value} {below : List Frame} {meth : Method} {c : Code} {cc : ByteArray} {nL : Nat} {own : String} {X : va_W} {h : Hp} {lv : List (Nat × Value)} {cells slots : Nat} {Q : State → Prop} {pc : Nat} {st : List Value}
theorem ww_callP (C : CX g p s m args meth c cc nL own) {y : MethodName} {cY : ByteArray} {nLY k mc ms o n idx : Nat} {rt : Option FieldType} {As rest : List Value} {v : Option Value} {h2 : Hp} (hF : MFv y cY nLY rt n) (hd : decode cc pc = .ok (.invokevirtual idx, 3)) (hM : CT g l y cY nLY rt k mc ms (.ref (gB g + o) :: As) h v h2) (hlink : Cond.methodLink own idx y ∈ TT) (ho : isP o) (hqc : RX2 = y.cls) (hAs : As.length = n) (hst : st = As.reverse ++ .ref (gB g + o) :: rest) (hcat : (rest.map fun v => v.category).sum ≤ 8) (hk : k + 1 ≤ R.frames ∧ 8 + (nLY + 11) + 28 * k ≤ R.locals) (hr : cells + mc ≤ R.cells ∧ slots + ms ≤ R.slots)
    (kk : WW g p l e R s m args below meth c nL X h2 lv (cells + mc) (slots + ms) Q (pc + 3) (v.toList ++ rest)) : WW g p l e R s m args below meth c nL X h lv cells slots Q pc st :=
  ww_callV (ci := 2) C hF hM hlink (isP_lt ho) rfl hqc ⟨_, ce_P ho⟩ hAs hst hcat hk hr hd kk
theorem ww_callF (C : CX g p s m args meth c cc nL own) {y : MethodName} {cY : ByteArray} {nLY k mc ms o n idx : Nat} {rt : Option FieldType} {As rest : List Value} {v : Option Value} {h2 : Hp} (hF : MFv y cY nLY rt n) (hd : decode cc pc = .ok (.invokevirtual idx, 3)) (hM : CT g l y cY nLY rt k mc ms (.ref (gB g + o) :: As) h v h2) (hlink : Cond.methodLink own idx y ∈ TT) (ho : isF o) (hqc : RX1 = y.cls) (hAs : As.length = n) (hst : st = As.reverse ++ .ref (gB g + o) :: rest) (hcat : (rest.map fun v => v.category).sum ≤ 8) (hk : k + 1 ≤ R.frames ∧ 8 + (nLY + 11) + 28 * k ≤ R.locals) (hr : cells + mc ≤ R.cells ∧ slots + ms ≤ R.slots)
    (kk : WW g p l e R s m args below meth c nL X h2 lv (cells + mc) (slots + ms) Q (pc + 3) (v.toList ++ rest)) : WW g p l e R s m args below meth c nL X h lv cells slots Q pc st :=
  ww_callV (ci := 1) C hF hM hlink (isF_lt ho) rfl hqc ⟨_, ce_F ho⟩ hAs hst hcat hk hr hd kk
theorem ww_callW (C : CX g p s m args meth c cc nL own) {y : MethodName} {cY : ByteArray} {nLY k mc ms o n idx : Nat} {rt : Option FieldType} {As rest : List Value} {v : Option Value} {h2 : Hp} (hF : MFv y cY nLY rt n) (hd : decode cc pc = .ok (.invokevirtual idx, 3)) (hM : CT g l y cY nLY rt k mc ms (.ref (gB g + o) :: As) h v h2) (hlink : Cond.methodLink own idx y ∈ TT) (ho : isWt o) (hqc : RX3 = y.cls) (hAs : As.length = n) (hst : st = As.reverse ++ .ref (gB g + o) :: rest) (hcat : (rest.map fun v => v.category).sum ≤ 8) (hk : k + 1 ≤ R.frames ∧ 8 + (nLY + 11) + 28 * k ≤ R.locals) (hr : cells + mc ≤ R.cells ∧ slots + ms ≤ R.slots)
    (kk : WW g p l e R s m args below meth c nL X h2 lv (cells + mc) (slots + ms) Q (pc + 3) (v.toList ++ rest)) : WW g p l e R s m args below meth c nL X h lv cells slots Q pc st :=
  ww_callV (ci := 3) C hF hM hlink (isWt_lt ho) rfl hqc ⟨_, ce_W ho⟩ hAs hst hcat hk hr hd kk
theorem ww_callD (C : CX g p s m args meth c cc nL own) {y : MethodName} {cY : ByteArray} {nLY k mc ms o n idx : Nat} {rt : Option FieldType} {As rest : List Value} {v : Option Value} {h2 : Hp} (hF : MFv y cY nLY rt n) (hd : decode cc pc = .ok (.invokevirtual idx, 3)) (hM : CT g l y cY nLY rt k mc ms (.ref (gB g + o) :: As) h v h2) (hlink : Cond.methodLink own idx y ∈ TT) (ho : isD o) (hqc : RX0 = y.cls) (hAs : As.length = n) (hst : st = As.reverse ++ .ref (gB g + o) :: rest) (hcat : (rest.map fun v => v.category).sum ≤ 8) (hk : k + 1 ≤ R.frames ∧ 8 + (nLY + 11) + 28 * k ≤ R.locals) (hr : cells + mc ≤ R.cells ∧ slots + ms ≤ R.slots)
    (kk : WW g p l e R s m args below meth c nL X h2 lv (cells + mc) (slots + ms) Q (pc + 3) (v.toList ++ rest)) : WW g p l e R s m args below meth c nL X h lv cells slots Q pc st :=
  ww_callV (ci := 0) C hF hM hlink (isD_lt ho) rfl hqc ⟨_, ce_D ho⟩ hAs hst hcat hk hr hd kk
theorem ww_callX (C : CX g p s m args meth c cc nL own) {y : MethodName} {cY : ByteArray} {nLY k mc ms n idx : Nat} {rt : Option FieldType} {As rest : List Value} {v : Option Value} {h2 : Hp} (hF : MFv y cY nLY rt n) (hd : decode cc pc = .ok (.invokevirtual idx, 3)) (hM : CT g l y cY nLY rt k mc ms (.ref (gB g + 0) :: As) h v h2) (hlink : Cond.methodLink own idx y ∈ TT) (hqc : RX4 = y.cls) (hAs : As.length = n) (hst : st = As.reverse ++ .ref (gB g + 0) :: rest) (hcat : (rest.map fun v => v.category).sum ≤ 8) (hk : k + 1 ≤ R.frames ∧ 8 + (nLY + 11) + 28 * k ≤ R.locals) (hr : cells + mc ≤ R.cells ∧ slots + ms ≤ R.slots)
    (kk : WW g p l e R s m args below meth c nL X h2 lv (cells + mc) (slots + ms) Q (pc + 3) (v.toList ++ rest)) : WW g p l e R s m args below meth c nL X h lv cells slots Q pc st :=
  ww_callV (ci := 4) C hF hM hlink (by omega) rfl hqc ⟨_, rfl⟩ hAs hst hcat hk hr hd kk
theorem ww_callM (C : CX g p s m args meth c cc nL own) {y : MethodName} {cY : ByteArray} {nLY k mc ms n idx : Nat} {rt : Option FieldType} {As rest : List Value} {v : Option Value} {h2 : Hp} (hF : MFv y cY nLY rt n) (hd : decode cc pc = .ok (.invokevirtual idx, 3)) (hM : CT g l y cY nLY rt k mc ms (.ref (gB g + 64) :: As) h v h2) (hlink : Cond.methodLink own idx y ∈ TT) (hqc : RX5 = y.cls) (hAs : As.length = n) (hst : st = As.reverse ++ .ref (gB g + 64) :: rest) (hcat : (rest.map fun v => v.category).sum ≤ 8) (hk : k + 1 ≤ R.frames ∧ 8 + (nLY + 11) + 28 * k ≤ R.locals) (hr : cells + mc ≤ R.cells ∧ slots + ms ≤ R.slots)
    (kk : WW g p l e R s m args below meth c nL X h2 lv (cells + mc) (slots + ms) Q (pc + 3) (v.toList ++ rest)) : WW g p l e R s m args below meth c nL X h lv cells slots Q pc st :=
  ww_callV (ci := 5) C hF hM hlink (by omega) rfl hqc ⟨_, rfl⟩ hAs hst hcat hk hr hd kk
end GWV
end
section
/-! what the small methods of the class do to the numbers: h o k is the slot k of the object o -/
def bI (c : Prop) [Decidable c] : Int32 := if c then 1 else 0
theorem bI_01 (c : Prop) [Decidable c] : bI c = 0 ∨ bI c = 1 := by unfold bI; split <;> simp
def cpk (h : Hp) (o o2 k : Nat) : Hp := hp_up h o k (h o2 k)
def p_holds (h : Hp) (o : Nat) : Int32 := h o 3 * h o 4 * 10
def p_dist (h : Hp) (o o2 : Nat) : Int32 := abI (h o 0 - h o2 0) + abI (h o 1 - h o2 1)
def p_copy (h : Hp) (o o2 : Nat) : Hp := cpk (cpk (cpk (cpk (cpk (cpk (cpk (cpk (cpk (cpk h o o2 0) o o2 1) o o2 2) o o2 3) o o2 4) o o2 5) o o2 6) o o2 7) o o2 8) o o2 9
def p_use (h : Hp) (o : Nat) (clay : Int32) : Int32 := mnI clay (100 - h o 6)
def p_line (h : Hp) (o : Nat) (clay : Int32) : Hp := hp_up h o 6 (h o 6 + p_use h o clay)
def p_mist (h : Hp) (o : Nat) (mist : Int32) : Hp := hp_up h o 5 (h o 5 + if h o 2 < 150 then mist * h o 3 / 4 else 2 * (mist * h o 3 / 4))
def p_rain (h : Hp) (o : Nat) (rain : Int32) : Hp := hp_up h o 5 (h o 5 + rain * h o 3 / 2)
def p_give (h : Hp) (o : Nat) (need : Int32) : Hp := hp_up h o 5 (h o 5 - mnI need (h o 5))
def p_tread (h : Hp) (o : Nat) (sheep : Int32) : Hp := if h o 7 = 0 then hp_up h o 6 (mxI 0 (h o 6 - sheep / 10)) else h
def p_dry (h : Hp) (o : Nat) (sun : Int32) : Hp := hp_up h o 5 (h o 5 - mnI (h o 5) (if h o 7 = 0 then sun * h o 3 / 5 else sun * h o 3 / 5 / 2))
def p_leak (h : Hp) (o : Nat) : Hp := hp_up h o 5 (h o 5 - h o 5 * (100 - h o 6) / 200)
def p_over (h : Hp) (o : Nat) : Int32 := mxI 0 (h o 5 - p_holds h o)
def p_spill (h : Hp) (o : Nat) : Hp := hp_up (hp_up h o 5 (h o 5 - p_over h o)) o 9 (hp_up h o 5 (h o 5 - p_over h o) o 9 + p_over h o)
def f_copy (h : Hp) (o o2 : Nat) : Hp := cpk (cpk (cpk (cpk (cpk h o o2 0) o o2 1) o o2 2) o o2 3) o o2 4
def f_start (h : Hp) (o : Nat) (place heads : Int32) : Hp := hp_up (hp_up (hp_up (hp_up (hp_up h o 0 heads) o 1 place) o 2 0) o 3 0) o 4 0
def f_need (h : Hp) (o : Nat) : Int32 := 2 * h o 0
def f_drinkA (h : Hp) (o : Nat) (w : Int32) : Hp := hp_up h o 4 (h o 4 + w)
def f_drink (h : Hp) (o : Nat) (w : Int32) : Hp := if w < f_need (f_drinkA h o w) o then hp_up (f_drinkA h o w) o 2 (mnI 10 (f_drinkA h o w o 2 + 3)) else hp_up (f_drinkA h o w) o 2 (mxI 0 (f_drinkA h o w o 2 - 2))
def w_copy (h : Hp) (o o2 : Nat) : Hp := cpk (cpk (cpk h o o2 0) o o2 1) o o2 2
def w_num (h : Hp) (o : Nat) : Int32 := 100 * h o 0 + 10 * h o 1 + h o 2
end
section
set_option maxRecDepth 100000 in
set_option maxHeartbeats 4000000 in
theorem ct_X2_holds {g : gW} {l : Launch} {h : Hp} {o : Nat} (ho : isP o) : CT g l yX2_holds cX2_holds 1 (some FieldType.int) 0 0 0 [.ref (gB g + o)] h (some (.int (p_holds h o))) h := by
  refine CT.of (lv0 := [(0, .ref (gB g + o))]) mf_X2_holds.1.2.2.2 (Nat.le_of_ble_eq_true rfl) rfl ?_
  intro p e s m below meth c C hr
  refine ww_aload_n C dX2_holds_0 0 rfl rfl ?_
  refine ww_getP C (by assumption) 3 (by decide) q_f_X2_24 dX2_holds_1 ?_
  refine ww_aload_n C dX2_holds_4 0 rfl rfl ?_
  refine ww_getP C (by assumption) 4 (by decide) q_f_X2_27 dX2_holds_5 ?_
  refine ww_imul C dX2_holds_8 ?_
  refine ww_bipush (v := 10) C dX2_holds_9 (by decide) ?_
  refine ww_imul C dX2_holds_11 ?_
  exact ww_iret C hr rfl rfl dX2_holds_12
set_option maxRecDepth 100000 in
set_option maxHeartbeats 4000000 in
theorem ct_X2_distanceTo {g : gW} {l : Launch} {h : Hp} {o o2 : Nat} (ho : isP o) (ho2 : isP o2) : CT g l yX2_distanceTo cX2_distanceTo 2 (some FieldType.int) 1 0 0 [.ref (gB g + o), .ref (gB g + o2)] h (some (.int (p_dist h o o2))) h := by
  refine CT.of (lv0 := [(0, .ref (gB g + o)), (1, .ref (gB g + o2))]) mf_X2_distanceTo.1.2.2.2 (Nat.le_of_ble_eq_true rfl) rfl ?_
  intro p e s m below meth c C hr
  refine ww_aload_n C dX2_distanceTo_0 0 rfl rfl ?_
  refine ww_getP C (by assumption) 0 (by decide) q_f_X2_15 dX2_distanceTo_1 ?_
  refine ww_aload_n C dX2_distanceTo_4 1 rfl rfl ?_
  refine ww_getP C (by assumption) 0 (by decide) q_f_X2_15 dX2_distanceTo_5 ?_
  refine ww_isub C dX2_distanceTo_8 ?_
  refine ww_mabs C q_m_X2_43 (Nat.le_of_ble_eq_true rfl) (Nat.le_of_ble_eq_true rfl) (by first | exact Nat.le_of_ble_eq_true rfl | omega) (by first | exact Nat.le_of_ble_eq_true rfl | omega) dX2_distanceTo_9 ?_
  refine ww_aload_n C dX2_distanceTo_12 0 rfl rfl ?_
  refine ww_getP C (by assumption) 1 (by decide) q_f_X2_18 dX2_distanceTo_13 ?_
  refine ww_aload_n C dX2_distanceTo_16 1 rfl rfl ?_
  refine ww_getP C (by assumption) 1 (by decide) q_f_X2_18 dX2_distanceTo_17 ?_
  refine ww_isub C dX2_distanceTo_20 ?_
  refine ww_mabs C q_m_X2_43 (Nat.le_of_ble_eq_true rfl) (Nat.le_of_ble_eq_true rfl) (by first | exact Nat.le_of_ble_eq_true rfl | omega) (by first | exact Nat.le_of_ble_eq_true rfl | omega) dX2_distanceTo_21 ?_
  refine ww_iadd C dX2_distanceTo_24 ?_
  exact ww_iret C hr rfl rfl dX2_distanceTo_25
set_option maxRecDepth 100000 in
set_option maxHeartbeats 4000000 in
theorem ct_X2_isLowEnoughToPuddle {g : gW} {l : Launch} {h : Hp} {o : Nat} (ho : isP o) : CT g l yX2_isLowEnoughToPuddle cX2_isLowEnoughToPuddle 1 (some FieldType.boolean) 1 0 0 [.ref (gB g + o)] h (some (.int (bI (h o 5 ≤ p_holds h o / 4)))) h := by
  refine CT.of (lv0 := [(0, .ref (gB g + o))]) mf_X2_isLowEnoughToPuddle.1.2.2.2 (Nat.le_of_ble_eq_true rfl) rfl ?_
  intro p e s m below meth c C hr
  refine ww_aload_n C dX2_isLowEnoughToPuddle_0 0 rfl rfl ?_
  refine ww_getP C (by assumption) 5 (by decide) q_f_X2_30 dX2_isLowEnoughToPuddle_1 ?_
  refine ww_aload_n C dX2_isLowEnoughToPuddle_4 0 rfl rfl ?_
  refine ww_callP C mf_X2_holds dX2_isLowEnoughToPuddle_5 (ct_X2_holds ho) q_m_X2_49 (by assumption) rfl rfl rfl (Nat.le_of_ble_eq_true rfl) (by exact ⟨Nat.le_of_ble_eq_true rfl, Nat.le_of_ble_eq_true rfl⟩) (by exact ⟨Nat.le_of_ble_eq_true rfl, Nat.le_of_ble_eq_true rfl⟩) ?_
  refine ww_iconst (v := 4) C dX2_isLowEnoughToPuddle_8 (by decide) ?_
  refine ww_idiv C dX2_isLowEnoughToPuddle_9 (by decide) ?_
  refine ww_icmp_gt C dX2_isLowEnoughToPuddle_10 17 (by decide) (fun c10_1 => ?_) (fun c10_1 => ?_)
  · refine ww_iconst (v := 0) C dX2_isLowEnoughToPuddle_17 (by decide) ?_
    exact ww_zret C hr (by first | exact Or.inl rfl | exact Or.inr rfl | assumption) (by simp only [bI]; first | (rw [if_pos (by simpa using c10_1)]; done) | (rw [if_neg (by simpa using c10_1)]; done)) rfl dX2_isLowEnoughToPuddle_18
  · refine ww_iconst (v := 1) C dX2_isLowEnoughToPuddle_13 (by decide) ?_
    refine ww_goto C dX2_isLowEnoughToPuddle_14 18 (by decide) ?_
    exact ww_zret C hr (by first | exact Or.inl rfl | exact Or.inr rfl | assumption) (by simp only [bI]; first | (rw [if_pos (by simpa using c10_1)]; done) | (rw [if_neg (by simpa using c10_1)]; done)) rfl dX2_isLowEnoughToPuddle_18
set_option maxRecDepth 100000 in
set_option maxHeartbeats 4000000 in
theorem ct_X2_lineWith {g : gW} {l : Launch} {h : Hp} {o : Nat} (ho : isP o) {x : Int32} : CT g l yX2_lineWith cX2_lineWith 3 (some FieldType.int) 1 0 0 [.ref (gB g + o), .int x] h (some (.int (p_use h o x))) (p_line h o x) := by
  refine CT.of (lv0 := [(0, .ref (gB g + o)), (1, .int x)]) mf_X2_lineWith.1.2.2.2 (Nat.le_of_ble_eq_true rfl) rfl ?_
  intro p e s m below meth c C hr
  refine ww_iload_n C dX2_lineWith_0 1 rfl rfl ?_
  refine ww_bipush (v := 100) C dX2_lineWith_1 (by decide) ?_
  refine ww_aload_n C dX2_lineWith_3 0 rfl rfl ?_
  refine ww_getP C (by assumption) 6 (by decide) q_f_X2_33 dX2_lineWith_4 ?_
  refine ww_isub C dX2_lineWith_7 ?_
  refine ww_mmin C q_m_X2_53 (Nat.le_of_ble_eq_true rfl) (Nat.le_of_ble_eq_true rfl) (by first | exact Nat.le_of_ble_eq_true rfl | omega) (by first | exact Nat.le_of_ble_eq_true rfl | omega) dX2_lineWith_8 ?_
  refine ww_istore_n C dX2_lineWith_11 2 rfl (by decide) ?_
  refine ww_aload_n C dX2_lineWith_12 0 rfl rfl ?_
  refine ww_dup C dX2_lineWith_13 rfl ?_
  refine ww_getP C (by assumption) 6 (by decide) q_f_X2_33 dX2_lineWith_14 ?_
  refine ww_iload_n C dX2_lineWith_17 2 rfl rfl ?_
  refine ww_iadd C dX2_lineWith_18 ?_
  refine ww_putP C (by assumption) 6 (by decide) q_f_X2_33 dX2_lineWith_19 ?_
  refine ww_iload_n C dX2_lineWith_22 2 rfl rfl ?_
  exact ww_iret C hr rfl rfl dX2_lineWith_23
set_option maxRecDepth 100000 in
set_option maxHeartbeats 4000000 in
theorem ct_X2_takeMist {g : gW} {l : Launch} {h : Hp} {o : Nat} (ho : isP o) {x : Int32} : CT g l yX2_takeMist cX2_takeMist 3 none 0 0 0 [.ref (gB g + o), .int x] h none (p_mist h o x) := by
  refine CT.of (lv0 := [(0, .ref (gB g + o)), (1, .int x)]) mf_X2_takeMist.1.2.2.2 (Nat.le_of_ble_eq_true rfl) rfl ?_
  intro p e s m below meth c C hr
  refine ww_iload_n C dX2_takeMist_0 1 rfl rfl ?_
  refine ww_aload_n C dX2_takeMist_1 0 rfl rfl ?_
  refine ww_getP C (by assumption) 3 (by decide) q_f_X2_24 dX2_takeMist_2 ?_
  refine ww_imul C dX2_takeMist_5 ?_
  refine ww_iconst (v := 4) C dX2_takeMist_6 (by decide) ?_
  refine ww_idiv C dX2_takeMist_7 (by decide) ?_
  refine ww_istore_n C dX2_takeMist_8 2 rfl (by decide) ?_
  refine ww_aload_n C dX2_takeMist_9 0 rfl rfl ?_
  refine ww_dup C dX2_takeMist_10 rfl ?_
  refine ww_getP C (by assumption) 5 (by decide) q_f_X2_30 dX2_takeMist_11 ?_
  refine ww_aload_n C dX2_takeMist_14 0 rfl rfl ?_
  refine ww_getP C (by assumption) 2 (by decide) q_f_X2_21 dX2_takeMist_15 ?_
  refine ww_sipush (v := 150) C dX2_takeMist_18 (by decide) ?_
  refine ww_icmp_lt C dX2_takeMist_21 30 (by decide) (fun c21_1 => ?_) (fun c21_1 => ?_)
  · refine ww_iload_n C dX2_takeMist_30 2 rfl rfl ?_
    refine ww_iadd C dX2_takeMist_31 ?_
    refine ww_putP C (by assumption) 5 (by decide) q_f_X2_30 dX2_takeMist_32 ?_
    exact ww_vret C hr rfl (by first | rfl | (simp only [p_mist, c21_1, if_true, if_false]; done) | (simp [p_mist, c21_1]; done)) dX2_takeMist_35
  · refine ww_iconst (v := 2) C dX2_takeMist_24 (by decide) ?_
    refine ww_iload_n C dX2_takeMist_25 2 rfl rfl ?_
    refine ww_imul C dX2_takeMist_26 ?_
    refine ww_goto C dX2_takeMist_27 31 (by decide) ?_
    refine ww_iadd C dX2_takeMist_31 ?_
    refine ww_putP C (by assumption) 5 (by decide) q_f_X2_30 dX2_takeMist_32 ?_
    exact ww_vret C hr rfl (by first | rfl | (simp only [p_mist, c21_1, if_true, if_false]; done) | (simp [p_mist, c21_1]; done)) dX2_takeMist_35
set_option maxRecDepth 100000 in
set_option maxHeartbeats 4000000 in
theorem ct_X2_takeRain {g : gW} {l : Launch} {h : Hp} {o : Nat} (ho : isP o) {x : Int32} : CT g l yX2_takeRain cX2_takeRain 2 none 0 0 0 [.ref (gB g + o), .int x] h none (p_rain h o x) := by
  refine CT.of (lv0 := [(0, .ref (gB g + o)), (1, .int x)]) mf_X2_takeRain.1.2.2.2 (Nat.le_of_ble_eq_true rfl) rfl ?_
  intro p e s m below meth c C hr
  refine ww_aload_n C dX2_takeRain_0 0 rfl rfl ?_
  refine ww_dup C dX2_takeRain_1 rfl ?_
  refine ww_getP C (by assumption) 5 (by decide) q_f_X2_30 dX2_takeRain_2 ?_
  refine ww_iload_n C dX2_takeRain_5 1 rfl rfl ?_
  refine ww_aload_n C dX2_takeRain_6 0 rfl rfl ?_
  refine ww_getP C (by assumption) 3 (by decide) q_f_X2_24 dX2_takeRain_7 ?_
  refine ww_imul C dX2_takeRain_10 ?_
  refine ww_iconst (v := 2) C dX2_takeRain_11 (by decide) ?_
  refine ww_idiv C dX2_takeRain_12 (by decide) ?_
  refine ww_iadd C dX2_takeRain_13 ?_
  refine ww_putP C (by assumption) 5 (by decide) q_f_X2_30 dX2_takeRain_14 ?_
  exact ww_vret C hr rfl rfl dX2_takeRain_17
set_option maxRecDepth 100000 in
set_option maxHeartbeats 4000000 in
theorem ct_X2_giveDrink {g : gW} {l : Launch} {h : Hp} {o : Nat} (ho : isP o) {x : Int32} : CT g l yX2_giveDrink cX2_giveDrink 3 (some FieldType.int) 1 0 0 [.ref (gB g + o), .int x] h (some (.int (mnI x (h o 5)))) (p_give h o x) := by
  refine CT.of (lv0 := [(0, .ref (gB g + o)), (1, .int x)]) mf_X2_giveDrink.1.2.2.2 (Nat.le_of_ble_eq_true rfl) rfl ?_
  intro p e s m below meth c C hr
  refine ww_iload_n C dX2_giveDrink_0 1 rfl rfl ?_
  refine ww_aload_n C dX2_giveDrink_1 0 rfl rfl ?_
  refine ww_getP C (by assumption) 5 (by decide) q_f_X2_30 dX2_giveDrink_2 ?_
  refine ww_mmin C q_m_X2_53 (Nat.le_of_ble_eq_true rfl) (Nat.le_of_ble_eq_true rfl) (by first | exact Nat.le_of_ble_eq_true rfl | omega) (by first | exact Nat.le_of_ble_eq_true rfl | omega) dX2_giveDrink_5 ?_
  refine ww_istore_n C dX2_giveDrink_8 2 rfl (by decide) ?_
  refine ww_aload_n C dX2_giveDrink_9 0 rfl rfl ?_
  refine ww_dup C dX2_giveDrink_10 rfl ?_
  refine ww_getP C (by assumption) 5 (by decide) q_f_X2_30 dX2_giveDrink_11 ?_
  refine ww_iload_n C dX2_giveDrink_14 2 rfl rfl ?_
  refine ww_isub C dX2_giveDrink_15 ?_
  refine ww_putP C (by assumption) 5 (by decide) q_f_X2_30 dX2_giveDrink_16 ?_
  refine ww_iload_n C dX2_giveDrink_19 2 rfl rfl ?_
  exact ww_iret C hr rfl rfl dX2_giveDrink_20
set_option maxRecDepth 100000 in
set_option maxHeartbeats 4000000 in
theorem ct_X2_treadBy {g : gW} {l : Launch} {h : Hp} {o : Nat} (ho : isP o) {x : Int32} : CT g l yX2_treadBy cX2_treadBy 2 none 1 0 0 [.ref (gB g + o), .int x] h none (p_tread h o x) := by
  refine CT.of (lv0 := [(0, .ref (gB g + o)), (1, .int x)]) mf_X2_treadBy.1.2.2.2 (Nat.le_of_ble_eq_true rfl) rfl ?_
  intro p e s m below meth c C hr
  refine ww_aload_n C dX2_treadBy_0 0 rfl rfl ?_
  refine ww_getP C (by assumption) 7 (by decide) q_f_X2_36 dX2_treadBy_1 ?_
  refine ww_if_ne C dX2_treadBy_4 24 (by decide) (fun c4_1 => ?_) (fun c4_1 => ?_)
  · exact ww_vret C hr rfl (by first | rfl | (simp only [p_tread, c4_1, if_true, if_false]; done) | (simp [p_tread, c4_1]; done)) dX2_treadBy_24
  · refine ww_aload_n C dX2_treadBy_7 0 rfl rfl ?_
    refine ww_iconst (v := 0) C dX2_treadBy_8 (by decide) ?_
    refine ww_aload_n C dX2_treadBy_9 0 rfl rfl ?_
    refine ww_getP C (by assumption) 6 (by decide) q_f_X2_33 dX2_treadBy_10 ?_
    refine ww_iload_n C dX2_treadBy_13 1 rfl rfl ?_
    refine ww_bipush (v := 10) C dX2_treadBy_14 (by decide) ?_
    refine ww_idiv C dX2_treadBy_16 (by decide) ?_
    refine ww_isub C dX2_treadBy_17 ?_
    refine ww_mmax C q_m_X2_57 (Nat.le_of_ble_eq_true rfl) (Nat.le_of_ble_eq_true rfl) (by first | exact Nat.le_of_ble_eq_true rfl | omega) (by first | exact Nat.le_of_ble_eq_true rfl | omega) dX2_treadBy_18 ?_
    refine ww_putP C (by assumption) 6 (by decide) q_f_X2_33 dX2_treadBy_21 ?_
    exact ww_vret C hr rfl (by first | rfl | (simp only [p_tread, c4_1, if_true, if_false]; done) | (simp [p_tread, c4_1]; done)) dX2_treadBy_24
set_option maxRecDepth 100000 in
set_option maxHeartbeats 4000000 in
theorem ct_X2_dryBy {g : gW} {l : Launch} {h : Hp} {o : Nat} (ho : isP o) {x : Int32} : CT g l yX2_dryBy cX2_dryBy 3 none 1 0 0 [.ref (gB g + o), .int x] h none (p_dry h o x) := by
  refine CT.of (lv0 := [(0, .ref (gB g + o)), (1, .int x)]) mf_X2_dryBy.1.2.2.2 (Nat.le_of_ble_eq_true rfl) rfl ?_
  intro p e s m below meth c C hr
  refine ww_iload_n C dX2_dryBy_0 1 rfl rfl ?_
  refine ww_aload_n C dX2_dryBy_1 0 rfl rfl ?_
  refine ww_getP C (by assumption) 3 (by decide) q_f_X2_24 dX2_dryBy_2 ?_
  refine ww_imul C dX2_dryBy_5 ?_
  refine ww_iconst (v := 5) C dX2_dryBy_6 (by decide) ?_
  refine ww_idiv C dX2_dryBy_7 (by decide) ?_
  refine ww_istore_n C dX2_dryBy_8 2 rfl (by decide) ?_
  refine ww_aload_n C dX2_dryBy_9 0 rfl rfl ?_
  refine ww_dup C dX2_dryBy_10 rfl ?_
  refine ww_getP C (by assumption) 5 (by decide) q_f_X2_30 dX2_dryBy_11 ?_
  refine ww_aload_n C dX2_dryBy_14 0 rfl rfl ?_
  refine ww_getP C (by assumption) 5 (by decide) q_f_X2_30 dX2_dryBy_15 ?_
  refine ww_aload_n C dX2_dryBy_18 0 rfl rfl ?_
  refine ww_getP C (by assumption) 7 (by decide) q_f_X2_36 dX2_dryBy_19 ?_
  refine ww_if_eq C dX2_dryBy_22 31 (by decide) (fun c22_1 => ?_) (fun c22_1 => ?_)
  · refine ww_iload_n C dX2_dryBy_31 2 rfl rfl ?_
    refine ww_mmin C q_m_X2_53 (Nat.le_of_ble_eq_true rfl) (Nat.le_of_ble_eq_true rfl) (by first | exact Nat.le_of_ble_eq_true rfl | omega) (by first | exact Nat.le_of_ble_eq_true rfl | omega) dX2_dryBy_32 ?_
    refine ww_isub C dX2_dryBy_35 ?_
    refine ww_putP C (by assumption) 5 (by decide) q_f_X2_30 dX2_dryBy_36 ?_
    exact ww_vret C hr rfl (by first | rfl | (simp only [p_dry, c22_1, if_true, if_false]; done) | (simp [p_dry, c22_1]; done)) dX2_dryBy_39
  · refine ww_iload_n C dX2_dryBy_25 2 rfl rfl ?_
    refine ww_iconst (v := 2) C dX2_dryBy_26 (by decide) ?_
    refine ww_idiv C dX2_dryBy_27 (by decide) ?_
    refine ww_goto C dX2_dryBy_28 32 (by decide) ?_
    refine ww_mmin C q_m_X2_53 (Nat.le_of_ble_eq_true rfl) (Nat.le_of_ble_eq_true rfl) (by first | exact Nat.le_of_ble_eq_true rfl | omega) (by first | exact Nat.le_of_ble_eq_true rfl | omega) dX2_dryBy_32 ?_
    refine ww_isub C dX2_dryBy_35 ?_
    refine ww_putP C (by assumption) 5 (by decide) q_f_X2_30 dX2_dryBy_36 ?_
    exact ww_vret C hr rfl (by first | rfl | (simp only [p_dry, c22_1, if_true, if_false]; done) | (simp [p_dry, c22_1]; done)) dX2_dryBy_39
set_option maxRecDepth 100000 in
set_option maxHeartbeats 4000000 in
theorem ct_X2_leak {g : gW} {l : Launch} {h : Hp} {o : Nat} (ho : isP o) : CT g l yX2_leak cX2_leak 1 none 0 0 0 [.ref (gB g + o)] h none (p_leak h o) := by
  refine CT.of (lv0 := [(0, .ref (gB g + o))]) mf_X2_leak.1.2.2.2 (Nat.le_of_ble_eq_true rfl) rfl ?_
  intro p e s m below meth c C hr
  refine ww_aload_n C dX2_leak_0 0 rfl rfl ?_
  refine ww_dup C dX2_leak_1 rfl ?_
  refine ww_getP C (by assumption) 5 (by decide) q_f_X2_30 dX2_leak_2 ?_
  refine ww_aload_n C dX2_leak_5 0 rfl rfl ?_
  refine ww_getP C (by assumption) 5 (by decide) q_f_X2_30 dX2_leak_6 ?_
  refine ww_bipush (v := 100) C dX2_leak_9 (by decide) ?_
  refine ww_aload_n C dX2_leak_11 0 rfl rfl ?_
  refine ww_getP C (by assumption) 6 (by decide) q_f_X2_33 dX2_leak_12 ?_
  refine ww_isub C dX2_leak_15 ?_
  refine ww_imul C dX2_leak_16 ?_
  refine ww_sipush (v := 200) C dX2_leak_17 (by decide) ?_
  refine ww_idiv C dX2_leak_20 (by decide) ?_
  refine ww_isub C dX2_leak_21 ?_
  refine ww_putP C (by assumption) 5 (by decide) q_f_X2_30 dX2_leak_22 ?_
  exact ww_vret C hr rfl rfl dX2_leak_25
set_option maxRecDepth 100000 in
set_option maxHeartbeats 4000000 in
theorem ct_X2_spill {g : gW} {l : Launch} {h : Hp} {o : Nat} (ho : isP o) : CT g l yX2_spill cX2_spill 2 (some FieldType.int) 1 0 0 [.ref (gB g + o)] h (some (.int (p_over h o))) (p_spill h o) := by
  refine CT.of (lv0 := [(0, .ref (gB g + o))]) mf_X2_spill.1.2.2.2 (Nat.le_of_ble_eq_true rfl) rfl ?_
  intro p e s m below meth c C hr
  refine ww_iconst (v := 0) C dX2_spill_0 (by decide) ?_
  refine ww_aload_n C dX2_spill_1 0 rfl rfl ?_
  refine ww_getP C (by assumption) 5 (by decide) q_f_X2_30 dX2_spill_2 ?_
  refine ww_aload_n C dX2_spill_5 0 rfl rfl ?_
  refine ww_callP C mf_X2_holds dX2_spill_6 (ct_X2_holds ho) q_m_X2_49 (by assumption) rfl rfl rfl (Nat.le_of_ble_eq_true rfl) (by exact ⟨Nat.le_of_ble_eq_true rfl, Nat.le_of_ble_eq_true rfl⟩) (by exact ⟨Nat.le_of_ble_eq_true rfl, Nat.le_of_ble_eq_true rfl⟩) ?_
  refine ww_isub C dX2_spill_9 ?_
  refine ww_mmax C q_m_X2_57 (Nat.le_of_ble_eq_true rfl) (Nat.le_of_ble_eq_true rfl) (by first | exact Nat.le_of_ble_eq_true rfl | omega) (by first | exact Nat.le_of_ble_eq_true rfl | omega) dX2_spill_10 ?_
  refine ww_istore_n C dX2_spill_13 1 rfl (by decide) ?_
  refine ww_aload_n C dX2_spill_14 0 rfl rfl ?_
  refine ww_dup C dX2_spill_15 rfl ?_
  refine ww_getP C (by assumption) 5 (by decide) q_f_X2_30 dX2_spill_16 ?_
  refine ww_iload_n C dX2_spill_19 1 rfl rfl ?_
  refine ww_isub C dX2_spill_20 ?_
  refine ww_putP C (by assumption) 5 (by decide) q_f_X2_30 dX2_spill_21 ?_
  refine ww_aload_n C dX2_spill_24 0 rfl rfl ?_
  refine ww_dup C dX2_spill_25 rfl ?_
  refine ww_getP C (by assumption) 9 (by decide) q_f_X2_40 dX2_spill_26 ?_
  refine ww_iload_n C dX2_spill_29 1 rfl rfl ?_
  refine ww_iadd C dX2_spill_30 ?_
  refine ww_putP C (by assumption) 9 (by decide) q_f_X2_40 dX2_spill_31 ?_
  refine ww_iload_n C dX2_spill_34 1 rfl rfl ?_
  exact ww_iret C hr rfl rfl dX2_spill_35
set_option maxRecDepth 100000 in
set_option maxHeartbeats 4000000 in
theorem ct_X2_becomeLike {g : gW} {l : Launch} {h : Hp} {o o2 : Nat} (ho : isP o) (ho2 : isP o2) (hb : h o2 7 = 0 ∨ h o2 7 = 1) : CT g l yX2_becomeLike cX2_becomeLike 2 none 0 0 0 [.ref (gB g + o), .ref (gB g + o2)] h none (p_copy h o o2) := by
  refine CT.of (lv0 := [(0, .ref (gB g + o)), (1, .ref (gB g + o2))]) mf_X2_becomeLike.1.2.2.2 (Nat.le_of_ble_eq_true rfl) rfl ?_
  intro p e s m below meth c C hr
  have hz : cpk (cpk (cpk (cpk (cpk (cpk (cpk h o o2 0) o o2 1) o o2 2) o o2 3) o o2 4) o o2 5) o o2 6 o2 7 = 0 ∨ cpk (cpk (cpk (cpk (cpk (cpk (cpk h o o2 0) o o2 1) o o2 2) o o2 3) o o2 4) o o2 5) o o2 6 o2 7 = 1 := by
    by_cases e : o2 = o
    · subst e; simpa [cpk, hp_up, upd] using hb
    · simpa [cpk, hp_up, upd, e] using hb
  refine ww_aload_n C dX2_becomeLike_0 0 rfl rfl ?_
  refine ww_aload_n C dX2_becomeLike_1 1 rfl rfl ?_
  refine ww_getP C (by assumption) 0 (by decide) q_f_X2_15 dX2_becomeLike_2 ?_
  refine ww_putP C (by assumption) 0 (by decide) q_f_X2_15 dX2_becomeLike_5 ?_
  refine ww_aload_n C dX2_becomeLike_8 0 rfl rfl ?_
  refine ww_aload_n C dX2_becomeLike_9 1 rfl rfl ?_
  refine ww_getP C (by assumption) 1 (by decide) q_f_X2_18 dX2_becomeLike_10 ?_
  refine ww_putP C (by assumption) 1 (by decide) q_f_X2_18 dX2_becomeLike_13 ?_
  refine ww_aload_n C dX2_becomeLike_16 0 rfl rfl ?_
  refine ww_aload_n C dX2_becomeLike_17 1 rfl rfl ?_
  refine ww_getP C (by assumption) 2 (by decide) q_f_X2_21 dX2_becomeLike_18 ?_
  refine ww_putP C (by assumption) 2 (by decide) q_f_X2_21 dX2_becomeLike_21 ?_
  refine ww_aload_n C dX2_becomeLike_24 0 rfl rfl ?_
  refine ww_aload_n C dX2_becomeLike_25 1 rfl rfl ?_
  refine ww_getP C (by assumption) 3 (by decide) q_f_X2_24 dX2_becomeLike_26 ?_
  refine ww_putP C (by assumption) 3 (by decide) q_f_X2_24 dX2_becomeLike_29 ?_
  refine ww_aload_n C dX2_becomeLike_32 0 rfl rfl ?_
  refine ww_aload_n C dX2_becomeLike_33 1 rfl rfl ?_
  refine ww_getP C (by assumption) 4 (by decide) q_f_X2_27 dX2_becomeLike_34 ?_
  refine ww_putP C (by assumption) 4 (by decide) q_f_X2_27 dX2_becomeLike_37 ?_
  refine ww_aload_n C dX2_becomeLike_40 0 rfl rfl ?_
  refine ww_aload_n C dX2_becomeLike_41 1 rfl rfl ?_
  refine ww_getP C (by assumption) 5 (by decide) q_f_X2_30 dX2_becomeLike_42 ?_
  refine ww_putP C (by assumption) 5 (by decide) q_f_X2_30 dX2_becomeLike_45 ?_
  refine ww_aload_n C dX2_becomeLike_48 0 rfl rfl ?_
  refine ww_aload_n C dX2_becomeLike_49 1 rfl rfl ?_
  refine ww_getP C (by assumption) 6 (by decide) q_f_X2_33 dX2_becomeLike_50 ?_
  refine ww_putP C (by assumption) 6 (by decide) q_f_X2_33 dX2_becomeLike_53 ?_
  refine ww_aload_n C dX2_becomeLike_56 0 rfl rfl ?_
  refine ww_aload_n C dX2_becomeLike_57 1 rfl rfl ?_
  refine ww_getP C (by assumption) 7 (by decide) q_f_X2_36 dX2_becomeLike_58 ?_
  refine ww_putPb C (by assumption) hz q_f_X2_36 dX2_becomeLike_61 ?_
  refine ww_aload_n C dX2_becomeLike_64 0 rfl rfl ?_
  refine ww_aload_n C dX2_becomeLike_65 1 rfl rfl ?_
  refine ww_getP C (by assumption) 8 (by decide) q_f_X2_9 dX2_becomeLike_66 ?_
  refine ww_putP C (by assumption) 8 (by decide) q_f_X2_9 dX2_becomeLike_69 ?_
  refine ww_aload_n C dX2_becomeLike_72 0 rfl rfl ?_
  refine ww_aload_n C dX2_becomeLike_73 1 rfl rfl ?_
  refine ww_getP C (by assumption) 9 (by decide) q_f_X2_40 dX2_becomeLike_74 ?_
  refine ww_putP C (by assumption) 9 (by decide) q_f_X2_40 dX2_becomeLike_77 ?_
  exact ww_vret C hr rfl rfl dX2_becomeLike_80
set_option maxRecDepth 100000 in
set_option maxHeartbeats 4000000 in
theorem ct_X1_becomeLike {g : gW} {l : Launch} {h : Hp} {o o2 : Nat} (ho : isF o) (ho2 : isF o2) (hb : h o2 3 = 0 ∨ h o2 3 = 1) : CT g l yX1_becomeLike cX1_becomeLike 2 none 0 0 0 [.ref (gB g + o), .ref (gB g + o2)] h none (f_copy h o o2) := by
  refine CT.of (lv0 := [(0, .ref (gB g + o)), (1, .ref (gB g + o2))]) mf_X1_becomeLike.1.2.2.2 (Nat.le_of_ble_eq_true rfl) rfl ?_
  intro p e s m below meth c C hr
  have hz : cpk (cpk (cpk h o o2 0) o o2 1) o o2 2 o2 3 = 0 ∨ cpk (cpk (cpk h o o2 0) o o2 1) o o2 2 o2 3 = 1 := by
    by_cases e : o2 = o
    · subst e; simpa [cpk, hp_up, upd] using hb
    · simpa [cpk, hp_up, upd, e] using hb
  refine ww_aload_n C dX1_becomeLike_0 0 rfl rfl ?_
  refine ww_aload_n C dX1_becomeLike_1 1 rfl rfl ?_
  refine ww_getF C (by assumption) 0 (by decide) q_f_X1_9 dX1_becomeLike_2 ?_
  refine ww_putF C (by assumption) 0 (by decide) q_f_X1_9 dX1_becomeLike_5 ?_
  refine ww_aload_n C dX1_becomeLike_8 0 rfl rfl ?_
  refine ww_aload_n C dX1_becomeLike_9 1 rfl rfl ?_
  refine ww_getF C (by assumption) 1 (by decide) q_f_X1_15 dX1_becomeLike_10 ?_
  refine ww_putF C (by assumption) 1 (by decide) q_f_X1_15 dX1_becomeLike_13 ?_
  refine ww_aload_n C dX1_becomeLike_16 0 rfl rfl ?_
  refine ww_aload_n C dX1_becomeLike_17 1 rfl rfl ?_
  refine ww_getF C (by assumption) 2 (by decide) q_f_X1_18 dX1_becomeLike_18 ?_
  refine ww_putF C (by assumption) 2 (by decide) q_f_X1_18 dX1_becomeLike_21 ?_
  refine ww_aload_n C dX1_becomeLike_24 0 rfl rfl ?_
  refine ww_aload_n C dX1_becomeLike_25 1 rfl rfl ?_
  refine ww_getF C (by assumption) 3 (by decide) q_f_X1_21 dX1_becomeLike_26 ?_
  refine ww_putFb C (by assumption) hz q_f_X1_21 dX1_becomeLike_29 ?_
  refine ww_aload_n C dX1_becomeLike_32 0 rfl rfl ?_
  refine ww_aload_n C dX1_becomeLike_33 1 rfl rfl ?_
  refine ww_getF C (by assumption) 4 (by decide) q_f_X1_25 dX1_becomeLike_34 ?_
  refine ww_putF C (by assumption) 4 (by decide) q_f_X1_25 dX1_becomeLike_37 ?_
  exact ww_vret C hr rfl rfl dX1_becomeLike_40
set_option maxRecDepth 100000 in
set_option maxHeartbeats 4000000 in
theorem ct_X1_startAt {g : gW} {l : Launch} {h : Hp} {o : Nat} (ho : isF o) {x y : Int32} : CT g l yX1_startAt cX1_startAt 3 none 0 0 0 [.ref (gB g + o), .int x, .int y] h none (f_start h o x y) := by
  refine CT.of (lv0 := [(0, .ref (gB g + o)), (1, .int x), (2, .int y)]) mf_X1_startAt.1.2.2.2 (Nat.le_of_ble_eq_true rfl) rfl ?_
  intro p e s m below meth c C hr
  refine ww_aload_n C dX1_startAt_0 0 rfl rfl ?_
  refine ww_iload_n C dX1_startAt_1 2 rfl rfl ?_
  refine ww_putF C (by assumption) 0 (by decide) q_f_X1_9 dX1_startAt_2 ?_
  refine ww_aload_n C dX1_startAt_5 0 rfl rfl ?_
  refine ww_iload_n C dX1_startAt_6 1 rfl rfl ?_
  refine ww_putF C (by assumption) 1 (by decide) q_f_X1_15 dX1_startAt_7 ?_
  refine ww_aload_n C dX1_startAt_10 0 rfl rfl ?_
  refine ww_iconst (v := 0) C dX1_startAt_11 (by decide) ?_
  refine ww_putF C (by assumption) 2 (by decide) q_f_X1_18 dX1_startAt_12 ?_
  refine ww_aload_n C dX1_startAt_15 0 rfl rfl ?_
  refine ww_iconst (v := 0) C dX1_startAt_16 (by decide) ?_
  refine ww_putFb C (by assumption) (by first | exact Or.inl rfl | exact Or.inr rfl | assumption) q_f_X1_21 dX1_startAt_17 ?_
  refine ww_aload_n C dX1_startAt_20 0 rfl rfl ?_
  refine ww_iconst (v := 0) C dX1_startAt_21 (by decide) ?_
  refine ww_putF C (by assumption) 4 (by decide) q_f_X1_25 dX1_startAt_22 ?_
  exact ww_vret C hr rfl rfl dX1_startAt_25
set_option maxRecDepth 100000 in
set_option maxHeartbeats 4000000 in
theorem ct_X1_isLost {g : gW} {l : Launch} {h : Hp} {o : Nat} (ho : isF o) : CT g l yX1_isLost cX1_isLost 1 (some FieldType.boolean) 0 0 0 [.ref (gB g + o)] h (some (.int (bI (10 ≤ h o 2)))) h := by
  refine CT.of (lv0 := [(0, .ref (gB g + o))]) mf_X1_isLost.1.2.2.2 (Nat.le_of_ble_eq_true rfl) rfl ?_
  intro p e s m below meth c C hr
  refine ww_aload_n C dX1_isLost_0 0 rfl rfl ?_
  refine ww_getF C (by assumption) 2 (by decide) q_f_X1_18 dX1_isLost_1 ?_
  refine ww_bipush (v := 10) C dX1_isLost_4 (by decide) ?_
  refine ww_icmp_lt C dX1_isLost_6 13 (by decide) (fun c6_1 => ?_) (fun c6_1 => ?_)
  · refine ww_iconst (v := 0) C dX1_isLost_13 (by decide) ?_
    exact ww_zret C hr (by first | exact Or.inl rfl | exact Or.inr rfl | assumption) (by simp only [bI]; first | (rw [if_pos (by simpa using c6_1)]; done) | (rw [if_neg (by simpa using c6_1)]; done)) rfl dX1_isLost_14
  · refine ww_iconst (v := 1) C dX1_isLost_9 (by decide) ?_
    refine ww_goto C dX1_isLost_10 14 (by decide) ?_
    exact ww_zret C hr (by first | exact Or.inl rfl | exact Or.inr rfl | assumption) (by simp only [bI]; first | (rw [if_pos (by simpa using c6_1)]; done) | (rw [if_neg (by simpa using c6_1)]; done)) rfl dX1_isLost_14
set_option maxRecDepth 100000 in
set_option maxHeartbeats 4000000 in
theorem ct_X1_need {g : gW} {l : Launch} {h : Hp} {o : Nat} (ho : isF o) : CT g l yX1_need cX1_need 1 (some FieldType.int) 0 0 0 [.ref (gB g + o)] h (some (.int (f_need h o))) h := by
  refine CT.of (lv0 := [(0, .ref (gB g + o))]) mf_X1_need.1.2.2.2 (Nat.le_of_ble_eq_true rfl) rfl ?_
  intro p e s m below meth c C hr
  refine ww_iconst (v := 2) C dX1_need_0 (by decide) ?_
  refine ww_aload_n C dX1_need_1 0 rfl rfl ?_
  refine ww_getF C (by assumption) 0 (by decide) q_f_X1_9 dX1_need_2 ?_
  refine ww_imul C dX1_need_5 ?_
  exact ww_iret C hr rfl rfl dX1_need_6
set_option maxRecDepth 100000 in
set_option maxHeartbeats 4000000 in
theorem ct_X1_drink {g : gW} {l : Launch} {h : Hp} {o : Nat} (ho : isF o) {x : Int32} : CT g l yX1_drink cX1_drink 2 none 1 0 0 [.ref (gB g + o), .int x] h none (f_drink h o x) := by
  refine CT.of (lv0 := [(0, .ref (gB g + o)), (1, .int x)]) mf_X1_drink.1.2.2.2 (Nat.le_of_ble_eq_true rfl) rfl ?_
  intro p e s m below meth c C hr
  refine ww_aload_n C dX1_drink_0 0 rfl rfl ?_
  refine ww_dup C dX1_drink_1 rfl ?_
  refine ww_getF C (by assumption) 4 (by decide) q_f_X1_25 dX1_drink_2 ?_
  refine ww_iload_n C dX1_drink_5 1 rfl rfl ?_
  refine ww_iadd C dX1_drink_6 ?_
  refine ww_putF C (by assumption) 4 (by decide) q_f_X1_25 dX1_drink_7 ?_
  refine ww_iload_n C dX1_drink_10 1 rfl rfl ?_
  refine ww_aload_n C dX1_drink_11 0 rfl rfl ?_
  refine ww_callF C mf_X1_need dX1_drink_12 (ct_X1_need ho) q_m_X1_28 (by assumption) rfl rfl rfl (Nat.le_of_ble_eq_true rfl) (by exact ⟨Nat.le_of_ble_eq_true rfl, Nat.le_of_ble_eq_true rfl⟩) (by exact ⟨Nat.le_of_ble_eq_true rfl, Nat.le_of_ble_eq_true rfl⟩) ?_
  refine ww_icmp_lt C dX1_drink_15 35 (by decide) (fun c15_1 => ?_) (fun c15_1 => ?_)
  · refine ww_aload_n C dX1_drink_35 0 rfl rfl ?_
    refine ww_bipush (v := 10) C dX1_drink_36 (by decide) ?_
    refine ww_aload_n C dX1_drink_38 0 rfl rfl ?_
    refine ww_getF C (by assumption) 2 (by decide) q_f_X1_18 dX1_drink_39 ?_
    refine ww_iconst (v := 3) C dX1_drink_42 (by decide) ?_
    refine ww_iadd C dX1_drink_43 ?_
    refine ww_mmin C q_m_X1_38 (Nat.le_of_ble_eq_true rfl) (Nat.le_of_ble_eq_true rfl) (by first | exact Nat.le_of_ble_eq_true rfl | omega) (by first | exact Nat.le_of_ble_eq_true rfl | omega) dX1_drink_44 ?_
    refine ww_putF C (by assumption) 2 (by decide) q_f_X1_18 dX1_drink_47 ?_
    exact ww_vret C hr rfl (by unfold f_drink; first | exact if_pos c15_1 | exact if_neg c15_1) dX1_drink_50
  · refine ww_aload_n C dX1_drink_18 0 rfl rfl ?_
    refine ww_iconst (v := 0) C dX1_drink_19 (by decide) ?_
    refine ww_aload_n C dX1_drink_20 0 rfl rfl ?_
    refine ww_getF C (by assumption) 2 (by decide) q_f_X1_18 dX1_drink_21 ?_
    refine ww_iconst (v := 2) C dX1_drink_24 (by decide) ?_
    refine ww_isub C dX1_drink_25 ?_
    refine ww_mmax C q_m_X1_32 (Nat.le_of_ble_eq_true rfl) (Nat.le_of_ble_eq_true rfl) (by first | exact Nat.le_of_ble_eq_true rfl | omega) (by first | exact Nat.le_of_ble_eq_true rfl | omega) dX1_drink_26 ?_
    refine ww_putF C (by assumption) 2 (by decide) q_f_X1_18 dX1_drink_29 ?_
    refine ww_goto C dX1_drink_32 50 (by decide) ?_
    exact ww_vret C hr rfl (by unfold f_drink; first | exact if_pos c15_1 | exact if_neg c15_1) dX1_drink_50
set_option maxRecDepth 100000 in
set_option maxHeartbeats 4000000 in
theorem ct_X3_becomeLike {g : gW} {l : Launch} {h : Hp} {o o2 : Nat} (ho : isWt o) (ho2 : isWt o2) : CT g l yX3_becomeLike cX3_becomeLike 2 none 0 0 0 [.ref (gB g + o), .ref (gB g + o2)] h none (w_copy h o o2) := by
  refine CT.of (lv0 := [(0, .ref (gB g + o)), (1, .ref (gB g + o2))]) mf_X3_becomeLike.1.2.2.2 (Nat.le_of_ble_eq_true rfl) rfl ?_
  intro p e s m below meth c C hr
  refine ww_aload_n C dX3_becomeLike_0 0 rfl rfl ?_
  refine ww_aload_n C dX3_becomeLike_1 1 rfl rfl ?_
  refine ww_getW C (by assumption) 0 (by decide) q_f_X3_7 dX3_becomeLike_2 ?_
  refine ww_putW C (by assumption) 0 (by decide) q_f_X3_7 dX3_becomeLike_5 ?_
  refine ww_aload_n C dX3_becomeLike_8 0 rfl rfl ?_
  refine ww_aload_n C dX3_becomeLike_9 1 rfl rfl ?_
  refine ww_getW C (by assumption) 1 (by decide) q_f_X3_13 dX3_becomeLike_10 ?_
  refine ww_putW C (by assumption) 1 (by decide) q_f_X3_13 dX3_becomeLike_13 ?_
  refine ww_aload_n C dX3_becomeLike_16 0 rfl rfl ?_
  refine ww_aload_n C dX3_becomeLike_17 1 rfl rfl ?_
  refine ww_getW C (by assumption) 2 (by decide) q_f_X3_16 dX3_becomeLike_18 ?_
  refine ww_putW C (by assumption) 2 (by decide) q_f_X3_16 dX3_becomeLike_21 ?_
  exact ww_vret C hr rfl rfl dX3_becomeLike_24
set_option maxRecDepth 100000 in
set_option maxHeartbeats 4000000 in
theorem ct_X3_asNumber {g : gW} {l : Launch} {h : Hp} {o : Nat} (ho : isWt o) : CT g l yX3_asNumber cX3_asNumber 1 (some FieldType.int) 0 0 0 [.ref (gB g + o)] h (some (.int (w_num h o))) h := by
  refine CT.of (lv0 := [(0, .ref (gB g + o))]) mf_X3_asNumber.1.2.2.2 (Nat.le_of_ble_eq_true rfl) rfl ?_
  intro p e s m below meth c C hr
  refine ww_bipush (v := 100) C dX3_asNumber_0 (by decide) ?_
  refine ww_aload_n C dX3_asNumber_2 0 rfl rfl ?_
  refine ww_getW C (by assumption) 0 (by decide) q_f_X3_7 dX3_asNumber_3 ?_
  refine ww_imul C dX3_asNumber_6 ?_
  refine ww_bipush (v := 10) C dX3_asNumber_7 (by decide) ?_
  refine ww_aload_n C dX3_asNumber_9 0 rfl rfl ?_
  refine ww_getW C (by assumption) 1 (by decide) q_f_X3_13 dX3_asNumber_10 ?_
  refine ww_imul C dX3_asNumber_13 ?_
  refine ww_iadd C dX3_asNumber_14 ?_
  refine ww_aload_n C dX3_asNumber_15 0 rfl rfl ?_
  refine ww_getW C (by assumption) 2 (by decide) q_f_X3_16 dX3_asNumber_16 ?_
  refine ww_iadd C dX3_asNumber_19 ?_
  exact ww_iret C hr rfl rfl dX3_asNumber_20
end
section
/-! what the methods of Downs do to the numbers. d: the Downs (1: the real ones, 32: those ahead); n ponds, f flocks, t the day -/
def fd {α : Type} (step : α → Nat → α) (a : α) : Nat → α
  | 0 => a
  | n + 1 => step (fd step a n) n
def sumN (f : Nat → Int32) : Nat → Int32 := fd (fun s j => s + f j) 0
theorem nI_inc (j : Nat) : nI j + Int32.ofInt 1 = nI (j + 1) := nI_1 j
theorem lp_exit {b : Int32} {n j : Nat} (hc : b = nI n) (q : b ≤ nI j) (hj : j ≤ n) (h31 : n < 2 ^ 31) : n = j := by
  subst hc
  have := (nI_leI h31 (by omega)).mp q
  omega
theorem lp_body {b : Int32} {n j : Nat} (hc : b = nI n) (q : ¬ b ≤ nI j) (hj : j ≤ n) (h31 : n < 2 ^ 31) : j < n := by
  subst hc
  rcases Nat.lt_or_ge j n with h | h
  · exact h
  · exact absurd ((nI_leI h31 (by omega)).mpr h) q
theorem hp_ne {h : Hp} {o k a : Nat} {v : Int32} (e : a ≠ o) : hp_up h o k v a = h a := by simp [hp_up, e]
theorem hp_eq {h : Hp} {o k : Nat} {v : Int32} : hp_up h o k v o = upd (h o) k v := by simp [hp_up]
theorem cpk_ne {h : Hp} {o o2 k a : Nat} (e : a ≠ o) : cpk h o o2 k a = h a := hp_ne e
theorem p_copy_ne {h : Hp} {o o2 a : Nat} (e : a ≠ o) : p_copy h o o2 a = h a := by simp only [p_copy, cpk_ne e]
theorem p_line_ne {h : Hp} {o a : Nat} {x : Int32} (e : a ≠ o) : p_line h o x a = h a := hp_ne e
theorem p_mist_ne {h : Hp} {o a : Nat} {x : Int32} (e : a ≠ o) : p_mist h o x a = h a := hp_ne e
theorem p_rain_ne {h : Hp} {o a : Nat} {x : Int32} (e : a ≠ o) : p_rain h o x a = h a := hp_ne e
theorem p_give_ne {h : Hp} {o a : Nat} {x : Int32} (e : a ≠ o) : p_give h o x a = h a := hp_ne e
theorem p_tread_ne {h : Hp} {o a : Nat} {x : Int32} (e : a ≠ o) : p_tread h o x a = h a := by unfold p_tread; split; exact hp_ne e; rfl
theorem p_dry_ne {h : Hp} {o a : Nat} {x : Int32} (e : a ≠ o) : p_dry h o x a = h a := hp_ne e
theorem p_leak_ne {h : Hp} {o a : Nat} (e : a ≠ o) : p_leak h o a = h a := hp_ne e
theorem p_spill_ne {h : Hp} {o a : Nat} (e : a ≠ o) : p_spill h o a = h a := by simp only [p_spill, hp_ne e]
theorem f_copy_ne {h : Hp} {o o2 a : Nat} (e : a ≠ o) : f_copy h o o2 a = h a := by simp only [f_copy, cpk_ne e]
theorem f_start_ne {h : Hp} {o a : Nat} {x y : Int32} (e : a ≠ o) : f_start h o x y a = h a := by simp only [f_start, hp_ne e]
theorem f_drink_ne {h : Hp} {o a : Nat} {x : Int32} (e : a ≠ o) : f_drink h o x a = h a := by unfold f_drink f_drinkA; split <;> simp only [hp_ne e]
theorem w_copy_ne {h : Hp} {o o2 a : Nat} (e : a ≠ o) : w_copy h o o2 a = h a := by simp only [w_copy, cpk_ne e]
/-- what a loop's step keeps, the loop keeps -/
theorem fd_keep {α β : Type} {step : α → Nat → α} {a : α} {P : α → β} : ∀ (n : Nat), (∀ x i, i < n → P (step x i) = P x) → P (fd step a n) = P a
  | 0, _ => rfl
  | n + 1, hs => (hs _ n (Nat.lt_succ_self n)).trans (fd_keep n (fun x i hi => hs x i (Nat.lt_succ_of_lt hi)))
theorem fd_inv {α : Type} {step : α → Nat → α} {a : α} {I : α → Prop} : ∀ (n : Nat), I a → (∀ x i, i < n → I x → I (step x i)) → I (fd step a n)
  | 0, h, _ => h
  | n + 1, h, hs => hs _ n (Nat.lt_succ_self n) (fd_inv n h (fun x i hi => hs x i (Nat.lt_succ_of_lt hi)))
/-- which of n numbers a value is -/
def isN (n : Nat) (x : Int32) : Prop := ∃ q, q < n ∧ x = nI q
theorem isN_at {n : Nat} {x : Int32} (h : isN n x) (hn : n < 2 ^ 31) : x = nI x.toNatClampNeg ∧ x.toNatClampNeg < n := by
  obtain ⟨q, hq, rfl⟩ := h
  rw [nI_clamp (by omega)]
  exact ⟨rfl, hq⟩
theorem isP_x {d n : Nat} {x : Int32} (hd : isD d) (hn : n ≤ 10) (h : isN n x) : isP (d + 14 + x.toNatClampNeg) := by
  have := (isN_at h (by omega)).2
  exact isP_of hd (by omega)
theorem isF_x {d f : Nat} {x : Int32} (hd : isD d) (hf : f ≤ rmD d) (h : isN f x) : isF (d + 25 + x.toNatClampNeg) := by
  have hr : rmD d ≤ 7 := by unfold rmD; split <;> omega
  have := (isN_at h (by omega)).2
  exact isF_of hd (by omega)
theorem isWt_x {d : Nat} {x : Int32} (hd : isD d) (h : isN 10 x) : isWt (d + 2 + x.toNatClampNeg) := by
  have := (isN_at h (by omega)).2
  exact isWt_of hd (by omega)
/-- a Downs that is in order -/
def OK (d n f : Nat) (h : Hp) : Prop := h d 4 = nI n ∧ n ≤ 10 ∧ h d 5 = nI f ∧ f ≤ rmD d ∧ (∀ j, j < n → h (d + 14 + j) 8 = -1 ∨ isN n (h (d + 14 + j) 8)) ∧ (∀ j, j < f → isN n (h (d + 25 + j) 1)) ∧ (∀ r, r < n → isN n (h (d + 13) r)) ∧ (∀ j, j < n → h (d + 14 + j) 7 = 0 ∨ h (d + 14 + j) 7 = 1) ∧ (∀ j, j < f → h (d + 25 + j) 3 = 0 ∨ h (d + 25 + j) 3 = 1)
def d_all (h : Hp) (d n : Nat) : Int32 := sumN (fun j => h (d + 14 + j) 5) n
def d_hold (h : Hp) (d n : Nat) : Int32 := sumN (fun j => p_holds h (d + 14 + j)) n
def d_dry (h : Hp) (d n : Nat) : Int32 := sumN (fun j => if h (d + 14 + j) 5 = 0 then 1 else 0) n
def d_lost (h : Hp) (d f : Nat) : Int32 := sumN (fun j => if 10 ≤ h (d + 25 + j) 2 then 1 else 0) f
def d_sheep (h : Hp) (d f : Nat) : Int32 := sumN (fun j => if 10 ≤ h (d + 25 + j) 2 then 0 else h (d + 25 + j) 0) f
def d_at (h : Hp) (d f : Nat) (x : Int32) : Int32 := sumN (fun j => if h (d + 25 + j) 1 = x then (if 10 ≤ h (d + 25 + j) 2 then 0 else 1) else 0) f
def d_taken (h : Hp) (d : Nat) (x y : Int32) (n : Nat) : Prop := ∃ j, j < n ∧ h (d + 14 + j) 0 = x ∧ h (d + 14 + j) 1 = y
def d_mist (d w : Nat) (h : Hp) (j : Nat) : Hp := p_rain (p_mist h (d + 14 + j) (h w 0)) (d + 14 + j) (p_mist h (d + 14 + j) (h w 0) w 1)
def d_sun (d w : Nat) (h : Hp) (j : Nat) : Hp := p_leak (p_dry h (d + 14 + j) (h w 2)) (d + 14 + j)
def d_rot (d : Nat) (h : Hp) (j : Nat) : Hp := hp_up h (d + 14 + j) 7 0
/-- the search of a roaming flock: the least way yet, and the pond -/
def d_nearS (h : Hp) (d fo here : Nat) (z : Int32 × Int32) (j : Nat) : Int32 × Int32 := if h (d + 14 + j) 5 < f_need h fo then z else if z.1 ≤ p_dist h here (d + 14 + j) then z else (p_dist h here (d + 14 + j), nI j)
def d_near (h : Hp) (d n fo : Nat) : Int32 := if h (d + 14 + (h fo 1).toNatClampNeg) 5 < f_need h fo then (fd (d_nearS h d fo (d + 14 + (h fo 1).toNatClampNeg)) (2147483647, h fo 1) n).2 else h fo 1
def d_go (d n fo : Nat) (h : Hp) : Hp := if h fo 3 = 0 then h else if h fo 2 ≤ 0 then h else hp_up h fo 1 (d_near h d n fo)
def d_to (d fo : Nat) (h : Hp) : Nat := d + 14 + (h fo 1).toNatClampNeg
def d_drinkH (fo q : Nat) (h : Hp) : Hp := p_tread (f_drink (p_give h q (f_need h fo)) fo (mnI (f_need h fo) (h q 5))) q (f_drink (p_give h q (f_need h fo)) fo (mnI (f_need h fo) (h q 5)) fo 0)
def d_flock (d n : Nat) (h : Hp) (j : Nat) : Hp := if 10 ≤ h (d + 25 + j) 2 then h else d_drinkH (d + 25 + j) (d_to d (d + 25 + j) (d_go d n (d + 25 + j) h)) (d_go d n (d + 25 + j) h)
def d_flockU (d n : Nat) (h : Hp) (j : Nat) (u : Int32) : Int32 := if 10 ≤ h (d + 25 + j) 2 then u else u + mnI (f_need (d_go d n (d + 25 + j) h) (d + 25 + j)) (d_go d n (d + 25 + j) h (d_to d (d + 25 + j) (d_go d n (d + 25 + j) h)) 5)
def d_drunk (d n : Nat) (h : Hp) : Nat → Int32 := fd (fun u j => d_flockU d n (fd (d_flock d n) h j) j u) 0
def d_ro (d : Nat) (h : Hp) (r : Nat) : Nat := d + 14 + (h (d + 13) r).toNatClampNeg
def d_runS (d : Nat) (h : Hp) (r : Nat) : Hp := if p_spill h (d_ro d h r) (d_ro d h r) 8 = -1 then p_spill h (d_ro d h r) else hp_up (p_spill h (d_ro d h r)) (d + 14 + (p_spill h (d_ro d h r) (d_ro d h r) 8).toNatClampNeg) 5 (p_spill h (d_ro d h r) (d + 14 + (p_spill h (d_ro d h r) (d_ro d h r) 8).toNatClampNeg) 5 + p_over h (d_ro d h r))
def d_h1 (d n w : Nat) (h : Hp) : Hp := fd (d_mist d w) h n
def d_h3 (d n f w : Nat) (h : Hp) : Hp := fd (d_sun d w) (fd (d_flock d n) (d_h1 d n w h) f) n
def d_h4 (d n f w : Nat) (h : Hp) : Hp := fd (d_runS d) (d_h3 d n f w h) n
def d_h5 (d n f t : Nat) (h : Hp) : Hp := if nI (t % 10) = 9 then fd (d_rot d) (d_h4 d n f (d + 2 + t % 10) h) n else d_h4 d n f (d + 2 + t % 10) h
def d_day (d n f t : Nat) (h : Hp) : Hp := hp_up (d_h5 d n f t h) d 6 (d_h5 d n f t h d 6 + 1)
def d_dayU (d n f t : Nat) (h : Hp) : Int32 := d_drunk d n (d_h1 d n (d + 2 + t % 10) h) f
def d_days (d n f t : Nat) (h : Hp) : Nat → Hp := fd (fun z i => d_day d n f (t + i) z) h
def d_daysU (d n f t : Nat) (h : Hp) : Nat → Int32 := fd (fun u i => u + d_dayU d n f (t + i) (d_days d n f t h i)) 0
/-- can a pond's water come to the goal: at most k steps from the link x on -/
def d_down (h : Hp) (d : Nat) (goal : Int32) : Nat → Int32 → Prop
  | 0, _ => False
  | k + 1, x => ¬ x = -1 ∧ (x = goal ∨ d_down h d goal k (h (d + 14 + x.toNatClampNeg) 8))
end
section
theorem bI0 {c : Prop} [Decidable c] (h : bI c = 0) : ¬ c := by intro hc; rw [bI, if_pos hc] at h; exact absurd h (by decide)
theorem bI1 {c : Prop} [Decidable c] (h : ¬ bI c = 0) : c := by apply Classical.byContradiction; intro hc; rw [bI, if_neg hc] at h; exact h rfl
theorem bIt {c : Prop} [Decidable c] (h : c) : bI c = 1 := if_pos h
theorem bIf {c : Prop} [Decidable c] (h : ¬ c) : bI c = 0 := if_neg h
set_option maxRecDepth 100000 in
set_option maxHeartbeats 4000000 in
theorem ok_X0_pondAt {g : gW} {l : Launch} {h : Hp} {d n : Nat} {x : Int32} (hd : isD d) (hn : h d 4 = nI n) (hb : n ≤ 10) (hx : isN n x) : CT g l yX0_pondAt cX0_pondAt 2 (some (FieldType.object "DewPond$Pond")) 0 0 0 [.ref (gB g + d), .int x] h (some (.ref (gB g + (d + 14 + x.toNatClampNeg)))) h := by
  refine CT.of (lv0 := [(0, .ref (gB g + d)), (1, .int x)]) mf_X0_pondAt.1.2.2.2 (Nat.le_of_ble_eq_true rfl) rfl ?_
  intro p e s m below meth c C hr
  obtain ⟨q, hq, rfl⟩ := hx
  have h1 : ¬ nI q < 0 := nI_pos (by omega)
  have h2 : nI q < h d 4 := by rw [hn]; exact (nI_ltI (by omega) (by omega)).mpr hq
  refine ww_iload_n C dX0_pondAt_0 1 rfl rfl ?_
  refine ww_if_lt C dX0_pondAt_1 12 (by decide) (fun q => absurd q h1) (fun _ => ?_)
  refine ww_iload_n C dX0_pondAt_4 1 rfl rfl ?_
  refine ww_aload_n C dX0_pondAt_5 0 rfl rfl ?_
  refine ww_getD C (by assumption) 4 (by decide) q_f_X0_53 dX0_pondAt_6 ?_
  refine ww_icmp_lt C dX0_pondAt_9 22 (by decide) (fun _ => ?_) (fun q => absurd h2 q)
  refine ww_aload_n C dX0_pondAt_22 0 rfl rfl ?_
  refine ww_getDp C (by assumption) q_f_X0_24 dX0_pondAt_23 ?_
  refine ww_iload_n C dX0_pondAt_26 1 rfl rfl ?_
  refine ww_aaldP C hd (by omega) dX0_pondAt_27 ?_
  exact ww_aret C hr (by rw [nI_clamp (by omega)]) rfl dX0_pondAt_28
set_option maxRecDepth 100000 in
set_option maxHeartbeats 4000000 in
theorem ok_X0_flockAt {g : gW} {l : Launch} {h : Hp} {d f : Nat} {x : Int32} (hd : isD d) (hf : h d 5 = nI f) (hb : f ≤ rmD d) (hx : isN f x) : CT g l yX0_flockAt cX0_flockAt 2 (some (FieldType.object "DewPond$Flock")) 0 0 0 [.ref (gB g + d), .int x] h (some (.ref (gB g + (d + 25 + x.toNatClampNeg)))) h := by
  refine CT.of (lv0 := [(0, .ref (gB g + d)), (1, .int x)]) mf_X0_flockAt.1.2.2.2 (Nat.le_of_ble_eq_true rfl) rfl ?_
  intro p e s m below meth c C hr
  obtain ⟨q, hq, rfl⟩ := hx
  have hr7 : rmD d ≤ 7 := by unfold rmD; split <;> omega
  have h1 : ¬ nI q < 0 := nI_pos (by omega)
  have h2 : nI q < h d 5 := by rw [hf]; exact (nI_ltI (by omega) (by omega)).mpr hq
  refine ww_iload_n C dX0_flockAt_0 1 rfl rfl ?_
  refine ww_if_lt C dX0_flockAt_1 12 (by decide) (fun q => absurd q h1) (fun _ => ?_)
  refine ww_iload_n C dX0_flockAt_4 1 rfl rfl ?_
  refine ww_aload_n C dX0_flockAt_5 0 rfl rfl ?_
  refine ww_getD C (by assumption) 5 (by decide) q_f_X0_59 dX0_flockAt_6 ?_
  refine ww_icmp_lt C dX0_flockAt_9 22 (by decide) (fun _ => ?_) (fun q => absurd h2 q)
  refine ww_aload_n C dX0_flockAt_22 0 rfl rfl ?_
  refine ww_getDf C (by assumption) q_f_X0_41 dX0_flockAt_23 ?_
  refine ww_iload_n C dX0_flockAt_26 1 rfl rfl ?_
  refine ww_aaldF C hd (by omega) dX0_flockAt_27 ?_
  exact ww_aret C hr (by rw [nI_clamp (by omega)]) rfl dX0_flockAt_28
set_option maxRecDepth 100000 in
set_option maxHeartbeats 4000000 in
theorem ok_X0_weatherAt {g : gW} {l : Launch} {h : Hp} {d : Nat} {x : Int32} (hd : isD d) (hx : isN 10 x) : CT g l yX0_weatherAt cX0_weatherAt 2 (some (FieldType.object "DewPond$Weather")) 0 0 0 [.ref (gB g + d), .int x] h (some (.ref (gB g + (d + 2 + x.toNatClampNeg)))) h := by
  refine CT.of (lv0 := [(0, .ref (gB g + d)), (1, .int x)]) mf_X0_weatherAt.1.2.2.2 (Nat.le_of_ble_eq_true rfl) rfl ?_
  intro p e s m below meth c C hr
  obtain ⟨q, hq, rfl⟩ := hx
  have h1 : ¬ nI q < 0 := nI_pos (by omega)
  have h2 : nI q < 10 := (nI_ltI (a := q) (b := 10) (by omega) (by omega)).mpr hq
  refine ww_iload_n C dX0_weatherAt_0 1 rfl rfl ?_
  refine ww_if_lt C dX0_weatherAt_1 13 (by decide) (fun q => absurd q h1) (fun _ => ?_)
  refine ww_iload_n C dX0_weatherAt_4 1 rfl rfl ?_
  refine ww_aload_n C dX0_weatherAt_5 0 rfl rfl ?_
  refine ww_getDw C (by assumption) q_f_X0_17 dX0_weatherAt_6 ?_
  refine ww_alenW (v := 10) C hd rfl dX0_weatherAt_9 ?_
  refine ww_icmp_lt C dX0_weatherAt_10 23 (by decide) (fun _ => ?_) (fun q => absurd h2 q)
  refine ww_aload_n C dX0_weatherAt_23 0 rfl rfl ?_
  refine ww_getDw C (by assumption) q_f_X0_17 dX0_weatherAt_24 ?_
  refine ww_iload_n C dX0_weatherAt_27 1 rfl rfl ?_
  refine ww_aaldW C hd (by omega) dX0_weatherAt_28 ?_
  exact ww_aret C hr (by rw [nI_clamp (by omega)]) rfl dX0_weatherAt_29
set_option maxRecDepth 100000 in
set_option maxHeartbeats 4000000 in
theorem ct_X0_allWater {g : gW} {l : Launch} {h : Hp} {d n : Nat} (hd : isD d) (hn : h d 4 = nI n) (hn10 : n ≤ 10) : CT g l yX0_allWater cX0_allWater 3 (some FieldType.int) 0 0 0 [.ref (gB g + d)] h (some (.int (d_all h d n))) h := by
  refine CT.of (lv0 := [(0, .ref (gB g + d))]) mf_X0_allWater.1.2.2.2 (Nat.le_of_ble_eq_true rfl) rfl ?_
  intro p e s m below meth c C hr
  have L : ∀ (fu j : Nat), j ≤ n → n < fu + j → WW g p l e (rK 0 0 0) s m ([.ref (gB g + d)] : List Value).toArray below meth c 3 [] h [(0, .ref (gB g + d)), (1, .int (d_all h d j)), (2, .int (nI j))] 0 0 (MQ below (QW g s.heap.size (some (.int (d_all h d n))) h) ([.ref (gB g + d)] : List Value).toArray s 0 0 (AA g s.heap.size)) 4 [] := by
    intro fu
    induction fu with
    | zero => intro j h1 h2; omega
    | succ fu ih =>
      intro j hj hfu
      refine ww_iload_n C dX0_allWater_4 2 rfl rfl ?_
      refine ww_aload_n C dX0_allWater_5 0 rfl rfl ?_
      refine ww_getD C (by assumption) 4 (by decide) q_f_X0_53 dX0_allWater_6 ?_
      refine ww_icmp_ge C dX0_allWater_9 30 (by decide) (fun q => ?_) (fun q => ?_)
      · have hjn := lp_exit hn q hj (by omega)
        subst hjn
        refine ww_iload_n C dX0_allWater_30 1 rfl rfl ?_
        exact ww_iret C hr rfl rfl dX0_allWater_31
      · have hjn := lp_body hn q hj (by omega)
        have hP := isP_of hd (show j < 10 by omega)
        refine ww_iload_n C dX0_allWater_12 1 rfl rfl ?_
        refine ww_aload_n C dX0_allWater_13 0 rfl rfl ?_
        refine ww_getDp C (by assumption) q_f_X0_24 dX0_allWater_14 ?_
        refine ww_iload_n C dX0_allWater_17 2 rfl rfl ?_
        refine ww_aaldP C hd (by omega) dX0_allWater_18 ?_
        refine ww_getP C (by assumption) 5 (by decide) q_f_X0_191 dX0_allWater_19 ?_
        refine ww_iadd C dX0_allWater_22 ?_
        refine ww_istore_n C dX0_allWater_23 1 rfl (by decide) ?_
        refine ww_iinc (v := nI (j + 1)) C dX0_allWater_24 rfl (nI_inc _) (by decide) ?_
        refine ww_goto C dX0_allWater_27 4 (by decide) ?_
        refine ww_lv [(0, .ref (gB g + d)), (1, .int (d_all h d (j + 1))), (2, .int (nI (j + 1)))] ⟨rfl, rfl, rfl, trivial⟩ ?_
        exact ih (j + 1) hjn (by omega)
  refine ww_iconst (v := 0) C dX0_allWater_0 (by decide) ?_
  refine ww_istore_n C dX0_allWater_1 1 rfl (by decide) ?_
  refine ww_iconst (v := 0) C dX0_allWater_2 (by decide) ?_
  refine ww_istore_n C dX0_allWater_3 2 rfl (by decide) ?_
  refine ww_lv [(0, .ref (gB g + d)), (1, .int (d_all h d 0)), (2, .int (nI 0))] ⟨rfl, rfl, rfl, trivial⟩ ?_
  exact L (n + 1) 0 (Nat.zero_le _) (by omega)
set_option maxRecDepth 100000 in
set_option maxHeartbeats 4000000 in
theorem ct_X0_allHold {g : gW} {l : Launch} {h : Hp} {d n : Nat} (hd : isD d) (hn : h d 4 = nI n) (hn10 : n ≤ 10) : CT g l yX0_allHold cX0_allHold 3 (some FieldType.int) 1 0 0 [.ref (gB g + d)] h (some (.int (d_hold h d n))) h := by
  refine CT.of (lv0 := [(0, .ref (gB g + d))]) mf_X0_allHold.1.2.2.2 (Nat.le_of_ble_eq_true rfl) rfl ?_
  intro p e s m below meth c C hr
  have L : ∀ (fu j : Nat), j ≤ n → n < fu + j → WW g p l e (rK 1 0 0) s m ([.ref (gB g + d)] : List Value).toArray below meth c 3 [] h [(0, .ref (gB g + d)), (1, .int (d_hold h d j)), (2, .int (nI j))] 0 0 (MQ below (QW g s.heap.size (some (.int (d_hold h d n))) h) ([.ref (gB g + d)] : List Value).toArray s 0 0 (AA g s.heap.size)) 4 [] := by
    intro fu
    induction fu with
    | zero => intro j h1 h2; omega
    | succ fu ih =>
      intro j hj hfu
      refine ww_iload_n C dX0_allHold_4 2 rfl rfl ?_
      refine ww_aload_n C dX0_allHold_5 0 rfl rfl ?_
      refine ww_getD C (by assumption) 4 (by decide) q_f_X0_53 dX0_allHold_6 ?_
      refine ww_icmp_ge C dX0_allHold_9 30 (by decide) (fun q => ?_) (fun q => ?_)
      · have hjn := lp_exit hn q hj (by omega)
        subst hjn
        refine ww_iload_n C dX0_allHold_30 1 rfl rfl ?_
        exact ww_iret C hr rfl rfl dX0_allHold_31
      · have hjn := lp_body hn q hj (by omega)
        have hP := isP_of hd (show j < 10 by omega)
        refine ww_iload_n C dX0_allHold_12 1 rfl rfl ?_
        refine ww_aload_n C dX0_allHold_13 0 rfl rfl ?_
        refine ww_getDp C (by assumption) q_f_X0_24 dX0_allHold_14 ?_
        refine ww_iload_n C dX0_allHold_17 2 rfl rfl ?_
        refine ww_aaldP C hd (by omega) dX0_allHold_18 ?_
        refine ww_callP C mf_X2_holds dX0_allHold_19 (ct_X2_holds hP) q_m_X0_213 (by assumption) rfl rfl rfl (Nat.le_of_ble_eq_true rfl) (by exact ⟨Nat.le_of_ble_eq_true rfl, Nat.le_of_ble_eq_true rfl⟩) (by exact ⟨Nat.le_of_ble_eq_true rfl, Nat.le_of_ble_eq_true rfl⟩) ?_
        refine ww_iadd C dX0_allHold_22 ?_
        refine ww_istore_n C dX0_allHold_23 1 rfl (by decide) ?_
        refine ww_iinc (v := nI (j + 1)) C dX0_allHold_24 rfl (nI_inc _) (by decide) ?_
        refine ww_goto C dX0_allHold_27 4 (by decide) ?_
        refine ww_lv [(0, .ref (gB g + d)), (1, .int (d_hold h d (j + 1))), (2, .int (nI (j + 1)))] ⟨rfl, rfl, rfl, trivial⟩ ?_
        exact ih (j + 1) hjn (by omega)
  refine ww_iconst (v := 0) C dX0_allHold_0 (by decide) ?_
  refine ww_istore_n C dX0_allHold_1 1 rfl (by decide) ?_
  refine ww_iconst (v := 0) C dX0_allHold_2 (by decide) ?_
  refine ww_istore_n C dX0_allHold_3 2 rfl (by decide) ?_
  refine ww_lv [(0, .ref (gB g + d)), (1, .int (d_hold h d 0)), (2, .int (nI 0))] ⟨rfl, rfl, rfl, trivial⟩ ?_
  exact L (n + 1) 0 (Nat.zero_le _) (by omega)
set_option maxRecDepth 100000 in
set_option maxHeartbeats 4000000 in
theorem ct_X0_emptyPonds {g : gW} {l : Launch} {h : Hp} {d n : Nat} (hd : isD d) (hn : h d 4 = nI n) (hn10 : n ≤ 10) : CT g l yX0_emptyPonds cX0_emptyPonds 3 (some FieldType.int) 0 0 0 [.ref (gB g + d)] h (some (.int (d_dry h d n))) h := by
  refine CT.of (lv0 := [(0, .ref (gB g + d))]) mf_X0_emptyPonds.1.2.2.2 (Nat.le_of_ble_eq_true rfl) rfl ?_
  intro p e s m below meth c C hr
  have L : ∀ (fu j : Nat), j ≤ n → n < fu + j → WW g p l e (rK 0 0 0) s m ([.ref (gB g + d)] : List Value).toArray below meth c 3 [] h [(0, .ref (gB g + d)), (1, .int (d_dry h d j)), (2, .int (nI j))] 0 0 (MQ below (QW g s.heap.size (some (.int (d_dry h d n))) h) ([.ref (gB g + d)] : List Value).toArray s 0 0 (AA g s.heap.size)) 4 [] := by
    intro fu
    induction fu with
    | zero => intro j h1 h2; omega
    | succ fu ih =>
      intro j hj hfu
      refine ww_iload_n C dX0_emptyPonds_4 2 rfl rfl ?_
      refine ww_aload_n C dX0_emptyPonds_5 0 rfl rfl ?_
      refine ww_getD C (by assumption) 4 (by decide) q_f_X0_53 dX0_emptyPonds_6 ?_
      refine ww_icmp_ge C dX0_emptyPonds_9 33 (by decide) (fun q => ?_) (fun q => ?_)
      · have hjn := lp_exit hn q hj (by omega)
        subst hjn
        refine ww_iload_n C dX0_emptyPonds_33 1 rfl rfl ?_
        exact ww_iret C hr rfl rfl dX0_emptyPonds_34
      · have hjn := lp_body hn q hj (by omega)
        have hP := isP_of hd (show j < 10 by omega)
        refine ww_aload_n C dX0_emptyPonds_12 0 rfl rfl ?_
        refine ww_getDp C (by assumption) q_f_X0_24 dX0_emptyPonds_13 ?_
        refine ww_iload_n C dX0_emptyPonds_16 2 rfl rfl ?_
        refine ww_aaldP C hd (by omega) dX0_emptyPonds_17 ?_
        refine ww_getP C (by assumption) 5 (by decide) q_f_X0_191 dX0_emptyPonds_18 ?_
        refine ww_if_ne C dX0_emptyPonds_21 27 (by decide) (fun c21 => ?_) (fun c21 => ?_)
        · refine ww_iinc (v := nI (j + 1)) C dX0_emptyPonds_27 rfl (nI_inc _) (by decide) ?_
          refine ww_goto C dX0_emptyPonds_30 4 (by decide) ?_
          refine ww_lv [(0, .ref (gB g + d)), (1, .int (d_dry h d (j + 1))), (2, .int (nI (j + 1)))] ⟨rfl, (by show some (Value.int _) = some (Value.int (_ + (if _ then _ else _))); first | (rw [if_pos c21]; rfl) | (rw [if_neg c21, Int32.add_zero]; rfl) | (rw [if_pos (bI1 c21)]; rfl) | (rw [if_neg (bI0 c21), Int32.add_zero]; rfl)), rfl, trivial⟩ ?_
          exact ih (j + 1) hjn (by omega)
        · refine ww_iinc C dX0_emptyPonds_24 rfl rfl (by decide) ?_
          refine ww_iinc (v := nI (j + 1)) C dX0_emptyPonds_27 rfl (nI_inc _) (by decide) ?_
          refine ww_goto C dX0_emptyPonds_30 4 (by decide) ?_
          refine ww_lv [(0, .ref (gB g + d)), (1, .int (d_dry h d (j + 1))), (2, .int (nI (j + 1)))] ⟨rfl, (by show some (Value.int _) = some (Value.int (_ + (if _ then _ else _))); first | (rw [if_pos c21]; rfl) | (rw [if_neg c21, Int32.add_zero]; rfl) | (rw [if_pos (bI1 c21)]; rfl) | (rw [if_neg (bI0 c21), Int32.add_zero]; rfl)), rfl, trivial⟩ ?_
          exact ih (j + 1) hjn (by omega)
  refine ww_iconst (v := 0) C dX0_emptyPonds_0 (by decide) ?_
  refine ww_istore_n C dX0_emptyPonds_1 1 rfl (by decide) ?_
  refine ww_iconst (v := 0) C dX0_emptyPonds_2 (by decide) ?_
  refine ww_istore_n C dX0_emptyPonds_3 2 rfl (by decide) ?_
  refine ww_lv [(0, .ref (gB g + d)), (1, .int (d_dry h d 0)), (2, .int (nI 0))] ⟨rfl, rfl, rfl, trivial⟩ ?_
  exact L (n + 1) 0 (Nat.zero_le _) (by omega)
set_option maxRecDepth 100000 in
set_option maxHeartbeats 4000000 in
theorem ct_X0_lostFlocks {g : gW} {l : Launch} {h : Hp} {d f : Nat} (hd : isD d) (hf : h d 5 = nI f) (hfr : f ≤ rmD d) : CT g l yX0_lostFlocks cX0_lostFlocks 3 (some FieldType.int) 1 0 0 [.ref (gB g + d)] h (some (.int (d_lost h d f))) h := by
  refine CT.of (lv0 := [(0, .ref (gB g + d))]) mf_X0_lostFlocks.1.2.2.2 (Nat.le_of_ble_eq_true rfl) rfl ?_
  intro p e s m below meth c C hr
  have hr7 : rmD d ≤ 7 := by unfold rmD; split <;> omega
  have L : ∀ (fu j : Nat), j ≤ f → f < fu + j → WW g p l e (rK 1 0 0) s m ([.ref (gB g + d)] : List Value).toArray below meth c 3 [] h [(0, .ref (gB g + d)), (1, .int (d_lost h d j)), (2, .int (nI j))] 0 0 (MQ below (QW g s.heap.size (some (.int (d_lost h d f))) h) ([.ref (gB g + d)] : List Value).toArray s 0 0 (AA g s.heap.size)) 4 [] := by
    intro fu
    induction fu with
    | zero => intro j h1 h2; omega
    | succ fu ih =>
      intro j hj hfu
      refine ww_iload_n C dX0_lostFlocks_4 2 rfl rfl ?_
      refine ww_aload_n C dX0_lostFlocks_5 0 rfl rfl ?_
      refine ww_getD C (by assumption) 5 (by decide) q_f_X0_59 dX0_lostFlocks_6 ?_
      refine ww_icmp_ge C dX0_lostFlocks_9 33 (by decide) (fun q => ?_) (fun q => ?_)
      · have hjn := lp_exit hf q hj (by omega)
        subst hjn
        refine ww_iload_n C dX0_lostFlocks_33 1 rfl rfl ?_
        exact ww_iret C hr rfl rfl dX0_lostFlocks_34
      · have hjn := lp_body hf q hj (by omega)
        have hP := isF_of hd (show j < rmD d by omega)
        refine ww_aload_n C dX0_lostFlocks_12 0 rfl rfl ?_
        refine ww_getDf C (by assumption) q_f_X0_41 dX0_lostFlocks_13 ?_
        refine ww_iload_n C dX0_lostFlocks_16 2 rfl rfl ?_
        refine ww_aaldF C hd (by omega) dX0_lostFlocks_17 ?_
        refine ww_callF C mf_X1_isLost dX0_lostFlocks_18 (ct_X1_isLost hP) q_m_X0_157 (by assumption) rfl rfl rfl (Nat.le_of_ble_eq_true rfl) (by exact ⟨Nat.le_of_ble_eq_true rfl, Nat.le_of_ble_eq_true rfl⟩) (by exact ⟨Nat.le_of_ble_eq_true rfl, Nat.le_of_ble_eq_true rfl⟩) ?_
        refine ww_if_eq C dX0_lostFlocks_21 27 (by decide) (fun c21 => ?_) (fun c21 => ?_)
        · refine ww_iinc (v := nI (j + 1)) C dX0_lostFlocks_27 rfl (nI_inc _) (by decide) ?_
          refine ww_goto C dX0_lostFlocks_30 4 (by decide) ?_
          refine ww_lv [(0, .ref (gB g + d)), (1, .int (d_lost h d (j + 1))), (2, .int (nI (j + 1)))] ⟨rfl, (by show some (Value.int _) = some (Value.int (_ + (if _ then _ else _))); first | (rw [if_pos c21]; rfl) | (rw [if_neg c21, Int32.add_zero]; rfl) | (rw [if_pos (bI1 c21)]; rfl) | (rw [if_neg (bI0 c21), Int32.add_zero]; rfl)), rfl, trivial⟩ ?_
          exact ih (j + 1) hjn (by omega)
        · refine ww_iinc C dX0_lostFlocks_24 rfl rfl (by decide) ?_
          refine ww_iinc (v := nI (j + 1)) C dX0_lostFlocks_27 rfl (nI_inc _) (by decide) ?_
          refine ww_goto C dX0_lostFlocks_30 4 (by decide) ?_
          refine ww_lv [(0, .ref (gB g + d)), (1, .int (d_lost h d (j + 1))), (2, .int (nI (j + 1)))] ⟨rfl, (by show some (Value.int _) = some (Value.int (_ + (if _ then _ else _))); first | (rw [if_pos c21]; rfl) | (rw [if_neg c21, Int32.add_zero]; rfl) | (rw [if_pos (bI1 c21)]; rfl) | (rw [if_neg (bI0 c21), Int32.add_zero]; rfl)), rfl, trivial⟩ ?_
          exact ih (j + 1) hjn (by omega)
  refine ww_iconst (v := 0) C dX0_lostFlocks_0 (by decide) ?_
  refine ww_istore_n C dX0_lostFlocks_1 1 rfl (by decide) ?_
  refine ww_iconst (v := 0) C dX0_lostFlocks_2 (by decide) ?_
  refine ww_istore_n C dX0_lostFlocks_3 2 rfl (by decide) ?_
  refine ww_lv [(0, .ref (gB g + d)), (1, .int (d_lost h d 0)), (2, .int (nI 0))] ⟨rfl, rfl, rfl, trivial⟩ ?_
  exact L (f + 1) 0 (Nat.zero_le _) (by omega)
set_option maxRecDepth 100000 in
set_option maxHeartbeats 4000000 in
theorem ct_X0_livingSheep {g : gW} {l : Launch} {h : Hp} {d f : Nat} (hd : isD d) (hf : h d 5 = nI f) (hfr : f ≤ rmD d) : CT g l yX0_livingSheep cX0_livingSheep 3 (some FieldType.int) 1 0 0 [.ref (gB g + d)] h (some (.int (d_sheep h d f))) h := by
  refine CT.of (lv0 := [(0, .ref (gB g + d))]) mf_X0_livingSheep.1.2.2.2 (Nat.le_of_ble_eq_true rfl) rfl ?_
  intro p e s m below meth c C hr
  have hr7 : rmD d ≤ 7 := by unfold rmD; split <;> omega
  have L : ∀ (fu j : Nat), j ≤ f → f < fu + j → WW g p l e (rK 1 0 0) s m ([.ref (gB g + d)] : List Value).toArray below meth c 3 [] h [(0, .ref (gB g + d)), (1, .int (d_sheep h d j)), (2, .int (nI j))] 0 0 (MQ below (QW g s.heap.size (some (.int (d_sheep h d f))) h) ([.ref (gB g + d)] : List Value).toArray s 0 0 (AA g s.heap.size)) 4 [] := by
    intro fu
    induction fu with
    | zero => intro j h1 h2; omega
    | succ fu ih =>
      intro j hj hfu
      refine ww_iload_n C dX0_livingSheep_4 2 rfl rfl ?_
      refine ww_aload_n C dX0_livingSheep_5 0 rfl rfl ?_
      refine ww_getD C (by assumption) 5 (by decide) q_f_X0_59 dX0_livingSheep_6 ?_
      refine ww_icmp_ge C dX0_livingSheep_9 42 (by decide) (fun q => ?_) (fun q => ?_)
      · have hjn := lp_exit hf q hj (by omega)
        subst hjn
        refine ww_iload_n C dX0_livingSheep_42 1 rfl rfl ?_
        exact ww_iret C hr rfl rfl dX0_livingSheep_43
      · have hjn := lp_body hf q hj (by omega)
        have hP := isF_of hd (show j < rmD d by omega)
        refine ww_aload_n C dX0_livingSheep_12 0 rfl rfl ?_
        refine ww_getDf C (by assumption) q_f_X0_41 dX0_livingSheep_13 ?_
        refine ww_iload_n C dX0_livingSheep_16 2 rfl rfl ?_
        refine ww_aaldF C hd (by omega) dX0_livingSheep_17 ?_
        refine ww_callF C mf_X1_isLost dX0_livingSheep_18 (ct_X1_isLost hP) q_m_X0_157 (by assumption) rfl rfl rfl (Nat.le_of_ble_eq_true rfl) (by exact ⟨Nat.le_of_ble_eq_true rfl, Nat.le_of_ble_eq_true rfl⟩) (by exact ⟨Nat.le_of_ble_eq_true rfl, Nat.le_of_ble_eq_true rfl⟩) ?_
        refine ww_if_ne C dX0_livingSheep_21 36 (by decide) (fun c21 => ?_) (fun c21 => ?_)
        · refine ww_iinc (v := nI (j + 1)) C dX0_livingSheep_36 rfl (nI_inc _) (by decide) ?_
          refine ww_goto C dX0_livingSheep_39 4 (by decide) ?_
          refine ww_lv [(0, .ref (gB g + d)), (1, .int (d_sheep h d (j + 1))), (2, .int (nI (j + 1)))] ⟨rfl, (by show some (Value.int _) = some (Value.int (_ + (if _ then _ else _))); first | (rw [if_pos (bI1 c21), Int32.add_zero]; rfl) | (rw [if_neg (bI0 c21)]; rfl)), rfl, trivial⟩ ?_
          exact ih (j + 1) hjn (by omega)
        · refine ww_iload_n C dX0_livingSheep_24 1 rfl rfl ?_
          refine ww_aload_n C dX0_livingSheep_25 0 rfl rfl ?_
          refine ww_getDf C (by assumption) q_f_X0_41 dX0_livingSheep_26 ?_
          refine ww_iload_n C dX0_livingSheep_29 2 rfl rfl ?_
          refine ww_aaldF C hd (by omega) dX0_livingSheep_30 ?_
          refine ww_getF C (by assumption) 0 (by decide) q_f_X0_185 dX0_livingSheep_31 ?_
          refine ww_iadd C dX0_livingSheep_34 ?_
          refine ww_istore_n C dX0_livingSheep_35 1 rfl (by decide) ?_
          refine ww_iinc (v := nI (j + 1)) C dX0_livingSheep_36 rfl (nI_inc _) (by decide) ?_
          refine ww_goto C dX0_livingSheep_39 4 (by decide) ?_
          refine ww_lv [(0, .ref (gB g + d)), (1, .int (d_sheep h d (j + 1))), (2, .int (nI (j + 1)))] ⟨rfl, (by show some (Value.int _) = some (Value.int (_ + (if _ then _ else _))); first | (rw [if_pos (bI1 c21), Int32.add_zero]; rfl) | (rw [if_neg (bI0 c21)]; rfl)), rfl, trivial⟩ ?_
          exact ih (j + 1) hjn (by omega)
  refine ww_iconst (v := 0) C dX0_livingSheep_0 (by decide) ?_
  refine ww_istore_n C dX0_livingSheep_1 1 rfl (by decide) ?_
  refine ww_iconst (v := 0) C dX0_livingSheep_2 (by decide) ?_
  refine ww_istore_n C dX0_livingSheep_3 2 rfl (by decide) ?_
  refine ww_lv [(0, .ref (gB g + d)), (1, .int (d_sheep h d 0)), (2, .int (nI 0))] ⟨rfl, rfl, rfl, trivial⟩ ?_
  exact L (f + 1) 0 (Nat.zero_le _) (by omega)
set_option maxRecDepth 100000 in
set_option maxHeartbeats 4000000 in
theorem ct_X0_flocksAt {g : gW} {l : Launch} {h : Hp} {d f : Nat} {x : Int32} (hd : isD d) (hf : h d 5 = nI f) (hfr : f ≤ rmD d) : CT g l yX0_flocksAt cX0_flocksAt 4 (some FieldType.int) 1 0 0 [.ref (gB g + d), .int x] h (some (.int (d_at h d f x))) h := by
  refine CT.of (lv0 := [(0, .ref (gB g + d)), (1, .int x)]) mf_X0_flocksAt.1.2.2.2 (Nat.le_of_ble_eq_true rfl) rfl ?_
  intro p e s m below meth c C hr
  have hr7 : rmD d ≤ 7 := by unfold rmD; split <;> omega
  have L : ∀ (fu j : Nat), j ≤ f → f < fu + j → WW g p l e (rK 1 0 0) s m ([.ref (gB g + d), .int x] : List Value).toArray below meth c 4 [] h [(0, .ref (gB g + d)), (1, .int x), (2, .int (d_at h d j x)), (3, .int (nI j))] 0 0 (MQ below (QW g s.heap.size (some (.int (d_at h d f x))) h) ([.ref (gB g + d), .int x] : List Value).toArray s 0 0 (AA g s.heap.size)) 4 [] := by
    intro fu
    induction fu with
    | zero => intro j h1 h2; omega
    | succ fu ih =>
      intro j hj hfu
      refine ww_iload_n C dX0_flocksAt_4 3 rfl rfl ?_
      refine ww_aload_n C dX0_flocksAt_5 0 rfl rfl ?_
      refine ww_getD C (by assumption) 5 (by decide) q_f_X0_59 dX0_flocksAt_6 ?_
      refine ww_icmp_ge C dX0_flocksAt_9 46 (by decide) (fun q => ?_) (fun q => ?_)
      · have hjn := lp_exit hf q hj (by omega)
        subst hjn
        refine ww_iload_n C dX0_flocksAt_46 2 rfl rfl ?_
        exact ww_iret C hr rfl rfl dX0_flocksAt_47
      · have hjn := lp_body hf q hj (by omega)
        have hP := isF_of hd (show j < rmD d by omega)
        refine ww_aload_n C dX0_flocksAt_12 0 rfl rfl ?_
        refine ww_getDf C (by assumption) q_f_X0_41 dX0_flocksAt_13 ?_
        refine ww_iload_n C dX0_flocksAt_16 3 rfl rfl ?_
        refine ww_aaldF C hd (by omega) dX0_flocksAt_17 ?_
        refine ww_getF C (by assumption) 1 (by decide) q_f_X0_172 dX0_flocksAt_18 ?_
        refine ww_iload_n C dX0_flocksAt_21 1 rfl rfl ?_
        refine ww_icmp_ne C dX0_flocksAt_22 40 (by decide) (fun c22 => ?_) (fun c22 => ?_)
        · refine ww_iinc (v := nI (j + 1)) C dX0_flocksAt_40 rfl (nI_inc _) (by decide) ?_
          refine ww_goto C dX0_flocksAt_43 4 (by decide) ?_
          refine ww_lv [(0, .ref (gB g + d)), (1, .int x), (2, .int (d_at h d (j + 1) x)), (3, .int (nI (j + 1)))] ⟨rfl, rfl, (by show some (Value.int _) = some (Value.int (_ + (if _ then (if _ then _ else _) else _))); first | (rw [if_neg c22, Int32.add_zero]; rfl) | (rw [if_pos c22, if_pos (bI1 c34), Int32.add_zero]; rfl) | (rw [if_pos c22, if_neg (bI0 c34)]; rfl)), rfl, trivial⟩ ?_
          exact ih (j + 1) hjn (by omega)
        · refine ww_aload_n C dX0_flocksAt_25 0 rfl rfl ?_
          refine ww_getDf C (by assumption) q_f_X0_41 dX0_flocksAt_26 ?_
          refine ww_iload_n C dX0_flocksAt_29 3 rfl rfl ?_
          refine ww_aaldF C hd (by omega) dX0_flocksAt_30 ?_
          refine ww_callF C mf_X1_isLost dX0_flocksAt_31 (ct_X1_isLost hP) q_m_X0_157 (by assumption) rfl rfl rfl (Nat.le_of_ble_eq_true rfl) (by exact ⟨Nat.le_of_ble_eq_true rfl, Nat.le_of_ble_eq_true rfl⟩) (by exact ⟨Nat.le_of_ble_eq_true rfl, Nat.le_of_ble_eq_true rfl⟩) ?_
          refine ww_if_ne C dX0_flocksAt_34 40 (by decide) (fun c34 => ?_) (fun c34 => ?_)
          · refine ww_iinc (v := nI (j + 1)) C dX0_flocksAt_40 rfl (nI_inc _) (by decide) ?_
            refine ww_goto C dX0_flocksAt_43 4 (by decide) ?_
            refine ww_lv [(0, .ref (gB g + d)), (1, .int x), (2, .int (d_at h d (j + 1) x)), (3, .int (nI (j + 1)))] ⟨rfl, rfl, (by show some (Value.int _) = some (Value.int (_ + (if _ then (if _ then _ else _) else _))); first | (rw [if_neg c22, Int32.add_zero]; rfl) | (rw [if_pos c22, if_pos (bI1 c34), Int32.add_zero]; rfl) | (rw [if_pos c22, if_neg (bI0 c34)]; rfl)), rfl, trivial⟩ ?_
            exact ih (j + 1) hjn (by omega)
          · refine ww_iinc C dX0_flocksAt_37 rfl rfl (by decide) ?_
            refine ww_iinc (v := nI (j + 1)) C dX0_flocksAt_40 rfl (nI_inc _) (by decide) ?_
            refine ww_goto C dX0_flocksAt_43 4 (by decide) ?_
            refine ww_lv [(0, .ref (gB g + d)), (1, .int x), (2, .int (d_at h d (j + 1) x)), (3, .int (nI (j + 1)))] ⟨rfl, rfl, (by show some (Value.int _) = some (Value.int (_ + (if _ then (if _ then _ else _) else _))); first | (rw [if_neg c22, Int32.add_zero]; rfl) | (rw [if_pos c22, if_pos (bI1 c34), Int32.add_zero]; rfl) | (rw [if_pos c22, if_neg (bI0 c34)]; rfl)), rfl, trivial⟩ ?_
            exact ih (j + 1) hjn (by omega)
  refine ww_iconst (v := 0) C dX0_flocksAt_0 (by decide) ?_
  refine ww_istore_n C dX0_flocksAt_1 2 rfl (by decide) ?_
  refine ww_iconst (v := 0) C dX0_flocksAt_2 (by decide) ?_
  refine ww_istore_n C dX0_flocksAt_3 3 rfl (by decide) ?_
  refine ww_lv [(0, .ref (gB g + d)), (1, .int x), (2, .int (d_at h d 0 x)), (3, .int (nI 0))] ⟨rfl, rfl, rfl, rfl, trivial⟩ ?_
  exact L (f + 1) 0 (Nat.zero_le _) (by omega)
end
section
/-! a Downs stays in order -/
theorem hp_off {h : Hp} {o k a b : Nat} {v : Int32} (e : a ≠ o ∨ b ≠ k) : hp_up h o k v a b = h a b := by
  by_cases ha : a = o
  · subst ha
    have hb : b ≠ k := e.elim (fun z => absurd rfl z) id
    simp [hp_up, upd, hb]
  · simp [hp_up, ha]
theorem OK.p {d n f q : Nat} {h h' : Hp} (H : OK d n f h) (hq : q < 10) (hne : ∀ a, a ≠ d + 14 + q → h' a = h a) (h8 : h' (d + 14 + q) 8 = h (d + 14 + q) 8) (h7 : q < n → h' (d + 14 + q) 7 = 0 ∨ h' (d + 14 + q) 7 = 1) : OK d n f h' := by
  obtain ⟨a1, a2, a3, a4, a5, a6, a7, a8, a9⟩ := H
  refine ⟨by rw [hne d (by omega)]; exact a1, a2, by rw [hne d (by omega)]; exact a3, a4, fun j hj => ?_, fun j hj => by rw [hne _ (by omega)]; exact a6 j hj, fun r hr => by rw [hne _ (by omega)]; exact a7 r hr, fun j hj => ?_, fun j hj => by rw [hne _ (by omega)]; exact a9 j hj⟩
  · by_cases e : j = q
    · subst e; rw [h8]; exact a5 j hj
    · rw [hne _ (by omega)]; exact a5 j hj
  · by_cases e : j = q
    · subst e; exact h7 hj
    · rw [hne _ (by omega)]; exact a8 j hj
theorem OK.f {d n f q : Nat} {h h' : Hp} (H : OK d n f h) (hq : q < rmD d) (hne : ∀ a, a ≠ d + 25 + q → h' a = h a) (h1 : q < f → isN n (h' (d + 25 + q) 1)) (h3 : q < f → h' (d + 25 + q) 3 = 0 ∨ h' (d + 25 + q) 3 = 1) : OK d n f h' := by
  obtain ⟨a1, a2, a3, a4, a5, a6, a7, a8, a9⟩ := H
  refine ⟨by rw [hne d (by omega)]; exact a1, a2, by rw [hne d (by omega)]; exact a3, a4, fun j hj => by rw [hne _ (by omega)]; exact a5 j hj, fun j hj => ?_, fun r hr => by rw [hne _ (by omega)]; exact a7 r hr, fun j hj => by rw [hne _ (by omega)]; exact a8 j hj, fun j hj => ?_⟩
  · by_cases e : j = q
    · subst e; exact h1 hj
    · rw [hne _ (by omega)]; exact a6 j hj
  · by_cases e : j = q
    · subst e; exact h3 hj
    · rw [hne _ (by omega)]; exact a9 j hj
theorem rm7 {d : Nat} : rmD d ≤ 7 := by unfold rmD; split <;> omega
theorem OK.mist {d n f q : Nat} {h : Hp} {x : Int32} (H : OK d n f h) (hq : q < 10) : OK d n f (p_mist h (d + 14 + q) x) :=
  H.p hq (fun _ e => p_mist_ne e) (by simp [p_mist, hp_up, upd]) (fun hqn => by have := H.2.2.2.2.2.2.2.1 q hqn; simpa [p_mist, hp_up, upd] using this)
theorem OK.rain {d n f q : Nat} {h : Hp} {x : Int32} (H : OK d n f h) (hq : q < 10) : OK d n f (p_rain h (d + 14 + q) x) :=
  H.p hq (fun _ e => p_rain_ne e) (by simp [p_rain, hp_up, upd]) (fun hqn => by have := H.2.2.2.2.2.2.2.1 q hqn; simpa [p_rain, hp_up, upd] using this)
theorem OK.dry {d n f q : Nat} {h : Hp} {x : Int32} (H : OK d n f h) (hq : q < 10) : OK d n f (p_dry h (d + 14 + q) x) :=
  H.p hq (fun _ e => p_dry_ne e) (by simp [p_dry, hp_up, upd]) (fun hqn => by have := H.2.2.2.2.2.2.2.1 q hqn; simpa [p_dry, hp_up, upd] using this)
theorem OK.leak {d n f q : Nat} {h : Hp} (H : OK d n f h) (hq : q < 10) : OK d n f (p_leak h (d + 14 + q)) :=
  H.p hq (fun _ e => p_leak_ne e) (by simp [p_leak, hp_up, upd]) (fun hqn => by have := H.2.2.2.2.2.2.2.1 q hqn; simpa [p_leak, hp_up, upd] using this)
theorem OK.give {d n f q : Nat} {h : Hp} {x : Int32} (H : OK d n f h) (hq : q < 10) : OK d n f (p_give h (d + 14 + q) x) :=
  H.p hq (fun _ e => p_give_ne e) (by simp [p_give, hp_up, upd]) (fun hqn => by have := H.2.2.2.2.2.2.2.1 q hqn; simpa [p_give, hp_up, upd] using this)
theorem OK.tread {d n f q : Nat} {h : Hp} {x : Int32} (H : OK d n f h) (hq : q < 10) : OK d n f (p_tread h (d + 14 + q) x) :=
  H.p hq (fun _ e => p_tread_ne e) (by unfold p_tread; split <;> simp [hp_up, upd]) (fun hqn => by have := H.2.2.2.2.2.2.2.1 q hqn; unfold p_tread; split <;> simpa [hp_up, upd] using this)
theorem OK.spill {d n f q : Nat} {h : Hp} (H : OK d n f h) (hq : q < 10) : OK d n f (p_spill h (d + 14 + q)) :=
  H.p hq (fun _ e => p_spill_ne e) (by simp [p_spill, hp_up, upd]) (fun hqn => by have := H.2.2.2.2.2.2.2.1 q hqn; simpa [p_spill, hp_up, upd] using this)
theorem OK.water {d n f q : Nat} {h : Hp} {x : Int32} (H : OK d n f h) (hq : q < 10) : OK d n f (hp_up h (d + 14 + q) 5 x) :=
  H.p hq (fun _ e => hp_ne e) (by simp [hp_up, upd]) (fun hqn => by have := H.2.2.2.2.2.2.2.1 q hqn; simpa [hp_up, upd] using this)
theorem OK.straw {d n f q : Nat} {h : Hp} {x : Int32} (H : OK d n f h) (hq : q < 10) (hx : x = 0 ∨ x = 1) : OK d n f (hp_up h (d + 14 + q) 7 x) :=
  H.p hq (fun _ e => hp_ne e) (by simp [hp_up, upd]) (fun _ => by simpa [hp_up, upd] using hx)
theorem OK.line {d n f q : Nat} {h : Hp} {x : Int32} (H : OK d n f h) (hq : q < 10) : OK d n f (p_line h (d + 14 + q) x) :=
  H.p hq (fun _ e => p_line_ne e) (by simp [p_line, hp_up, upd]) (fun hqn => by have := H.2.2.2.2.2.2.2.1 q hqn; simpa [p_line, hp_up, upd] using this)
theorem OK.drink {d n f q : Nat} {h : Hp} {x : Int32} (H : OK d n f h) (hq : q < rmD d) : OK d n f (f_drink h (d + 25 + q) x) :=
  H.f hq (fun _ e => f_drink_ne e) (fun hqf => by have := H.2.2.2.2.2.1 q hqf; unfold f_drink f_drinkA; split <;> simpa [hp_up, upd] using this) (fun hqf => by have := H.2.2.2.2.2.2.2.2 q hqf; unfold f_drink f_drinkA; split <;> simpa [hp_up, upd] using this)
theorem OK.move {d n f q : Nat} {h : Hp} {x : Int32} (H : OK d n f h) (hq : q < rmD d) (hx : isN n x) : OK d n f (hp_up h (d + 25 + q) 1 x) :=
  H.f hq (fun _ e => hp_ne e) (fun _ => by simpa [hp_up, upd] using hx) (fun hqf => by have := H.2.2.2.2.2.2.2.2 q hqf; simpa [hp_up, upd] using this)
theorem OK.dslot {d n f k : Nat} {h : Hp} {x : Int32} (H : OK d n f h) (hk : k = 6 ∨ k = 7) : OK d n f (hp_up h d k x) := by
  obtain ⟨a1, a2, a3, a4, a5, a6, a7, a8, a9⟩ := H
  refine ⟨by rw [hp_off (Or.inr (by omega))]; exact a1, a2, by rw [hp_off (Or.inr (by omega))]; exact a3, a4, fun j hj => by rw [hp_ne (by omega)]; exact a5 j hj, fun j hj => by rw [hp_ne (by omega)]; exact a6 j hj, fun r hr => by rw [hp_ne (by omega)]; exact a7 r hr, fun j hj => by rw [hp_ne (by omega)]; exact a8 j hj, fun j hj => by rw [hp_ne (by omega)]; exact a9 j hj⟩
theorem near_in {h : Hp} {d n f fo here : Nat} (H : OK d n f h) (hx : isN n (h fo 1)) : ∀ k, k ≤ n → isN n (fd (d_nearS h d fo here) (2147483647, h fo 1) k).2
  | 0, _ => hx
  | k + 1, hk => by
    have ih := near_in (here := here) H hx k (by omega)
    show isN n (d_nearS h d fo here _ k).2
    unfold d_nearS
    split
    · exact ih
    · split
      · exact ih
      · exact ⟨k, by omega, rfl⟩
theorem d_near_in {h : Hp} {d n f fo : Nat} (H : OK d n f h) (hx : isN n (h fo 1)) : isN n (d_near h d n fo) := by
  unfold d_near
  split
  · exact near_in H hx n (Nat.le_refl n)
  · exact hx
theorem OK.go {d n f j : Nat} {h : Hp} (H : OK d n f h) (hj : j < f) : OK d n f (d_go d n (d + 25 + j) h) := by
  have h7 : j < rmD d := Nat.lt_of_lt_of_le hj H.2.2.2.1
  unfold d_go
  split
  · exact H
  · split
    · exact H
    · exact H.move h7 (d_near_in H (H.2.2.2.2.2.1 j hj))
theorem to_in {d n f j : Nat} {h : Hp} (H : OK d n f h) (hj : j < f) : ∃ q, q < n ∧ q < 10 ∧ d_to d (d + 25 + j) h = d + 14 + q ∧ h (d + 25 + j) 1 = nI q := by
  obtain ⟨q, hq, e⟩ := H.2.2.2.2.2.1 j hj
  refine ⟨q, hq, Nat.lt_of_lt_of_le hq H.2.1, ?_, e⟩
  have := H.2.1
  unfold d_to
  rw [e, nI_clamp (by omega)]
theorem OK.flock {d n f j : Nat} {h : Hp} (H : OK d n f h) (hj : j < f) : OK d n f (d_flock d n h j) := by
  have h7 : j < rmD d := Nat.lt_of_lt_of_le hj H.2.2.2.1
  unfold d_flock
  split
  · exact H
  · have H1 := H.go hj
    obtain ⟨q, -, hq, e, -⟩ := to_in H1 hj
    rw [e]
    exact ((H1.give hq).drink h7).tread hq
theorem ro_in {d n f r : Nat} {h : Hp} (H : OK d n f h) (hr : r < n) : ∃ q, q < n ∧ q < 10 ∧ d_ro d h r = d + 14 + q ∧ h (d + 13) r = nI q := by
  obtain ⟨q, hq, e⟩ := H.2.2.2.2.2.2.1 r hr
  have := H.2.1
  refine ⟨q, hq, Nat.lt_of_lt_of_le hq H.2.1, ?_, e⟩
  unfold d_ro
  rw [e, nI_clamp (by omega)]
theorem OK.runS {d n f r : Nat} {h : Hp} (H : OK d n f h) (hr : r < n) : OK d n f (d_runS d h r) := by
  obtain ⟨q, hqn, hq, e, -⟩ := ro_in H hr
  unfold d_runS
  rw [e]
  have H1 := H.spill hq
  split
  · exact H1
  · rename_i h8
    rcases H1.2.2.2.2.1 q hqn with z | ⟨q2, hq2, z⟩
    · exact absurd z h8
    · have := H.2.1
      rw [z, nI_clamp (by omega)]
      exact H1.water (by omega)
theorem OK.mistS {d n f w j : Nat} {h : Hp} (H : OK d n f h) (hj : j < 10) : OK d n f (d_mist d w h j) := (H.mist hj).rain hj
theorem OK.sunS {d n f w j : Nat} {h : Hp} (H : OK d n f h) (hj : j < 10) : OK d n f (d_sun d w h j) := (H.dry hj).leak hj
theorem OK.rotS {d n f j : Nat} {h : Hp} (H : OK d n f h) (hj : j < 10) : OK d n f (d_rot d h j) := H.straw hj (Or.inl rfl)
theorem OK.h1 {d n f w k : Nat} {h : Hp} (H : OK d n f h) (hk : k ≤ n) : OK d n f (fd (d_mist d w) h k) := fd_inv k H (fun x i hi hx => hx.mistS (by have := hx.2.1; omega))
theorem OK.h2 {d n f k : Nat} {h : Hp} (H : OK d n f h) (hk : k ≤ f) : OK d n f (fd (d_flock d n) h k) := fd_inv k H (fun x i hi hx => hx.flock (by omega))
theorem OK.h3 {d n f w k : Nat} {h : Hp} (H : OK d n f h) (hk : k ≤ n) : OK d n f (fd (d_sun d w) h k) := fd_inv k H (fun x i hi hx => hx.sunS (by have := hx.2.1; omega))
theorem OK.h4 {d n f k : Nat} {h : Hp} (H : OK d n f h) (hk : k ≤ n) : OK d n f (fd (d_runS d) h k) := fd_inv k H (fun x i hi hx => hx.runS (by omega))
theorem OK.h5 {d n f k : Nat} {h : Hp} (H : OK d n f h) (hk : k ≤ n) : OK d n f (fd (d_rot d) h k) := fd_inv k H (fun x i hi hx => hx.rotS (by have := hx.2.1; omega))
theorem OK.day {d n f t : Nat} {h : Hp} (H : OK d n f h) : OK d n f (d_day d n f t h) := by
  have H4 : OK d n f (d_h4 d n f (d + 2 + t % 10) h) := (((H.h1 (Nat.le_refl n)).h2 (Nat.le_refl f)).h3 (Nat.le_refl n)).h4 (Nat.le_refl n)
  unfold d_day
  refine OK.dslot ?_ (Or.inl rfl)
  unfold d_h5
  split
  · exact H4.h5 (Nat.le_refl n)
  · exact H4
/-- the row of the Downs itself stays until the day's end -/
theorem row_flock {d n f j : Nat} {h : Hp} (H : OK d n f h) (hj : j < f) : ∀ a, a < d + 14 → d_flock d n h j a = h a := by
  intro a ha
  unfold d_flock
  split
  · rfl
  · have H1 := H.go hj
    obtain ⟨q, -, hq, e, -⟩ := to_in H1 hj
    rw [e]
    unfold d_drinkH
    rw [p_tread_ne (by omega), f_drink_ne (by omega), p_give_ne (by omega)]
    unfold d_go
    split
    · rfl
    · split
      · rfl
      · exact hp_ne (by omega)
theorem row_runS {d n f r : Nat} {h : Hp} (H : OK d n f h) (hr : r < n) : ∀ a, a < d + 14 → d_runS d h r a = h a := by
  intro a ha
  obtain ⟨q, hqn, hq, e, -⟩ := ro_in H hr
  unfold d_runS
  rw [e]
  split
  · exact p_spill_ne (by omega)
  · rw [hp_ne (by omega), p_spill_ne (by omega)]
theorem row_h2 {d n f : Nat} {h : Hp} (H : OK d n f h) (a : Nat) (ha : a < d + 14) : ∀ k, k ≤ f → fd (d_flock d n) h k a = h a
  | 0, _ => rfl
  | k + 1, hk => (row_flock (H.h2 (by omega)) (by omega) a ha).trans (row_h2 H a ha k (by omega))
theorem row_h4 {d n f : Nat} {h : Hp} (H : OK d n f h) (a : Nat) (ha : a < d + 14) : ∀ k, k ≤ n → fd (d_runS d) h k a = h a
  | 0, _ => rfl
  | k + 1, hk => (row_runS (H.h4 (by omega)) (by omega) a ha).trans (row_h4 H a ha k (by omega))
theorem row_h1 {d w k a : Nat} {h : Hp} (ha : a < d + 14) : fd (d_mist d w) h k a = h a := fd_keep (P := fun x : Hp => x a) k (fun x i hi => by show d_mist d w x i a = x a; unfold d_mist; rw [p_rain_ne (by omega), p_mist_ne (by omega)])
theorem row_h3 {d w k a : Nat} {h : Hp} (ha : a < d + 14) : fd (d_sun d w) h k a = h a := fd_keep (P := fun x : Hp => x a) k (fun x i hi => by show d_sun d w x i a = x a; unfold d_sun; rw [p_leak_ne (by omega), p_dry_ne (by omega)])
theorem row_h5 {d k a : Nat} {h : Hp} (ha : a < d + 14) : fd (d_rot d) h k a = h a := fd_keep (P := fun x : Hp => x a) k (fun x i hi => hp_ne (by omega))
theorem row_day {d n f t a : Nat} {h : Hp} (H : OK d n f h) (ha : a < d + 14) : d_h5 d n f t h a = h a := by
  have e4 : d_h4 d n f (d + 2 + t % 10) h a = h a := by
    unfold d_h4 d_h3 d_h1
    rw [row_h4 (((H.h1 (Nat.le_refl n)).h2 (Nat.le_refl f)).h3 (Nat.le_refl n)) a ha n (Nat.le_refl n), row_h3 ha, row_h2 (H.h1 (Nat.le_refl n)) a ha f (Nat.le_refl f), row_h1 ha]
  unfold d_h5
  split
  · rw [row_h5 ha, e4]
  · exact e4
theorem day_t {d n f t : Nat} {h : Hp} (H : OK d n f h) (ht : h d 6 = nI t) : d_day d n f t h d 6 = nI (t + 1) := by
  unfold d_day
  rw [hp_eq]
  simp only [upd, if_true]
  rw [row_day H (by omega), ht]
  exact nI_1 t
end
section
def b01 (b : Bool) : Int32 := cond b 1 0
theorem b01_01 (b : Bool) : b01 b = 0 ∨ b01 b = 1 := by cases b <;> simp [b01]
def d_tk (h : Hp) (d : Nat) (x y : Int32) : Nat → Bool
  | 0 => false
  | j + 1 => d_tk h d x y j || (decide (h (d + 14 + j) 0 = x) && decide (h (d + 14 + j) 1 = y))
theorem d_tk_up {h : Hp} {d j n : Nat} {x y : Int32} (hj : j < n) (hx : h (d + 14 + j) 0 = x) (hy : h (d + 14 + j) 1 = y) : d_tk h d x y n = true := by
  induction n with
  | zero => omega
  | succ n ih =>
    show (d_tk h d x y n || _) = true
    by_cases e : j = n
    · subst e; simp [hx, hy]
    · rw [ih (by omega)]; rfl
/-- from the link x on, at most k steps: does the water come to the goal -/
def d_dn (h : Hp) (d : Nat) (goal : Int32) : Nat → Int32 → Bool
  | 0, _ => false
  | k + 1, x => if x = -1 then false else if x = goal then true else d_dn h d goal k (h (d + 14 + x.toNatClampNeg) 8)
set_option maxRecDepth 100000 in
set_option maxHeartbeats 4000000 in
theorem ct_X0_isTaken {g : gW} {l : Launch} {h : Hp} {d n : Nat} {x y : Int32} (hd : isD d) (hn : h d 4 = nI n) (hn10 : n ≤ 10) : CT g l yX0_isTaken cX0_isTaken 4 (some FieldType.boolean) 0 0 0 [.ref (gB g + d), .int x, .int y] h (some (.int (b01 (d_tk h d x y n)))) h := by
  refine CT.of (lv0 := [(0, .ref (gB g + d)), (1, .int x), (2, .int y)]) mf_X0_isTaken.1.2.2.2 (Nat.le_of_ble_eq_true rfl) rfl ?_
  intro p e s m below meth c C hr
  have L : ∀ (fu j : Nat), j ≤ n → n < fu + j → d_tk h d x y j = false → WW g p l e (rK 0 0 0) s m ([.ref (gB g + d), .int x, .int y] : List Value).toArray below meth c 4 [] h [(0, .ref (gB g + d)), (1, .int x), (2, .int y), (3, .int (nI j))] 0 0 (MQ below (QW g s.heap.size (some (.int (b01 (d_tk h d x y n)))) h) ([.ref (gB g + d), .int x, .int y] : List Value).toArray s 0 0 (AA g s.heap.size)) 2 [] := by
    intro fu
    induction fu with
    | zero => intro j h1 h2; omega
    | succ fu ih =>
      intro j hj hfu hi
      refine ww_iload_n C dX0_isTaken_2 3 rfl rfl ?_
      refine ww_aload_n C dX0_isTaken_3 0 rfl rfl ?_
      refine ww_getD C (by assumption) 4 (by decide) q_f_X0_53 dX0_isTaken_4 ?_
      refine ww_icmp_ge C dX0_isTaken_7 44 (by decide) (fun q => ?_) (fun q => ?_)
      · have hjn := lp_exit hn q hj (by omega)
        subst hjn
        refine ww_iconst (v := 0) C dX0_isTaken_44 (by decide) ?_
        exact ww_zret C hr (by first | exact Or.inl rfl | exact Or.inr rfl | assumption) (by rw [hi]; rfl) rfl dX0_isTaken_45
      · have hjn := lp_body hn q hj (by omega)
        have hP := isP_of hd (show j < 10 by omega)
        refine ww_aload_n C dX0_isTaken_10 0 rfl rfl ?_
        refine ww_getDp C (by assumption) q_f_X0_24 dX0_isTaken_11 ?_
        refine ww_iload_n C dX0_isTaken_14 3 rfl rfl ?_
        refine ww_aaldP C hd (by omega) dX0_isTaken_15 ?_
        refine ww_getP C (by assumption) 0 (by decide) q_f_X0_90 dX0_isTaken_16 ?_
        refine ww_iload_n C dX0_isTaken_19 1 rfl rfl ?_
        refine ww_icmp_ne C dX0_isTaken_20 38 (by decide) (fun c20 => ?_) (fun c20 => ?_)
        · refine ww_iinc (v := nI (j + 1)) C dX0_isTaken_38 rfl (nI_inc _) (by decide) ?_
          refine ww_goto C dX0_isTaken_41 2 (by decide) ?_
          refine ww_lv [(0, .ref (gB g + d)), (1, .int x), (2, .int y), (3, .int (nI (j + 1)))] ⟨rfl, rfl, rfl, rfl, trivial⟩ ?_
          exact ih (j + 1) hjn (by omega) (by show (d_tk h d x y j || _) = false; rw [hi]; simp only [Bool.false_or, Bool.and_eq_false_iff, decide_eq_false_iff_not]; first | exact Or.inl c20 | exact Or.inr c33)
        · refine ww_aload_n C dX0_isTaken_23 0 rfl rfl ?_
          refine ww_getDp C (by assumption) q_f_X0_24 dX0_isTaken_24 ?_
          refine ww_iload_n C dX0_isTaken_27 3 rfl rfl ?_
          refine ww_aaldP C hd (by omega) dX0_isTaken_28 ?_
          refine ww_getP C (by assumption) 1 (by decide) q_f_X0_93 dX0_isTaken_29 ?_
          refine ww_iload_n C dX0_isTaken_32 2 rfl rfl ?_
          refine ww_icmp_ne C dX0_isTaken_33 38 (by decide) (fun c33 => ?_) (fun c33 => ?_)
          · refine ww_iinc (v := nI (j + 1)) C dX0_isTaken_38 rfl (nI_inc _) (by decide) ?_
            refine ww_goto C dX0_isTaken_41 2 (by decide) ?_
            refine ww_lv [(0, .ref (gB g + d)), (1, .int x), (2, .int y), (3, .int (nI (j + 1)))] ⟨rfl, rfl, rfl, rfl, trivial⟩ ?_
            exact ih (j + 1) hjn (by omega) (by show (d_tk h d x y j || _) = false; rw [hi]; simp only [Bool.false_or, Bool.and_eq_false_iff, decide_eq_false_iff_not]; first | exact Or.inl c20 | exact Or.inr c33)
          · refine ww_iconst (v := 1) C dX0_isTaken_36 (by decide) ?_
            exact ww_zret C hr (by first | exact Or.inl rfl | exact Or.inr rfl | assumption) (by rw [d_tk_up (by omega) c20 c33]; rfl) rfl dX0_isTaken_37
  refine ww_iconst (v := 0) C dX0_isTaken_0 (by decide) ?_
  refine ww_istore_n C dX0_isTaken_1 3 rfl (by decide) ?_
  refine ww_lv [(0, .ref (gB g + d)), (1, .int x), (2, .int y), (3, .int (nI 0))] ⟨rfl, rfl, rfl, rfl, trivial⟩ ?_
  exact L (n + 1) 0 (Nat.zero_le _) (by omega) rfl
set_option maxRecDepth 100000 in
set_option maxHeartbeats 4000000 in
theorem ct_X0_rotStraw {g : gW} {l : Launch} {h : Hp} {d n f : Nat} (hd : isD d) (H : OK d n f h) : CT g l yX0_rotStraw cX0_rotStraw 2 none 0 0 0 [.ref (gB g + d)] h none (fd (d_rot d) h n) := by
  refine CT.of (lv0 := [(0, .ref (gB g + d))]) mf_X0_rotStraw.1.2.2.2 (Nat.le_of_ble_eq_true rfl) rfl ?_
  intro p e s m below meth c C hr
  have hn := H.1
  have hn10 := H.2.1
  have hf := H.2.2.1
  have hfr := H.2.2.2.1
  have hr7 : rmD d ≤ 7 := rm7
  have L : ∀ (fu j : Nat), j ≤ n → n < fu + j → WW g p l e (rK 0 0 0) s m ([.ref (gB g + d)] : List Value).toArray below meth c 2 [] (fd (d_rot d) h j) [(0, .ref (gB g + d)), (1, .int (nI j))] 0 0 (MQ below (QW g s.heap.size none (fd (d_rot d) h n)) ([.ref (gB g + d)] : List Value).toArray s 0 0 (AA g s.heap.size)) 2 [] := by
    intro fu
    induction fu with
    | zero => intro j h1 h2; omega
    | succ fu ih =>
      intro j hj hfu
      refine ww_iload_n C dX0_rotStraw_2 1 rfl rfl ?_
      refine ww_aload_n C dX0_rotStraw_3 0 rfl rfl ?_
      refine ww_getD C (by assumption) 4 (by decide) q_f_X0_53 dX0_rotStraw_4 ?_
      refine ww_icmp_ge C dX0_rotStraw_7 26 (by decide) (fun q => ?_) (fun q => ?_)
      · have hjn := lp_exit ((H.h5 hj).1) q hj (by omega)
        subst hjn
        exact ww_vret C hr rfl rfl dX0_rotStraw_26
      · have hjn := lp_body ((H.h5 hj).1) q hj (by omega)
        have hP := isP_of hd (show j < 10 by omega)
        refine ww_aload_n C dX0_rotStraw_10 0 rfl rfl ?_
        refine ww_getDp C (by assumption) q_f_X0_24 dX0_rotStraw_11 ?_
        refine ww_iload_n C dX0_rotStraw_14 1 rfl rfl ?_
        refine ww_aaldP C hd (by omega) dX0_rotStraw_15 ?_
        refine ww_iconst (v := 0) C dX0_rotStraw_16 (by decide) ?_
        refine ww_putPb C (by assumption) (by first | exact Or.inl rfl | exact Or.inr rfl | assumption) q_f_X0_207 dX0_rotStraw_17 ?_
        refine ww_iinc (v := nI (j + 1)) C dX0_rotStraw_20 rfl (nI_inc _) (by decide) ?_
        refine ww_goto C dX0_rotStraw_23 2 (by decide) ?_
        refine ww_lv [(0, .ref (gB g + d)), (1, .int (nI (j + 1)))] ⟨rfl, rfl, trivial⟩ ?_
        exact ih (j + 1) hjn (by omega)
  refine ww_iconst (v := 0) C dX0_rotStraw_0 (by decide) ?_
  refine ww_istore_n C dX0_rotStraw_1 1 rfl (by decide) ?_
  refine ww_lv [(0, .ref (gB g + d)), (1, .int (nI 0))] ⟨rfl, rfl, trivial⟩ ?_
  exact L (n + 1) 0 (Nat.zero_le _) (by omega)
set_option maxRecDepth 100000 in
set_option maxHeartbeats 4000000 in
theorem ct_X0_runsDownTo {g : gW} {l : Launch} {h : Hp} {d n f : Nat} (hd : isD d) (H : OK d n f h) {s0 goal : Int32} (hs : isN n s0) : CT g l yX0_runsDownTo cX0_runsDownTo 5 (some FieldType.boolean) 1 0 0 [.ref (gB g + d), .int s0, .int goal] h (some (.int (b01 (d_dn h d goal 10 (h (d + 14 + s0.toNatClampNeg) 8))))) h := by
  refine CT.of (lv0 := [(0, .ref (gB g + d)), (1, .int s0), (2, .int goal)]) mf_X0_runsDownTo.1.2.2.2 (Nat.le_of_ble_eq_true rfl) rfl ?_
  intro p e s m below meth c C hr
  have hn := H.1
  have hn10 := H.2.1
  have hf := H.2.2.1
  have hfr := H.2.2.2.1
  have hr7 : rmD d ≤ 7 := rm7
  have hP := isP_x hd hn10 hs
  obtain ⟨q0, hq0, e0⟩ := hs
  have x0 : s0.toNatClampNeg = q0 := by rw [e0, nI_clamp (by omega)]
  have L : ∀ (fu j : Nat), j ≤ 10 → 10 < fu + j → ∀ x : Int32, (x = -1 ∨ isN n x) → d_dn h d goal 10 (h (d + 14 + s0.toNatClampNeg) 8) = d_dn h d goal (10 - j) x → WW g p l e (rK 1 0 0) s m ([.ref (gB g + d), .int s0, .int goal] : List Value).toArray below meth c 5 [] h [(0, .ref (gB g + d)), (1, .int s0), (2, .int goal), (3, .int x), (4, .int (nI j))] 0 0 (MQ below (QW g s.heap.size (some (.int (b01 (d_dn h d goal 10 (h (d + 14 + s0.toNatClampNeg) 8))))) h) ([.ref (gB g + d), .int s0, .int goal] : List Value).toArray s 0 0 (AA g s.heap.size)) 12 [] := by
    intro fu
    induction fu with
    | zero => intro j h1 h2; omega
    | succ fu ih =>
      intro j hj hfu x hx hi
      refine ww_iload C dX0_runsDownTo_12 rfl ?_
      refine ww_bipush (v := 10) C dX0_runsDownTo_14 (by decide) ?_
      refine ww_icmp_ge C dX0_runsDownTo_16 46 (by decide) (fun q => ?_) (fun q => ?_)
      · have hjn := lp_exit (show (10 : Int32) = nI 10 from rfl) q hj (by omega)
        subst hjn
        refine ww_iconst (v := 0) C dX0_runsDownTo_46 (by decide) ?_
        exact ww_zret C hr (by first | exact Or.inl rfl | exact Or.inr rfl) (by first | (rw [hi, e10]; show some (Value.int (b01 (if x = -1 then false else if x = goal then true else _))) = _; rw [if_pos c21]; rfl) | (rw [hi]; rfl)) rfl dX0_runsDownTo_47
      · have hjn := lp_body (show (10 : Int32) = nI 10 from rfl) q hj (by omega)
        have e10 : 10 - j = (10 - (j + 1)) + 1 := by omega
        refine ww_iload_n C dX0_runsDownTo_19 3 rfl rfl ?_
        refine ww_iconst (v := (-1)) C dX0_runsDownTo_20 (by decide) ?_
        refine ww_icmp_eq C dX0_runsDownTo_21 46 (by decide) (fun c21 => ?_) (fun c21 => ?_)
        · refine ww_iconst (v := 0) C dX0_runsDownTo_46 (by decide) ?_
          exact ww_zret C hr (by first | exact Or.inl rfl | exact Or.inr rfl) (by first | (rw [hi, e10]; show some (Value.int (b01 (if x = -1 then false else if x = goal then true else _))) = _; rw [if_pos c21]; rfl) | (rw [hi]; rfl)) rfl dX0_runsDownTo_47
        · refine ww_iload_n C dX0_runsDownTo_24 3 rfl rfl ?_
          refine ww_iload_n C dX0_runsDownTo_25 2 rfl rfl ?_
          refine ww_icmp_ne C dX0_runsDownTo_26 31 (by decide) (fun c26 => ?_) (fun c26 => ?_)
          · refine ww_aload_n C dX0_runsDownTo_31 0 rfl rfl ?_
            refine ww_iload_n C dX0_runsDownTo_32 3 rfl rfl ?_
            refine ww_callD C mf_X0_pondAt dX0_runsDownTo_33 (ok_X0_pondAt hd hn hn10 (hx.resolve_left c21)) q_m_X0_105 (by assumption) rfl rfl rfl (Nat.le_of_ble_eq_true rfl) (by exact ⟨Nat.le_of_ble_eq_true rfl, Nat.le_of_ble_eq_true rfl⟩) (by exact ⟨Nat.le_of_ble_eq_true rfl, Nat.le_of_ble_eq_true rfl⟩) ?_
            have hP2 := isP_x hd hn10 (hx.resolve_left c21)
            refine ww_getP C (by assumption) 8 (by decide) q_f_X0_204 dX0_runsDownTo_36 ?_
            refine ww_istore_n C dX0_runsDownTo_39 3 rfl (by decide) ?_
            refine ww_iinc (v := nI (j + 1)) C dX0_runsDownTo_40 rfl (nI_inc _) (by decide) ?_
            refine ww_goto C dX0_runsDownTo_43 12 (by decide) ?_
            refine ww_lv [(0, .ref (gB g + d)), (1, .int s0), (2, .int goal), (3, .int (h (d + 14 + x.toNatClampNeg) 8)), (4, .int (nI (j + 1)))] ⟨rfl, rfl, rfl, rfl, rfl, trivial⟩ ?_
            exact ih (j + 1) hjn (by omega) _ (by obtain ⟨q2, hq2, e2⟩ := hx.resolve_left c21; rw [e2, nI_clamp (by omega)]; exact H.2.2.2.2.1 q2 hq2) (by rw [hi, show 10 - j = (10 - (j + 1)) + 1 by omega]; show (if x = -1 then false else if x = goal then true else _) = _; rw [if_neg c21, if_neg c26])
          · refine ww_iconst (v := 1) C dX0_runsDownTo_29 (by decide) ?_
            exact ww_zret C hr (by first | exact Or.inl rfl | exact Or.inr rfl) (by rw [hi, e10]; show some (Value.int (b01 (if x = -1 then false else if x = goal then true else _))) = _; rw [if_neg c21, if_pos c26]; rfl) rfl dX0_runsDownTo_30
  refine ww_aload_n C dX0_runsDownTo_0 0 rfl rfl ?_
  refine ww_iload_n C dX0_runsDownTo_1 1 rfl rfl ?_
  refine ww_callD C mf_X0_pondAt dX0_runsDownTo_2 (ok_X0_pondAt hd hn hn10 ⟨q0, hq0, e0⟩) q_m_X0_105 (by assumption) rfl rfl rfl (Nat.le_of_ble_eq_true rfl) (by exact ⟨Nat.le_of_ble_eq_true rfl, Nat.le_of_ble_eq_true rfl⟩) (by exact ⟨Nat.le_of_ble_eq_true rfl, Nat.le_of_ble_eq_true rfl⟩) ?_
  refine ww_getP C (by assumption) 8 (by decide) q_f_X0_204 dX0_runsDownTo_5 ?_
  refine ww_istore_n C dX0_runsDownTo_8 3 rfl (by decide) ?_
  refine ww_iconst (v := 0) C dX0_runsDownTo_9 (by decide) ?_
  refine ww_istore C dX0_runsDownTo_10 (by decide) ?_
  refine ww_lv [(0, .ref (gB g + d)), (1, .int s0), (2, .int goal), (3, .int (h (d + 14 + s0.toNatClampNeg) 8)), (4, .int (nI 0))] ⟨rfl, rfl, rfl, rfl, rfl, trivial⟩ ?_
  exact L (10 + 1) 0 (Nat.zero_le _) (by omega) _ (by rw [x0]; exact H.2.2.2.2.1 q0 hq0) rfl
def d_src (h : Hp) (d : Nat) (goal : Int32) : Nat → Int32 := fd (fun z j => if d_dn h d goal 10 (h (d + 14 + j) 8) = true then z ||| ((1 : Int32) <<< (nI j &&& 31)) else z) 0
theorem b01_0 {b : Bool} (h : b01 b = 0) : ¬ b = true := by intro e; subst e; exact absurd h (by decide)
theorem b01_1 {b : Bool} (h : ¬ b01 b = 0) : b = true := by cases b; exact absurd rfl h; rfl
set_option maxRecDepth 100000 in
set_option maxHeartbeats 4000000 in
theorem ct_X0_sourcesOf {g : gW} {l : Launch} {h : Hp} {d n f : Nat} (hd : isD d) (H : OK d n f h) {goal : Int32} : CT g l yX0_sourcesOf cX0_sourcesOf 4 (some FieldType.int) 2 0 0 [.ref (gB g + d), .int goal] h (some (.int (d_src h d goal n))) h := by
  refine CT.of (lv0 := [(0, .ref (gB g + d)), (1, .int goal)]) mf_X0_sourcesOf.1.2.2.2 (Nat.le_of_ble_eq_true rfl) rfl ?_
  intro p e s m below meth c C hr
  have hn := H.1
  have hn10 := H.2.1
  have hf := H.2.2.1
  have hfr := H.2.2.2.1
  have hr7 : rmD d ≤ 7 := rm7
  have L : ∀ (fu j : Nat), j ≤ n → n < fu + j → WW g p l e (rK 2 0 0) s m ([.ref (gB g + d), .int goal] : List Value).toArray below meth c 4 [] h [(0, .ref (gB g + d)), (1, .int goal), (2, .int (d_src h d goal j)), (3, .int (nI j))] 0 0 (MQ below (QW g s.heap.size (some (.int (d_src h d goal n))) h) ([.ref (gB g + d), .int goal] : List Value).toArray s 0 0 (AA g s.heap.size)) 4 [] := by
    intro fu
    induction fu with
    | zero => intro j h1 h2; omega
    | succ fu ih =>
      intro j hj hfu
      refine ww_iload_n C dX0_sourcesOf_4 3 rfl rfl ?_
      refine ww_aload_n C dX0_sourcesOf_5 0 rfl rfl ?_
      refine ww_getD C (by assumption) 4 (by decide) q_f_X0_53 dX0_sourcesOf_6 ?_
      refine ww_icmp_ge C dX0_sourcesOf_9 33 (by decide) (fun q => ?_) (fun q => ?_)
      · have hjn := lp_exit hn q hj (by omega)
        subst hjn
        refine ww_iload_n C dX0_sourcesOf_33 2 rfl rfl ?_
        exact ww_iret C hr rfl rfl dX0_sourcesOf_34
      · have hjn := lp_body hn q hj (by omega)
        have hs : isN n (nI j) := ⟨j, hjn, rfl⟩
        have ej : (nI j).toNatClampNeg = j := nI_clamp (by omega)
        refine ww_aload_n C dX0_sourcesOf_12 0 rfl rfl ?_
        refine ww_iload_n C dX0_sourcesOf_13 3 rfl rfl ?_
        refine ww_iload_n C dX0_sourcesOf_14 1 rfl rfl ?_
        refine ww_callD C mf_X0_runsDownTo dX0_sourcesOf_15 (ct_X0_runsDownTo hd H hs) q_m_X0_210 (by assumption) rfl rfl rfl (Nat.le_of_ble_eq_true rfl) (by exact ⟨Nat.le_of_ble_eq_true rfl, Nat.le_of_ble_eq_true rfl⟩) (by exact ⟨Nat.le_of_ble_eq_true rfl, Nat.le_of_ble_eq_true rfl⟩) ?_
        refine ww_if_eq C dX0_sourcesOf_18 27 (by decide) (fun c18 => ?_) (fun c18 => ?_)
        · refine ww_iinc (v := nI (j + 1)) C dX0_sourcesOf_27 rfl (nI_inc _) (by decide) ?_
          refine ww_goto C dX0_sourcesOf_30 4 (by decide) ?_
          refine ww_lv [(0, .ref (gB g + d)), (1, .int goal), (2, .int (d_src h d goal (j + 1))), (3, .int (nI (j + 1)))] ⟨rfl, rfl, (by show some (Value.int _) = some (Value.int (if _ then _ else _)); first | (rw [ej] at c18; rw [if_pos (b01_1 c18)]; try rfl; done) | (rw [ej] at c18; rw [if_neg (b01_0 c18)]; try rfl; done)), rfl, trivial⟩ ?_
          exact ih (j + 1) hjn (by omega)
        · refine ww_iload_n C dX0_sourcesOf_21 2 rfl rfl ?_
          refine ww_iconst (v := 1) C dX0_sourcesOf_22 (by decide) ?_
          refine ww_iload_n C dX0_sourcesOf_23 3 rfl rfl ?_
          refine ww_ishl C dX0_sourcesOf_24 ?_
          refine ww_ior C dX0_sourcesOf_25 ?_
          refine ww_istore_n C dX0_sourcesOf_26 2 rfl (by decide) ?_
          refine ww_iinc (v := nI (j + 1)) C dX0_sourcesOf_27 rfl (nI_inc _) (by decide) ?_
          refine ww_goto C dX0_sourcesOf_30 4 (by decide) ?_
          refine ww_lv [(0, .ref (gB g + d)), (1, .int goal), (2, .int (d_src h d goal (j + 1))), (3, .int (nI (j + 1)))] ⟨rfl, rfl, (by show some (Value.int _) = some (Value.int (if _ then _ else _)); first | (rw [ej] at c18; rw [if_pos (b01_1 c18)]; try rfl; done) | (rw [ej] at c18; rw [if_neg (b01_0 c18)]; try rfl; done)), rfl, trivial⟩ ?_
          exact ih (j + 1) hjn (by omega)
  refine ww_iconst (v := 0) C dX0_sourcesOf_0 (by decide) ?_
  refine ww_istore_n C dX0_sourcesOf_1 2 rfl (by decide) ?_
  refine ww_iconst (v := 0) C dX0_sourcesOf_2 (by decide) ?_
  refine ww_istore_n C dX0_sourcesOf_3 3 rfl (by decide) ?_
  refine ww_lv [(0, .ref (gB g + d)), (1, .int goal), (2, .int (d_src h d goal 0)), (3, .int (nI 0))] ⟨rfl, rfl, rfl, rfl, trivial⟩ ?_
  exact L (n + 1) 0 (Nat.zero_le _) (by omega)
theorem nearS_lt {h : Hp} {d fo here j : Nat} {z : Int32 × Int32} (c : h (d + 14 + j) 5 < f_need h fo) : d_nearS h d fo here z j = z := if_pos c
theorem nearS_le {h : Hp} {d fo here j : Nat} {z : Int32 × Int32} (c : ¬ h (d + 14 + j) 5 < f_need h fo) (c2 : z.1 ≤ p_dist h here (d + 14 + j)) : d_nearS h d fo here z j = z := (if_neg c).trans (if_pos c2)
theorem nearS_up {h : Hp} {d fo here j : Nat} {z : Int32 × Int32} (c : ¬ h (d + 14 + j) 5 < f_need h fo) (c2 : ¬ z.1 ≤ p_dist h here (d + 14 + j)) : d_nearS h d fo here z j = (p_dist h here (d + 14 + j), nI j) := (if_neg c).trans (if_neg c2)
set_option maxRecDepth 100000 in
set_option maxHeartbeats 4000000 in
theorem ct_X0_nearestWaterFor {g : gW} {l : Launch} {h : Hp} {d n f : Nat} (hd : isD d) (H : OK d n f h) {fo : Nat} (hfo : isF fo) (hx : isN n (h fo 1)) : CT g l yX0_nearestWaterFor cX0_nearestWaterFor 7 (some FieldType.int) 2 0 0 [.ref (gB g + d), .ref (gB g + fo)] h (some (.int (d_near h d n fo))) h := by
  refine CT.of (lv0 := [(0, .ref (gB g + d)), (1, .ref (gB g + fo))]) mf_X0_nearestWaterFor.1.2.2.2 (Nat.le_of_ble_eq_true rfl) rfl ?_
  intro p e s m below meth c C hr
  have hn := H.1
  have hn10 := H.2.1
  have hf := H.2.2.1
  have hfr := H.2.2.2.1
  have hr7 : rmD d ≤ 7 := rm7
  have hP := isP_x hd hn10 hx
  have L : ∀ (fu j : Nat), j ≤ n → n < fu + j → h (d + 14 + (h fo 1).toNatClampNeg) 5 < f_need h fo → WW g p l e (rK 2 0 0) s m ([.ref (gB g + d), .ref (gB g + fo)] : List Value).toArray below meth c 7 [] h [(0, .ref (gB g + d)), (1, .ref (gB g + fo)), (2, .ref (gB g + (d + 14 + (h fo 1).toNatClampNeg))), (3, .int (fd (d_nearS h d fo (d + 14 + (h fo 1).toNatClampNeg)) (2147483647, h fo 1) j).2), (4, .int (fd (d_nearS h d fo (d + 14 + (h fo 1).toNatClampNeg)) (2147483647, h fo 1) j).1), (5, .int (nI j))] 0 0 (MQ below (QW g s.heap.size (some (.int (d_near h d n fo))) h) ([.ref (gB g + d), .ref (gB g + fo)] : List Value).toArray s 0 0 (AA g s.heap.size)) 34 [] := by
    intro fu
    induction fu with
    | zero => intro j h1 h2; omega
    | succ fu ih =>
      intro j hj hfu hlow
      refine ww_iload C dX0_nearestWaterFor_34 rfl ?_
      refine ww_aload_n C dX0_nearestWaterFor_36 0 rfl rfl ?_
      refine ww_getD C (by assumption) 4 (by decide) q_f_X0_53 dX0_nearestWaterFor_37 ?_
      refine ww_icmp_ge C dX0_nearestWaterFor_40 93 (by decide) (fun q => ?_) (fun q => ?_)
      · have hjn := lp_exit hn q hj (by omega)
        subst hjn
        refine ww_iload_n C dX0_nearestWaterFor_93 3 rfl rfl ?_
        exact ww_iret C hr (by unfold d_near; rw [if_pos hlow]) rfl dX0_nearestWaterFor_94
      · have hjn := lp_body hn q hj (by omega)
        have hPj := isP_of hd (show j < 10 by omega)
        refine ww_aload_n C dX0_nearestWaterFor_43 2 rfl rfl ?_
        refine ww_aload_n C dX0_nearestWaterFor_44 0 rfl rfl ?_
        refine ww_getDp C (by assumption) q_f_X0_24 dX0_nearestWaterFor_45 ?_
        refine ww_iload C dX0_nearestWaterFor_48 rfl ?_
        refine ww_aaldP C hd (by omega) dX0_nearestWaterFor_50 ?_
        refine ww_callP C mf_X2_distanceTo dX0_nearestWaterFor_51 (ct_X2_distanceTo hP hPj) q_m_X0_197 (by assumption) rfl rfl rfl (Nat.le_of_ble_eq_true rfl) (by exact ⟨Nat.le_of_ble_eq_true rfl, Nat.le_of_ble_eq_true rfl⟩) (by exact ⟨Nat.le_of_ble_eq_true rfl, Nat.le_of_ble_eq_true rfl⟩) ?_
        refine ww_istore C dX0_nearestWaterFor_54 (by decide) ?_
        refine ww_aload_n C dX0_nearestWaterFor_56 0 rfl rfl ?_
        refine ww_getDp C (by assumption) q_f_X0_24 dX0_nearestWaterFor_57 ?_
        refine ww_iload C dX0_nearestWaterFor_60 rfl ?_
        refine ww_aaldP C hd (by omega) dX0_nearestWaterFor_62 ?_
        refine ww_getP C (by assumption) 5 (by decide) q_f_X0_191 dX0_nearestWaterFor_63 ?_
        refine ww_aload_n C dX0_nearestWaterFor_66 1 rfl rfl ?_
        refine ww_callF C mf_X1_need dX0_nearestWaterFor_67 (ct_X1_need hfo) q_m_X0_175 (by assumption) rfl rfl rfl (Nat.le_of_ble_eq_true rfl) (by exact ⟨Nat.le_of_ble_eq_true rfl, Nat.le_of_ble_eq_true rfl⟩) (by exact ⟨Nat.le_of_ble_eq_true rfl, Nat.le_of_ble_eq_true rfl⟩) ?_
        refine ww_icmp_lt C dX0_nearestWaterFor_70 87 (by decide) (fun c70 => ?_) (fun c70 => ?_)
        · refine ww_iinc (v := nI (j + 1)) C dX0_nearestWaterFor_87 rfl (nI_inc _) (by decide) ?_
          refine ww_goto C dX0_nearestWaterFor_90 34 (by decide) ?_
          refine ww_lv [(0, .ref (gB g + d)), (1, .ref (gB g + fo)), (2, .ref (gB g + (d + 14 + (h fo 1).toNatClampNeg))), (3, .int (fd (d_nearS h d fo (d + 14 + (h fo 1).toNatClampNeg)) (2147483647, h fo 1) (j + 1)).2), (4, .int (fd (d_nearS h d fo (d + 14 + (h fo 1).toNatClampNeg)) (2147483647, h fo 1) (j + 1)).1), (5, .int (nI (j + 1)))] ⟨rfl, rfl, rfl, (by first | exact congrArg (fun z : Int32 × Int32 => some (Value.int z.2)) (nearS_lt c70).symm | exact congrArg (fun z : Int32 × Int32 => some (Value.int z.2)) (nearS_le c70 c77).symm | exact congrArg (fun z : Int32 × Int32 => some (Value.int z.2)) (nearS_up c70 c77).symm), (by first | exact congrArg (fun z : Int32 × Int32 => some (Value.int z.1)) (nearS_lt c70).symm | exact congrArg (fun z : Int32 × Int32 => some (Value.int z.1)) (nearS_le c70 c77).symm | exact congrArg (fun z : Int32 × Int32 => some (Value.int z.1)) (nearS_up c70 c77).symm), rfl, trivial⟩ ?_
          exact ih (j + 1) hjn (by omega) hlow
        · refine ww_iload C dX0_nearestWaterFor_73 rfl ?_
          refine ww_iload C dX0_nearestWaterFor_75 rfl ?_
          refine ww_icmp_ge C dX0_nearestWaterFor_77 87 (by decide) (fun c77 => ?_) (fun c77 => ?_)
          · refine ww_iinc (v := nI (j + 1)) C dX0_nearestWaterFor_87 rfl (nI_inc _) (by decide) ?_
            refine ww_goto C dX0_nearestWaterFor_90 34 (by decide) ?_
            refine ww_lv [(0, .ref (gB g + d)), (1, .ref (gB g + fo)), (2, .ref (gB g + (d + 14 + (h fo 1).toNatClampNeg))), (3, .int (fd (d_nearS h d fo (d + 14 + (h fo 1).toNatClampNeg)) (2147483647, h fo 1) (j + 1)).2), (4, .int (fd (d_nearS h d fo (d + 14 + (h fo 1).toNatClampNeg)) (2147483647, h fo 1) (j + 1)).1), (5, .int (nI (j + 1)))] ⟨rfl, rfl, rfl, (by first | exact congrArg (fun z : Int32 × Int32 => some (Value.int z.2)) (nearS_lt c70).symm | exact congrArg (fun z : Int32 × Int32 => some (Value.int z.2)) (nearS_le c70 c77).symm | exact congrArg (fun z : Int32 × Int32 => some (Value.int z.2)) (nearS_up c70 c77).symm), (by first | exact congrArg (fun z : Int32 × Int32 => some (Value.int z.1)) (nearS_lt c70).symm | exact congrArg (fun z : Int32 × Int32 => some (Value.int z.1)) (nearS_le c70 c77).symm | exact congrArg (fun z : Int32 × Int32 => some (Value.int z.1)) (nearS_up c70 c77).symm), rfl, trivial⟩ ?_
            exact ih (j + 1) hjn (by omega) hlow
          · refine ww_iload C dX0_nearestWaterFor_80 rfl ?_
            refine ww_istore C dX0_nearestWaterFor_82 (by decide) ?_
            refine ww_iload C dX0_nearestWaterFor_84 rfl ?_
            refine ww_istore_n C dX0_nearestWaterFor_86 3 rfl (by decide) ?_
            refine ww_iinc (v := nI (j + 1)) C dX0_nearestWaterFor_87 rfl (nI_inc _) (by decide) ?_
            refine ww_goto C dX0_nearestWaterFor_90 34 (by decide) ?_
            refine ww_lv [(0, .ref (gB g + d)), (1, .ref (gB g + fo)), (2, .ref (gB g + (d + 14 + (h fo 1).toNatClampNeg))), (3, .int (fd (d_nearS h d fo (d + 14 + (h fo 1).toNatClampNeg)) (2147483647, h fo 1) (j + 1)).2), (4, .int (fd (d_nearS h d fo (d + 14 + (h fo 1).toNatClampNeg)) (2147483647, h fo 1) (j + 1)).1), (5, .int (nI (j + 1)))] ⟨rfl, rfl, rfl, (by first | exact congrArg (fun z : Int32 × Int32 => some (Value.int z.2)) (nearS_lt c70).symm | exact congrArg (fun z : Int32 × Int32 => some (Value.int z.2)) (nearS_le c70 c77).symm | exact congrArg (fun z : Int32 × Int32 => some (Value.int z.2)) (nearS_up c70 c77).symm), (by first | exact congrArg (fun z : Int32 × Int32 => some (Value.int z.1)) (nearS_lt c70).symm | exact congrArg (fun z : Int32 × Int32 => some (Value.int z.1)) (nearS_le c70 c77).symm | exact congrArg (fun z : Int32 × Int32 => some (Value.int z.1)) (nearS_up c70 c77).symm), rfl, trivial⟩ ?_
            exact ih (j + 1) hjn (by omega) hlow
  refine ww_aload_n C dX0_nearestWaterFor_0 0 rfl rfl ?_
  refine ww_aload_n C dX0_nearestWaterFor_1 1 rfl rfl ?_
  refine ww_getF C (by assumption) 1 (by decide) q_f_X0_172 dX0_nearestWaterFor_2 ?_
  refine ww_callD C mf_X0_pondAt dX0_nearestWaterFor_5 (ok_X0_pondAt hd hn hn10 hx) q_m_X0_105 (by assumption) rfl rfl rfl (Nat.le_of_ble_eq_true rfl) (by exact ⟨Nat.le_of_ble_eq_true rfl, Nat.le_of_ble_eq_true rfl⟩) (by exact ⟨Nat.le_of_ble_eq_true rfl, Nat.le_of_ble_eq_true rfl⟩) ?_
  refine ww_astore_n C dX0_nearestWaterFor_8 2 rfl (by decide) ?_
  refine ww_aload_n C dX0_nearestWaterFor_9 1 rfl rfl ?_
  refine ww_getF C (by assumption) 1 (by decide) q_f_X0_172 dX0_nearestWaterFor_10 ?_
  refine ww_istore_n C dX0_nearestWaterFor_13 3 rfl (by decide) ?_
  refine ww_aload_n C dX0_nearestWaterFor_14 2 rfl rfl ?_
  refine ww_getP C (by assumption) 5 (by decide) q_f_X0_191 dX0_nearestWaterFor_15 ?_
  refine ww_aload_n C dX0_nearestWaterFor_18 1 rfl rfl ?_
  refine ww_callF C mf_X1_need dX0_nearestWaterFor_19 (ct_X1_need hfo) q_m_X0_175 (by assumption) rfl rfl rfl (Nat.le_of_ble_eq_true rfl) (by exact ⟨Nat.le_of_ble_eq_true rfl, Nat.le_of_ble_eq_true rfl⟩) (by exact ⟨Nat.le_of_ble_eq_true rfl, Nat.le_of_ble_eq_true rfl⟩) ?_
  refine ww_icmp_lt C dX0_nearestWaterFor_22 27 (by decide) (fun c22 => ?_) (fun c22 => ?_)
  · refine ww_ldc C dX0_nearestWaterFor_27 q_d_X0_196 ?_
    refine ww_istore C dX0_nearestWaterFor_29 (by decide) ?_
    refine ww_iconst (v := 0) C dX0_nearestWaterFor_31 (by decide) ?_
    refine ww_istore C dX0_nearestWaterFor_32 (by decide) ?_
    refine ww_lv [(0, .ref (gB g + d)), (1, .ref (gB g + fo)), (2, .ref (gB g + (d + 14 + (h fo 1).toNatClampNeg))), (3, .int (fd (d_nearS h d fo (d + 14 + (h fo 1).toNatClampNeg)) (2147483647, h fo 1) 0).2), (4, .int (fd (d_nearS h d fo (d + 14 + (h fo 1).toNatClampNeg)) (2147483647, h fo 1) 0).1), (5, .int (nI 0))] ⟨rfl, rfl, rfl, rfl, rfl, rfl, trivial⟩ ?_
    exact L (n + 1) 0 (Nat.zero_le _) (by omega) c22
  · refine ww_iload_n C dX0_nearestWaterFor_25 3 rfl rfl ?_
    exact ww_iret C hr (by unfold d_near; rw [if_neg c22]) rfl dX0_nearestWaterFor_26
end
section
theorem flock_lost {h : Hp} {d n j : Nat} (c : 10 ≤ h (d + 25 + j) 2) : d_flock d n h j = h := if_pos c
theorem flock_on {h : Hp} {d n j : Nat} (c : ¬ 10 ≤ h (d + 25 + j) 2) : d_flock d n h j = d_drinkH (d + 25 + j) (d_to d (d + 25 + j) (d_go d n (d + 25 + j) h)) (d_go d n (d + 25 + j) h) := if_neg c
theorem flockU_lost {h : Hp} {d n j : Nat} {u : Int32} (c : 10 ≤ h (d + 25 + j) 2) : d_flockU d n h j u = u := if_pos c
theorem flockU_on {h : Hp} {d n j : Nat} {u : Int32} (c : ¬ 10 ≤ h (d + 25 + j) 2) : d_flockU d n h j u = u + mnI (f_need (d_go d n (d + 25 + j) h) (d + 25 + j)) (d_go d n (d + 25 + j) h (d_to d (d + 25 + j) (d_go d n (d + 25 + j) h)) 5) := if_neg c
theorem go_a {h : Hp} {d n fo : Nat} (c : h fo 3 = 0) : d_go d n fo h = h := if_pos c
theorem go_b {h : Hp} {d n fo : Nat} (c : ¬ h fo 3 = 0) (c2 : h fo 2 ≤ 0) : d_go d n fo h = h := (if_neg c).trans (if_pos c2)
theorem go_c {h : Hp} {d n fo : Nat} (c : ¬ h fo 3 = 0) (c2 : ¬ h fo 2 ≤ 0) : d_go d n fo h = hp_up h fo 1 (d_near h d n fo) := (if_neg c).trans (if_neg c2)
theorem runS_a {h : Hp} {d r : Nat} (c : p_spill h (d_ro d h r) (d_ro d h r) 8 = -1) : d_runS d h r = p_spill h (d_ro d h r) := if_pos c
theorem runS_b {h : Hp} {d r : Nat} (c : ¬ p_spill h (d_ro d h r) (d_ro d h r) 8 = -1) : d_runS d h r = hp_up (p_spill h (d_ro d h r)) (d + 14 + (p_spill h (d_ro d h r) (d_ro d h r) 8).toNatClampNeg) 5 (p_spill h (d_ro d h r) (d + 14 + (p_spill h (d_ro d h r) (d_ro d h r) 8).toNatClampNeg) 5 + p_over h (d_ro d h r)) := if_neg c
set_option maxRecDepth 100000 in
set_option maxHeartbeats 4000000 in
theorem ct_X0_waterFlocks {g : gW} {l : Launch} {h : Hp} {d n f : Nat} (hd : isD d) (H : OK d n f h) : CT g l yX0_waterFlocks cX0_waterFlocks 6 (some FieldType.int) 3 0 0 [.ref (gB g + d)] h (some (.int (d_drunk d n h f))) (fd (d_flock d n) h f) := by
  refine CT.of (lv0 := [(0, .ref (gB g + d))]) mf_X0_waterFlocks.1.2.2.2 (Nat.le_of_ble_eq_true rfl) rfl ?_
  intro p e s m below meth c C hr
  have hn := H.1
  have hn10 := H.2.1
  have hf := H.2.2.1
  have hfr := H.2.2.2.1
  have hr7 : rmD d ≤ 7 := rm7
  have L : ∀ (fu j : Nat), j ≤ f → f < fu + j → WW g p l e (rK 3 0 0) s m ([.ref (gB g + d)] : List Value).toArray below meth c 6 [] (fd (d_flock d n) h j) [(0, .ref (gB g + d)), (1, .int (d_drunk d n h j)), (2, .int (nI j))] 0 0 (MQ below (QW g s.heap.size (some (.int (d_drunk d n h f))) (fd (d_flock d n) h f)) ([.ref (gB g + d)] : List Value).toArray s 0 0 (AA g s.heap.size)) 4 [] := by
    intro fu
    induction fu with
    | zero => intro j h1 h2; omega
    | succ fu ih =>
      intro j hj hfu
      have Hj := H.h2 (k := j) hj
      refine ww_iload_n C dX0_waterFlocks_4 2 rfl rfl ?_
      refine ww_aload_n C dX0_waterFlocks_5 0 rfl rfl ?_
      refine ww_getD C (by assumption) 5 (by decide) q_f_X0_59 dX0_waterFlocks_6 ?_
      refine ww_icmp_ge C dX0_waterFlocks_9 96 (by decide) (fun q => ?_) (fun q => ?_)
      · have hjn := lp_exit Hj.2.2.1 q hj (by omega)
        subst hjn
        refine ww_iload_n C dX0_waterFlocks_96 1 rfl rfl ?_
        exact ww_iret C hr rfl rfl dX0_waterFlocks_97
      · have hjn := lp_body Hj.2.2.1 q hj (by omega)
        have hP := isF_of hd (show j < rmD d by omega)
        have HG := Hj.go hjn
        have hQ := isP_x hd hn10 (HG.2.2.2.2.2.1 j hjn)
        refine ww_aload_n C dX0_waterFlocks_12 0 rfl rfl ?_
        refine ww_getDf C (by assumption) q_f_X0_41 dX0_waterFlocks_13 ?_
        refine ww_iload_n C dX0_waterFlocks_16 2 rfl rfl ?_
        refine ww_aaldF C hd (by omega) dX0_waterFlocks_17 ?_
        refine ww_astore_n C dX0_waterFlocks_18 3 rfl (by decide) ?_
        refine ww_aload_n C dX0_waterFlocks_19 3 rfl rfl ?_
        refine ww_callF C mf_X1_isLost dX0_waterFlocks_20 (ct_X1_isLost hP) q_m_X0_157 (by assumption) rfl rfl rfl (Nat.le_of_ble_eq_true rfl) (by exact ⟨Nat.le_of_ble_eq_true rfl, Nat.le_of_ble_eq_true rfl⟩) (by exact ⟨Nat.le_of_ble_eq_true rfl, Nat.le_of_ble_eq_true rfl⟩) ?_
        refine ww_if_ne C dX0_waterFlocks_23 90 (by decide) (fun c23 => ?_) (fun c23 => ?_)
        · refine ww_iinc (v := nI (j + 1)) C dX0_waterFlocks_90 rfl (nI_inc _) (by decide) ?_
          refine ww_goto C dX0_waterFlocks_93 4 (by decide) ?_
          refine ww_lv [(0, .ref (gB g + d)), (1, .int (d_drunk d n h (j + 1))), (2, .int (nI (j + 1)))] ⟨rfl, (by first | exact congrArg (fun z => some (Value.int z)) (flockU_lost (bI1 c23)).symm | exact congrArg (fun z => some (Value.int z)) (flockU_on (bI0 c23)).symm), rfl, trivial⟩ ?_
          refine ww_heap (h2 := (fd (d_flock d n) h (j + 1))) (by first | exact (flock_lost (bI1 c23)).symm | exact (flock_on (bI0 c23)).symm) ?_
          exact ih (j + 1) hjn (by omega)
        · refine ww_aload_n C dX0_waterFlocks_26 3 rfl rfl ?_
          refine ww_getF C (by assumption) 3 (by decide) q_f_X0_161 dX0_waterFlocks_27 ?_
          refine ww_if_eq C dX0_waterFlocks_30 49 (by decide) (fun c30 => ?_) (fun c30 => ?_)
          · refine ww_heap (h2 := (d_go d n (d + 25 + j) (fd (d_flock d n) h j))) (by first | exact (go_a c30).symm | exact (go_b c30 c37).symm | exact (go_c c30 c37).symm) ?_
            refine ww_aload_n C dX0_waterFlocks_49 0 rfl rfl ?_
            refine ww_aload_n C dX0_waterFlocks_50 3 rfl rfl ?_
            refine ww_getF C (by assumption) 1 (by decide) q_f_X0_172 dX0_waterFlocks_51 ?_
            refine ww_callD C mf_X0_pondAt dX0_waterFlocks_54 (ok_X0_pondAt hd HG.1 HG.2.1 (HG.2.2.2.2.2.1 j hjn)) q_m_X0_105 (by assumption) rfl rfl rfl (Nat.le_of_ble_eq_true rfl) (by exact ⟨Nat.le_of_ble_eq_true rfl, Nat.le_of_ble_eq_true rfl⟩) (by exact ⟨Nat.le_of_ble_eq_true rfl, Nat.le_of_ble_eq_true rfl⟩) ?_
            refine ww_astore C dX0_waterFlocks_57 (by decide) ?_
            refine ww_aload C dX0_waterFlocks_59 rfl ?_
            refine ww_aload_n C dX0_waterFlocks_61 3 rfl rfl ?_
            refine ww_callF C mf_X1_need dX0_waterFlocks_62 (ct_X1_need hP) q_m_X0_175 (by assumption) rfl rfl rfl (Nat.le_of_ble_eq_true rfl) (by exact ⟨Nat.le_of_ble_eq_true rfl, Nat.le_of_ble_eq_true rfl⟩) (by exact ⟨Nat.le_of_ble_eq_true rfl, Nat.le_of_ble_eq_true rfl⟩) ?_
            refine ww_callP C mf_X2_giveDrink dX0_waterFlocks_65 (ct_X2_giveDrink hQ) q_m_X0_178 (by assumption) rfl rfl rfl (Nat.le_of_ble_eq_true rfl) (by exact ⟨Nat.le_of_ble_eq_true rfl, Nat.le_of_ble_eq_true rfl⟩) (by exact ⟨Nat.le_of_ble_eq_true rfl, Nat.le_of_ble_eq_true rfl⟩) ?_
            refine ww_istore C dX0_waterFlocks_68 (by decide) ?_
            refine ww_aload_n C dX0_waterFlocks_70 3 rfl rfl ?_
            refine ww_iload C dX0_waterFlocks_71 rfl ?_
            refine ww_callF C mf_X1_drink dX0_waterFlocks_73 (ct_X1_drink hP) q_m_X0_182 (by assumption) rfl rfl rfl (Nat.le_of_ble_eq_true rfl) (by exact ⟨Nat.le_of_ble_eq_true rfl, Nat.le_of_ble_eq_true rfl⟩) (by exact ⟨Nat.le_of_ble_eq_true rfl, Nat.le_of_ble_eq_true rfl⟩) ?_
            refine ww_aload C dX0_waterFlocks_76 rfl ?_
            refine ww_aload_n C dX0_waterFlocks_78 3 rfl rfl ?_
            refine ww_getF C (by assumption) 0 (by decide) q_f_X0_185 dX0_waterFlocks_79 ?_
            refine ww_callP C mf_X2_treadBy dX0_waterFlocks_82 (ct_X2_treadBy hQ) q_m_X0_188 (by assumption) rfl rfl rfl (Nat.le_of_ble_eq_true rfl) (by exact ⟨Nat.le_of_ble_eq_true rfl, Nat.le_of_ble_eq_true rfl⟩) (by exact ⟨Nat.le_of_ble_eq_true rfl, Nat.le_of_ble_eq_true rfl⟩) ?_
            refine ww_iload_n C dX0_waterFlocks_85 1 rfl rfl ?_
            refine ww_iload C dX0_waterFlocks_86 rfl ?_
            refine ww_iadd C dX0_waterFlocks_88 ?_
            refine ww_istore_n C dX0_waterFlocks_89 1 rfl (by decide) ?_
            refine ww_iinc (v := nI (j + 1)) C dX0_waterFlocks_90 rfl (nI_inc _) (by decide) ?_
            refine ww_goto C dX0_waterFlocks_93 4 (by decide) ?_
            refine ww_lv [(0, .ref (gB g + d)), (1, .int (d_drunk d n h (j + 1))), (2, .int (nI (j + 1)))] ⟨rfl, (by first | exact congrArg (fun z => some (Value.int z)) (flockU_lost (bI1 c23)).symm | exact congrArg (fun z => some (Value.int z)) (flockU_on (bI0 c23)).symm), rfl, trivial⟩ ?_
            refine ww_heap (h2 := (fd (d_flock d n) h (j + 1))) (by first | exact (flock_lost (bI1 c23)).symm | exact (flock_on (bI0 c23)).symm) ?_
            exact ih (j + 1) hjn (by omega)
          · refine ww_aload_n C dX0_waterFlocks_33 3 rfl rfl ?_
            refine ww_getF C (by assumption) 2 (by decide) q_f_X0_165 dX0_waterFlocks_34 ?_
            refine ww_if_le C dX0_waterFlocks_37 49 (by decide) (fun c37 => ?_) (fun c37 => ?_)
            · refine ww_heap (h2 := (d_go d n (d + 25 + j) (fd (d_flock d n) h j))) (by first | exact (go_a c30).symm | exact (go_b c30 c37).symm | exact (go_c c30 c37).symm) ?_
              refine ww_aload_n C dX0_waterFlocks_49 0 rfl rfl ?_
              refine ww_aload_n C dX0_waterFlocks_50 3 rfl rfl ?_
              refine ww_getF C (by assumption) 1 (by decide) q_f_X0_172 dX0_waterFlocks_51 ?_
              refine ww_callD C mf_X0_pondAt dX0_waterFlocks_54 (ok_X0_pondAt hd HG.1 HG.2.1 (HG.2.2.2.2.2.1 j hjn)) q_m_X0_105 (by assumption) rfl rfl rfl (Nat.le_of_ble_eq_true rfl) (by exact ⟨Nat.le_of_ble_eq_true rfl, Nat.le_of_ble_eq_true rfl⟩) (by exact ⟨Nat.le_of_ble_eq_true rfl, Nat.le_of_ble_eq_true rfl⟩) ?_
              refine ww_astore C dX0_waterFlocks_57 (by decide) ?_
              refine ww_aload C dX0_waterFlocks_59 rfl ?_
              refine ww_aload_n C dX0_waterFlocks_61 3 rfl rfl ?_
              refine ww_callF C mf_X1_need dX0_waterFlocks_62 (ct_X1_need hP) q_m_X0_175 (by assumption) rfl rfl rfl (Nat.le_of_ble_eq_true rfl) (by exact ⟨Nat.le_of_ble_eq_true rfl, Nat.le_of_ble_eq_true rfl⟩) (by exact ⟨Nat.le_of_ble_eq_true rfl, Nat.le_of_ble_eq_true rfl⟩) ?_
              refine ww_callP C mf_X2_giveDrink dX0_waterFlocks_65 (ct_X2_giveDrink hQ) q_m_X0_178 (by assumption) rfl rfl rfl (Nat.le_of_ble_eq_true rfl) (by exact ⟨Nat.le_of_ble_eq_true rfl, Nat.le_of_ble_eq_true rfl⟩) (by exact ⟨Nat.le_of_ble_eq_true rfl, Nat.le_of_ble_eq_true rfl⟩) ?_
              refine ww_istore C dX0_waterFlocks_68 (by decide) ?_
              refine ww_aload_n C dX0_waterFlocks_70 3 rfl rfl ?_
              refine ww_iload C dX0_waterFlocks_71 rfl ?_
              refine ww_callF C mf_X1_drink dX0_waterFlocks_73 (ct_X1_drink hP) q_m_X0_182 (by assumption) rfl rfl rfl (Nat.le_of_ble_eq_true rfl) (by exact ⟨Nat.le_of_ble_eq_true rfl, Nat.le_of_ble_eq_true rfl⟩) (by exact ⟨Nat.le_of_ble_eq_true rfl, Nat.le_of_ble_eq_true rfl⟩) ?_
              refine ww_aload C dX0_waterFlocks_76 rfl ?_
              refine ww_aload_n C dX0_waterFlocks_78 3 rfl rfl ?_
              refine ww_getF C (by assumption) 0 (by decide) q_f_X0_185 dX0_waterFlocks_79 ?_
              refine ww_callP C mf_X2_treadBy dX0_waterFlocks_82 (ct_X2_treadBy hQ) q_m_X0_188 (by assumption) rfl rfl rfl (Nat.le_of_ble_eq_true rfl) (by exact ⟨Nat.le_of_ble_eq_true rfl, Nat.le_of_ble_eq_true rfl⟩) (by exact ⟨Nat.le_of_ble_eq_true rfl, Nat.le_of_ble_eq_true rfl⟩) ?_
              refine ww_iload_n C dX0_waterFlocks_85 1 rfl rfl ?_
              refine ww_iload C dX0_waterFlocks_86 rfl ?_
              refine ww_iadd C dX0_waterFlocks_88 ?_
              refine ww_istore_n C dX0_waterFlocks_89 1 rfl (by decide) ?_
              refine ww_iinc (v := nI (j + 1)) C dX0_waterFlocks_90 rfl (nI_inc _) (by decide) ?_
              refine ww_goto C dX0_waterFlocks_93 4 (by decide) ?_
              refine ww_lv [(0, .ref (gB g + d)), (1, .int (d_drunk d n h (j + 1))), (2, .int (nI (j + 1)))] ⟨rfl, (by first | exact congrArg (fun z => some (Value.int z)) (flockU_lost (bI1 c23)).symm | exact congrArg (fun z => some (Value.int z)) (flockU_on (bI0 c23)).symm), rfl, trivial⟩ ?_
              refine ww_heap (h2 := (fd (d_flock d n) h (j + 1))) (by first | exact (flock_lost (bI1 c23)).symm | exact (flock_on (bI0 c23)).symm) ?_
              exact ih (j + 1) hjn (by omega)
            · refine ww_aload_n C dX0_waterFlocks_40 3 rfl rfl ?_
              refine ww_aload_n C dX0_waterFlocks_41 0 rfl rfl ?_
              refine ww_aload_n C dX0_waterFlocks_42 3 rfl rfl ?_
              refine ww_callD C mf_X0_nearestWaterFor dX0_waterFlocks_43 (ct_X0_nearestWaterFor hd Hj hP (Hj.2.2.2.2.2.1 j hjn)) q_m_X0_168 (by assumption) rfl rfl rfl (Nat.le_of_ble_eq_true rfl) (by exact ⟨Nat.le_of_ble_eq_true rfl, Nat.le_of_ble_eq_true rfl⟩) (by exact ⟨Nat.le_of_ble_eq_true rfl, Nat.le_of_ble_eq_true rfl⟩) ?_
              refine ww_putF C (by assumption) 1 (by decide) q_f_X0_172 dX0_waterFlocks_46 ?_
              refine ww_heap (h2 := (d_go d n (d + 25 + j) (fd (d_flock d n) h j))) (by first | exact (go_a c30).symm | exact (go_b c30 c37).symm | exact (go_c c30 c37).symm) ?_
              refine ww_aload_n C dX0_waterFlocks_49 0 rfl rfl ?_
              refine ww_aload_n C dX0_waterFlocks_50 3 rfl rfl ?_
              refine ww_getF C (by assumption) 1 (by decide) q_f_X0_172 dX0_waterFlocks_51 ?_
              refine ww_callD C mf_X0_pondAt dX0_waterFlocks_54 (ok_X0_pondAt hd HG.1 HG.2.1 (HG.2.2.2.2.2.1 j hjn)) q_m_X0_105 (by assumption) rfl rfl rfl (Nat.le_of_ble_eq_true rfl) (by exact ⟨Nat.le_of_ble_eq_true rfl, Nat.le_of_ble_eq_true rfl⟩) (by exact ⟨Nat.le_of_ble_eq_true rfl, Nat.le_of_ble_eq_true rfl⟩) ?_
              refine ww_astore C dX0_waterFlocks_57 (by decide) ?_
              refine ww_aload C dX0_waterFlocks_59 rfl ?_
              refine ww_aload_n C dX0_waterFlocks_61 3 rfl rfl ?_
              refine ww_callF C mf_X1_need dX0_waterFlocks_62 (ct_X1_need hP) q_m_X0_175 (by assumption) rfl rfl rfl (Nat.le_of_ble_eq_true rfl) (by exact ⟨Nat.le_of_ble_eq_true rfl, Nat.le_of_ble_eq_true rfl⟩) (by exact ⟨Nat.le_of_ble_eq_true rfl, Nat.le_of_ble_eq_true rfl⟩) ?_
              refine ww_callP C mf_X2_giveDrink dX0_waterFlocks_65 (ct_X2_giveDrink hQ) q_m_X0_178 (by assumption) rfl rfl rfl (Nat.le_of_ble_eq_true rfl) (by exact ⟨Nat.le_of_ble_eq_true rfl, Nat.le_of_ble_eq_true rfl⟩) (by exact ⟨Nat.le_of_ble_eq_true rfl, Nat.le_of_ble_eq_true rfl⟩) ?_
              refine ww_istore C dX0_waterFlocks_68 (by decide) ?_
              refine ww_aload_n C dX0_waterFlocks_70 3 rfl rfl ?_
              refine ww_iload C dX0_waterFlocks_71 rfl ?_
              refine ww_callF C mf_X1_drink dX0_waterFlocks_73 (ct_X1_drink hP) q_m_X0_182 (by assumption) rfl rfl rfl (Nat.le_of_ble_eq_true rfl) (by exact ⟨Nat.le_of_ble_eq_true rfl, Nat.le_of_ble_eq_true rfl⟩) (by exact ⟨Nat.le_of_ble_eq_true rfl, Nat.le_of_ble_eq_true rfl⟩) ?_
              refine ww_aload C dX0_waterFlocks_76 rfl ?_
              refine ww_aload_n C dX0_waterFlocks_78 3 rfl rfl ?_
              refine ww_getF C (by assumption) 0 (by decide) q_f_X0_185 dX0_waterFlocks_79 ?_
              refine ww_callP C mf_X2_treadBy dX0_waterFlocks_82 (ct_X2_treadBy hQ) q_m_X0_188 (by assumption) rfl rfl rfl (Nat.le_of_ble_eq_true rfl) (by exact ⟨Nat.le_of_ble_eq_true rfl, Nat.le_of_ble_eq_true rfl⟩) (by exact ⟨Nat.le_of_ble_eq_true rfl, Nat.le_of_ble_eq_true rfl⟩) ?_
              refine ww_iload_n C dX0_waterFlocks_85 1 rfl rfl ?_
              refine ww_iload C dX0_waterFlocks_86 rfl ?_
              refine ww_iadd C dX0_waterFlocks_88 ?_
              refine ww_istore_n C dX0_waterFlocks_89 1 rfl (by decide) ?_
              refine ww_iinc (v := nI (j + 1)) C dX0_waterFlocks_90 rfl (nI_inc _) (by decide) ?_
              refine ww_goto C dX0_waterFlocks_93 4 (by decide) ?_
              refine ww_lv [(0, .ref (gB g + d)), (1, .int (d_drunk d n h (j + 1))), (2, .int (nI (j + 1)))] ⟨rfl, (by first | exact congrArg (fun z => some (Value.int z)) (flockU_lost (bI1 c23)).symm | exact congrArg (fun z => some (Value.int z)) (flockU_on (bI0 c23)).symm), rfl, trivial⟩ ?_
              refine ww_heap (h2 := (fd (d_flock d n) h (j + 1))) (by first | exact (flock_lost (bI1 c23)).symm | exact (flock_on (bI0 c23)).symm) ?_
              exact ih (j + 1) hjn (by omega)
  refine ww_iconst (v := 0) C dX0_waterFlocks_0 (by decide) ?_
  refine ww_istore_n C dX0_waterFlocks_1 1 rfl (by decide) ?_
  refine ww_iconst (v := 0) C dX0_waterFlocks_2 (by decide) ?_
  refine ww_istore_n C dX0_waterFlocks_3 2 rfl (by decide) ?_
  refine ww_lv [(0, .ref (gB g + d)), (1, .int (d_drunk d n h 0)), (2, .int (nI 0))] ⟨rfl, rfl, rfl, trivial⟩ ?_
  exact L (f + 1) 0 (Nat.zero_le _) (by omega)
set_option maxRecDepth 100000 in
set_option maxHeartbeats 4000000 in
theorem ct_X0_runOver {g : gW} {l : Launch} {h : Hp} {d n f : Nat} (hd : isD d) (H : OK d n f h) : CT g l yX0_runOver cX0_runOver 4 none 2 0 0 [.ref (gB g + d)] h none (fd (d_runS d) h n) := by
  refine CT.of (lv0 := [(0, .ref (gB g + d))]) mf_X0_runOver.1.2.2.2 (Nat.le_of_ble_eq_true rfl) rfl ?_
  intro p e s m below meth c C hr
  have hn := H.1
  have hn10 := H.2.1
  have hf := H.2.2.1
  have hfr := H.2.2.2.1
  have hr7 : rmD d ≤ 7 := rm7
  have L : ∀ (fu j : Nat), j ≤ n → n < fu + j → WW g p l e (rK 2 0 0) s m ([.ref (gB g + d)] : List Value).toArray below meth c 4 [] (fd (d_runS d) h j) [(0, .ref (gB g + d)), (1, .int (nI j))] 0 0 (MQ below (QW g s.heap.size none (fd (d_runS d) h n)) ([.ref (gB g + d)] : List Value).toArray s 0 0 (AA g s.heap.size)) 2 [] := by
    intro fu
    induction fu with
    | zero => intro j h1 h2; omega
    | succ fu ih =>
      intro j hj hfu
      have Hj := H.h4 (k := j) hj
      refine ww_iload_n C dX0_runOver_2 1 rfl rfl ?_
      refine ww_aload_n C dX0_runOver_3 0 rfl rfl ?_
      refine ww_getD C (by assumption) 4 (by decide) q_f_X0_53 dX0_runOver_4 ?_
      refine ww_icmp_ge C dX0_runOver_7 57 (by decide) (fun q => ?_) (fun q => ?_)
      · have hjn := lp_exit Hj.1 q hj (by omega)
        subst hjn
        exact ww_vret C hr rfl rfl dX0_runOver_57
      · have hjn := lp_body Hj.1 q hj (by omega)
        obtain ⟨q1, hqn, hq10, eq1, -⟩ := ro_in Hj hjn
        have hQ : isP (d_ro d (fd (d_runS d) h j) j) := isP_x hd hn10 (Hj.2.2.2.2.2.2.1 j hjn)
        have Hs : OK d n f (p_spill (fd (d_runS d) h j) (d_ro d (fd (d_runS d) h j) j)) := by rw [eq1]; exact Hj.spill hq10
        have h8 : p_spill (fd (d_runS d) h j) (d_ro d (fd (d_runS d) h j) j) (d_ro d (fd (d_runS d) h j) j) 8 = -1 ∨ isN n (p_spill (fd (d_runS d) h j) (d_ro d (fd (d_runS d) h j) j) (d_ro d (fd (d_runS d) h j) j) 8) := by rw [eq1]; exact (Hj.spill hq10).2.2.2.2.1 q1 hqn
        refine ww_aload_n C dX0_runOver_10 0 rfl rfl ?_
        refine ww_aload_n C dX0_runOver_11 0 rfl rfl ?_
        refine ww_getDb C (by assumption) q_f_X0_28 dX0_runOver_12 ?_
        refine ww_iload_n C dX0_runOver_15 1 rfl rfl ?_
        refine ww_iald (n := 10) C (by rcases hd with rfl | rfl <;> omega) (fun r => ce_Ba hd) (by omega) (by omega) dX0_runOver_16 ?_
        refine ww_callD C mf_X0_pondAt dX0_runOver_17 (ok_X0_pondAt hd Hj.1 Hj.2.1 (Hj.2.2.2.2.2.2.1 j hjn)) q_m_X0_105 (by assumption) rfl rfl rfl (Nat.le_of_ble_eq_true rfl) (by exact ⟨Nat.le_of_ble_eq_true rfl, Nat.le_of_ble_eq_true rfl⟩) (by exact ⟨Nat.le_of_ble_eq_true rfl, Nat.le_of_ble_eq_true rfl⟩) ?_
        refine ww_astore_n C dX0_runOver_20 2 rfl (by decide) ?_
        refine ww_aload_n C dX0_runOver_21 2 rfl rfl ?_
        refine ww_callP C mf_X2_spill dX0_runOver_22 (ct_X2_spill hQ) q_m_X0_201 (by assumption) rfl rfl rfl (Nat.le_of_ble_eq_true rfl) (by exact ⟨Nat.le_of_ble_eq_true rfl, Nat.le_of_ble_eq_true rfl⟩) (by exact ⟨Nat.le_of_ble_eq_true rfl, Nat.le_of_ble_eq_true rfl⟩) ?_
        refine ww_istore_n C dX0_runOver_25 3 rfl (by decide) ?_
        refine ww_aload_n C dX0_runOver_26 2 rfl rfl ?_
        refine ww_getP C (by assumption) 8 (by decide) q_f_X0_204 dX0_runOver_27 ?_
        refine ww_iconst (v := (-1)) C dX0_runOver_30 (by decide) ?_
        refine ww_icmp_eq C dX0_runOver_31 51 (by decide) (fun c31 => ?_) (fun c31 => ?_)
        · refine ww_iinc (v := nI (j + 1)) C dX0_runOver_51 rfl (nI_inc _) (by decide) ?_
          refine ww_goto C dX0_runOver_54 2 (by decide) ?_
          refine ww_lv [(0, .ref (gB g + d)), (1, .int (nI (j + 1)))] ⟨rfl, rfl, trivial⟩ ?_
          refine ww_heap (h2 := (fd (d_runS d) h (j + 1))) (by first | exact (runS_a c31).symm | exact (runS_b c31).symm) ?_
          exact ih (j + 1) hjn (by omega)
        · refine ww_aload_n C dX0_runOver_34 0 rfl rfl ?_
          refine ww_aload_n C dX0_runOver_35 2 rfl rfl ?_
          refine ww_getP C (by assumption) 8 (by decide) q_f_X0_204 dX0_runOver_36 ?_
          refine ww_callD C mf_X0_pondAt dX0_runOver_39 (ok_X0_pondAt hd Hs.1 Hs.2.1 (h8.resolve_left c31)) q_m_X0_105 (by assumption) rfl rfl rfl (Nat.le_of_ble_eq_true rfl) (by exact ⟨Nat.le_of_ble_eq_true rfl, Nat.le_of_ble_eq_true rfl⟩) (by exact ⟨Nat.le_of_ble_eq_true rfl, Nat.le_of_ble_eq_true rfl⟩) ?_
          have hQ2 := isP_x hd hn10 (h8.resolve_left c31)
          refine ww_dup C dX0_runOver_42 rfl ?_
          refine ww_getP C (by assumption) 5 (by decide) q_f_X0_191 dX0_runOver_43 ?_
          refine ww_iload_n C dX0_runOver_46 3 rfl rfl ?_
          refine ww_iadd C dX0_runOver_47 ?_
          refine ww_putP C (by assumption) 5 (by decide) q_f_X0_191 dX0_runOver_48 ?_
          refine ww_iinc (v := nI (j + 1)) C dX0_runOver_51 rfl (nI_inc _) (by decide) ?_
          refine ww_goto C dX0_runOver_54 2 (by decide) ?_
          refine ww_lv [(0, .ref (gB g + d)), (1, .int (nI (j + 1)))] ⟨rfl, rfl, trivial⟩ ?_
          refine ww_heap (h2 := (fd (d_runS d) h (j + 1))) (by first | exact (runS_a c31).symm | exact (runS_b c31).symm) ?_
          exact ih (j + 1) hjn (by omega)
  refine ww_iconst (v := 0) C dX0_runOver_0 (by decide) ?_
  refine ww_istore_n C dX0_runOver_1 1 rfl (by decide) ?_
  refine ww_lv [(0, .ref (gB g + d)), (1, .int (nI 0))] ⟨rfl, rfl, trivial⟩ ?_
  exact L (n + 1) 0 (Nat.zero_le _) (by omega)
theorem xor_nn {t : Nat} (ht : t < 2 ^ 31) : 0 ≤ nI t ^^^ 10 := by
  have e : nI t ^^^ 10 = nI (t ^^^ 10) := by
    apply Int32.toBitVec_inj.mp
    show (BitVec.ofNat 32 t) ^^^ (BitVec.ofNat 32 10) = BitVec.ofNat 32 (t ^^^ 10)
    apply BitVec.eq_of_toNat_eq
    simp only [BitVec.toNat_xor, BitVec.toNat_ofNat]
    rw [Nat.mod_eq_of_lt (by omega), Nat.mod_eq_of_lt (by omega)]
    exact (Nat.mod_eq_of_lt (Nat.xor_lt_two_pow (n := 32) (by omega) (by omega))).symm
  rw [e]
  exact nI_pos' (Nat.xor_lt_two_pow (n := 31) ht (by omega))
set_option maxRecDepth 100000 in
set_option maxHeartbeats 4000000 in
theorem ct_J9_floorMod_7cf53 {g : gW} {l : Launch} {h : Hp} {t : Nat} (ht : t < 2 ^ 31) : CT g l yJ9_floorMod_7cf53 cJ9_floorMod_7cf53 3 (some FieldType.int) 0 0 0 [.int (nI t), .int 10] h (some (.int (nI (t % 10)))) h := by
  refine CT.of (lv0 := [(0, .int (nI t)), (1, .int 10)]) mf_J9_floorMod_7cf53.1.2.2.2 (Nat.le_of_ble_eq_true rfl) rfl ?_
  intro p e s m below meth c C hr
  refine ww_iload_n C dJ9_floorMod_7cf53_0 0 rfl rfl ?_
  refine ww_iload_n C dJ9_floorMod_7cf53_1 1 rfl rfl ?_
  refine ww_irem C dJ9_floorMod_7cf53_2 (by decide) ?_
  refine ww_istore_n C dJ9_floorMod_7cf53_3 2 rfl (by decide) ?_
  refine ww_iload_n C dJ9_floorMod_7cf53_4 0 rfl rfl ?_
  refine ww_iload_n C dJ9_floorMod_7cf53_5 1 rfl rfl ?_
  refine ww_ixor C dJ9_floorMod_7cf53_6 ?_
  refine ww_if_ge C dJ9_floorMod_7cf53_7 18 (by decide) (fun _ => ?_) (fun q => absurd (xor_nn ht) q)
  refine ww_iload_n C dJ9_floorMod_7cf53_18 2 rfl rfl ?_
  exact ww_iret C hr (congrArg (fun z => some (Value.int z)) (pk_rem (a := t) (d := 10) ht (by omega) (by omega)).symm) rfl dJ9_floorMod_7cf53_19
set_option maxRecDepth 100000 in
set_option maxHeartbeats 4000000 in
theorem ct_X0_liveDay {g : gW} {l : Launch} {h : Hp} {d n f t : Nat} (hd : isD d) (H : OK d n f h) (ht : h d 6 = nI t) (ht31 : t < 2 ^ 31) : CT g l yX0_liveDay cX0_liveDay 5 (some FieldType.int) 4 0 0 [.ref (gB g + d)] h (some (.int (d_dayU d n f t h))) (d_day d n f t h) := by
  refine CT.of (lv0 := [(0, .ref (gB g + d))]) mf_X0_liveDay.1.2.2.2 (Nat.le_of_ble_eq_true rfl) rfl ?_
  intro p e s m below meth c C hr
  have hn := H.1
  have hn10 := H.2.1
  have hf := H.2.2.1
  have hfr := H.2.2.2.1
  have hr7 : rmD d ≤ 7 := rm7
  have t10 : t % 10 < 10 := Nat.mod_lt _ (by omega)
  have hW : isWt (d + 2 + t % 10) := isWt_of hd t10
  have H1 : OK d n f (d_h1 d n (d + 2 + t % 10) h) := H.h1 (Nat.le_refl n)
  have H2 := H1.h2 (Nat.le_refl f)
  have H3 : OK d n f (d_h3 d n f (d + 2 + t % 10) h) := H2.h3 (Nat.le_refl n)
  have H4 : OK d n f (d_h4 d n f (d + 2 + t % 10) h) := H3.h4 (Nat.le_refl n)
  have L3 : ∀ (fu j : Nat), j ≤ n → n < fu + j → WW g p l e (rK 4 0 0) s m ([.ref (gB g + d)] : List Value).toArray below meth c 5 [] (fd (d_sun d (d + 2 + t % 10)) (fd (d_flock d n) (d_h1 d n (d + 2 + t % 10) h) f) j) [(0, .ref (gB g + d)), (1, .int (nI (t % 10))), (2, .ref (gB g + (d + 2 + t % 10))), (3, .int (d_dayU d n f t h)), (4, .int (nI j))] 0 0 (MQ below (QW g s.heap.size (some (.int (d_dayU d n f t h))) (d_day d n f t h)) ([.ref (gB g + d)] : List Value).toArray s 0 0 (AA g s.heap.size)) 66 [] := by
    intro fu
    induction fu with
    | zero => intro j h1 h2; omega
    | succ fu ih =>
      intro j hj hfu
      have Hj := H2.h3 (w := (d + 2 + t % 10)) (k := j) hj
      refine ww_iload C dX0_liveDay_66 rfl ?_
      refine ww_aload_n C dX0_liveDay_68 0 rfl rfl ?_
      refine ww_getD C (by assumption) 4 (by decide) q_f_X0_53 dX0_liveDay_69 ?_
      refine ww_icmp_ge C dX0_liveDay_72 105 (by decide) (fun q => ?_) (fun q => ?_)
      · have hjn := lp_exit Hj.1 q hj (by omega)
        subst hjn
        refine ww_aload_n C dX0_liveDay_105 0 rfl rfl ?_
        refine ww_callD C mf_X0_runOver dX0_liveDay_106 (ct_X0_runOver hd H3) q_m_X0_151 (by assumption) rfl rfl rfl (Nat.le_of_ble_eq_true rfl) (by exact ⟨Nat.le_of_ble_eq_true rfl, Nat.le_of_ble_eq_true rfl⟩) (by exact ⟨Nat.le_of_ble_eq_true rfl, Nat.le_of_ble_eq_true rfl⟩) ?_
        refine ww_iload_n C dX0_liveDay_109 1 rfl rfl ?_
        refine ww_bipush (v := 9) C dX0_liveDay_110 (by decide) ?_
        refine ww_icmp_ne C dX0_liveDay_112 119 (by decide) (fun c112 => ?_) (fun c112 => ?_)
        · refine ww_heap (h2 := d_h5 d n f t h) (by first | exact (if_neg c112).symm | exact (if_pos c112).symm) ?_
          refine ww_aload_n C dX0_liveDay_119 0 rfl rfl ?_
          refine ww_dup C dX0_liveDay_120 rfl ?_
          refine ww_getD C (by assumption) 6 (by decide) q_f_X0_46 dX0_liveDay_121 ?_
          refine ww_iconst (v := 1) C dX0_liveDay_124 (by decide) ?_
          refine ww_iadd C dX0_liveDay_125 ?_
          refine ww_putD C (by assumption) 6 (by decide) q_f_X0_46 dX0_liveDay_126 ?_
          refine ww_iload_n C dX0_liveDay_129 3 rfl rfl ?_
          exact ww_iret C hr rfl rfl dX0_liveDay_130
        · refine ww_aload_n C dX0_liveDay_115 0 rfl rfl ?_
          refine ww_callD C mf_X0_rotStraw dX0_liveDay_116 (ct_X0_rotStraw hd H4) q_m_X0_154 (by assumption) rfl rfl rfl (Nat.le_of_ble_eq_true rfl) (by exact ⟨Nat.le_of_ble_eq_true rfl, Nat.le_of_ble_eq_true rfl⟩) (by exact ⟨Nat.le_of_ble_eq_true rfl, Nat.le_of_ble_eq_true rfl⟩) ?_
          refine ww_heap (h2 := d_h5 d n f t h) (by first | exact (if_neg c112).symm | exact (if_pos c112).symm) ?_
          refine ww_aload_n C dX0_liveDay_119 0 rfl rfl ?_
          refine ww_dup C dX0_liveDay_120 rfl ?_
          refine ww_getD C (by assumption) 6 (by decide) q_f_X0_46 dX0_liveDay_121 ?_
          refine ww_iconst (v := 1) C dX0_liveDay_124 (by decide) ?_
          refine ww_iadd C dX0_liveDay_125 ?_
          refine ww_putD C (by assumption) 6 (by decide) q_f_X0_46 dX0_liveDay_126 ?_
          refine ww_iload_n C dX0_liveDay_129 3 rfl rfl ?_
          exact ww_iret C hr rfl rfl dX0_liveDay_130
      · have hjn := lp_body Hj.1 q hj (by omega)
        have hP := isP_of hd (show j < 10 by omega)
        refine ww_aload_n C dX0_liveDay_75 0 rfl rfl ?_
        refine ww_getDp C (by assumption) q_f_X0_24 dX0_liveDay_76 ?_
        refine ww_iload C dX0_liveDay_79 rfl ?_
        refine ww_aaldP C hd (by omega) dX0_liveDay_81 ?_
        refine ww_aload_n C dX0_liveDay_82 2 rfl rfl ?_
        refine ww_getW C (by assumption) 2 (by decide) q_f_X0_142 dX0_liveDay_83 ?_
        refine ww_callP C mf_X2_dryBy dX0_liveDay_86 (ct_X2_dryBy hP) q_m_X0_145 (by assumption) rfl rfl rfl (Nat.le_of_ble_eq_true rfl) (by exact ⟨Nat.le_of_ble_eq_true rfl, Nat.le_of_ble_eq_true rfl⟩) (by exact ⟨Nat.le_of_ble_eq_true rfl, Nat.le_of_ble_eq_true rfl⟩) ?_
        refine ww_aload_n C dX0_liveDay_89 0 rfl rfl ?_
        refine ww_getDp C (by assumption) q_f_X0_24 dX0_liveDay_90 ?_
        refine ww_iload C dX0_liveDay_93 rfl ?_
        refine ww_aaldP C hd (by omega) dX0_liveDay_95 ?_
        refine ww_callP C mf_X2_leak dX0_liveDay_96 (ct_X2_leak hP) q_m_X0_148 (by assumption) rfl rfl rfl (Nat.le_of_ble_eq_true rfl) (by exact ⟨Nat.le_of_ble_eq_true rfl, Nat.le_of_ble_eq_true rfl⟩) (by exact ⟨Nat.le_of_ble_eq_true rfl, Nat.le_of_ble_eq_true rfl⟩) ?_
        refine ww_iinc (v := nI (j + 1)) C dX0_liveDay_99 rfl (nI_inc _) (by decide) ?_
        refine ww_goto C dX0_liveDay_102 66 (by decide) ?_
        refine ww_lv [(0, .ref (gB g + d)), (1, .int (nI (t % 10))), (2, .ref (gB g + (d + 2 + t % 10))), (3, .int (d_dayU d n f t h)), (4, .int (nI (j + 1)))] ⟨rfl, rfl, rfl, rfl, rfl, trivial⟩ ?_
        exact ih (j + 1) hjn (by omega)
  have L1 : ∀ (fu j : Nat), j ≤ n → n < fu + j → WW g p l e (rK 4 0 0) s m ([.ref (gB g + d)] : List Value).toArray below meth c 5 [] (fd (d_mist d (d + 2 + t % 10)) h j) [(0, .ref (gB g + d)), (1, .int (nI (t % 10))), (2, .ref (gB g + (d + 2 + t % 10))), (3, .int (nI j))] 0 0 (MQ below (QW g s.heap.size (some (.int (d_dayU d n f t h))) (d_day d n f t h)) ([.ref (gB g + d)] : List Value).toArray s 0 0 (AA g s.heap.size)) 18 [] := by
    intro fu
    induction fu with
    | zero => intro j h1 h2; omega
    | succ fu ih =>
      intro j hj hfu
      have Hj := H.h1 (w := (d + 2 + t % 10)) (k := j) hj
      refine ww_iload_n C dX0_liveDay_18 3 rfl rfl ?_
      refine ww_aload_n C dX0_liveDay_19 0 rfl rfl ?_
      refine ww_getD C (by assumption) 4 (by decide) q_f_X0_53 dX0_liveDay_20 ?_
      refine ww_icmp_ge C dX0_liveDay_23 58 (by decide) (fun q => ?_) (fun q => ?_)
      · have hjn := lp_exit Hj.1 q hj (by omega)
        subst hjn
        refine ww_aload_n C dX0_liveDay_58 0 rfl rfl ?_
        refine ww_callD C mf_X0_waterFlocks dX0_liveDay_59 (ct_X0_waterFlocks hd H1) q_m_X0_139 (by assumption) rfl rfl rfl (Nat.le_of_ble_eq_true rfl) (by exact ⟨Nat.le_of_ble_eq_true rfl, Nat.le_of_ble_eq_true rfl⟩) (by exact ⟨Nat.le_of_ble_eq_true rfl, Nat.le_of_ble_eq_true rfl⟩) ?_
        refine ww_istore_n C dX0_liveDay_62 3 rfl (by decide) ?_
        refine ww_iconst (v := 0) C dX0_liveDay_63 (by decide) ?_
        refine ww_istore C dX0_liveDay_64 (by decide) ?_
        refine ww_lv [(0, .ref (gB g + d)), (1, .int (nI (t % 10))), (2, .ref (gB g + (d + 2 + t % 10))), (3, .int (d_dayU d n f t h)), (4, .int (nI 0))] ⟨rfl, rfl, rfl, rfl, rfl, trivial⟩ ?_
        exact L3 (n + 1) 0 (Nat.zero_le _) (by omega)
      · have hjn := lp_body Hj.1 q hj (by omega)
        have hP := isP_of hd (show j < 10 by omega)
        refine ww_aload_n C dX0_liveDay_26 0 rfl rfl ?_
        refine ww_getDp C (by assumption) q_f_X0_24 dX0_liveDay_27 ?_
        refine ww_iload_n C dX0_liveDay_30 3 rfl rfl ?_
        refine ww_aaldP C hd (by omega) dX0_liveDay_31 ?_
        refine ww_aload_n C dX0_liveDay_32 2 rfl rfl ?_
        refine ww_getW C (by assumption) 0 (by decide) q_f_X0_126 dX0_liveDay_33 ?_
        refine ww_callP C mf_X2_takeMist dX0_liveDay_36 (ct_X2_takeMist hP) q_m_X0_129 (by assumption) rfl rfl rfl (Nat.le_of_ble_eq_true rfl) (by exact ⟨Nat.le_of_ble_eq_true rfl, Nat.le_of_ble_eq_true rfl⟩) (by exact ⟨Nat.le_of_ble_eq_true rfl, Nat.le_of_ble_eq_true rfl⟩) ?_
        refine ww_aload_n C dX0_liveDay_39 0 rfl rfl ?_
        refine ww_getDp C (by assumption) q_f_X0_24 dX0_liveDay_40 ?_
        refine ww_iload_n C dX0_liveDay_43 3 rfl rfl ?_
        refine ww_aaldP C hd (by omega) dX0_liveDay_44 ?_
        refine ww_aload_n C dX0_liveDay_45 2 rfl rfl ?_
        refine ww_getW C (by assumption) 1 (by decide) q_f_X0_133 dX0_liveDay_46 ?_
        refine ww_callP C mf_X2_takeRain dX0_liveDay_49 (ct_X2_takeRain hP) q_m_X0_136 (by assumption) rfl rfl rfl (Nat.le_of_ble_eq_true rfl) (by exact ⟨Nat.le_of_ble_eq_true rfl, Nat.le_of_ble_eq_true rfl⟩) (by exact ⟨Nat.le_of_ble_eq_true rfl, Nat.le_of_ble_eq_true rfl⟩) ?_
        refine ww_iinc (v := nI (j + 1)) C dX0_liveDay_52 rfl (nI_inc _) (by decide) ?_
        refine ww_goto C dX0_liveDay_55 18 (by decide) ?_
        refine ww_lv [(0, .ref (gB g + d)), (1, .int (nI (t % 10))), (2, .ref (gB g + (d + 2 + t % 10))), (3, .int (nI (j + 1)))] ⟨rfl, rfl, rfl, rfl, trivial⟩ ?_
        exact ih (j + 1) hjn (by omega)
  refine ww_aload_n C dX0_liveDay_0 0 rfl rfl ?_
  refine ww_getD C (by assumption) 6 (by decide) q_f_X0_46 dX0_liveDay_1 ?_
  refine ww_top ht ?_
  refine ww_bipush (v := 10) C dX0_liveDay_4 (by decide) ?_
  refine ww_callS C mf_J9_floorMod_7cf53 (ct_J9_floorMod_7cf53 ht31) q_m_X0_119 rfl rfl (Nat.le_of_ble_eq_true rfl) (by exact ⟨Nat.le_of_ble_eq_true rfl, Nat.le_of_ble_eq_true rfl⟩) (by exact ⟨Nat.le_of_ble_eq_true rfl, Nat.le_of_ble_eq_true rfl⟩) dX0_liveDay_6 ?_
  refine ww_istore_n C dX0_liveDay_9 1 rfl (by decide) ?_
  refine ww_aload_n C dX0_liveDay_10 0 rfl rfl ?_
  refine ww_iload_n C dX0_liveDay_11 1 rfl rfl ?_
  refine ww_callD C mf_X0_weatherAt dX0_liveDay_12 (ok_X0_weatherAt hd ⟨t % 10, t10, rfl⟩) q_m_X0_122 (by assumption) rfl rfl rfl (Nat.le_of_ble_eq_true rfl) (by exact ⟨Nat.le_of_ble_eq_true rfl, Nat.le_of_ble_eq_true rfl⟩) (by exact ⟨Nat.le_of_ble_eq_true rfl, Nat.le_of_ble_eq_true rfl⟩) ?_
  rw [show (nI (t % 10)).toNatClampNeg = t % 10 from nI_clamp (by omega)]
  refine ww_astore_n C dX0_liveDay_15 2 rfl (by decide) ?_
  refine ww_iconst (v := 0) C dX0_liveDay_16 (by decide) ?_
  refine ww_istore_n C dX0_liveDay_17 3 rfl (by decide) ?_
  refine ww_lv [(0, .ref (gB g + d)), (1, .int (nI (t % 10))), (2, .ref (gB g + (d + 2 + t % 10))), (3, .int (nI 0))] ⟨rfl, rfl, rfl, rfl, trivial⟩ ?_
  exact L1 (n + 1) 0 (Nat.zero_le _) (by omega)
theorem days_ok {d n f t : Nat} {h : Hp} (H : OK d n f h) (ht : h d 6 = nI t) : ∀ k, OK d n f (d_days d n f t h k) ∧ d_days d n f t h k d 6 = nI (t + k)
  | 0 => ⟨H, ht⟩
  | k + 1 => ⟨(days_ok H ht k).1.day, day_t (days_ok H ht k).1 (days_ok H ht k).2⟩
set_option maxRecDepth 100000 in
set_option maxHeartbeats 4000000 in
theorem ct_X0_liveDays {g : gW} {l : Launch} {h : Hp} {d n f t k : Nat} (hd : isD d) (H : OK d n f h) (ht : h d 6 = nI t) (ht31 : t + k < 2 ^ 31) : CT g l yX0_liveDays cX0_liveDays 4 (some FieldType.int) 5 0 0 [.ref (gB g + d), .int (nI k)] h (some (.int (d_daysU d n f t h k))) (d_days d n f t h k) := by
  refine CT.of (lv0 := [(0, .ref (gB g + d)), (1, .int (nI k))]) mf_X0_liveDays.1.2.2.2 (Nat.le_of_ble_eq_true rfl) rfl ?_
  intro p e s m below meth c C hr
  have L : ∀ (fu j : Nat), j ≤ k → k < fu + j → WW g p l e (rK 5 0 0) s m ([.ref (gB g + d), .int (nI k)] : List Value).toArray below meth c 4 [] (d_days d n f t h j) [(0, .ref (gB g + d)), (1, .int (nI k)), (2, .int (d_daysU d n f t h j)), (3, .int (nI j))] 0 0 (MQ below (QW g s.heap.size (some (.int (d_daysU d n f t h k))) (d_days d n f t h k)) ([.ref (gB g + d), .int (nI k)] : List Value).toArray s 0 0 (AA g s.heap.size)) 4 [] := by
    intro fu
    induction fu with
    | zero => intro j h1 h2; omega
    | succ fu ih =>
      intro j hj hfu
      have Hj := days_ok H ht j
      refine ww_iload_n C dX0_liveDays_4 3 rfl rfl ?_
      refine ww_iload_n C dX0_liveDays_5 1 rfl rfl ?_
      refine ww_icmp_ge C dX0_liveDays_6 22 (by decide) (fun q => ?_) (fun q => ?_)
      · have hjn := lp_exit (rfl : nI k = nI k) q hj (by omega)
        subst hjn
        refine ww_iload_n C dX0_liveDays_22 2 rfl rfl ?_
        exact ww_iret C hr rfl rfl dX0_liveDays_23
      · have hjn := lp_body (rfl : nI k = nI k) q hj (by omega)
        refine ww_iload_n C dX0_liveDays_9 2 rfl rfl ?_
        refine ww_aload_n C dX0_liveDays_10 0 rfl rfl ?_
        refine ww_callD C mf_X0_liveDay dX0_liveDays_11 (ct_X0_liveDay hd Hj.1 Hj.2 (by omega)) q_m_X0_115 (by assumption) rfl rfl rfl (Nat.le_of_ble_eq_true rfl) (by exact ⟨Nat.le_of_ble_eq_true rfl, Nat.le_of_ble_eq_true rfl⟩) (by exact ⟨Nat.le_of_ble_eq_true rfl, Nat.le_of_ble_eq_true rfl⟩) ?_
        refine ww_iadd C dX0_liveDays_14 ?_
        refine ww_istore_n C dX0_liveDays_15 2 rfl (by decide) ?_
        refine ww_iinc (v := nI (j + 1)) C dX0_liveDays_16 rfl (nI_inc _) (by decide) ?_
        refine ww_goto C dX0_liveDays_19 4 (by decide) ?_
        refine ww_lv [(0, .ref (gB g + d)), (1, .int (nI k)), (2, .int (d_daysU d n f t h (j + 1))), (3, .int (nI (j + 1)))] ⟨rfl, rfl, rfl, rfl, trivial⟩ ?_
        exact ih (j + 1) hjn (by omega)
  refine ww_iconst (v := 0) C dX0_liveDays_0 (by decide) ?_
  refine ww_istore_n C dX0_liveDays_1 2 rfl (by decide) ?_
  refine ww_iconst (v := 0) C dX0_liveDays_2 (by decide) ?_
  refine ww_istore_n C dX0_liveDays_3 3 rfl (by decide) ?_
  refine ww_lv [(0, .ref (gB g + d)), (1, .int (nI k)), (2, .int (d_daysU d n f t h 0)), (3, .int (nI 0))] ⟨rfl, rfl, rfl, rfl, trivial⟩ ?_
  exact L (k + 1) 0 (Nat.zero_le _) (by omega)
end
section
/-! METHODS THAT THROW. 'EXs': what a throw needs of the state: words that the tables decide, the texts, Throwable's two statics. 'XT .. args h r': from the numbers h the method returns (r = .inl (v, h2)) or throws (r = .inr E), the numbers as they were. -/
abbrev E_I : String := "java/lang/IndexOutOfBoundsException"
abbrev E_A : String := "java/lang/IllegalArgumentException"
abbrev E_S : String := "java/lang/IllegalStateException"
abbrev eNm : List String := ["java/lang/RuntimeException", "java/lang/Exception"]
def NBl : List Cond := [.castable E_I E_I, .castable E_A E_A, .castable E_S E_S, .declares ⟨"java/lang/RuntimeException", "<init>", "(Ljava/lang/String;)V"⟩, .declares ⟨"java/lang/Exception", "<init>", "(Ljava/lang/String;)V"⟩, .declares ⟨"java/lang/Throwable", "<init>", "(Ljava/lang/String;)V"⟩]
def SLl : List (String × Nat × String) := [(RX4, 204, "what is not 0 to 7"), (RX0, 70, "no such day in the table"), (RX0, 75, "no such pond"), (RX4, 116, "what is not 0 to 11"), (RX0, 77, "no such flock"), (RX4, 176, "what is not 0 to 5"), (RX4, 27, "x or y is not 0 to 40"), (RX4, 32, "height is not 0 to 300, size not 1 to 60, or depth not 1 to 9"), (RX0, 81, "there are as many ponds as there may be"), (RX0, 88, "there is a pond at this place"), (RX4, 48, "the other pond does not lie lower"), (RX4, 53, "clay is not 1 to 100"), (RX4, 61, "there is too much water in the pond"), (RX4, 81, "by is not -10000 to 10000"), (RX4, 123, "mist, rain or sun is not 0 to 9"), (RX4, 139, "there would be more than 500 on the heap"), (RX4, 141, "sheep is not 1 to 80"), (RX0, 109, "there are as many flocks as there may be"), (RX4, 155, "the flock is lost"), (RX4, 178, "days is not 1 to 100"), (RX4, 213, "days is not 1 to 50")]
def AG (g : gW) : Nat → Prop := fun q => gB g ≤ q
def EXs (g : gW) (U : State) : Prop := (∀ w ∈ NBl, va_Nw w U) ∧ (∀ q ∈ SLl, ∃ a, vk_R q.1 q.2.1 q.2.2 a U) ∧ vx_Zq Bundle.tN "UNASSIGNED_STACK" Bundle.steD (AG g) U U.heap ∧ vx_Zq Bundle.tN "SUPPRESSED_SENTINEL" Bundle.listD (AG g) U U.heap
theorem nb_warm {s U : State} (hW : s.WarmedH U.vm) {w : Cond} (hw : w ∈ NBl) (h : va_Nw w s) : va_Nw w U := by
  simp only [NBl, List.mem_cons, List.not_mem_nil, or_false] at hw
  rcases hw with rfl | rfl | rfl | rfl | rfl | rfl
  · exact va_Nw.warmC hW h
  · exact va_Nw.warmC hW h
  · exact va_Nw.warmC hW h
  · exact va_Nw.warmD hW h
  · exact va_Nw.warmD hW h
  · exact va_Nw.warmD hW h
theorem EXs.warm {g : gW} {s U : State} (h : EXs g s) (hW : s.WarmedH U.vm) (hq : ∀ a : Nat, a < s.heap.size → ¬ AG g a → U.heap[a]? = s.heap[a]?) : EXs g U := by
  obtain ⟨h1, h2, h3, h4⟩ := h
  refine ⟨fun w hw => nb_warm hW hw (h1 w hw), fun q hq => ?_, vx_Zq.moved hW.alike (h3.kept hq), vx_Zq.moved hW.alike (h4.kept hq)⟩
  obtain ⟨a, ha⟩ := h2 q hq
  exact ⟨a, ha.warm hW⟩
theorem AA_AG {g : gW} {sz q : Nat} (hb : gB g + 71 ≤ sz) (h : AA g sz q) : AG g q := by
  rcases h with h | h
  · exact h.1
  · show gB g ≤ q
    omega
def PX (g : gW) (h : Hp) (sz : Nat) : State → Prop := fun U => PW g h sz U ∧ EXs g U
def QX (g : gW) (sz : Nat) (r : (Option Value × Hp) ⊕ String) : Array Value → State → Outcome → State → Prop := fun a st oc t => ∃ (v : Option Value) (h2 : Hp), r = .inl (v, h2) ∧ QW g sz v h2 a st oc t
def XX (g : gW) (sz : Nat) (h : Hp) (r : (Option Value × Hp) ⊕ String) : String → State → State → Prop := fun E st t => r = .inr E ∧ va_P (gD g) vwCl (wl g [] h) t.heap ∧ va_F (AA g sz) st t
def XT (g : gW) (l : Launch) (y : MethodName) (cc : ByteArray) (nL : Nat) (rt : Option FieldType) (k : Nat) (As : List Value) (h : Hp) (r : (Option Value × Hp) ⊕ String) : Prop :=
  ∀ sz : Nat, vx_Met l y (ws_ y cc nL rt) (rK k 1 6) (va_Pc As (PX g h sz)) (QX g sz r) (XX g sz h r) 1 6 (AA g sz)
theorem PX_blind (g : gW) (As : List Value) (h : Hp) (sz : Nat) : FrameBlind (va_Pc As (PX g h sz)) := by
  intro a U gg mk q
  obtain ⟨q0, q1, q2, q3, q4, q5⟩ := q
  have hp := PW_blind g As h sz a U gg mk ⟨q0, q1⟩
  refine ⟨hp.1, hp.2, fun w hw => ?_, fun z hz => ?_, vx_Zq.moved (u := U) (U := U.calling gg mk a) (Vm.Alike.refl U.vm) q4, vx_Zq.moved (u := U) (U := U.calling gg mk a) (Vm.Alike.refl U.vm) q5⟩
  · have h1 := q2 w hw
    have ht : w.onTables = true := by
      simp only [NBl, List.mem_cons, List.not_mem_nil, or_false] at hw
      rcases hw with rfl | rfl | rfl | rfl | rfl | rfl <;> rfl
    exact va_Nw.same ht (u := U) rfl h1
  · obtain ⟨x, hx⟩ := q3 z hz
    exact ⟨x, vk_R.same (u := U) rfl hx⟩
section GWX
variable {g : gW} {p : Program} {l : Launch} {e : Env} {R : Room} {s : State} {m : MethodId} {args : Array Value} {below : List Frame} {meth : Method} {c : Code} {cc : ByteArray} {nL : Nat} {own : String} {X : va_W} {h : Hp} {lv : List (Nat × Value)} {cells slots : Nat} {Q : State → Prop} {pc : Nat} {st : List Value}
theorem XT.of {y : MethodName} {rt : Option FieldType} {k : Nat} {As : List Value} {r : (Option Value × Hp) ⊕ String} {lv0 : List (Nat × Value)} (hy : plainName y.cls = true) (hn : (lg_sl As).length ≤ nL) (hl0 : lv_args 0 As = lv0)
    (body : ∀ (p : Program) (e : Env) (s : State) (m : MethodId) (below : List Frame) (meth : Method) (c : Code), CX g p s m As.toArray meth c cc nL y.cls → EXs g s → (∀ x ∈ c.exceptionTable.toList, False) → meth.sig.returnType = rt →
      WW g p l e (rK k 1 6) s m As.toArray below meth c nL [] h lv0 0 0 (vx_MQ below (QX g s.heap.size r) (XX g s.heap.size h r) As.toArray s 1 6 (AA g s.heap.size)) 0 []) : XT g l y cc nL rt k As h r := by
  intro sz
  refine vx_ofW (cc := cc) (maxL := nL) (ret := rt) (ws' := TT) hy rfl ?_
  intro p e s m args below meth c s₁ B hml hex hv
  obtain ⟨rfl, ⟨hsz, hb71, hP, hK⟩, hE⟩ := hv
  subst hsz
  have hts := atoms_spec (ws := ws_ y cc nL rt) B.pre
  have hown : s.vm.findClass y.cls = some m.cls := findClass_of_methodNamed B.named
  have hl := lv_entry As (n := nL) hn
  rw [lg_entry_eq]
  rw [hl0] at hl
  exact body p e s m below meth c ⟨B.exec, B.bytes, hml, hown, fun w hw => hts w (List.mem_cons_of_mem _ hw), hK, B.notSynchronized, hb71⟩ hE hex B.returns s.heap [] _ hP (wl_D0 (fun q hq => Or.inl hq)) va_S.rf hl
/-- an ordinary end of a method that may throw -/
theorem ww_xret {v : Option Value} {h0 h2 : Hp} {r : (Option Value × Hp) ⊕ String} {mc ms : Nat} (hr : r = .inl (v, h2)) (k : WW g p l e R s m args below meth c nL X h lv cells slots (MQ below (QW g s.heap.size v h2) args s mc ms (AA g s.heap.size)) pc st) : WW g p l e R s m args below meth c nL X h lv cells slots (vx_MQ below (QX g s.heap.size r) (XX g s.heap.size h0 r) args s mc ms (AA g s.heap.size)) pc st := by
  intro H locs ls hP hD hS hl
  refine vx_ret ?_
  intro T hT X0
  obtain ⟨t, a1, o, b1, b2, b3, b4⟩ := k H locs ls hP hD hS hl T hT X0
  exact ⟨t, a1, o, b1, b2, ⟨v, h2, hr, b3⟩, b4⟩
def goodX (own : String) (ic : Nat) (cls : String) : Prop := ∀ w ∈ vx_atS own ic cls eNm, w ∈ TT ∨ w ∈ NBl
/-- new X(text), thrown -/
theorem ww_throw (C : CX g p s m args meth c cc nL own) (hE : EXs g s) (hex : ∀ x ∈ c.exceptionTable.toList, False) (hst : l.stackTraces = false) {cls text : String} {ik is ic mc ms : Nat} {r : (Option Value × Hp) ⊕ String} (hr : r = .inr cls)
    (hcls : Bundle.fit cls = true) (hk : Cond.classLink own ik cls ∈ TT) (hini : Cond.initialized cls ∈ TT) (hs : (own, is, text) ∈ SLl) (hat : goodX own ic cls) (hgood : (Cond.classLink own ik cls :: Cond.initialized cls :: vx_atS own ic cls eNm).all vx_ot = true)
    (d0 : decode cc pc = .ok (.new ik, 3)) (d3 : decode cc (pc + 3) = .ok (.dup, 1)) (d4 : decode cc (pc + 4) = .ok (.ldc is, 2)) (d6 : decode cc (pc + 6) = .ok (.invokespecial ic, 3)) (d9 : decode cc (pc + 9) = .ok (.athrow, 1))
    (hRf : 5 < R.frames) (hRl : (st.map fun v => v.category).sum + 82 ≤ R.locals) (hRc : cells + 1 ≤ R.cells) (hRs : slots + 6 ≤ R.slots) (hc : cells + 1 ≤ mc) (hsl : slots + 6 ≤ ms) :
    WW g p l e R s m args below meth c nL X h lv cells slots (vx_MQ below (QX g s.heap.size r) (XX g s.heap.size h r) args s mc ms (AA g s.heap.size)) pc st := by
  intro H locs ls hP hD hS hl
  have ht := C.2.2.2.2.1
  obtain ⟨e1, e2, e3, e4⟩ := hE
  obtain ⟨sa, hsa⟩ := e2 _ hs
  have hb := C.2.2.2.2.2.2.2
  refine vx_throwS (names := eNm) (A := AA g s.heap.size) C.1 C.2.1 hst C.2.2.2.1 hcls (by decide +kernel) (ht _ hk) (ht _ hini) hsa ?_ (fun w hw => List.all_eq_true.mp hgood w hw) (e3.narrow (fun q hq => AA_AG hb hq)) (e4.narrow (fun q hq => AA_AG hb hq)) hS (hl.1.trans C.2.2.1.symm) d0 d3 d4 d6 d9 (fun x hx => (hex x hx).elim) hRf hRl hRc hRs C.2.2.2.2.2.2.1 ?_ hS.2.2 hc hsl
  · intro w hw
    rcases hat w hw with h1 | h1
    · exact ht w h1
    · refine va_Nw.use ?_ (e1 w h1)
      simp only [NBl, List.mem_cons, List.not_mem_nil, or_false] at h1
      rcases h1 with rfl | rfl | rfl | rfl | rfl | rfl <;> rfl
  · intro t hal hz hkp
    refine ⟨hr, (wl_sub hP).kept (fun k q hq => ?_), ⟨Nat.le_trans hS.1 hz, fun q h1 h2 => ?_⟩⟩
    · exact hkp q.1 ((wl_sub hP) k q hq).lt
    · rw [hkp q (Nat.lt_of_lt_of_le h1 hS.1)]
      exact hS.2.1 q h1 h2
theorem PX_now {As : List Value} (C : CX g p s m args meth c cc nL own) (hE : EXs g s) {H : Heap} {locs : List Loc} (hP : va_P (gD g) vwCl (wl g X h) H) (hS : va_S (AA g s.heap.size) s.heap H locs) : ∀ U : State, U.heap = H → s.WarmedH U.vm → va_Pc As (PX g h H.size) As.toArray U := by
  intro U hU hW
  have h1 := PW_now (y := objectInit) (As := As) C hP hS U hU hW
  refine ⟨h1.1, h1.2, hE.warm hW (fun a h2 h3 => ?_)⟩
  rw [hU]
  exact hS.2.1 a h2 (fun z => h3 (AA_AG C.2.2.2.2.2.2.2 z))
/-- a call that throws, and the caller with it -/
theorem ww_callVx (C : CX g p s m args meth c cc nL own) (hE : EXs g s) (hex : ∀ x ∈ c.exceptionTable.toList, False) {y : MethodName} {cY : ByteArray} {nLY k o n idx ci mc ms : Nat} {rt : Option FieldType} {As rest : List Value} {E : String} {r : (Option Value × Hp) ⊕ String} (hr9 : r = .inr E) (hF : MFv y cY nLY rt n) (hd : decode cc pc = .ok (.invokevirtual idx, 3)) (hM : XT g l y cY nLY rt k (.ref (gB g + o) :: As) h (.inr E)) (hlink : Cond.methodLink own idx y ∈ TT)
    (ho : o < 71) {q : vw_C} (hq : vwCl[ci]? = some q) (hqc : q.1 = y.cls) (hce : ∃ fs, ce g (h o) o = .inr (ci, fs)) (hAs : As.length = n) (hst : st = As.reverse ++ .ref (gB g + o) :: rest) (hcat : (rest.map fun v => v.category).sum ≤ 8) (hk : k + 1 ≤ R.frames ∧ 8 + (nLY + 11) + 28 * k ≤ R.locals) (hr : cells + 1 ≤ R.cells ∧ slots + 6 ≤ R.slots) (hc : cells + 1 ≤ mc) (hsl : slots + 6 ≤ ms) :
    WW g p l e R s m args below meth c nL X h lv cells slots (vx_MQ below (QX g s.heap.size r) (XX g s.heap.size h r) args s mc ms (AA g s.heap.size)) pc st := by
  intro H locs ls hP hD hS hl
  have ht := C.2.2.2.2.1
  obtain ⟨⟨f1, f2, ⟨f3, f4, f5⟩, -⟩, f6, f7⟩ := hF
  obtain ⟨fs, hce⟩ := hce
  have hcell : ∃ cellB : Cell, H[gB g + o]? = some cellB ∧ cellB.vm.isStatics = false ∧ s.vm.findClass y.cls = some cellB.cls := by
    have := va_recv C.2.2.2.2.2.1 hP hq (show (wl g X h)[o]? = some (gB g + o, .inr (ci, fs)) by rw [wl_get ho, hce])
    rw [hqc] at this
    exact this
  have hRun := vx_runV (Ts := TT) (own := own) (C := y.cls) (As := As) (rest := rest) (g := F0 m pc ls st) ⟨C.1, C.2.1, C.2.2.1, C.2.2.2.1, ht⟩ (hM H.size) ⟨callB_of n ht (ws_good (own := own) (idx := idx) f1) rfl rfl rfl (ht _ f2) (ht _ hlink) ⟨f3, f4, f5⟩ hk, ht _ f6, ht _ f7⟩ ⟨PX_blind g _ h _, hcell, PX_now (As := .ref (gB g + o) :: As) C hE hP hS⟩ rfl hAs hl.1 hst (lv_room hcat) hd hr (p := p) (e := e) (below := below) (meth := meth) (locs := locs)
  intro T hT X0
  rcases hRun T hT X0 with ⟨v, st₀, t, T', L, h0, X', hL, e1, e2, ⟨v2, h2, hc2, -⟩, -⟩ | ⟨q9, st₀, t, T', L, E9, ce9, h0, X', hL, e1, e2, ⟨hx1, hx2, hx3, hx4⟩, hce9, hcv, hcl, st9⟩
  · cases hc2
  · cases hx1
    rw [h0] at hx3 hx4
    have hA : ∀ q, AA g H.size q → AA g s.heap.size q := fun q hq => AA_mono hS.1 hq
    obtain ⟨t2, a1, b1⟩ := vx_out (H := T'.heap) (locs := locs ++ L) (pc := pc) (E := E) (ce := ce9) (q := q9) (mc := mc) (ms := ms) (Qc := QX g s.heap.size r) (XC := XX g s.heap.size h r) (free := AA g s.heap.size) (ls := ls) (rest := rest) (args := args) (fun x hx => (hex x hx).elim) C.2.2.2.2.2.2.1 (by rw [e1]; exact hce9) hcv hcl
      (fun t0 ht0 _ => ⟨hr9, by rw [ht0, e1]; exact hx2, ⟨by rw [ht0, e1]; exact Nat.le_trans hS.1 hx3, fun q h1 h2 => by rw [ht0, e1, hx4 q (Nat.lt_of_lt_of_le h1 hS.1) (fun z => h2 (hA q z))]; exact hS.2.1 q h1 h2⟩⟩)
      (fun z hz => by
        rcases List.mem_append.mp hz with h3 | h3
        · exact hS.2.2 z h3
        · exact hA _ (hL z h3)) hc hsl T' rfl X'
    exact ⟨t2, st9.trans a1, b1⟩
end GWX
end
section
theorem q_n_E_I : Cond.initialized E_I ∈ TT := by decide +kernel
theorem q_n_E_A : Cond.initialized E_A ∈ TT := by decide +kernel
theorem q_n_E_S : Cond.initialized E_S ∈ TT := by decide +kernel
theorem gx_of {own : String} {ic : Nat} {cls : String} (h : (vx_atS own ic cls eNm).all (fun w => decide (w ∈ TT) || decide (w ∈ NBl)) = true) : goodX own ic cls := fun w hw => by
  have := List.all_eq_true.mp h w hw
  simpa using this
theorem gx_X0_72 : goodX RX0 72 E_I := gx_of (by decide +kernel)
theorem gx_X0_83 : goodX RX0 83 E_S := gx_of (by decide +kernel)
theorem gx_X4_29 : goodX RX4 29 E_A := gx_of (by decide +kernel)
theorem gx_X4_63 : goodX RX4 63 E_S := gx_of (by decide +kernel)
theorem gx_X4_118 : goodX RX4 118 E_I := gx_of (by decide +kernel)
theorem gy_X0_72 : (Cond.classLink RX0 68 E_I :: Cond.initialized E_I :: vx_atS RX0 72 E_I eNm).all vx_ot = true := by decide +kernel
theorem gy_X0_83 : (Cond.classLink RX0 79 E_S :: Cond.initialized E_S :: vx_atS RX0 83 E_S eNm).all vx_ot = true := by decide +kernel
theorem gy_X4_29 : (Cond.classLink RX4 25 E_A :: Cond.initialized E_A :: vx_atS RX4 29 E_A eNm).all vx_ot = true := by decide +kernel
theorem gy_X4_63 : (Cond.classLink RX4 59 E_S :: Cond.initialized E_S :: vx_atS RX4 63 E_S eNm).all vx_ot = true := by decide +kernel
theorem gy_X4_118 : (Cond.classLink RX4 114 E_I :: Cond.initialized E_I :: vx_atS RX4 118 E_I eNm).all vx_ot = true := by decide +kernel
theorem isN_of {n : Nat} {x b : Int32} (hb : b = nI n) (hn : n < 2 ^ 31) (h0 : ¬ x < 0) (h1 : x < b) : isN n x := by
  subst hb
  obtain ⟨j, hj, rfl⟩ := nI_of h0
  exact ⟨j, (nI_ltI hj hn).mp h1, rfl⟩
end
section
set_option maxRecDepth 100000 in
set_option maxHeartbeats 4000000 in
theorem xt_X0_pondAt {g : gW} {l : Launch} {h : Hp} (hst : l.stackTraces = false) {d n : Nat} {x : Int32} (hd : isD d) (hn : h d 4 = nI n) (hb : n ≤ 10) (hx : ¬ isN n x) : XT g l yX0_pondAt cX0_pondAt 2 (some (FieldType.object "DewPond$Pond")) 6 [.ref (gB g + d), .int x] h (.inr E_I) := by
  refine XT.of (lv0 := [(0, .ref (gB g + d)), (1, .int x)]) (by decide +kernel) (Nat.le_of_ble_eq_true rfl) rfl ?_
  intro p e s m below meth c C hE hex hr
  have hr7 : rmD d ≤ 7 := rm7
  refine ww_iload_n C dX0_pondAt_0 1 rfl rfl ?_
  refine ww_if_lt C dX0_pondAt_1 12 (by decide) (fun c1 => ?_) (fun c1 => ?_)
  · exact ww_throw (cls := E_I) (text := "no such pond") C hE hex hst rfl (by decide +kernel) q_k_X0_68 q_n_E_I (by decide +kernel) gx_X0_72 gy_X0_72 dX0_pondAt_12 dX0_pondAt_15 dX0_pondAt_16 dX0_pondAt_18 dX0_pondAt_21 (Nat.le_of_ble_eq_true rfl) (Nat.le_of_ble_eq_true rfl) (Nat.le_of_ble_eq_true rfl) (Nat.le_of_ble_eq_true rfl) (Nat.le_of_ble_eq_true rfl) (Nat.le_of_ble_eq_true rfl)
  · refine ww_iload_n C dX0_pondAt_4 1 rfl rfl ?_
    refine ww_aload_n C dX0_pondAt_5 0 rfl rfl ?_
    refine ww_getD C (by assumption) 4 (by decide) q_f_X0_53 dX0_pondAt_6 ?_
    refine ww_icmp_lt C dX0_pondAt_9 22 (by decide) (fun c9 => ?_) (fun c9 => ?_)
    · exact absurd (isN_of hn (by omega) c1 c9) hx
    · exact ww_throw (cls := E_I) (text := "no such pond") C hE hex hst rfl (by decide +kernel) q_k_X0_68 q_n_E_I (by decide +kernel) gx_X0_72 gy_X0_72 dX0_pondAt_12 dX0_pondAt_15 dX0_pondAt_16 dX0_pondAt_18 dX0_pondAt_21 (Nat.le_of_ble_eq_true rfl) (Nat.le_of_ble_eq_true rfl) (Nat.le_of_ble_eq_true rfl) (Nat.le_of_ble_eq_true rfl) (Nat.le_of_ble_eq_true rfl) (Nat.le_of_ble_eq_true rfl)
set_option maxRecDepth 100000 in
set_option maxHeartbeats 4000000 in
theorem xt_X0_flockAt {g : gW} {l : Launch} {h : Hp} (hst : l.stackTraces = false) {d f : Nat} {x : Int32} (hd : isD d) (hf : h d 5 = nI f) (hb : f ≤ rmD d) (hx : ¬ isN f x) : XT g l yX0_flockAt cX0_flockAt 2 (some (FieldType.object "DewPond$Flock")) 6 [.ref (gB g + d), .int x] h (.inr E_I) := by
  refine XT.of (lv0 := [(0, .ref (gB g + d)), (1, .int x)]) (by decide +kernel) (Nat.le_of_ble_eq_true rfl) rfl ?_
  intro p e s m below meth c C hE hex hr
  have hr7 : rmD d ≤ 7 := rm7
  refine ww_iload_n C dX0_flockAt_0 1 rfl rfl ?_
  refine ww_if_lt C dX0_flockAt_1 12 (by decide) (fun c1 => ?_) (fun c1 => ?_)
  · exact ww_throw (cls := E_I) (text := "no such flock") C hE hex hst rfl (by decide +kernel) q_k_X0_68 q_n_E_I (by decide +kernel) gx_X0_72 gy_X0_72 dX0_flockAt_12 dX0_flockAt_15 dX0_flockAt_16 dX0_flockAt_18 dX0_flockAt_21 (Nat.le_of_ble_eq_true rfl) (Nat.le_of_ble_eq_true rfl) (Nat.le_of_ble_eq_true rfl) (Nat.le_of_ble_eq_true rfl) (Nat.le_of_ble_eq_true rfl) (Nat.le_of_ble_eq_true rfl)
  · refine ww_iload_n C dX0_flockAt_4 1 rfl rfl ?_
    refine ww_aload_n C dX0_flockAt_5 0 rfl rfl ?_
    refine ww_getD C (by assumption) 5 (by decide) q_f_X0_59 dX0_flockAt_6 ?_
    refine ww_icmp_lt C dX0_flockAt_9 22 (by decide) (fun c9 => ?_) (fun c9 => ?_)
    · exact absurd (isN_of hf (by omega) c1 c9) hx
    · exact ww_throw (cls := E_I) (text := "no such flock") C hE hex hst rfl (by decide +kernel) q_k_X0_68 q_n_E_I (by decide +kernel) gx_X0_72 gy_X0_72 dX0_flockAt_12 dX0_flockAt_15 dX0_flockAt_16 dX0_flockAt_18 dX0_flockAt_21 (Nat.le_of_ble_eq_true rfl) (Nat.le_of_ble_eq_true rfl) (Nat.le_of_ble_eq_true rfl) (Nat.le_of_ble_eq_true rfl) (Nat.le_of_ble_eq_true rfl) (Nat.le_of_ble_eq_true rfl)
set_option maxRecDepth 100000 in
set_option maxHeartbeats 4000000 in
theorem xt_X0_weatherAt {g : gW} {l : Launch} {h : Hp} (hst : l.stackTraces = false) {d : Nat} {x : Int32} (hd : isD d) (hx : ¬ isN 10 x) : XT g l yX0_weatherAt cX0_weatherAt 2 (some (FieldType.object "DewPond$Weather")) 6 [.ref (gB g + d), .int x] h (.inr E_I) := by
  refine XT.of (lv0 := [(0, .ref (gB g + d)), (1, .int x)]) (by decide +kernel) (Nat.le_of_ble_eq_true rfl) rfl ?_
  intro p e s m below meth c C hE hex hr
  refine ww_iload_n C dX0_weatherAt_0 1 rfl rfl ?_
  refine ww_if_lt C dX0_weatherAt_1 13 (by decide) (fun c1 => ?_) (fun c1 => ?_)
  · exact ww_throw (cls := E_I) (text := "no such day in the table") C hE hex hst rfl (by decide +kernel) q_k_X0_68 q_n_E_I (by decide +kernel) gx_X0_72 gy_X0_72 dX0_weatherAt_13 dX0_weatherAt_16 dX0_weatherAt_17 dX0_weatherAt_19 dX0_weatherAt_22 (Nat.le_of_ble_eq_true rfl) (Nat.le_of_ble_eq_true rfl) (Nat.le_of_ble_eq_true rfl) (Nat.le_of_ble_eq_true rfl) (Nat.le_of_ble_eq_true rfl) (Nat.le_of_ble_eq_true rfl)
  · refine ww_iload_n C dX0_weatherAt_4 1 rfl rfl ?_
    refine ww_aload_n C dX0_weatherAt_5 0 rfl rfl ?_
    refine ww_getDw C (by assumption) q_f_X0_17 dX0_weatherAt_6 ?_
    refine ww_alenW (v := 10) C hd rfl dX0_weatherAt_9 ?_
    refine ww_icmp_lt C dX0_weatherAt_10 23 (by decide) (fun c10 => ?_) (fun c10 => ?_)
    · exact absurd (isN_of (b := 10) (n := 10) rfl (by omega) c1 c10) hx
    · exact ww_throw (cls := E_I) (text := "no such day in the table") C hE hex hst rfl (by decide +kernel) q_k_X0_68 q_n_E_I (by decide +kernel) gx_X0_72 gy_X0_72 dX0_weatherAt_13 dX0_weatherAt_16 dX0_weatherAt_17 dX0_weatherAt_19 dX0_weatherAt_22 (Nat.le_of_ble_eq_true rfl) (Nat.le_of_ble_eq_true rfl) (Nat.le_of_ble_eq_true rfl) (Nat.le_of_ble_eq_true rfl) (Nat.le_of_ble_eq_true rfl) (Nat.le_of_ble_eq_true rfl)
/-- a number is put in its place in the order, from the place k down -/
def d_ins (d : Nat) (ht : Int32) : Nat → Hp → Hp × Nat
  | 0, h => (h, 0)
  | k + 1, h => if ht ≤ h (d + 14 + (h (d + 13) k).toNatClampNeg) 2 then (h, k + 1) else d_ins d ht k (hp_up h (d + 13) (k + 1) (h (d + 13) k))
def d_new (d n : Nat) (h : Hp) (x y ht sz dp : Int32) : Hp := hp_up (hp_up (hp_up (hp_up (hp_up h (d + 14 + n) 0 x) (d + 14 + n) 1 y) (d + 14 + n) 2 ht) (d + 14 + n) 3 sz) (d + 14 + n) 4 dp
def d_end (d n : Nat) (z : Hp × Nat) : Hp := hp_up (hp_up z.1 (d + 13) z.2 (nI n)) d 4 (hp_up z.1 (d + 13) z.2 (nI n) d 4 + 1)
def d_make (d n : Nat) (h : Hp) (x y ht sz dp : Int32) : Hp := d_end d n (d_ins d ht n (d_new d n h x y ht sz dp))
def d_makeR (d n : Nat) (h : Hp) (x y ht sz dp : Int32) : (Option Value × Hp) ⊕ String := if nI n < 10 then (if b01 (d_tk h d x y n) = 0 then .inl (some (.int (nI n)), d_make d n h x y ht sz dp) else .inr E_S) else .inr E_S
theorem ins_a {d k : Nat} {ht : Int32} {h : Hp} (c : ht ≤ h (d + 14 + (h (d + 13) k).toNatClampNeg) 2) : d_ins d ht (k + 1) h = (h, k + 1) := if_pos c
theorem ins_b {d k : Nat} {ht : Int32} {h : Hp} (c : ¬ ht ≤ h (d + 14 + (h (d + 13) k).toNatClampNeg) 2) : d_ins d ht (k + 1) h = d_ins d ht k (hp_up h (d + 13) (k + 1) (h (d + 13) k)) := if_neg c
set_option maxRecDepth 100000 in
set_option maxHeartbeats 4000000 in
theorem xt_X0_makePond {g : gW} {l : Launch} {h : Hp} (hst : l.stackTraces = false) {d n f : Nat} {x y ht sz dp : Int32} (hd : isD d) (H : OK d n f h) : XT g l yX0_makePond cX0_makePond 9 (some FieldType.int) 6 [.ref (gB g + d), .int x, .int y, .int ht, .int sz, .int dp] h (d_makeR d n h x y ht sz dp) := by
  refine XT.of (lv0 := [(0, .ref (gB g + d)), (1, .int x), (2, .int y), (3, .int ht), (4, .int sz), (5, .int dp)]) (by decide +kernel) (Nat.le_of_ble_eq_true rfl) rfl ?_
  intro p e s m below meth c C hE hex hr
  have hn := H.1
  have hn10 := H.2.1
  have L : ∀ (k : Nat) (z : Hp), k ≤ n → z d 4 = nI n → (∀ r, r < k → isN n (z (d + 13) r)) → d_ins d ht k z = d_ins d ht n (d_new d n h x y ht sz dp) → d_makeR d n h x y ht sz dp = .inl (some (.int (nI n)), d_make d n h x y ht sz dp) → n < 10 → WW g p l e (rK 6 1 6) s m ([.ref (gB g + d), .int x, .int y, .int ht, .int sz, .int dp] : List Value).toArray below meth c 9 [] z [(0, .ref (gB g + d)), (1, .int x), (2, .int y), (3, .int ht), (4, .int sz), (5, .int dp), (6, .int (nI n)), (7, .ref (gB g + (d + 14 + n))), (8, .int (nI k))] 0 0 (vx_MQ below (QX g s.heap.size (d_makeR d n h x y ht sz dp)) (XX g s.heap.size h (d_makeR d n h x y ht sz dp)) ([.ref (gB g + d), .int x, .int y, .int ht, .int sz, .int dp] : List Value).toArray s 1 6 (AA g s.heap.size)) 92 [] := by
    intro k
    induction k with
    | zero =>
      intro z hk hz4 hzr hins hres hlt
      refine ww_iload C dX0_makePond_92 rfl ?_
      refine ww_if_le C dX0_makePond_94 139 (by decide) (fun _ => ?_) (fun q => absurd (show nI 0 ≤ 0 from Int32.le_refl 0) q)
      refine ww_aload_n C dX0_makePond_139 0 rfl rfl ?_
      refine ww_getDb C (by assumption) q_f_X0_28 dX0_makePond_140 ?_
      refine ww_iload C dX0_makePond_143 rfl ?_
      refine ww_iload C dX0_makePond_145 rfl ?_
      refine ww_iast (n := 10) C (by rcases hd with rfl | rfl <;> omega) (fun r => ce_Ba hd) (by omega) (by omega) dX0_makePond_147 ?_
      refine ww_aload_n C dX0_makePond_148 0 rfl rfl ?_
      refine ww_dup C dX0_makePond_149 rfl ?_
      refine ww_getD C (by assumption) 4 (by decide) q_f_X0_53 dX0_makePond_150 ?_
      refine ww_iconst (v := 1) C dX0_makePond_153 (by decide) ?_
      refine ww_iadd C dX0_makePond_154 ?_
      refine ww_putD C (by assumption) 4 (by decide) q_f_X0_53 dX0_makePond_155 ?_
      refine ww_iload C dX0_makePond_158 rfl ?_
      exact ww_xret (mc := 1) (ms := 6) (hres.trans (by unfold d_make; rw [← hins]; rfl)) (ww_wide 1 6 (Nat.le_of_ble_eq_true rfl) (Nat.le_of_ble_eq_true rfl) (ww_iret C hr rfl rfl dX0_makePond_160))
    | succ k ih =>
      intro z hk hz4 hzr hins hres hlt
      refine ww_iload C dX0_makePond_92 rfl ?_
      refine ww_if_le C dX0_makePond_94 139 (by decide) (fun q => absurd q (nI_nle (by omega) (by omega))) (fun _ => ?_)
      refine ww_aload_n C dX0_makePond_97 0 rfl rfl ?_
      refine ww_aload_n C dX0_makePond_98 0 rfl rfl ?_
      refine ww_getDb C (by assumption) q_f_X0_28 dX0_makePond_99 ?_
      refine ww_iload C dX0_makePond_102 rfl ?_
      refine ww_iconst (v := 1) C dX0_makePond_104 (by decide) ?_
      refine ww_isub C dX0_makePond_105 ?_
      refine ww_top (show nI (k + 1) - 1 = nI k from nI_pred k) ?_
      refine ww_iald (n := 10) C (by rcases hd with rfl | rfl <;> omega) (fun r => ce_Ba hd) (by omega) (by omega) dX0_makePond_106 ?_
      refine ww_callD C mf_X0_pondAt dX0_makePond_107 (ok_X0_pondAt hd hz4 hn10 (hzr _ (Nat.lt_succ_self _))) q_m_X0_105 (by assumption) rfl rfl rfl (Nat.le_of_ble_eq_true rfl) (by exact ⟨Nat.le_of_ble_eq_true rfl, Nat.le_of_ble_eq_true rfl⟩) (by exact ⟨Nat.le_of_ble_eq_true rfl, Nat.le_of_ble_eq_true rfl⟩) ?_
      have hPz := isP_x hd hn10 (hzr _ (Nat.lt_succ_self _))
      refine ww_getP C (by assumption) 2 (by decide) q_f_X0_96 dX0_makePond_110 ?_
      refine ww_iload_n C dX0_makePond_113 3 rfl rfl ?_
      refine ww_icmp_ge C dX0_makePond_114 139 (by decide) (fun c114 => ?_) (fun c114 => ?_)
      · refine ww_aload_n C dX0_makePond_139 0 rfl rfl ?_
        refine ww_getDb C (by assumption) q_f_X0_28 dX0_makePond_140 ?_
        refine ww_iload C dX0_makePond_143 rfl ?_
        refine ww_iload C dX0_makePond_145 rfl ?_
        refine ww_iast (n := 10) C (by rcases hd with rfl | rfl <;> omega) (fun r => ce_Ba hd) (by omega) (by omega) dX0_makePond_147 ?_
        refine ww_aload_n C dX0_makePond_148 0 rfl rfl ?_
        refine ww_dup C dX0_makePond_149 rfl ?_
        refine ww_getD C (by assumption) 4 (by decide) q_f_X0_53 dX0_makePond_150 ?_
        refine ww_iconst (v := 1) C dX0_makePond_153 (by decide) ?_
        refine ww_iadd C dX0_makePond_154 ?_
        refine ww_putD C (by assumption) 4 (by decide) q_f_X0_53 dX0_makePond_155 ?_
        refine ww_iload C dX0_makePond_158 rfl ?_
        exact ww_xret (mc := 1) (ms := 6) (hres.trans (by unfold d_make; rw [← hins, ins_a c114]; rfl)) (ww_wide 1 6 (Nat.le_of_ble_eq_true rfl) (Nat.le_of_ble_eq_true rfl) (ww_iret C hr rfl rfl dX0_makePond_160))
      · refine ww_aload_n C dX0_makePond_117 0 rfl rfl ?_
        refine ww_getDb C (by assumption) q_f_X0_28 dX0_makePond_118 ?_
        refine ww_iload C dX0_makePond_121 rfl ?_
        refine ww_aload_n C dX0_makePond_123 0 rfl rfl ?_
        refine ww_getDb C (by assumption) q_f_X0_28 dX0_makePond_124 ?_
        refine ww_iload C dX0_makePond_127 rfl ?_
        refine ww_iconst (v := 1) C dX0_makePond_129 (by decide) ?_
        refine ww_isub C dX0_makePond_130 ?_
        refine ww_top (show nI (k + 1) - 1 = nI k from nI_pred k) ?_
        refine ww_iald (n := 10) C (by rcases hd with rfl | rfl <;> omega) (fun r => ce_Ba hd) (by omega) (by omega) dX0_makePond_131 ?_
        refine ww_iast (n := 10) C (by rcases hd with rfl | rfl <;> omega) (fun r => ce_Ba hd) (by omega) (by omega) dX0_makePond_132 ?_
        refine ww_iinc (v := nI k) C dX0_makePond_133 rfl (pk_m1 k) (by decide) ?_
        refine ww_goto C dX0_makePond_136 92 (by decide) ?_
        refine ww_lv [(0, .ref (gB g + d)), (1, .int x), (2, .int y), (3, .int ht), (4, .int sz), (5, .int dp), (6, .int (nI n)), (7, .ref (gB g + (d + 14 + n))), (8, .int (nI k))] ⟨rfl, rfl, rfl, rfl, rfl, rfl, rfl, rfl, rfl, trivial⟩ ?_
        exact ih _ (by omega) (by rw [hp_ne (by omega)]; exact hz4) (fun r hr => by rw [hp_off (Or.inr (by omega))]; exact hzr r (by omega)) (by rw [← hins]; exact (ins_b c114).symm) hres hlt
  refine ww_aload_n C dX0_makePond_0 0 rfl rfl ?_
  refine ww_getD C (by assumption) 4 (by decide) q_f_X0_53 dX0_makePond_1 ?_
  refine ww_aload_n C dX0_makePond_4 0 rfl rfl ?_
  refine ww_getDp C (by assumption) q_f_X0_24 dX0_makePond_5 ?_
  refine ww_alenP (v := 10) C hd rfl dX0_makePond_8 ?_
  refine ww_icmp_lt C dX0_makePond_9 22 (by decide) (fun c9 => ?_) (fun c9 => ?_)
  · refine ww_aload_n C dX0_makePond_22 0 rfl rfl ?_
    refine ww_iload_n C dX0_makePond_23 1 rfl rfl ?_
    refine ww_iload_n C dX0_makePond_24 2 rfl rfl ?_
    refine ww_callD C mf_X0_isTaken dX0_makePond_25 (ct_X0_isTaken hd hn hn10) q_m_X0_84 (by assumption) rfl rfl rfl (Nat.le_of_ble_eq_true rfl) (by exact ⟨Nat.le_of_ble_eq_true rfl, Nat.le_of_ble_eq_true rfl⟩) (by exact ⟨Nat.le_of_ble_eq_true rfl, Nat.le_of_ble_eq_true rfl⟩) ?_
    refine ww_if_eq C dX0_makePond_28 41 (by decide) (fun c28 => ?_) (fun c28 => ?_)
    · have hlt : n < 10 := by rw [hn] at c9; exact (nI_ltI (by omega) (b := 10) (by omega)).mp c9
      have hPn := isP_of hd hlt
      rw [hn] at c9
      refine ww_aload_n C dX0_makePond_41 0 rfl rfl ?_
      refine ww_getD C (by assumption) 4 (by decide) q_f_X0_53 dX0_makePond_42 ?_
      refine ww_top hn ?_
      refine ww_istore C dX0_makePond_45 (by decide) ?_
      refine ww_aload_n C dX0_makePond_47 0 rfl rfl ?_
      refine ww_getDp C (by assumption) q_f_X0_24 dX0_makePond_48 ?_
      refine ww_iload C dX0_makePond_51 rfl ?_
      refine ww_aaldP C hd (by omega) dX0_makePond_53 ?_
      refine ww_astore C dX0_makePond_54 (by decide) ?_
      refine ww_aload C dX0_makePond_56 rfl ?_
      refine ww_iload_n C dX0_makePond_58 1 rfl rfl ?_
      refine ww_putP C (by assumption) 0 (by decide) q_f_X0_90 dX0_makePond_59 ?_
      refine ww_aload C dX0_makePond_62 rfl ?_
      refine ww_iload_n C dX0_makePond_64 2 rfl rfl ?_
      refine ww_putP C (by assumption) 1 (by decide) q_f_X0_93 dX0_makePond_65 ?_
      refine ww_aload C dX0_makePond_68 rfl ?_
      refine ww_iload_n C dX0_makePond_70 3 rfl rfl ?_
      refine ww_putP C (by assumption) 2 (by decide) q_f_X0_96 dX0_makePond_71 ?_
      refine ww_aload C dX0_makePond_74 rfl ?_
      refine ww_iload C dX0_makePond_76 rfl ?_
      refine ww_putP C (by assumption) 3 (by decide) q_f_X0_99 dX0_makePond_78 ?_
      refine ww_aload C dX0_makePond_81 rfl ?_
      refine ww_iload C dX0_makePond_83 rfl ?_
      refine ww_putP C (by assumption) 4 (by decide) q_f_X0_102 dX0_makePond_85 ?_
      refine ww_iload C dX0_makePond_88 rfl ?_
      refine ww_istore C dX0_makePond_90 (by decide) ?_
      refine ww_lv [(0, .ref (gB g + d)), (1, .int x), (2, .int y), (3, .int ht), (4, .int sz), (5, .int dp), (6, .int (nI n)), (7, .ref (gB g + (d + 14 + n))), (8, .int (nI n))] ⟨rfl, rfl, rfl, rfl, rfl, rfl, rfl, rfl, rfl, trivial⟩ ?_
      exact L n (d_new d n h x y ht sz dp) (Nat.le_refl n) (by unfold d_new; rw [hp_ne (by omega), hp_ne (by omega), hp_ne (by omega), hp_ne (by omega), hp_ne (by omega)]; exact hn) (fun r hr => by unfold d_new; rw [hp_ne (by omega), hp_ne (by omega), hp_ne (by omega), hp_ne (by omega), hp_ne (by omega)]; exact H.2.2.2.2.2.2.1 r hr) rfl (by simp only [d_makeR, c9, c28, if_true, if_false]) hlt
    · exact ww_throw (cls := E_S) (text := "there is a pond at this place") C hE hex hst (by rw [hn] at c9; simp only [d_makeR, c9, c28, if_true, if_false]) (by decide +kernel) q_k_X0_79 q_n_E_S (by decide +kernel) gx_X0_83 gy_X0_83 dX0_makePond_31 dX0_makePond_34 dX0_makePond_35 dX0_makePond_37 dX0_makePond_40 (Nat.le_of_ble_eq_true rfl) (Nat.le_of_ble_eq_true rfl) (Nat.le_of_ble_eq_true rfl) (Nat.le_of_ble_eq_true rfl) (Nat.le_of_ble_eq_true rfl) (Nat.le_of_ble_eq_true rfl)
  · exact ww_throw (cls := E_S) (text := "there are as many ponds as there may be") C hE hex hst (by rw [hn] at c9; simp only [d_makeR, c9, if_false]) (by decide +kernel) q_k_X0_79 q_n_E_S (by decide +kernel) gx_X0_83 gy_X0_83 dX0_makePond_12 dX0_makePond_15 dX0_makePond_16 dX0_makePond_18 dX0_makePond_21 (Nat.le_of_ble_eq_true rfl) (Nat.le_of_ble_eq_true rfl) (Nat.le_of_ble_eq_true rfl) (Nat.le_of_ble_eq_true rfl) (Nat.le_of_ble_eq_true rfl) (Nat.le_of_ble_eq_true rfl)
end
section
def d_mkF (d f : Nat) (h : Hp) (pond sheep : Int32) : Hp := hp_up (f_start h (d + 25 + f) pond sheep) d 5 (f_start h (d + 25 + f) pond sheep d 5 + 1)
def d_mkFR (d f : Nat) (h : Hp) (pond sheep : Int32) : (Option Value × Hp) ⊕ String := if nI f < nI (rmD d) then .inl (some (.int (nI f)), d_mkF d f h pond sheep) else .inr E_S
def bl_0 (h : Hp) : Hp := hp_up (hp_up h 32 6 (h 1 6)) 32 7 (hp_up h 32 6 (h 1 6) 1 7)
def bl_w (z : Hp) (j : Nat) : Hp := w_copy z (32 + 2 + j) (1 + 2 + j)
def bl_1 (h : Hp) : Hp := fd bl_w (bl_0 h) 10
def bl_2 (h : Hp) : Hp := hp_up (bl_1 h) 32 4 (bl_1 h 1 4)
def bl_p (z : Hp) (j : Nat) : Hp := hp_up (p_copy z (32 + 14 + j) (1 + 14 + j)) (32 + 13) j (p_copy z (32 + 14 + j) (1 + 14 + j) (1 + 13) j)
def bl_3 (n : Nat) (h : Hp) : Hp := fd bl_p (bl_2 h) n
def bl_4 (n : Nat) (h : Hp) : Hp := hp_up (bl_3 n h) 32 5 (mnI (bl_3 n h 1 5) 7)
def bl_f (z : Hp) (j : Nat) : Hp := f_copy z (32 + 25 + j) (1 + 25 + j)
/-- the downs ahead become like the real ones -/
def d_like (n f : Nat) (h : Hp) : Hp := fd bl_f (bl_4 n h) f
theorem bl_0r {h : Hp} {a : Nat} (ha : a < 32) : bl_0 h a = h a := by unfold bl_0; rw [hp_ne (by omega), hp_ne (by omega)]
theorem bl_1r {h : Hp} {a k : Nat} (ha : a < 32) : fd bl_w (bl_0 h) k a = h a := (fd_keep (P := fun x : Hp => x a) k (fun x i hi => w_copy_ne (by omega))).trans (bl_0r ha)
theorem bl_2r {h : Hp} {a : Nat} (ha : a < 32) : bl_2 h a = h a := by unfold bl_2; rw [hp_ne (by omega)]; exact bl_1r ha
theorem bl_3r {h : Hp} {a k : Nat} (ha : a < 32) : fd bl_p (bl_2 h) k a = h a := (fd_keep (P := fun x : Hp => x a) k (fun x i hi => by show bl_p x i a = x a; unfold bl_p; rw [hp_ne (by omega), p_copy_ne (by omega)])).trans (bl_2r ha)
theorem bl_4r {n : Nat} {h : Hp} {a : Nat} (ha : a < 32) : bl_4 n h a = h a := by unfold bl_4; rw [hp_ne (by omega)]; exact bl_3r ha
theorem bl_5r {n k : Nat} {h : Hp} {a : Nat} (ha : a < 32) : fd bl_f (bl_4 n h) k a = h a := (fd_keep (P := fun x : Hp => x a) k (fun x i hi => f_copy_ne (by omega))).trans (bl_4r ha)
theorem bl_3n {h : Hp} {n k : Nat} (hn : h 1 4 = nI n) : fd bl_p (bl_2 h) k 32 4 = nI n := by
  have e : fd bl_p (bl_2 h) k 32 = bl_2 h 32 := fd_keep (P := fun x : Hp => x 32) k (fun x i hi => by show bl_p x i 32 = x 32; unfold bl_p; rw [hp_ne (by omega), p_copy_ne (by omega)])
  rw [e]
  unfold bl_2
  rw [hp_eq]
  have e1 : bl_1 h 1 = h 1 := bl_1r (by omega)
  simp only [upd, if_true, e1, hn]
theorem bl_5n {h : Hp} {n f k : Nat} (hf : h 1 5 = nI f) (hf6 : f ≤ 6) : fd bl_f (bl_4 n h) k 32 5 = nI f := by
  have e : fd bl_f (bl_4 n h) k 32 = bl_4 n h 32 := fd_keep (P := fun x : Hp => x 32) k (fun x i hi => f_copy_ne (by omega))
  rw [e]
  unfold bl_4
  rw [hp_eq]
  have e1 : bl_3 n h 1 = h 1 := bl_3r (by omega)
  simp only [upd, if_true, e1, hf]
  unfold mnI
  rw [if_neg]
  have := nI_ltI (a := 7) (b := f) (by omega) (by omega)
  intro hh
  exact absurd (this.mp hh) (by omega)
theorem in_range {x a b : Int32} (h1 : ¬ x < a) (h2 : ¬ b < x) : a ≤ x ∧ x ≤ b := ⟨Int32.not_lt.mp h1, Int32.not_lt.mp h2⟩
set_option maxRecDepth 100000 in
set_option maxHeartbeats 4000000 in
theorem ct_X4_isWithin {g : gW} {l : Launch} {h : Hp} {x a b : Int32} : CT g l yX4_isWithin cX4_isWithin 3 (some FieldType.boolean) 0 0 0 [.int x, .int a, .int b] h (some (.int (bI (a ≤ x ∧ x ≤ b)))) h := by
  refine CT.of (lv0 := [(0, .int x), (1, .int a), (2, .int b)]) mf_X4_isWithin.1.2.2.2 (Nat.le_of_ble_eq_true rfl) rfl ?_
  intro p e s m below meth c C hr
  refine ww_iload_n C dX4_isWithin_0 0 rfl rfl ?_
  refine ww_iload_n C dX4_isWithin_1 1 rfl rfl ?_
  refine ww_icmp_lt C dX4_isWithin_2 14 (by decide) (fun c2 => ?_) (fun c2 => ?_)
  · refine ww_iconst (v := 0) C dX4_isWithin_14 (by decide) ?_
    exact ww_zret C hr (by first | exact Or.inl rfl | exact Or.inr rfl | assumption) (by first | (rw [bIt (in_range c2 c7)]; done) | (rw [bIf (fun z => absurd c2 (Int32.not_lt.mpr z.1))]; done) | (rw [bIf (fun z => absurd c7 (Int32.not_lt.mpr z.2))]; done)) rfl dX4_isWithin_15
  · refine ww_iload_n C dX4_isWithin_5 0 rfl rfl ?_
    refine ww_iload_n C dX4_isWithin_6 2 rfl rfl ?_
    refine ww_icmp_gt C dX4_isWithin_7 14 (by decide) (fun c7 => ?_) (fun c7 => ?_)
    · refine ww_iconst (v := 0) C dX4_isWithin_14 (by decide) ?_
      exact ww_zret C hr (by first | exact Or.inl rfl | exact Or.inr rfl | assumption) (by first | (rw [bIt (in_range c2 c7)]; done) | (rw [bIf (fun z => absurd c2 (Int32.not_lt.mpr z.1))]; done) | (rw [bIf (fun z => absurd c7 (Int32.not_lt.mpr z.2))]; done)) rfl dX4_isWithin_15
    · refine ww_iconst (v := 1) C dX4_isWithin_10 (by decide) ?_
      refine ww_goto C dX4_isWithin_11 15 (by decide) ?_
      exact ww_zret C hr (by first | exact Or.inl rfl | exact Or.inr rfl | assumption) (by first | (rw [bIt (in_range c2 c7)]; done) | (rw [bIf (fun z => absurd c2 (Int32.not_lt.mpr z.1))]; done) | (rw [bIf (fun z => absurd c7 (Int32.not_lt.mpr z.2))]; done)) rfl dX4_isWithin_15
set_option maxRecDepth 100000 in
set_option maxHeartbeats 4000000 in
theorem xt_X0_makeFlock {g : gW} {l : Launch} {h : Hp} (hst : l.stackTraces = false) {d n f : Nat} {x y : Int32} (hd : isD d) (H : OK d n f h) : XT g l yX0_makeFlock cX0_makeFlock 4 (some FieldType.int) 6 [.ref (gB g + d), .int x, .int y] h (d_mkFR d f h x y) := by
  refine XT.of (lv0 := [(0, .ref (gB g + d)), (1, .int x), (2, .int y)]) (by decide +kernel) (Nat.le_of_ble_eq_true rfl) rfl ?_
  intro p e s m below meth c C hE hex hr
  have hn := H.1
  have hn10 := H.2.1
  have hf := H.2.2.1
  have hfr := H.2.2.2.1
  have hr7 : rmD d ≤ 7 := rm7
  refine ww_aload_n C dX0_makeFlock_0 0 rfl rfl ?_
  refine ww_getD C (by assumption) 5 (by decide) q_f_X0_59 dX0_makeFlock_1 ?_
  refine ww_aload_n C dX0_makeFlock_4 0 rfl rfl ?_
  refine ww_getDf C (by assumption) q_f_X0_41 dX0_makeFlock_5 ?_
  refine ww_alenF C hd rfl dX0_makeFlock_8 ?_
  refine ww_icmp_lt C dX0_makeFlock_9 22 (by decide) (fun c9 => ?_) (fun c9 => ?_)
  · rw [hf] at c9
    have hlt : f < rmD d := (nI_ltI (by omega) (by omega)).mp c9
    have hPf := isF_of hd hlt
    refine ww_aload_n C dX0_makeFlock_22 0 rfl rfl ?_
    refine ww_getD C (by assumption) 5 (by decide) q_f_X0_59 dX0_makeFlock_23 ?_
    refine ww_top hf ?_
    refine ww_istore_n C dX0_makeFlock_26 3 rfl (by decide) ?_
    refine ww_aload_n C dX0_makeFlock_27 0 rfl rfl ?_
    refine ww_getDf C (by assumption) q_f_X0_41 dX0_makeFlock_28 ?_
    refine ww_iload_n C dX0_makeFlock_31 3 rfl rfl ?_
    refine ww_aaldF C hd (by omega) dX0_makeFlock_32 ?_
    refine ww_iload_n C dX0_makeFlock_33 1 rfl rfl ?_
    refine ww_iload_n C dX0_makeFlock_34 2 rfl rfl ?_
    refine ww_callF C mf_X1_startAt dX0_makeFlock_35 (ct_X1_startAt hPf) q_m_X0_111 (by assumption) rfl rfl rfl (Nat.le_of_ble_eq_true rfl) (by exact ⟨Nat.le_of_ble_eq_true rfl, Nat.le_of_ble_eq_true rfl⟩) (by exact ⟨Nat.le_of_ble_eq_true rfl, Nat.le_of_ble_eq_true rfl⟩) ?_
    refine ww_aload_n C dX0_makeFlock_38 0 rfl rfl ?_
    refine ww_dup C dX0_makeFlock_39 rfl ?_
    refine ww_getD C (by assumption) 5 (by decide) q_f_X0_59 dX0_makeFlock_40 ?_
    refine ww_iconst (v := 1) C dX0_makeFlock_43 (by decide) ?_
    refine ww_iadd C dX0_makeFlock_44 ?_
    refine ww_putD C (by assumption) 5 (by decide) q_f_X0_59 dX0_makeFlock_45 ?_
    refine ww_iload_n C dX0_makeFlock_48 3 rfl rfl ?_
    exact ww_xret (mc := 1) (ms := 6) (by simp only [d_mkFR, c9, if_true]; rfl) (ww_wide 1 6 (Nat.le_of_ble_eq_true rfl) (Nat.le_of_ble_eq_true rfl) (ww_iret C hr rfl rfl dX0_makeFlock_49))
  · exact ww_throw (cls := E_S) (text := "there are as many flocks as there may be") C hE hex hst (by rw [hf] at c9; simp only [d_mkFR, c9, if_false]) (by decide +kernel) q_k_X0_79 q_n_E_S (by decide +kernel) gx_X0_83 gy_X0_83 dX0_makeFlock_12 dX0_makeFlock_15 dX0_makeFlock_16 dX0_makeFlock_18 dX0_makeFlock_21 (Nat.le_of_ble_eq_true rfl) (Nat.le_of_ble_eq_true rfl) (Nat.le_of_ble_eq_true rfl) (Nat.le_of_ble_eq_true rfl) (Nat.le_of_ble_eq_true rfl) (Nat.le_of_ble_eq_true rfl)
set_option maxRecDepth 100000 in
set_option maxHeartbeats 4000000 in
theorem ok_X0_makeFlock {g : gW} {l : Launch} {h : Hp} {d n f : Nat} {x y : Int32} (hd : isD d) (H : OK d n f h) (hlt : f < rmD d) : CT g l yX0_makeFlock cX0_makeFlock 4 (some FieldType.int) 1 0 0 [.ref (gB g + d), .int x, .int y] h (some (.int (nI f))) (d_mkF d f h x y) := by
  refine CT.of (lv0 := [(0, .ref (gB g + d)), (1, .int x), (2, .int y)]) mf_X0_makeFlock.1.2.2.2 (Nat.le_of_ble_eq_true rfl) rfl ?_
  intro p e s m below meth c C hr
  have hn := H.1
  have hn10 := H.2.1
  have hf := H.2.2.1
  have hfr := H.2.2.2.1
  have hr7 : rmD d ≤ 7 := rm7
  have hPf := isF_of hd hlt
  have h9 : h d 5 < nI (rmD d) := by rw [hf]; exact (nI_ltI (by omega) (by omega)).mpr hlt
  refine ww_aload_n C dX0_makeFlock_0 0 rfl rfl ?_
  refine ww_getD C (by assumption) 5 (by decide) q_f_X0_59 dX0_makeFlock_1 ?_
  refine ww_aload_n C dX0_makeFlock_4 0 rfl rfl ?_
  refine ww_getDf C (by assumption) q_f_X0_41 dX0_makeFlock_5 ?_
  refine ww_alenF C hd rfl dX0_makeFlock_8 ?_
  refine ww_icmp_lt C dX0_makeFlock_9 22 (by decide) (fun _ => ?_) (fun q => absurd h9 q)
  refine ww_aload_n C dX0_makeFlock_22 0 rfl rfl ?_
  refine ww_getD C (by assumption) 5 (by decide) q_f_X0_59 dX0_makeFlock_23 ?_
  refine ww_top hf ?_
  refine ww_istore_n C dX0_makeFlock_26 3 rfl (by decide) ?_
  refine ww_aload_n C dX0_makeFlock_27 0 rfl rfl ?_
  refine ww_getDf C (by assumption) q_f_X0_41 dX0_makeFlock_28 ?_
  refine ww_iload_n C dX0_makeFlock_31 3 rfl rfl ?_
  refine ww_aaldF C hd (by omega) dX0_makeFlock_32 ?_
  refine ww_iload_n C dX0_makeFlock_33 1 rfl rfl ?_
  refine ww_iload_n C dX0_makeFlock_34 2 rfl rfl ?_
  refine ww_callF C mf_X1_startAt dX0_makeFlock_35 (ct_X1_startAt hPf) q_m_X0_111 (by assumption) rfl rfl rfl (Nat.le_of_ble_eq_true rfl) (by exact ⟨Nat.le_of_ble_eq_true rfl, Nat.le_of_ble_eq_true rfl⟩) (by exact ⟨Nat.le_of_ble_eq_true rfl, Nat.le_of_ble_eq_true rfl⟩) ?_
  refine ww_aload_n C dX0_makeFlock_38 0 rfl rfl ?_
  refine ww_dup C dX0_makeFlock_39 rfl ?_
  refine ww_getD C (by assumption) 5 (by decide) q_f_X0_59 dX0_makeFlock_40 ?_
  refine ww_iconst (v := 1) C dX0_makeFlock_43 (by decide) ?_
  refine ww_iadd C dX0_makeFlock_44 ?_
  refine ww_putD C (by assumption) 5 (by decide) q_f_X0_59 dX0_makeFlock_45 ?_
  refine ww_iload_n C dX0_makeFlock_48 3 rfl rfl ?_
  exact ww_iret C hr rfl rfl dX0_makeFlock_49
set_option maxRecDepth 100000 in
set_option maxHeartbeats 4000000 in
theorem ct_X0_becomeLike {g : gW} {l : Launch} {h : Hp} {n f : Nat} (H : OK 1 n f h) : CT g l yX0_becomeLike cX0_becomeLike 3 none 1 0 0 [.ref (gB g + 32), .ref (gB g + 1)] h none (d_like n f h) := by
  refine CT.of (lv0 := [(0, .ref (gB g + 32)), (1, .ref (gB g + 1))]) mf_X0_becomeLike.1.2.2.2 (Nat.le_of_ble_eq_true rfl) rfl ?_
  intro p e s m below meth c C hr
  have hn := H.1
  have hn10 := H.2.1
  have hf := H.2.2.1
  have hf6 : f ≤ 6 := H.2.2.2.1
  have hd : isD 32 := Or.inr rfl
  have hd1 : isD 1 := Or.inl rfl
  have L3 : ∀ (fu j : Nat), j ≤ f → f < fu + j → WW g p l e (rK 1 0 0) s m ([.ref (gB g + 32), .ref (gB g + 1)] : List Value).toArray below meth c 3 [] (fd bl_f (bl_4 n h) j) [(0, .ref (gB g + 32)), (1, .ref (gB g + 1)), (2, .int (nI j))] 0 0 (MQ below (QW g s.heap.size none (d_like n f h)) ([.ref (gB g + 32), .ref (gB g + 1)] : List Value).toArray s 0 0 (AA g s.heap.size)) 114 [] := by
    intro fu
    induction fu with
    | zero => intro j h1 h2; omega
    | succ fu ih =>
      intro j hj hfu
      refine ww_iload_n C dX0_becomeLike_114 2 rfl rfl ?_
      refine ww_aload_n C dX0_becomeLike_115 0 rfl rfl ?_
      refine ww_getD C (by assumption) 5 (by decide) q_f_X0_59 dX0_becomeLike_116 ?_
      refine ww_icmp_ge C dX0_becomeLike_119 143 (by decide) (fun q => ?_) (fun q => ?_)
      · have hjn := lp_exit (bl_5n hf hf6) q hj (by omega)
        subst hjn
        exact ww_vret C hr rfl rfl dX0_becomeLike_143
      · have hjn := lp_body (bl_5n hf hf6) q hj (by omega)
        have hPa := isF_of hd (show j < 7 by omega)
        have hPb := isF_of hd1 (show j < 6 by omega)
        refine ww_aload_n C dX0_becomeLike_122 0 rfl rfl ?_
        refine ww_getDf C (by assumption) q_f_X0_41 dX0_becomeLike_123 ?_
        refine ww_iload_n C dX0_becomeLike_126 2 rfl rfl ?_
        refine ww_aaldF C hd (show j < 7 by omega) dX0_becomeLike_127 ?_
        refine ww_aload_n C dX0_becomeLike_128 1 rfl rfl ?_
        refine ww_getDf C (by assumption) q_f_X0_41 dX0_becomeLike_129 ?_
        refine ww_iload_n C dX0_becomeLike_132 2 rfl rfl ?_
        refine ww_aaldF C hd1 (show j < 6 by omega) dX0_becomeLike_133 ?_
        refine ww_callF C mf_X1_becomeLike dX0_becomeLike_134 (ct_X1_becomeLike hPa hPb (by rw [bl_5r (by omega)]; exact H.2.2.2.2.2.2.2.2 j (by omega))) q_m_X0_65 (by assumption) rfl rfl rfl (Nat.le_of_ble_eq_true rfl) (by exact ⟨Nat.le_of_ble_eq_true rfl, Nat.le_of_ble_eq_true rfl⟩) (by exact ⟨Nat.le_of_ble_eq_true rfl, Nat.le_of_ble_eq_true rfl⟩) ?_
        refine ww_iinc (v := nI (j + 1)) C dX0_becomeLike_137 rfl (nI_inc _) (by decide) ?_
        refine ww_goto C dX0_becomeLike_140 114 (by decide) ?_
        refine ww_lv [(0, .ref (gB g + 32)), (1, .ref (gB g + 1)), (2, .int (nI (j + 1)))] ⟨rfl, rfl, rfl, trivial⟩ ?_
        exact ih (j + 1) hjn (by omega)
  have L2 : ∀ (fu j : Nat), j ≤ n → n < fu + j → WW g p l e (rK 1 0 0) s m ([.ref (gB g + 32), .ref (gB g + 1)] : List Value).toArray below meth c 3 [] (fd bl_p (bl_2 h) j) [(0, .ref (gB g + 32)), (1, .ref (gB g + 1)), (2, .int (nI j))] 0 0 (MQ below (QW g s.heap.size none (d_like n f h)) ([.ref (gB g + 32), .ref (gB g + 1)] : List Value).toArray s 0 0 (AA g s.heap.size)) 55 [] := by
    intro fu
    induction fu with
    | zero => intro j h1 h2; omega
    | succ fu ih =>
      intro j hj hfu
      refine ww_iload_n C dX0_becomeLike_55 2 rfl rfl ?_
      refine ww_aload_n C dX0_becomeLike_56 0 rfl rfl ?_
      refine ww_getD C (by assumption) 4 (by decide) q_f_X0_53 dX0_becomeLike_57 ?_
      refine ww_icmp_ge C dX0_becomeLike_60 96 (by decide) (fun q => ?_) (fun q => ?_)
      · have hjn := lp_exit (bl_3n hn) q hj (by omega)
        subst hjn
        refine ww_aload_n C dX0_becomeLike_96 0 rfl rfl ?_
        refine ww_aload_n C dX0_becomeLike_97 1 rfl rfl ?_
        refine ww_getD C (by assumption) 5 (by decide) q_f_X0_59 dX0_becomeLike_98 ?_
        refine ww_aload_n C dX0_becomeLike_101 0 rfl rfl ?_
        refine ww_getDf C (by assumption) q_f_X0_41 dX0_becomeLike_102 ?_
        refine ww_alenF (v := 7) C hd rfl dX0_becomeLike_105 ?_
        refine ww_mmin C q_m_X0_62 (Nat.le_of_ble_eq_true rfl) (Nat.le_of_ble_eq_true rfl) (by first | exact Nat.le_of_ble_eq_true rfl | omega) (by first | exact Nat.le_of_ble_eq_true rfl | omega) dX0_becomeLike_106 ?_
        refine ww_putD C (by assumption) 5 (by decide) q_f_X0_59 dX0_becomeLike_109 ?_
        refine ww_iconst (v := 0) C dX0_becomeLike_112 (by decide) ?_
        refine ww_istore_n C dX0_becomeLike_113 2 rfl (by decide) ?_
        refine ww_lv [(0, .ref (gB g + 32)), (1, .ref (gB g + 1)), (2, .int (nI 0))] ⟨rfl, rfl, rfl, trivial⟩ ?_
        exact L3 (f + 1) 0 (Nat.zero_le _) (by omega)
      · have hjn := lp_body (bl_3n hn) q hj (by omega)
        have hPa := isP_of hd (show j < 10 by omega)
        have hPb := isP_of hd1 (show j < 10 by omega)
        refine ww_aload_n C dX0_becomeLike_63 0 rfl rfl ?_
        refine ww_getDp C (by assumption) q_f_X0_24 dX0_becomeLike_64 ?_
        refine ww_iload_n C dX0_becomeLike_67 2 rfl rfl ?_
        refine ww_aaldP C hd (by omega) dX0_becomeLike_68 ?_
        refine ww_aload_n C dX0_becomeLike_69 1 rfl rfl ?_
        refine ww_getDp C (by assumption) q_f_X0_24 dX0_becomeLike_70 ?_
        refine ww_iload_n C dX0_becomeLike_73 2 rfl rfl ?_
        refine ww_aaldP C hd1 (by omega) dX0_becomeLike_74 ?_
        refine ww_callP C mf_X2_becomeLike dX0_becomeLike_75 (ct_X2_becomeLike hPa hPb (by rw [bl_3r (by omega)]; exact H.2.2.2.2.2.2.2.1 j (by omega))) q_m_X0_56 (by assumption) rfl rfl rfl (Nat.le_of_ble_eq_true rfl) (by exact ⟨Nat.le_of_ble_eq_true rfl, Nat.le_of_ble_eq_true rfl⟩) (by exact ⟨Nat.le_of_ble_eq_true rfl, Nat.le_of_ble_eq_true rfl⟩) ?_
        refine ww_aload_n C dX0_becomeLike_78 0 rfl rfl ?_
        refine ww_getDb C (by assumption) q_f_X0_28 dX0_becomeLike_79 ?_
        refine ww_iload_n C dX0_becomeLike_82 2 rfl rfl ?_
        refine ww_aload_n C dX0_becomeLike_83 1 rfl rfl ?_
        refine ww_getDb C (by assumption) q_f_X0_28 dX0_becomeLike_84 ?_
        refine ww_iload_n C dX0_becomeLike_87 2 rfl rfl ?_
        refine ww_iald (n := 10) C (by omega) (fun r => ce_Ba hd1) (by omega) (by omega) dX0_becomeLike_88 ?_
        refine ww_iast (n := 10) C (by omega) (fun r => ce_Ba hd) (by omega) (by omega) dX0_becomeLike_89 ?_
        refine ww_iinc (v := nI (j + 1)) C dX0_becomeLike_90 rfl (nI_inc _) (by decide) ?_
        refine ww_goto C dX0_becomeLike_93 55 (by decide) ?_
        refine ww_lv [(0, .ref (gB g + 32)), (1, .ref (gB g + 1)), (2, .int (nI (j + 1)))] ⟨rfl, rfl, rfl, trivial⟩ ?_
        exact ih (j + 1) hjn (by omega)
  have L1 : ∀ (fu j : Nat), j ≤ 10 → 10 < fu + j → WW g p l e (rK 1 0 0) s m ([.ref (gB g + 32), .ref (gB g + 1)] : List Value).toArray below meth c 3 [] (fd bl_w (bl_0 h) j) [(0, .ref (gB g + 32)), (1, .ref (gB g + 1)), (2, .int (nI j))] 0 0 (MQ below (QW g s.heap.size none (d_like n f h)) ([.ref (gB g + 32), .ref (gB g + 1)] : List Value).toArray s 0 0 (AA g s.heap.size)) 18 [] := by
    intro fu
    induction fu with
    | zero => intro j h1 h2; omega
    | succ fu ih =>
      intro j hj hfu
      refine ww_iload_n C dX0_becomeLike_18 2 rfl rfl ?_
      refine ww_bipush (v := 10) C dX0_becomeLike_19 (by decide) ?_
      refine ww_icmp_ge C dX0_becomeLike_21 45 (by decide) (fun q => ?_) (fun q => ?_)
      · have hjn := lp_exit (show (10 : Int32) = nI 10 from rfl) q hj (by omega)
        subst hjn
        refine ww_aload_n C dX0_becomeLike_45 0 rfl rfl ?_
        refine ww_aload_n C dX0_becomeLike_46 1 rfl rfl ?_
        refine ww_getD C (by assumption) 4 (by decide) q_f_X0_53 dX0_becomeLike_47 ?_
        refine ww_putD C (by assumption) 4 (by decide) q_f_X0_53 dX0_becomeLike_50 ?_
        refine ww_iconst (v := 0) C dX0_becomeLike_53 (by decide) ?_
        refine ww_istore_n C dX0_becomeLike_54 2 rfl (by decide) ?_
        refine ww_lv [(0, .ref (gB g + 32)), (1, .ref (gB g + 1)), (2, .int (nI 0))] ⟨rfl, rfl, rfl, trivial⟩ ?_
        exact L2 (n + 1) 0 (Nat.zero_le _) (by omega)
      · have hjn := lp_body (show (10 : Int32) = nI 10 from rfl) q hj (by omega)
        have hPa := isWt_of hd (show j < 10 by omega)
        have hPb := isWt_of hd1 (show j < 10 by omega)
        refine ww_aload_n C dX0_becomeLike_24 0 rfl rfl ?_
        refine ww_getDw C (by assumption) q_f_X0_17 dX0_becomeLike_25 ?_
        refine ww_iload_n C dX0_becomeLike_28 2 rfl rfl ?_
        refine ww_aaldW C hd (by omega) dX0_becomeLike_29 ?_
        refine ww_aload_n C dX0_becomeLike_30 1 rfl rfl ?_
        refine ww_getDw C (by assumption) q_f_X0_17 dX0_becomeLike_31 ?_
        refine ww_iload_n C dX0_becomeLike_34 2 rfl rfl ?_
        refine ww_aaldW C hd1 (by omega) dX0_becomeLike_35 ?_
        refine ww_callW C mf_X3_becomeLike dX0_becomeLike_36 (ct_X3_becomeLike hPa hPb) q_m_X0_49 (by assumption) rfl rfl rfl (Nat.le_of_ble_eq_true rfl) (by exact ⟨Nat.le_of_ble_eq_true rfl, Nat.le_of_ble_eq_true rfl⟩) (by exact ⟨Nat.le_of_ble_eq_true rfl, Nat.le_of_ble_eq_true rfl⟩) ?_
        refine ww_iinc (v := nI (j + 1)) C dX0_becomeLike_39 rfl (nI_inc _) (by decide) ?_
        refine ww_goto C dX0_becomeLike_42 18 (by decide) ?_
        refine ww_lv [(0, .ref (gB g + 32)), (1, .ref (gB g + 1)), (2, .int (nI (j + 1)))] ⟨rfl, rfl, rfl, trivial⟩ ?_
        exact ih (j + 1) hjn (by omega)
  refine ww_aload_n C dX0_becomeLike_0 0 rfl rfl ?_
  refine ww_aload_n C dX0_becomeLike_1 1 rfl rfl ?_
  refine ww_getD C (by assumption) 6 (by decide) q_f_X0_46 dX0_becomeLike_2 ?_
  refine ww_putD C (by assumption) 6 (by decide) q_f_X0_46 dX0_becomeLike_5 ?_
  refine ww_aload_n C dX0_becomeLike_8 0 rfl rfl ?_
  refine ww_aload_n C dX0_becomeLike_9 1 rfl rfl ?_
  refine ww_getD C (by assumption) 7 (by decide) q_f_X0_9 dX0_becomeLike_10 ?_
  refine ww_putD C (by assumption) 7 (by decide) q_f_X0_9 dX0_becomeLike_13 ?_
  refine ww_iconst (v := 0) C dX0_becomeLike_16 (by decide) ?_
  refine ww_istore_n C dX0_becomeLike_17 2 rfl (by decide) ?_
  refine ww_lv [(0, .ref (gB g + 32)), (1, .ref (gB g + 1)), (2, .int (nI 0))] ⟨rfl, rfl, rfl, trivial⟩ ?_
  exact L1 (10 + 1) 0 (Nat.zero_le _) (by omega)
end
