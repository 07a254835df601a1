-- 12: X3_init
theorem c12_0 : cd 12 0 = some (0, .aload_n 0, 1, []) := by decide +kernel
theorem x12_0 {d : Nat} {a1 : Value} {x : Nat} {h : AHp} : Rf d 12 0 [.ref x, a1] [] h = Rf d 12 1 [.ref x, a1] [.ref x] h := Rf_go ((stp_of c12_0).trans rfl)
theorem c12_1 : cd 12 1 = some (1, .invokespecial 3, 3, [(1001, 0)]) := by decide +kernel
theorem x12_1 {d : Nat} {a0 a1 : Value} {s0 : Nat} {h : AHp} : Rf d 12 1 [a0, a1] [.ref s0] h = Rf d 12 4 [a0, a1] [] h := Rf_go ((stp_of c12_1).trans rfl)
theorem c12_4 : cd 12 4 = some (4, .aload_n 0, 1, []) := by decide +kernel
theorem x12_4 {d : Nat} {a1 : Value} {x : Nat} {h : AHp} : Rf d 12 4 [.ref x, a1] [] h = Rf d 12 5 [.ref x, a1] [.ref x] h := Rf_go ((stp_of c12_4).trans rfl)
theorem c12_5 : cd 12 5 = some (5, .bipush 20, 2, []) := by decide +kernel
theorem x12_5 {d : Nat} {a0 a1 : Value} {s0 : Nat} {h : AHp} : Rf d 12 5 [a0, a1] [.ref s0] h = Rf d 12 7 [a0, a1] [.int 20, .ref s0] h := Rf_go ((stp_of c12_5).trans rfl)
theorem c12_7 : cd 12 7 = some (7, .putfield 9, 3, [(3, 0)]) := by decide +kernel
theorem x12_7 {d : Nat} {a0 a1 : Value} {s0 : Int32} {s1 : Nat} {h : AHp} : Rf d 12 7 [a0, a1] [.int s0, .ref s1] h = if cls (h.1 s1) = 3 ∧ oL (h.1 s1) = 10 then Rf d 12 10 [a0, a1] [] (hset h s1 (oSet (h.1 s1) 0 (.int s0))) else Rx d 12 7 [a0, a1] [.int s0, .ref s1] h := putV c12_7 rfl (fMay_i (by decide +kernel))
theorem c12_10 : cd 12 10 = some (10, .aload_n 0, 1, []) := by decide +kernel
theorem x12_10 {d : Nat} {a1 : Value} {x : Nat} {h : AHp} : Rf d 12 10 [.ref x, a1] [] h = Rf d 12 11 [.ref x, a1] [.ref x] h := Rf_go ((stp_of c12_10).trans rfl)
theorem c12_11 : cd 12 11 = some (11, .iconst 5, 1, []) := by decide +kernel
theorem x12_11 {d : Nat} {a0 a1 : Value} {s0 : Nat} {h : AHp} : Rf d 12 11 [a0, a1] [.ref s0] h = Rf d 12 12 [a0, a1] [.int 5, .ref s0] h := Rf_go ((stp_of c12_11).trans rfl)
theorem c12_12 : cd 12 12 = some (12, .putfield 15, 3, [(3, 1)]) := by decide +kernel
theorem x12_12 {d : Nat} {a0 a1 : Value} {s0 : Int32} {s1 : Nat} {h : AHp} : Rf d 12 12 [a0, a1] [.int s0, .ref s1] h = if cls (h.1 s1) = 3 ∧ oL (h.1 s1) = 10 then Rf d 12 15 [a0, a1] [] (hset h s1 (oSet (h.1 s1) 1 (.int s0))) else Rx d 12 12 [a0, a1] [.int s0, .ref s1] h := putV c12_12 rfl (fMay_i (by decide +kernel))
theorem c12_15 : cd 12 15 = some (15, .aload_n 0, 1, []) := by decide +kernel
theorem x12_15 {d : Nat} {a1 : Value} {x : Nat} {h : AHp} : Rf d 12 15 [.ref x, a1] [] h = Rf d 12 16 [.ref x, a1] [.ref x] h := Rf_go ((stp_of c12_15).trans rfl)
theorem c12_16 : cd 12 16 = some (16, .bipush 10, 2, []) := by decide +kernel
theorem x12_16 {d : Nat} {a0 a1 : Value} {s0 : Nat} {h : AHp} : Rf d 12 16 [a0, a1] [.ref s0] h = Rf d 12 18 [a0, a1] [.int 10, .ref s0] h := Rf_go ((stp_of c12_16).trans rfl)
theorem c12_18 : cd 12 18 = some (18, .newarray .int, 2, [(0, 0)]) := by decide +kernel
theorem x12_18 {d : Nat} {a0 a1 : Value} {s0 : Int32} {s1 : Nat} {h : AHp} : Rf d 12 18 [a0, a1] [.int s0, .ref s1] h = if okN s0 = true then Rf d 12 20 [a0, a1] [.ref h.2.1, .ref s1] (hnew h (.inl (0, s0.toNatClampNeg, .inl (fun _ => 0))) s0.toNatClampNeg) else Rx d 12 18 [a0, a1] [.int s0, .ref s1] h := nwA c12_18
theorem c12_20 : cd 12 20 = some (20, .putfield 18, 3, [(3, 5)]) := by decide +kernel
theorem x12_20 {d : Nat} {a0 a1 : Value} {s0 : Nat} {s1 : Nat} {h : AHp} : Rf d 12 20 [a0, a1] [.ref s0, .ref s1] h = if cls (h.1 s1) = 3 ∧ oL (h.1 s1) = 10 then Rf d 12 23 [a0, a1] [] (hset h s1 (oSet (h.1 s1) 5 (.ref s0))) else Rx d 12 20 [a0, a1] [.ref s0, .ref s1] h := putV c12_20 rfl (fMay_a (t := .int) (by decide +kernel))
theorem c12_23 : cd 12 23 = some (23, .aload_n 0, 1, []) := by decide +kernel
theorem x12_23 {d : Nat} {a1 : Value} {x : Nat} {h : AHp} : Rf d 12 23 [.ref x, a1] [] h = Rf d 12 24 [.ref x, a1] [.ref x] h := Rf_go ((stp_of c12_23).trans rfl)
theorem c12_24 : cd 12 24 = some (24, .bipush 10, 2, []) := by decide +kernel
theorem x12_24 {d : Nat} {a0 a1 : Value} {s0 : Nat} {h : AHp} : Rf d 12 24 [a0, a1] [.ref s0] h = Rf d 12 26 [a0, a1] [.int 10, .ref s0] h := Rf_go ((stp_of c12_24).trans rfl)
theorem c12_26 : cd 12 26 = some (26, .newarray .int, 2, [(0, 0)]) := by decide +kernel
theorem x12_26 {d : Nat} {a0 a1 : Value} {s0 : Int32} {s1 : Nat} {h : AHp} : Rf d 12 26 [a0, a1] [.int s0, .ref s1] h = if okN s0 = true then Rf d 12 28 [a0, a1] [.ref h.2.1, .ref s1] (hnew h (.inl (0, s0.toNatClampNeg, .inl (fun _ => 0))) s0.toNatClampNeg) else Rx d 12 26 [a0, a1] [.int s0, .ref s1] h := nwA c12_26
theorem c12_28 : cd 12 28 = some (28, .putfield 22, 3, [(3, 6)]) := by decide +kernel
theorem x12_28 {d : Nat} {a0 a1 : Value} {s0 : Nat} {s1 : Nat} {h : AHp} : Rf d 12 28 [a0, a1] [.ref s0, .ref s1] h = if cls (h.1 s1) = 3 ∧ oL (h.1 s1) = 10 then Rf d 12 31 [a0, a1] [] (hset h s1 (oSet (h.1 s1) 6 (.ref s0))) else Rx d 12 28 [a0, a1] [.ref s0, .ref s1] h := putV c12_28 rfl (fMay_a (t := .int) (by decide +kernel))
theorem c12_31 : cd 12 31 = some (31, .aload_n 0, 1, []) := by decide +kernel
theorem x12_31 {d : Nat} {a1 : Value} {x : Nat} {h : AHp} : Rf d 12 31 [.ref x, a1] [] h = Rf d 12 32 [.ref x, a1] [.ref x] h := Rf_go ((stp_of c12_31).trans rfl)
theorem c12_32 : cd 12 32 = some (32, .bipush 10, 2, []) := by decide +kernel
theorem x12_32 {d : Nat} {a0 a1 : Value} {s0 : Nat} {h : AHp} : Rf d 12 32 [a0, a1] [.ref s0] h = Rf d 12 34 [a0, a1] [.int 10, .ref s0] h := Rf_go ((stp_of c12_32).trans rfl)
theorem c12_34 : cd 12 34 = some (34, .newarray .int, 2, [(0, 0)]) := by decide +kernel
theorem x12_34 {d : Nat} {a0 a1 : Value} {s0 : Int32} {s1 : Nat} {h : AHp} : Rf d 12 34 [a0, a1] [.int s0, .ref s1] h = if okN s0 = true then Rf d 12 36 [a0, a1] [.ref h.2.1, .ref s1] (hnew h (.inl (0, s0.toNatClampNeg, .inl (fun _ => 0))) s0.toNatClampNeg) else Rx d 12 34 [a0, a1] [.int s0, .ref s1] h := nwA c12_34
theorem c12_36 : cd 12 36 = some (36, .putfield 25, 3, [(3, 7)]) := by decide +kernel
theorem x12_36 {d : Nat} {a0 a1 : Value} {s0 : Nat} {s1 : Nat} {h : AHp} : Rf d 12 36 [a0, a1] [.ref s0, .ref s1] h = if cls (h.1 s1) = 3 ∧ oL (h.1 s1) = 10 then Rf d 12 39 [a0, a1] [] (hset h s1 (oSet (h.1 s1) 7 (.ref s0))) else Rx d 12 36 [a0, a1] [.ref s0, .ref s1] h := putV c12_36 rfl (fMay_a (t := .int) (by decide +kernel))
theorem c12_39 : cd 12 39 = some (39, .aload_n 0, 1, []) := by decide +kernel
theorem x12_39 {d : Nat} {a1 : Value} {x : Nat} {h : AHp} : Rf d 12 39 [.ref x, a1] [] h = Rf d 12 40 [.ref x, a1] [.ref x] h := Rf_go ((stp_of c12_39).trans rfl)
theorem c12_40 : cd 12 40 = some (40, .aload_n 1, 1, []) := by decide +kernel
theorem x12_40 {d : Nat} {a0 : Value} {s0 : Nat} {x : Nat} {h : AHp} : Rf d 12 40 [a0, .ref x] [.ref s0] h = Rf d 12 41 [a0, .ref x] [.ref x, .ref s0] h := Rf_go ((stp_of c12_40).trans rfl)
theorem c12_41 : cd 12 41 = some (41, .putfield 28, 3, [(3, 2)]) := by decide +kernel
theorem x12_41 {d : Nat} {a0 a1 : Value} {s0 : Nat} {s1 : Nat} {h : AHp} : Rf d 12 41 [a0, a1] [.ref s0, .ref s1] h = if cls (h.1 s1) = 3 ∧ oL (h.1 s1) = 10 then Rf d 12 44 [a0, a1] [] (hset h s1 (oSet (h.1 s1) 2 (.ref s0))) else Rx d 12 41 [a0, a1] [.ref s0, .ref s1] h := putV c12_41 rfl (fMay_a (t := .byte) (by decide +kernel))
theorem c12_44 : cd 12 44 = some (44, .aload_n 0, 1, []) := by decide +kernel
theorem x12_44 {d : Nat} {a1 : Value} {x : Nat} {h : AHp} : Rf d 12 44 [.ref x, a1] [] h = Rf d 12 45 [.ref x, a1] [.ref x] h := Rf_go ((stp_of c12_44).trans rfl)
theorem c12_45 : cd 12 45 = some (45, .aload_n 1, 1, []) := by decide +kernel
theorem x12_45 {d : Nat} {a0 : Value} {s0 : Nat} {x : Nat} {h : AHp} : Rf d 12 45 [a0, .ref x] [.ref s0] h = Rf d 12 46 [a0, .ref x] [.ref x, .ref s0] h := Rf_go ((stp_of c12_45).trans rfl)
theorem c12_46 : cd 12 46 = some (46, .arraylength, 1, []) := by decide +kernel
theorem x12_46 {d : Nat} {a0 a1 : Value} {s0 : Nat} {s1 : Nat} {h : AHp} : Rf d 12 46 [a0, a1] [.ref s0, .ref s1] h = if aT (h.1 s0) = 0 ∨ aT (h.1 s0) = 1 ∨ aT (h.1 s0) = 10 ∨ aT (h.1 s0) = 11 then Rf d 12 47 [a0, a1] [.int (nI (aN (h.1 s0))), .ref s1] h else Rx d 12 46 [a0, a1] [.ref s0, .ref s1] h := alI c12_46
theorem c12_47 : cd 12 47 = some (47, .newarray .int, 2, [(0, 0)]) := by decide +kernel
theorem x12_47 {d : Nat} {a0 a1 : Value} {s0 : Int32} {s1 : Nat} {h : AHp} : Rf d 12 47 [a0, a1] [.int s0, .ref s1] h = if okN s0 = true then Rf d 12 49 [a0, a1] [.ref h.2.1, .ref s1] (hnew h (.inl (0, s0.toNatClampNeg, .inl (fun _ => 0))) s0.toNatClampNeg) else Rx d 12 47 [a0, a1] [.int s0, .ref s1] h := nwA c12_47
theorem c12_49 : cd 12 49 = some (49, .putfield 32, 3, [(3, 8)]) := by decide +kernel
theorem x12_49 {d : Nat} {a0 a1 : Value} {s0 : Nat} {s1 : Nat} {h : AHp} : Rf d 12 49 [a0, a1] [.ref s0, .ref s1] h = if cls (h.1 s1) = 3 ∧ oL (h.1 s1) = 10 then Rf d 12 52 [a0, a1] [] (hset h s1 (oSet (h.1 s1) 8 (.ref s0))) else Rx d 12 49 [a0, a1] [.ref s0, .ref s1] h := putV c12_49 rfl (fMay_a (t := .int) (by decide +kernel))
theorem c12_52 : cd 12 52 = some (52, .return_, 1, []) := by decide +kernel
theorem x12_52 {d : Nat} {a0 a1 : Value} {h : AHp} : Rf d 12 52 [a0, a1] [] h = some (none, h) := Rf_end (endV c12_52 (by decide +kernel))
-- 13: X3_readText
theorem c13_0 : cd 13 0 = some (0, .iconst 0, 1, []) := by decide +kernel
theorem x13_0 {d : Nat} {a0 a1 a2 : Value} {h : AHp} : Rf d 13 0 [a0, a1, a2] [] h = Rf d 13 1 [a0, a1, a2] [.int 0] h := Rf_go ((stp_of c13_0).trans rfl)
theorem c13_1 : cd 13 1 = some (1, .istore_n 1, 1, []) := by decide +kernel
theorem x13_1 {d : Nat} {a0 a1 a2 : Value} {s0 : Int32} {h : AHp} : Rf d 13 1 [a0, a1, a2] [.int s0] h = Rf d 13 2 [a0, .int s0, a2] [] h := Rf_go ((stp_of c13_1).trans rfl)
theorem c13_2 : cd 13 2 = some (2, .iload_n 1, 1, []) := by decide +kernel
theorem x13_2 {d : Nat} {a0 a2 : Value} {x : Int32} {h : AHp} : Rf d 13 2 [a0, .int x, a2] [] h = Rf d 13 3 [a0, .int x, a2] [.int x] h := Rf_go ((stp_of c13_2).trans rfl)
theorem c13_3 : cd 13 3 = some (3, .bipush 10, 2, []) := by decide +kernel
theorem x13_3 {d : Nat} {a0 a1 a2 : Value} {s0 : Int32} {h : AHp} : Rf d 13 3 [a0, a1, a2] [.int s0] h = Rf d 13 5 [a0, a1, a2] [.int 10, .int s0] h := Rf_go ((stp_of c13_3).trans rfl)
theorem c13_5 : cd 13 5 = some (5, .if_icmp .ge 69, 3, [(74, 0)]) := by decide +kernel
theorem x13_5 {d : Nat} {a0 a1 a2 : Value} {s0 : Int32} {s1 : Int32} {h : AHp} : Rf d 13 5 [a0, a1, a2] [.int s0, .int s1] h = if s1 < s0 then Rf d 13 8 [a0, a1, a2] [] h else Rf d 13 74 [a0, a1, a2] [] h := Rf_brn ((stp_of c13_5).trans rfl)
theorem c13_74 : cd 13 74 = some (74, .aload_n 0, 1, []) := by decide +kernel
theorem x13_74 {d : Nat} {a1 a2 : Value} {x : Nat} {h : AHp} : Rf d 13 74 [.ref x, a1, a2] [] h = Rf d 13 75 [.ref x, a1, a2] [.ref x] h := Rf_go ((stp_of c13_74).trans rfl)
theorem c13_75 : cd 13 75 = some (75, .getfield 39, 3, [(3, 3)]) := by decide +kernel
theorem x13_75 {d : Nat} {a0 a1 a2 : Value} {s0 : Nat} {h : AHp} : Rf d 13 75 [a0, a1, a2] [.ref s0] h = if cls (h.1 s0) = 3 ∧ oKi (h.1 s0) 3 = true then Rf d 13 78 [a0, a1, a2] [.int (oN (h.1 s0) 3)] h else Rx d 13 75 [a0, a1, a2] [.ref s0] h := getI c13_75
theorem c13_78 : cd 13 78 = some (78, .ireturn, 1, []) := by decide +kernel
theorem x13_78 {d : Nat} {a0 a1 a2 : Value} {s0 : Int32} {h : AHp} : Rf d 13 78 [a0, a1, a2] [.int s0] h = some (some (.int s0), h) := Rf_end (by rw [stp_of c13_78]; simp only [stpI]; rw [if_pos (show retI (mH 13).2.2.1 s0 = true from retI_int)])
theorem c13_8 : cd 13 8 = some (8, .aload_n 0, 1, []) := by decide +kernel
theorem x13_8 {d : Nat} {a1 a2 : Value} {x : Nat} {h : AHp} : Rf d 13 8 [.ref x, a1, a2] [] h = Rf d 13 9 [.ref x, a1, a2] [.ref x] h := Rf_go ((stp_of c13_8).trans rfl)
theorem c13_9 : cd 13 9 = some (9, .invokevirtual 35, 3, [(3, 14)]) := by decide +kernel
theorem xc13_9 {d : Nat} {a0 a1 a2 : Value} {s0 : Nat} {h : AHp} {h1 : AHp} {v : Int32} (hr : cls (h.1 s0) = 3) (hq : Rf d 14 0 [.ref s0, noV, noV] [] h = some (some (.int v), h1)) : Rf (d + 1) 13 9 [a0, a1, a2] [.ref s0] h = Rf (d + 1) 13 12 [a0, a1, a2] [.int v] h1 := clV (c := 14) (as := []) c13_9 rfl (by simp [isV]) (by rw [hr]; rfl) hq
theorem c13_12 : cd 13 12 = some (12, .ifCond .ne 8, 3, [(20, 0)]) := by decide +kernel
theorem x13_12 {d : Nat} {a0 a1 a2 : Value} {s0 : Int32} {h : AHp} : Rf d 13 12 [a0, a1, a2] [.int s0] h = if s0 = 0 then Rf d 13 15 [a0, a1, a2] [] h else Rf d 13 20 [a0, a1, a2] [] h := Rf_brn ((stp_of c13_12).trans rfl)
theorem c13_20 : cd 13 20 = some (20, .iload_n 1, 1, []) := by decide +kernel
theorem x13_20 {d : Nat} {a0 a2 : Value} {x : Int32} {h : AHp} : Rf d 13 20 [a0, .int x, a2] [] h = Rf d 13 21 [a0, .int x, a2] [.int x] h := Rf_go ((stp_of c13_20).trans rfl)
theorem c13_21 : cd 13 21 = some (21, .iconst 1, 1, []) := by decide +kernel
theorem x13_21 {d : Nat} {a0 a1 a2 : Value} {s0 : Int32} {h : AHp} : Rf d 13 21 [a0, a1, a2] [.int s0] h = Rf d 13 22 [a0, a1, a2] [.int 1, .int s0] h := Rf_go ((stp_of c13_21).trans rfl)
theorem c13_22 : cd 13 22 = some (22, .iadd, 1, []) := by decide +kernel
theorem x13_22 {d : Nat} {a0 a1 a2 : Value} {s0 : Int32} {s1 : Int32} {h : AHp} : Rf d 13 22 [a0, a1, a2] [.int s0, .int s1] h = Rf d 13 23 [a0, a1, a2] [.int (s1 + s0)] h := Rf_go ((stp_of c13_22).trans rfl)
theorem c13_23 : cd 13 23 = some (23, .bipush 10, 2, []) := by decide +kernel
theorem x13_23 {d : Nat} {a0 a1 a2 : Value} {s0 : Int32} {h : AHp} : Rf d 13 23 [a0, a1, a2] [.int s0] h = Rf d 13 25 [a0, a1, a2] [.int 10, .int s0] h := Rf_go ((stp_of c13_23).trans rfl)
theorem c13_25 : cd 13 25 = some (25, .if_icmp .ge 16, 3, [(41, 0)]) := by decide +kernel
theorem x13_25 {d : Nat} {a0 a1 a2 : Value} {s0 : Int32} {s1 : Int32} {h : AHp} : Rf d 13 25 [a0, a1, a2] [.int s0, .int s1] h = if s1 < s0 then Rf d 13 28 [a0, a1, a2] [] h else Rf d 13 41 [a0, a1, a2] [] h := Rf_brn ((stp_of c13_25).trans rfl)
theorem c13_41 : cd 13 41 = some (41, .iconst 0, 1, []) := by decide +kernel
theorem x13_41 {d : Nat} {a0 a1 a2 : Value} {h : AHp} : Rf d 13 41 [a0, a1, a2] [] h = Rf d 13 42 [a0, a1, a2] [.int 0] h := Rf_go ((stp_of c13_41).trans rfl)
theorem c13_42 : cd 13 42 = some (42, .istore_n 2, 1, []) := by decide +kernel
theorem x13_42 {d : Nat} {a0 a1 a2 : Value} {s0 : Int32} {h : AHp} : Rf d 13 42 [a0, a1, a2] [.int s0] h = Rf d 13 43 [a0, a1, .int s0] [] h := Rf_go ((stp_of c13_42).trans rfl)
theorem c13_43 : cd 13 43 = some (43, .iload_n 2, 1, []) := by decide +kernel
theorem x13_43 {d : Nat} {a0 a1 : Value} {x : Int32} {h : AHp} : Rf d 13 43 [a0, a1, .int x] [] h = Rf d 13 44 [a0, a1, .int x] [.int x] h := Rf_go ((stp_of c13_43).trans rfl)
theorem c13_44 : cd 13 44 = some (44, .ifCond .ne 24, 3, [(68, 0)]) := by decide +kernel
theorem x13_44 {d : Nat} {a0 a1 a2 : Value} {s0 : Int32} {h : AHp} : Rf d 13 44 [a0, a1, a2] [.int s0] h = if s0 = 0 then Rf d 13 47 [a0, a1, a2] [] h else Rf d 13 68 [a0, a1, a2] [] h := Rf_brn ((stp_of c13_44).trans rfl)
theorem c13_68 : cd 13 68 = some (68, .iinc 1 1, 3, []) := by decide +kernel
theorem x13_68 {d : Nat} {a0 a2 : Value} {x : Int32} {h : AHp} : Rf d 13 68 [a0, .int x, a2] [] h = Rf d 13 71 [a0, .int (x + 1), a2] [] h := Rf_go ((stp_of c13_68).trans rfl)
theorem c13_71 : cd 13 71 = some (71, .goto (-69), 3, [(2, 0)]) := by decide +kernel
theorem x13_71 {d : Nat} {a0 a1 a2 : Value} {h : AHp} : Rf d 13 71 [a0, a1, a2] [] h = Rf d 13 2 [a0, a1, a2] [] h := Rf_go ((stp_of c13_71).trans rfl)
theorem c13_47 : cd 13 47 = some (47, .aload_n 0, 1, []) := by decide +kernel
theorem x13_47 {d : Nat} {a1 a2 : Value} {x : Nat} {h : AHp} : Rf d 13 47 [.ref x, a1, a2] [] h = Rf d 13 48 [.ref x, a1, a2] [.ref x] h := Rf_go ((stp_of c13_47).trans rfl)
theorem c13_48 : cd 13 48 = some (48, .getfield 39, 3, [(3, 3)]) := by decide +kernel
theorem x13_48 {d : Nat} {a0 a1 a2 : Value} {s0 : Nat} {h : AHp} : Rf d 13 48 [a0, a1, a2] [.ref s0] h = if cls (h.1 s0) = 3 ∧ oKi (h.1 s0) 3 = true then Rf d 13 51 [a0, a1, a2] [.int (oN (h.1 s0) 3)] h else Rx d 13 48 [a0, a1, a2] [.ref s0] h := getI c13_48
theorem c13_51 : cd 13 51 = some (51, .aload_n 0, 1, []) := by decide +kernel
theorem x13_51 {d : Nat} {a1 a2 : Value} {s0 : Int32} {x : Nat} {h : AHp} : Rf d 13 51 [.ref x, a1, a2] [.int s0] h = Rf d 13 52 [.ref x, a1, a2] [.ref x, .int s0] h := Rf_go ((stp_of c13_51).trans rfl)
theorem c13_52 : cd 13 52 = some (52, .getfield 28, 3, [(3, 2)]) := by decide +kernel
theorem x13_52 {d : Nat} {a0 a1 a2 : Value} {s0 : Nat} {s1 : Int32} {h : AHp} : Rf d 13 52 [a0, a1, a2] [.ref s0, .int s1] h = if cls (h.1 s0) = 3 ∧ oKr (h.1 s0) 2 = true then Rf d 13 55 [a0, a1, a2] [.ref (oR (h.1 s0) 2), .int s1] h else Rx d 13 52 [a0, a1, a2] [.ref s0, .int s1] h := getR c13_52
theorem c13_55 : cd 13 55 = some (55, .arraylength, 1, []) := by decide +kernel
theorem x13_55 {d : Nat} {a0 a1 a2 : Value} {s0 : Nat} {s1 : Int32} {h : AHp} : Rf d 13 55 [a0, a1, a2] [.ref s0, .int s1] h = if aT (h.1 s0) = 0 ∨ aT (h.1 s0) = 1 ∨ aT (h.1 s0) = 10 ∨ aT (h.1 s0) = 11 then Rf d 13 56 [a0, a1, a2] [.int (nI (aN (h.1 s0))), .int s1] h else Rx d 13 55 [a0, a1, a2] [.ref s0, .int s1] h := alI c13_55
theorem c13_56 : cd 13 56 = some (56, .if_icmp .ne 7, 3, [(63, 0)]) := by decide +kernel
theorem x13_56 {d : Nat} {a0 a1 a2 : Value} {s0 : Int32} {s1 : Int32} {h : AHp} : Rf d 13 56 [a0, a1, a2] [.int s0, .int s1] h = if s1 = s0 then Rf d 13 59 [a0, a1, a2] [] h else Rf d 13 63 [a0, a1, a2] [] h := Rf_brn ((stp_of c13_56).trans rfl)
theorem c13_63 : cd 13 63 = some (63, .aload_n 0, 1, []) := by decide +kernel
theorem x13_63 {d : Nat} {a1 a2 : Value} {x : Nat} {h : AHp} : Rf d 13 63 [.ref x, a1, a2] [] h = Rf d 13 64 [.ref x, a1, a2] [.ref x] h := Rf_go ((stp_of c13_63).trans rfl)
theorem c13_64 : cd 13 64 = some (64, .getfield 39, 3, [(3, 3)]) := by decide +kernel
theorem x13_64 {d : Nat} {a0 a1 a2 : Value} {s0 : Nat} {h : AHp} : Rf d 13 64 [a0, a1, a2] [.ref s0] h = if cls (h.1 s0) = 3 ∧ oKi (h.1 s0) 3 = true then Rf d 13 67 [a0, a1, a2] [.int (oN (h.1 s0) 3)] h else Rx d 13 64 [a0, a1, a2] [.ref s0] h := getI c13_64
theorem c13_67 : cd 13 67 = some (67, .ireturn, 1, []) := by decide +kernel
theorem x13_67 {d : Nat} {a0 a1 a2 : Value} {s0 : Int32} {h : AHp} : Rf d 13 67 [a0, a1, a2] [.int s0] h = some (some (.int s0), h) := Rf_end (by rw [stp_of c13_67]; simp only [stpI]; rw [if_pos (show retI (mH 13).2.2.1 s0 = true from retI_int)])
theorem c13_59 : cd 13 59 = some (59, .iconst (-1), 1, []) := by decide +kernel
theorem x13_59 {d : Nat} {a0 a1 a2 : Value} {h : AHp} : Rf d 13 59 [a0, a1, a2] [] h = Rf d 13 60 [a0, a1, a2] [.int (-1)] h := Rf_go ((stp_of c13_59).trans rfl)
theorem c13_60 : cd 13 60 = some (60, .goto 7, 3, [(67, 0)]) := by decide +kernel
theorem x13_60 {d : Nat} {a0 a1 a2 : Value} {s0 : Int32} {h : AHp} : Rf d 13 60 [a0, a1, a2] [.int s0] h = Rf d 13 67 [a0, a1, a2] [.int s0] h := Rf_go ((stp_of c13_60).trans rfl)
theorem c13_28 : cd 13 28 = some (28, .aload_n 0, 1, []) := by decide +kernel
theorem x13_28 {d : Nat} {a1 a2 : Value} {x : Nat} {h : AHp} : Rf d 13 28 [.ref x, a1, a2] [] h = Rf d 13 29 [.ref x, a1, a2] [.ref x] h := Rf_go ((stp_of c13_28).trans rfl)
theorem c13_29 : cd 13 29 = some (29, .bipush 59, 2, []) := by decide +kernel
theorem x13_29 {d : Nat} {a0 a1 a2 : Value} {s0 : Nat} {h : AHp} : Rf d 13 29 [a0, a1, a2] [.ref s0] h = Rf d 13 31 [a0, a1, a2] [.int 59, .ref s0] h := Rf_go ((stp_of c13_29).trans rfl)
theorem c13_31 : cd 13 31 = some (31, .invokevirtual 42, 3, [(3, 21)]) := by decide +kernel
theorem xc13_31 {d : Nat} {a0 a1 a2 : Value} {s0 : Int32} {s1 : Nat} {h : AHp} {h1 : AHp} {v : Int32} (hr : cls (h.1 s1) = 3) (hq : Rf d 21 0 [.ref s1, .int s0] [] h = some (some (.int v), h1)) : Rf (d + 1) 13 31 [a0, a1, a2] [.int s0, .ref s1] h = Rf (d + 1) 13 34 [a0, a1, a2] [.int v] h1 := clV (c := 21) (as := [.int s0]) c13_31 rfl (by simp [isV]) (by rw [hr]; rfl) hq
theorem c13_34 : cd 13 34 = some (34, .ifCond .eq 7, 3, [(41, 0)]) := by decide +kernel
theorem x13_34 {d : Nat} {a0 a1 a2 : Value} {s0 : Int32} {h : AHp} : Rf d 13 34 [a0, a1, a2] [.int s0] h = if s0 = 0 then Rf d 13 41 [a0, a1, a2] [] h else Rf d 13 37 [a0, a1, a2] [] h := Rf_brd ((stp_of c13_34).trans rfl)
theorem c13_37 : cd 13 37 = some (37, .iconst 1, 1, []) := by decide +kernel
theorem x13_37 {d : Nat} {a0 a1 a2 : Value} {h : AHp} : Rf d 13 37 [a0, a1, a2] [] h = Rf d 13 38 [a0, a1, a2] [.int 1] h := Rf_go ((stp_of c13_37).trans rfl)
theorem c13_38 : cd 13 38 = some (38, .goto 4, 3, [(42, 0)]) := by decide +kernel
theorem x13_38 {d : Nat} {a0 a1 a2 : Value} {s0 : Int32} {h : AHp} : Rf d 13 38 [a0, a1, a2] [.int s0] h = Rf d 13 42 [a0, a1, a2] [.int s0] h := Rf_go ((stp_of c13_38).trans rfl)
theorem c13_15 : cd 13 15 = some (15, .aload_n 0, 1, []) := by decide +kernel
theorem x13_15 {d : Nat} {a1 a2 : Value} {x : Nat} {h : AHp} : Rf d 13 15 [.ref x, a1, a2] [] h = Rf d 13 16 [.ref x, a1, a2] [.ref x] h := Rf_go ((stp_of c13_15).trans rfl)
theorem c13_16 : cd 13 16 = some (16, .getfield 39, 3, [(3, 3)]) := by decide +kernel
theorem x13_16 {d : Nat} {a0 a1 a2 : Value} {s0 : Nat} {h : AHp} : Rf d 13 16 [a0, a1, a2] [.ref s0] h = if cls (h.1 s0) = 3 ∧ oKi (h.1 s0) 3 = true then Rf d 13 19 [a0, a1, a2] [.int (oN (h.1 s0) 3)] h else Rx d 13 16 [a0, a1, a2] [.ref s0] h := getI c13_16
theorem c13_19 : cd 13 19 = some (19, .ireturn, 1, []) := by decide +kernel
theorem x13_19 {d : Nat} {a0 a1 a2 : Value} {s0 : Int32} {h : AHp} : Rf d 13 19 [a0, a1, a2] [.int s0] h = some (some (.int s0), h) := Rf_end (by rw [stp_of c13_19]; simp only [stpI]; rw [if_pos (show retI (mH 13).2.2.1 s0 = true from retI_int)])
-- 14: X3_readClause
theorem c14_0 : cd 14 0 = some (0, .aload_n 0, 1, []) := by decide +kernel
theorem x14_0 {d : Nat} {a1 a2 : Value} {x : Nat} {h : AHp} : Rf d 14 0 [.ref x, a1, a2] [] h = Rf d 14 1 [.ref x, a1, a2] [.ref x] h := Rf_go ((stp_of c14_0).trans rfl)
theorem c14_1 : cd 14 1 = some (1, .ldc 46, 2, [(1, 1)]) := by decide +kernel
theorem x14_1 {d : Nat} {a0 a1 a2 : Value} {s0 : Nat} {h : AHp} : Rf d 14 1 [a0, a1, a2] [.ref s0] h = Rf d 14 3 [a0, a1, a2] [.ref 1, .ref s0] h := Rf_go ((stp_of c14_1).trans rfl)
theorem c14_3 : cd 14 3 = some (3, .invokevirtual 48, 3, [(3, 23)]) := by decide +kernel
theorem xc14_3 {d : Nat} {a0 a1 a2 : Value} {s0 : Nat} {s1 : Nat} {h : AHp} {h1 : AHp} {v : Int32} (hr : cls (h.1 s1) = 3) (hq : Rf d 23 0 [.ref s1, .ref s0, noV] [] h = some (some (.int v), h1)) : Rf (d + 1) 14 3 [a0, a1, a2] [.ref s0, .ref s1] h = Rf (d + 1) 14 6 [a0, a1, a2] [.int v] h1 := clV (c := 23) (as := [.ref s0]) c14_3 rfl (by simp [isV]) (by rw [hr]; rfl) hq
theorem c14_6 : cd 14 6 = some (6, .istore_n 1, 1, []) := by decide +kernel
theorem x14_6 {d : Nat} {a0 a1 a2 : Value} {s0 : Int32} {h : AHp} : Rf d 14 6 [a0, a1, a2] [.int s0] h = Rf d 14 7 [a0, .int s0, a2] [] h := Rf_go ((stp_of c14_6).trans rfl)
theorem c14_7 : cd 14 7 = some (7, .iload_n 1, 1, []) := by decide +kernel
theorem x14_7 {d : Nat} {a0 a2 : Value} {x : Int32} {h : AHp} : Rf d 14 7 [a0, .int x, a2] [] h = Rf d 14 8 [a0, .int x, a2] [.int x] h := Rf_go ((stp_of c14_7).trans rfl)
theorem c14_8 : cd 14 8 = some (8, .ifCond .lt 23, 3, [(31, 0)]) := by decide +kernel
theorem x14_8 {d : Nat} {a0 a1 a2 : Value} {s0 : Int32} {h : AHp} : Rf d 14 8 [a0, a1, a2] [.int s0] h = if s0 < 0 then Rf d 14 31 [a0, a1, a2] [] h else Rf d 14 11 [a0, a1, a2] [] h := Rf_brd ((stp_of c14_8).trans rfl)
theorem c14_31 : cd 14 31 = some (31, .iconst 0, 1, []) := by decide +kernel
theorem x14_31 {d : Nat} {a0 a1 a2 : Value} {h : AHp} : Rf d 14 31 [a0, a1, a2] [] h = Rf d 14 32 [a0, a1, a2] [.int 0] h := Rf_go ((stp_of c14_31).trans rfl)
theorem c14_32 : cd 14 32 = some (32, .ireturn, 1, []) := by decide +kernel
theorem x14_32 {d : Nat} {a0 a1 a2 : Value} {s0 : Int32} {h : AHp} : Rf d 14 32 [a0, a1, a2] [.int s0] h = if retI (some .boolean) s0 = true then some (some (.int s0), h) else Rx d 14 32 [a0, a1, a2] [.int s0] h := Rf_ife (fun hk => by rw [stp_of c14_32]; exact if_pos hk)
theorem c14_11 : cd 14 11 = some (11, .aload_n 0, 1, []) := by decide +kernel
theorem x14_11 {d : Nat} {a1 a2 : Value} {x : Nat} {h : AHp} : Rf d 14 11 [.ref x, a1, a2] [] h = Rf d 14 12 [.ref x, a1, a2] [.ref x] h := Rf_go ((stp_of c14_11).trans rfl)
theorem c14_12 : cd 14 12 = some (12, .iload_n 1, 1, []) := by decide +kernel
theorem x14_12 {d : Nat} {a0 a2 : Value} {s0 : Nat} {x : Int32} {h : AHp} : Rf d 14 12 [a0, .int x, a2] [.ref s0] h = Rf d 14 13 [a0, .int x, a2] [.int x, .ref s0] h := Rf_go ((stp_of c14_12).trans rfl)
theorem c14_13 : cd 14 13 = some (13, .invokestatic 52, 3, [(0, 15)]) := by decide +kernel
theorem xc14_13 {d : Nat} {a0 a1 a2 : Value} {s0 : Int32} {s1 : Nat} {h : AHp} {h1 : AHp} {v : Nat} (hq : Rf d 15 0 [.int s0] [] h = some (some (.ref v), h1)) : Rf (d + 1) 14 13 [a0, a1, a2] [.int s0, .ref s1] h = Rf (d + 1) 14 16 [a0, a1, a2] [.ref v, .ref s1] h1 := clS (as := [.int s0]) c14_13 rfl rfl (by simp [isV]) hq
theorem c14_16 : cd 14 16 = some (16, .invokevirtual 56, 3, [(3, 22)]) := by decide +kernel
theorem xc14_16 {d : Nat} {a0 a1 a2 : Value} {s0 : Nat} {s1 : Nat} {h : AHp} {h1 : AHp} {v : Int32} (hr : cls (h.1 s1) = 3) (hq : Rf d 22 0 [.ref s1, .ref s0, noV] [] h = some (some (.int v), h1)) : Rf (d + 1) 14 16 [a0, a1, a2] [.ref s0, .ref s1] h = Rf (d + 1) 14 19 [a0, a1, a2] [.int v] h1 := clV (c := 22) (as := [.ref s0]) c14_16 rfl (by simp [isV]) (by rw [hr]; rfl) hq
theorem c14_19 : cd 14 19 = some (19, .ifCond .eq 12, 3, [(31, 0)]) := by decide +kernel
theorem x14_19 {d : Nat} {a0 a1 a2 : Value} {s0 : Int32} {h : AHp} : Rf d 14 19 [a0, a1, a2] [.int s0] h = if s0 = 0 then Rf d 14 31 [a0, a1, a2] [] h else Rf d 14 22 [a0, a1, a2] [] h := Rf_brd ((stp_of c14_19).trans rfl)
theorem c14_22 : cd 14 22 = some (22, .aload_n 0, 1, []) := by decide +kernel
theorem x14_22 {d : Nat} {a1 a2 : Value} {x : Nat} {h : AHp} : Rf d 14 22 [.ref x, a1, a2] [] h = Rf d 14 23 [.ref x, a1, a2] [.ref x] h := Rf_go ((stp_of c14_22).trans rfl)
theorem c14_23 : cd 14 23 = some (23, .bipush 32, 2, []) := by decide +kernel
theorem x14_23 {d : Nat} {a0 a1 a2 : Value} {s0 : Nat} {h : AHp} : Rf d 14 23 [a0, a1, a2] [.ref s0] h = Rf d 14 25 [a0, a1, a2] [.int 32, .ref s0] h := Rf_go ((stp_of c14_23).trans rfl)
theorem c14_25 : cd 14 25 = some (25, .invokevirtual 42, 3, [(3, 21)]) := by decide +kernel
theorem xc14_25 {d : Nat} {a0 a1 a2 : Value} {s0 : Int32} {s1 : Nat} {h : AHp} {h1 : AHp} {v : Int32} (hr : cls (h.1 s1) = 3) (hq : Rf d 21 0 [.ref s1, .int s0] [] h = some (some (.int v), h1)) : Rf (d + 1) 14 25 [a0, a1, a2] [.int s0, .ref s1] h = Rf (d + 1) 14 28 [a0, a1, a2] [.int v] h1 := clV (c := 21) (as := [.int s0]) c14_25 rfl (by simp [isV]) (by rw [hr]; rfl) hq
theorem c14_28 : cd 14 28 = some (28, .ifCond .ne 5, 3, [(33, 0)]) := by decide +kernel
theorem x14_28 {d : Nat} {a0 a1 a2 : Value} {s0 : Int32} {h : AHp} : Rf d 14 28 [a0, a1, a2] [.int s0] h = if s0 = 0 then Rf d 14 31 [a0, a1, a2] [] h else Rf d 14 33 [a0, a1, a2] [] h := Rf_brn ((stp_of c14_28).trans rfl)
theorem c14_33 : cd 14 33 = some (33, .aload_n 0, 1, []) := by decide +kernel
theorem x14_33 {d : Nat} {a1 a2 : Value} {x : Nat} {h : AHp} : Rf d 14 33 [.ref x, a1, a2] [] h = Rf d 14 34 [.ref x, a1, a2] [.ref x] h := Rf_go ((stp_of c14_33).trans rfl)
theorem c14_34 : cd 14 34 = some (34, .invokevirtual 60, 3, [(3, 20)]) := by decide +kernel
theorem xc14_34 {d : Nat} {a0 a1 a2 : Value} {s0 : Nat} {h : AHp} {h1 : AHp} {v : Int32} (hr : cls (h.1 s0) = 3) (hq : Rf d 20 0 [.ref s0, noV, noV] [] h = some (some (.int v), h1)) : Rf (d + 1) 14 34 [a0, a1, a2] [.ref s0] h = Rf (d + 1) 14 37 [a0, a1, a2] [.int v] h1 := clV (c := 20) (as := []) c14_34 rfl (by simp [isV]) (by rw [hr]; rfl) hq
theorem c14_37 : cd 14 37 = some (37, .istore_n 2, 1, []) := by decide +kernel
theorem x14_37 {d : Nat} {a0 a1 a2 : Value} {s0 : Int32} {h : AHp} : Rf d 14 37 [a0, a1, a2] [.int s0] h = Rf d 14 38 [a0, a1, .int s0] [] h := Rf_go ((stp_of c14_37).trans rfl)
theorem c14_38 : cd 14 38 = some (38, .iload_n 2, 1, []) := by decide +kernel
theorem x14_38 {d : Nat} {a0 a1 : Value} {x : Int32} {h : AHp} : Rf d 14 38 [a0, a1, .int x] [] h = Rf d 14 39 [a0, a1, .int x] [.int x] h := Rf_go ((stp_of c14_38).trans rfl)
theorem c14_39 : cd 14 39 = some (39, .ifCond .ge 5, 3, [(44, 0)]) := by decide +kernel
theorem x14_39 {d : Nat} {a0 a1 a2 : Value} {s0 : Int32} {h : AHp} : Rf d 14 39 [a0, a1, a2] [.int s0] h = if s0 < 0 then Rf d 14 42 [a0, a1, a2] [] h else Rf d 14 44 [a0, a1, a2] [] h := Rf_brn ((stp_of c14_39).trans rfl)
theorem c14_44 : cd 14 44 = some (44, .iload_n 1, 1, []) := by decide +kernel
theorem x14_44 {d : Nat} {a0 a2 : Value} {x : Int32} {h : AHp} : Rf d 14 44 [a0, .int x, a2] [] h = Rf d 14 45 [a0, .int x, a2] [.int x] h := Rf_go ((stp_of c14_44).trans rfl)
theorem c14_45 : cd 14 45 = some (45, .iconst 3, 1, []) := by decide +kernel
theorem x14_45 {d : Nat} {a0 a1 a2 : Value} {s0 : Int32} {h : AHp} : Rf d 14 45 [a0, a1, a2] [.int s0] h = Rf d 14 46 [a0, a1, a2] [.int 3, .int s0] h := Rf_go ((stp_of c14_45).trans rfl)
theorem c14_46 : cd 14 46 = some (46, .if_icmp .ne 10, 3, [(56, 0)]) := by decide +kernel
theorem x14_46 {d : Nat} {a0 a1 a2 : Value} {s0 : Int32} {s1 : Int32} {h : AHp} : Rf d 14 46 [a0, a1, a2] [.int s0, .int s1] h = if s1 = s0 then Rf d 14 49 [a0, a1, a2] [] h else Rf d 14 56 [a0, a1, a2] [] h := Rf_brn ((stp_of c14_46).trans rfl)
theorem c14_56 : cd 14 56 = some (56, .iload_n 1, 1, []) := by decide +kernel
theorem x14_56 {d : Nat} {a0 a2 : Value} {x : Int32} {h : AHp} : Rf d 14 56 [a0, .int x, a2] [] h = Rf d 14 57 [a0, .int x, a2] [.int x] h := Rf_go ((stp_of c14_56).trans rfl)
theorem c14_57 : cd 14 57 = some (57, .iconst 4, 1, []) := by decide +kernel
theorem x14_57 {d : Nat} {a0 a1 a2 : Value} {s0 : Int32} {h : AHp} : Rf d 14 57 [a0, a1, a2] [.int s0] h = Rf d 14 58 [a0, a1, a2] [.int 4, .int s0] h := Rf_go ((stp_of c14_57).trans rfl)
theorem c14_58 : cd 14 58 = some (58, .if_icmp .ne 10, 3, [(68, 0)]) := by decide +kernel
theorem x14_58 {d : Nat} {a0 a1 a2 : Value} {s0 : Int32} {s1 : Int32} {h : AHp} : Rf d 14 58 [a0, a1, a2] [.int s0, .int s1] h = if s1 = s0 then Rf d 14 61 [a0, a1, a2] [] h else Rf d 14 68 [a0, a1, a2] [] h := Rf_brn ((stp_of c14_58).trans rfl)
theorem c14_68 : cd 14 68 = some (68, .aload_n 0, 1, []) := by decide +kernel
theorem x14_68 {d : Nat} {a1 a2 : Value} {x : Nat} {h : AHp} : Rf d 14 68 [.ref x, a1, a2] [] h = Rf d 14 69 [.ref x, a1, a2] [.ref x] h := Rf_go ((stp_of c14_68).trans rfl)
theorem c14_69 : cd 14 69 = some (69, .bipush 32, 2, []) := by decide +kernel
theorem x14_69 {d : Nat} {a0 a1 a2 : Value} {s0 : Nat} {h : AHp} : Rf d 14 69 [a0, a1, a2] [.ref s0] h = Rf d 14 71 [a0, a1, a2] [.int 32, .ref s0] h := Rf_go ((stp_of c14_69).trans rfl)
theorem c14_71 : cd 14 71 = some (71, .invokevirtual 42, 3, [(3, 21)]) := by decide +kernel
theorem xc14_71 {d : Nat} {a0 a1 a2 : Value} {s0 : Int32} {s1 : Nat} {h : AHp} {h1 : AHp} {v : Int32} (hr : cls (h.1 s1) = 3) (hq : Rf d 21 0 [.ref s1, .int s0] [] h = some (some (.int v), h1)) : Rf (d + 1) 14 71 [a0, a1, a2] [.int s0, .ref s1] h = Rf (d + 1) 14 74 [a0, a1, a2] [.int v] h1 := clV (c := 21) (as := [.int s0]) c14_71 rfl (by simp [isV]) (by rw [hr]; rfl) hq
theorem c14_74 : cd 14 74 = some (74, .ifCond .eq 24, 3, [(98, 0)]) := by decide +kernel
theorem x14_74 {d : Nat} {a0 a1 a2 : Value} {s0 : Int32} {h : AHp} : Rf d 14 74 [a0, a1, a2] [.int s0] h = if s0 = 0 then Rf d 14 98 [a0, a1, a2] [] h else Rf d 14 77 [a0, a1, a2] [] h := Rf_brd ((stp_of c14_74).trans rfl)
theorem c14_98 : cd 14 98 = some (98, .iconst 0, 1, []) := by decide +kernel
theorem x14_98 {d : Nat} {a0 a1 a2 : Value} {h : AHp} : Rf d 14 98 [a0, a1, a2] [] h = Rf d 14 99 [a0, a1, a2] [.int 0] h := Rf_go ((stp_of c14_98).trans rfl)
theorem c14_99 : cd 14 99 = some (99, .ireturn, 1, []) := by decide +kernel
theorem x14_99 {d : Nat} {a0 a1 a2 : Value} {s0 : Int32} {h : AHp} : Rf d 14 99 [a0, a1, a2] [.int s0] h = if retI (some .boolean) s0 = true then some (some (.int s0), h) else Rx d 14 99 [a0, a1, a2] [.int s0] h := Rf_ife (fun hk => by rw [stp_of c14_99]; exact if_pos hk)
theorem c14_77 : cd 14 77 = some (77, .aload_n 0, 1, []) := by decide +kernel
theorem x14_77 {d : Nat} {a1 a2 : Value} {x : Nat} {h : AHp} : Rf d 14 77 [.ref x, a1, a2] [] h = Rf d 14 78 [.ref x, a1, a2] [.ref x] h := Rf_go ((stp_of c14_77).trans rfl)
theorem c14_78 : cd 14 78 = some (78, .iconst 0, 1, []) := by decide +kernel
theorem x14_78 {d : Nat} {a0 a1 a2 : Value} {s0 : Nat} {h : AHp} : Rf d 14 78 [a0, a1, a2] [.ref s0] h = Rf d 14 79 [a0, a1, a2] [.int 0, .ref s0] h := Rf_go ((stp_of c14_78).trans rfl)
theorem c14_79 : cd 14 79 = some (79, .invokevirtual 64, 3, [(3, 17)]) := by decide +kernel
theorem xc14_79 {d : Nat} {a0 a1 a2 : Value} {s0 : Int32} {s1 : Nat} {h : AHp} {h1 : AHp} {v : Int32} (hr : cls (h.1 s1) = 3) (hq : Rf d 17 0 [.ref s1, .int s0, noV, noV] [] h = some (some (.int v), h1)) : Rf (d + 1) 14 79 [a0, a1, a2] [.int s0, .ref s1] h = Rf (d + 1) 14 82 [a0, a1, a2] [.int v] h1 := clV (c := 17) (as := [.int s0]) c14_79 rfl (by simp [isV]) (by rw [hr]; rfl) hq
theorem c14_82 : cd 14 82 = some (82, .ifCond .eq 16, 3, [(98, 0)]) := by decide +kernel
theorem x14_82 {d : Nat} {a0 a1 a2 : Value} {s0 : Int32} {h : AHp} : Rf d 14 82 [a0, a1, a2] [.int s0] h = if s0 = 0 then Rf d 14 98 [a0, a1, a2] [] h else Rf d 14 85 [a0, a1, a2] [] h := Rf_brd ((stp_of c14_82).trans rfl)
theorem c14_85 : cd 14 85 = some (85, .aload_n 0, 1, []) := by decide +kernel
theorem x14_85 {d : Nat} {a1 a2 : Value} {x : Nat} {h : AHp} : Rf d 14 85 [.ref x, a1, a2] [] h = Rf d 14 86 [.ref x, a1, a2] [.ref x] h := Rf_go ((stp_of c14_85).trans rfl)
theorem c14_86 : cd 14 86 = some (86, .iload_n 1, 1, []) := by decide +kernel
theorem x14_86 {d : Nat} {a0 a2 : Value} {s0 : Nat} {x : Int32} {h : AHp} : Rf d 14 86 [a0, .int x, a2] [.ref s0] h = Rf d 14 87 [a0, .int x, a2] [.int x, .ref s0] h := Rf_go ((stp_of c14_86).trans rfl)
theorem c14_87 : cd 14 87 = some (87, .iload_n 2, 1, []) := by decide +kernel
theorem x14_87 {d : Nat} {a0 a1 : Value} {s0 : Int32} {s1 : Nat} {x : Int32} {h : AHp} : Rf d 14 87 [a0, a1, .int x] [.int s0, .ref s1] h = Rf d 14 88 [a0, a1, .int x] [.int x, .int s0, .ref s1] h := Rf_go ((stp_of c14_87).trans rfl)
theorem c14_88 : cd 14 88 = some (88, .invokevirtual 68, 3, [(3, 16)]) := by decide +kernel
theorem xc14_88 {d : Nat} {a0 a1 a2 : Value} {s0 : Int32} {s1 : Int32} {s2 : Nat} {h : AHp} {h1 : AHp} {v : Int32} (hr : cls (h.1 s2) = 3) (hq : Rf d 16 0 [.ref s2, .int s1, .int s0] [] h = some (some (.int v), h1)) : Rf (d + 1) 14 88 [a0, a1, a2] [.int s0, .int s1, .ref s2] h = Rf (d + 1) 14 91 [a0, a1, a2] [.int v] h1 := clV (c := 16) (as := [.int s1, .int s0]) c14_88 rfl (by simp [isV]) (by rw [hr]; rfl) hq
theorem c14_91 : cd 14 91 = some (91, .ifCond .eq 7, 3, [(98, 0)]) := by decide +kernel
theorem x14_91 {d : Nat} {a0 a1 a2 : Value} {s0 : Int32} {h : AHp} : Rf d 14 91 [a0, a1, a2] [.int s0] h = if s0 = 0 then Rf d 14 98 [a0, a1, a2] [] h else Rf d 14 94 [a0, a1, a2] [] h := Rf_brd ((stp_of c14_91).trans rfl)
theorem c14_94 : cd 14 94 = some (94, .iconst 1, 1, []) := by decide +kernel
theorem x14_94 {d : Nat} {a0 a1 a2 : Value} {h : AHp} : Rf d 14 94 [a0, a1, a2] [] h = Rf d 14 95 [a0, a1, a2] [.int 1] h := Rf_go ((stp_of c14_94).trans rfl)
theorem c14_95 : cd 14 95 = some (95, .goto 4, 3, [(99, 0)]) := by decide +kernel
theorem x14_95 {d : Nat} {a0 a1 a2 : Value} {s0 : Int32} {h : AHp} : Rf d 14 95 [a0, a1, a2] [.int s0] h = Rf d 14 99 [a0, a1, a2] [.int s0] h := Rf_go ((stp_of c14_95).trans rfl)
theorem c14_61 : cd 14 61 = some (61, .aload_n 0, 1, []) := by decide +kernel
theorem x14_61 {d : Nat} {a1 a2 : Value} {x : Nat} {h : AHp} : Rf d 14 61 [.ref x, a1, a2] [] h = Rf d 14 62 [.ref x, a1, a2] [.ref x] h := Rf_go ((stp_of c14_61).trans rfl)
theorem c14_62 : cd 14 62 = some (62, .iload_n 2, 1, []) := by decide +kernel
theorem x14_62 {d : Nat} {a0 a1 : Value} {s0 : Nat} {x : Int32} {h : AHp} : Rf d 14 62 [a0, a1, .int x] [.ref s0] h = Rf d 14 63 [a0, a1, .int x] [.int x, .ref s0] h := Rf_go ((stp_of c14_62).trans rfl)
theorem c14_63 : cd 14 63 = some (63, .putfield 15, 3, [(3, 1)]) := by decide +kernel
theorem x14_63 {d : Nat} {a0 a1 a2 : Value} {s0 : Int32} {s1 : Nat} {h : AHp} : Rf d 14 63 [a0, a1, a2] [.int s0, .ref s1] h = if cls (h.1 s1) = 3 ∧ oL (h.1 s1) = 10 then Rf d 14 66 [a0, a1, a2] [] (hset h s1 (oSet (h.1 s1) 1 (.int s0))) else Rx d 14 63 [a0, a1, a2] [.int s0, .ref s1] h := putV c14_63 rfl (fMay_i (by decide +kernel))
theorem c14_66 : cd 14 66 = some (66, .iconst 1, 1, []) := by decide +kernel
theorem x14_66 {d : Nat} {a0 a1 a2 : Value} {h : AHp} : Rf d 14 66 [a0, a1, a2] [] h = Rf d 14 67 [a0, a1, a2] [.int 1] h := Rf_go ((stp_of c14_66).trans rfl)
theorem c14_67 : cd 14 67 = some (67, .ireturn, 1, []) := by decide +kernel
theorem x14_67 {d : Nat} {a0 a1 a2 : Value} {s0 : Int32} {h : AHp} : Rf d 14 67 [a0, a1, a2] [.int s0] h = if retI (some .boolean) s0 = true then some (some (.int s0), h) else Rx d 14 67 [a0, a1, a2] [.int s0] h := Rf_ife (fun hk => by rw [stp_of c14_67]; exact if_pos hk)
theorem c14_49 : cd 14 49 = some (49, .aload_n 0, 1, []) := by decide +kernel
theorem x14_49 {d : Nat} {a1 a2 : Value} {x : Nat} {h : AHp} : Rf d 14 49 [.ref x, a1, a2] [] h = Rf d 14 50 [.ref x, a1, a2] [.ref x] h := Rf_go ((stp_of c14_49).trans rfl)
theorem c14_50 : cd 14 50 = some (50, .iload_n 2, 1, []) := by decide +kernel
theorem x14_50 {d : Nat} {a0 a1 : Value} {s0 : Nat} {x : Int32} {h : AHp} : Rf d 14 50 [a0, a1, .int x] [.ref s0] h = Rf d 14 51 [a0, a1, .int x] [.int x, .ref s0] h := Rf_go ((stp_of c14_50).trans rfl)
theorem c14_51 : cd 14 51 = some (51, .putfield 9, 3, [(3, 0)]) := by decide +kernel
theorem x14_51 {d : Nat} {a0 a1 a2 : Value} {s0 : Int32} {s1 : Nat} {h : AHp} : Rf d 14 51 [a0, a1, a2] [.int s0, .ref s1] h = if cls (h.1 s1) = 3 ∧ oL (h.1 s1) = 10 then Rf d 14 54 [a0, a1, a2] [] (hset h s1 (oSet (h.1 s1) 0 (.int s0))) else Rx d 14 51 [a0, a1, a2] [.int s0, .ref s1] h := putV c14_51 rfl (fMay_i (by decide +kernel))
theorem c14_54 : cd 14 54 = some (54, .iconst 1, 1, []) := by decide +kernel
theorem x14_54 {d : Nat} {a0 a1 a2 : Value} {h : AHp} : Rf d 14 54 [a0, a1, a2] [] h = Rf d 14 55 [a0, a1, a2] [.int 1] h := Rf_go ((stp_of c14_54).trans rfl)
theorem c14_55 : cd 14 55 = some (55, .ireturn, 1, []) := by decide +kernel
theorem x14_55 {d : Nat} {a0 a1 a2 : Value} {s0 : Int32} {h : AHp} : Rf d 14 55 [a0, a1, a2] [.int s0] h = if retI (some .boolean) s0 = true then some (some (.int s0), h) else Rx d 14 55 [a0, a1, a2] [.int s0] h := Rf_ife (fun hk => by rw [stp_of c14_55]; exact if_pos hk)
theorem c14_42 : cd 14 42 = some (42, .iconst 0, 1, []) := by decide +kernel
theorem x14_42 {d : Nat} {a0 a1 a2 : Value} {h : AHp} : Rf d 14 42 [a0, a1, a2] [] h = Rf d 14 43 [a0, a1, a2] [.int 0] h := Rf_go ((stp_of c14_42).trans rfl)
theorem c14_43 : cd 14 43 = some (43, .ireturn, 1, []) := by decide +kernel
theorem x14_43 {d : Nat} {a0 a1 a2 : Value} {s0 : Int32} {h : AHp} : Rf d 14 43 [a0, a1, a2] [.int s0] h = if retI (some .boolean) s0 = true then some (some (.int s0), h) else Rx d 14 43 [a0, a1, a2] [.int s0] h := Rf_ife (fun hk => by rw [stp_of c14_43]; exact if_pos hk)
-- 15: X3_restOf
theorem c15_0 : cd 15 0 = some (0, .iload_n 0, 1, []) := by decide +kernel
theorem x15_0 {d : Nat} {x : Int32} {h : AHp} : Rf d 15 0 [.int x] [] h = Rf d 15 1 [.int x] [.int x] h := Rf_go ((stp_of c15_0).trans rfl)
theorem c15_1 : cd 15 1 = some (1, .tableswitch 43 0 3 #[31, 34, 37, 40], 31, [(0, 44), (0, 32), (1, 35), (2, 38), (3, 41)]) := by decide +kernel
theorem x15_1 {d : Nat} {a0 : Value} {s0 : Int32} {h : AHp} : Rf d 15 1 [a0] [.int s0] h = if s0 = 0 then Rf d 15 32 [a0] [] h else (if s0 = 1 then Rf d 15 35 [a0] [] h else (if s0 = 2 then Rf d 15 38 [a0] [] h else (if s0 = 3 then Rf d 15 41 [a0] [] h else (Rf d 15 44 [a0] [] h)))) := (swE (e := 44) c15_1 rfl).trans (by simp only [List.drop, swT, Rf_ite]; rfl)
theorem c15_41 : cd 15 41 = some (41, .ldc 78, 2, [(1, 5)]) := by decide +kernel
theorem x15_41 {d : Nat} {a0 : Value} {h : AHp} : Rf d 15 41 [a0] [] h = Rf d 15 43 [a0] [.ref 5] h := Rf_go ((stp_of c15_41).trans rfl)
theorem c15_43 : cd 15 43 = some (43, .areturn, 1, []) := by decide +kernel
theorem x15_43 {d : Nat} {a0 : Value} {s0 : Nat} {h : AHp} : Rf d 15 43 [a0] [.ref s0] h = some (some (.ref s0), h) := Rf_end (endA c15_43 (by decide +kernel))
theorem c15_38 : cd 15 38 = some (38, .ldc 76, 2, [(1, 4)]) := by decide +kernel
theorem x15_38 {d : Nat} {a0 : Value} {h : AHp} : Rf d 15 38 [a0] [] h = Rf d 15 40 [a0] [.ref 4] h := Rf_go ((stp_of c15_38).trans rfl)
theorem c15_40 : cd 15 40 = some (40, .areturn, 1, []) := by decide +kernel
theorem x15_40 {d : Nat} {a0 : Value} {s0 : Nat} {h : AHp} : Rf d 15 40 [a0] [.ref s0] h = some (some (.ref s0), h) := Rf_end (endA c15_40 (by decide +kernel))
theorem c15_35 : cd 15 35 = some (35, .ldc 74, 2, [(1, 3)]) := by decide +kernel
theorem x15_35 {d : Nat} {a0 : Value} {h : AHp} : Rf d 15 35 [a0] [] h = Rf d 15 37 [a0] [.ref 3] h := Rf_go ((stp_of c15_35).trans rfl)
theorem c15_37 : cd 15 37 = some (37, .areturn, 1, []) := by decide +kernel
theorem x15_37 {d : Nat} {a0 : Value} {s0 : Nat} {h : AHp} : Rf d 15 37 [a0] [.ref s0] h = some (some (.ref s0), h) := Rf_end (endA c15_37 (by decide +kernel))
theorem c15_32 : cd 15 32 = some (32, .ldc 72, 2, [(1, 2)]) := by decide +kernel
theorem x15_32 {d : Nat} {a0 : Value} {h : AHp} : Rf d 15 32 [a0] [] h = Rf d 15 34 [a0] [.ref 2] h := Rf_go ((stp_of c15_32).trans rfl)
theorem c15_34 : cd 15 34 = some (34, .areturn, 1, []) := by decide +kernel
theorem x15_34 {d : Nat} {a0 : Value} {s0 : Nat} {h : AHp} : Rf d 15 34 [a0] [.ref s0] h = some (some (.ref s0), h) := Rf_end (endA c15_34 (by decide +kernel))
theorem c15_44 : cd 15 44 = some (44, .ldc 80, 2, [(1, 6)]) := by decide +kernel
theorem x15_44 {d : Nat} {a0 : Value} {h : AHp} : Rf d 15 44 [a0] [] h = Rf d 15 46 [a0] [.ref 6] h := Rf_go ((stp_of c15_44).trans rfl)
theorem c15_46 : cd 15 46 = some (46, .areturn, 1, []) := by decide +kernel
theorem x15_46 {d : Nat} {a0 : Value} {s0 : Nat} {h : AHp} : Rf d 15 46 [a0] [.ref s0] h = some (some (.ref s0), h) := Rf_end (endA c15_46 (by decide +kernel))
-- 16: X3_keep
theorem c16_0 : cd 16 0 = some (0, .aload_n 0, 1, []) := by decide +kernel
theorem x16_0 {d : Nat} {a1 a2 : Value} {x : Nat} {h : AHp} : Rf d 16 0 [.ref x, a1, a2] [] h = Rf d 16 1 [.ref x, a1, a2] [.ref x] h := Rf_go ((stp_of c16_0).trans rfl)
theorem c16_1 : cd 16 1 = some (1, .getfield 82, 3, [(3, 4)]) := by decide +kernel
theorem x16_1 {d : Nat} {a0 a1 a2 : Value} {s0 : Nat} {h : AHp} : Rf d 16 1 [a0, a1, a2] [.ref s0] h = if cls (h.1 s0) = 3 ∧ oKi (h.1 s0) 4 = true then Rf d 16 4 [a0, a1, a2] [.int (oN (h.1 s0) 4)] h else Rx d 16 1 [a0, a1, a2] [.ref s0] h := getI c16_1
theorem c16_4 : cd 16 4 = some (4, .bipush 10, 2, []) := by decide +kernel
theorem x16_4 {d : Nat} {a0 a1 a2 : Value} {s0 : Int32} {h : AHp} : Rf d 16 4 [a0, a1, a2] [.int s0] h = Rf d 16 6 [a0, a1, a2] [.int 10, .int s0] h := Rf_go ((stp_of c16_4).trans rfl)
theorem c16_6 : cd 16 6 = some (6, .if_icmp .lt 5, 3, [(11, 0)]) := by decide +kernel
theorem x16_6 {d : Nat} {a0 a1 a2 : Value} {s0 : Int32} {s1 : Int32} {h : AHp} : Rf d 16 6 [a0, a1, a2] [.int s0, .int s1] h = if s1 < s0 then Rf d 16 11 [a0, a1, a2] [] h else Rf d 16 9 [a0, a1, a2] [] h := Rf_brd ((stp_of c16_6).trans rfl)
theorem c16_11 : cd 16 11 = some (11, .aload_n 0, 1, []) := by decide +kernel
theorem x16_11 {d : Nat} {a1 a2 : Value} {x : Nat} {h : AHp} : Rf d 16 11 [.ref x, a1, a2] [] h = Rf d 16 12 [.ref x, a1, a2] [.ref x] h := Rf_go ((stp_of c16_11).trans rfl)
theorem c16_12 : cd 16 12 = some (12, .getfield 18, 3, [(3, 5)]) := by decide +kernel
theorem x16_12 {d : Nat} {a0 a1 a2 : Value} {s0 : Nat} {h : AHp} : Rf d 16 12 [a0, a1, a2] [.ref s0] h = if cls (h.1 s0) = 3 ∧ oKr (h.1 s0) 5 = true then Rf d 16 15 [a0, a1, a2] [.ref (oR (h.1 s0) 5)] h else Rx d 16 12 [a0, a1, a2] [.ref s0] h := getR c16_12
theorem c16_15 : cd 16 15 = some (15, .aload_n 0, 1, []) := by decide +kernel
theorem x16_15 {d : Nat} {a1 a2 : Value} {s0 : Nat} {x : Nat} {h : AHp} : Rf d 16 15 [.ref x, a1, a2] [.ref s0] h = Rf d 16 16 [.ref x, a1, a2] [.ref x, .ref s0] h := Rf_go ((stp_of c16_15).trans rfl)
theorem c16_16 : cd 16 16 = some (16, .getfield 82, 3, [(3, 4)]) := by decide +kernel
theorem x16_16 {d : Nat} {a0 a1 a2 : Value} {s0 : Nat} {s1 : Nat} {h : AHp} : Rf d 16 16 [a0, a1, a2] [.ref s0, .ref s1] h = if cls (h.1 s0) = 3 ∧ oKi (h.1 s0) 4 = true then Rf d 16 19 [a0, a1, a2] [.int (oN (h.1 s0) 4), .ref s1] h else Rx d 16 16 [a0, a1, a2] [.ref s0, .ref s1] h := getI c16_16
theorem c16_19 : cd 16 19 = some (19, .iload_n 1, 1, []) := by decide +kernel
theorem x16_19 {d : Nat} {a0 a2 : Value} {s0 : Int32} {s1 : Nat} {x : Int32} {h : AHp} : Rf d 16 19 [a0, .int x, a2] [.int s0, .ref s1] h = Rf d 16 20 [a0, .int x, a2] [.int x, .int s0, .ref s1] h := Rf_go ((stp_of c16_19).trans rfl)
theorem c16_20 : cd 16 20 = some (20, .iastore, 1, []) := by decide +kernel
theorem x16_20 {d : Nat} {a0 a1 a2 : Value} {s0 : Int32} {s1 : Int32} {s2 : Nat} {h : AHp} : Rf d 16 20 [a0, a1, a2] [.int s0, .int s1, .ref s2] h = if aT (h.1 s2) = 0 ∧ inB s1 (aN (h.1 s2)) = true then Rf d 16 21 [a0, a1, a2] [] (hset h s2 (.inl (0, aN (h.1 s2), .inl (upd (aF (h.1 s2)) s1.toNatClampNeg s0)))) else Rx d 16 20 [a0, a1, a2] [.int s0, .int s1, .ref s2] h := stI c16_20
theorem c16_21 : cd 16 21 = some (21, .aload_n 0, 1, []) := by decide +kernel
theorem x16_21 {d : Nat} {a1 a2 : Value} {x : Nat} {h : AHp} : Rf d 16 21 [.ref x, a1, a2] [] h = Rf d 16 22 [.ref x, a1, a2] [.ref x] h := Rf_go ((stp_of c16_21).trans rfl)
theorem c16_22 : cd 16 22 = some (22, .getfield 22, 3, [(3, 6)]) := by decide +kernel
theorem x16_22 {d : Nat} {a0 a1 a2 : Value} {s0 : Nat} {h : AHp} : Rf d 16 22 [a0, a1, a2] [.ref s0] h = if cls (h.1 s0) = 3 ∧ oKr (h.1 s0) 6 = true then Rf d 16 25 [a0, a1, a2] [.ref (oR (h.1 s0) 6)] h else Rx d 16 22 [a0, a1, a2] [.ref s0] h := getR c16_22
theorem c16_25 : cd 16 25 = some (25, .aload_n 0, 1, []) := by decide +kernel
theorem x16_25 {d : Nat} {a1 a2 : Value} {s0 : Nat} {x : Nat} {h : AHp} : Rf d 16 25 [.ref x, a1, a2] [.ref s0] h = Rf d 16 26 [.ref x, a1, a2] [.ref x, .ref s0] h := Rf_go ((stp_of c16_25).trans rfl)
theorem c16_26 : cd 16 26 = some (26, .getfield 82, 3, [(3, 4)]) := by decide +kernel
theorem x16_26 {d : Nat} {a0 a1 a2 : Value} {s0 : Nat} {s1 : Nat} {h : AHp} : Rf d 16 26 [a0, a1, a2] [.ref s0, .ref s1] h = if cls (h.1 s0) = 3 ∧ oKi (h.1 s0) 4 = true then Rf d 16 29 [a0, a1, a2] [.int (oN (h.1 s0) 4), .ref s1] h else Rx d 16 26 [a0, a1, a2] [.ref s0, .ref s1] h := getI c16_26
theorem c16_29 : cd 16 29 = some (29, .iload_n 2, 1, []) := by decide +kernel
theorem x16_29 {d : Nat} {a0 a1 : Value} {s0 : Int32} {s1 : Nat} {x : Int32} {h : AHp} : Rf d 16 29 [a0, a1, .int x] [.int s0, .ref s1] h = Rf d 16 30 [a0, a1, .int x] [.int x, .int s0, .ref s1] h := Rf_go ((stp_of c16_29).trans rfl)
theorem c16_30 : cd 16 30 = some (30, .iastore, 1, []) := by decide +kernel
theorem x16_30 {d : Nat} {a0 a1 a2 : Value} {s0 : Int32} {s1 : Int32} {s2 : Nat} {h : AHp} : Rf d 16 30 [a0, a1, a2] [.int s0, .int s1, .ref s2] h = if aT (h.1 s2) = 0 ∧ inB s1 (aN (h.1 s2)) = true then Rf d 16 31 [a0, a1, a2] [] (hset h s2 (.inl (0, aN (h.1 s2), .inl (upd (aF (h.1 s2)) s1.toNatClampNeg s0)))) else Rx d 16 30 [a0, a1, a2] [.int s0, .int s1, .ref s2] h := stI c16_30
theorem c16_31 : cd 16 31 = some (31, .aload_n 0, 1, []) := by decide +kernel
theorem x16_31 {d : Nat} {a1 a2 : Value} {x : Nat} {h : AHp} : Rf d 16 31 [.ref x, a1, a2] [] h = Rf d 16 32 [.ref x, a1, a2] [.ref x] h := Rf_go ((stp_of c16_31).trans rfl)
theorem c16_32 : cd 16 32 = some (32, .getfield 25, 3, [(3, 7)]) := by decide +kernel
theorem x16_32 {d : Nat} {a0 a1 a2 : Value} {s0 : Nat} {h : AHp} : Rf d 16 32 [a0, a1, a2] [.ref s0] h = if cls (h.1 s0) = 3 ∧ oKr (h.1 s0) 7 = true then Rf d 16 35 [a0, a1, a2] [.ref (oR (h.1 s0) 7)] h else Rx d 16 32 [a0, a1, a2] [.ref s0] h := getR c16_32
theorem c16_35 : cd 16 35 = some (35, .aload_n 0, 1, []) := by decide +kernel
theorem x16_35 {d : Nat} {a1 a2 : Value} {s0 : Nat} {x : Nat} {h : AHp} : Rf d 16 35 [.ref x, a1, a2] [.ref s0] h = Rf d 16 36 [.ref x, a1, a2] [.ref x, .ref s0] h := Rf_go ((stp_of c16_35).trans rfl)
theorem c16_36 : cd 16 36 = some (36, .getfield 82, 3, [(3, 4)]) := by decide +kernel
theorem x16_36 {d : Nat} {a0 a1 a2 : Value} {s0 : Nat} {s1 : Nat} {h : AHp} : Rf d 16 36 [a0, a1, a2] [.ref s0, .ref s1] h = if cls (h.1 s0) = 3 ∧ oKi (h.1 s0) 4 = true then Rf d 16 39 [a0, a1, a2] [.int (oN (h.1 s0) 4), .ref s1] h else Rx d 16 36 [a0, a1, a2] [.ref s0, .ref s1] h := getI c16_36
theorem c16_39 : cd 16 39 = some (39, .aload_n 0, 1, []) := by decide +kernel
theorem x16_39 {d : Nat} {a1 a2 : Value} {s0 : Int32} {s1 : Nat} {x : Nat} {h : AHp} : Rf d 16 39 [.ref x, a1, a2] [.int s0, .ref s1] h = Rf d 16 40 [.ref x, a1, a2] [.ref x, .int s0, .ref s1] h := Rf_go ((stp_of c16_39).trans rfl)
theorem c16_40 : cd 16 40 = some (40, .getfield 85, 3, [(3, 9)]) := by decide +kernel
theorem x16_40 {d : Nat} {a0 a1 a2 : Value} {s0 : Nat} {s1 : Int32} {s2 : Nat} {h : AHp} : Rf d 16 40 [a0, a1, a2] [.ref s0, .int s1, .ref s2] h = if cls (h.1 s0) = 3 ∧ oKi (h.1 s0) 9 = true then Rf d 16 43 [a0, a1, a2] [.int (oN (h.1 s0) 9), .int s1, .ref s2] h else Rx d 16 40 [a0, a1, a2] [.ref s0, .int s1, .ref s2] h := getI c16_40
theorem c16_43 : cd 16 43 = some (43, .iastore, 1, []) := by decide +kernel
theorem x16_43 {d : Nat} {a0 a1 a2 : Value} {s0 : Int32} {s1 : Int32} {s2 : Nat} {h : AHp} : Rf d 16 43 [a0, a1, a2] [.int s0, .int s1, .ref s2] h = if aT (h.1 s2) = 0 ∧ inB s1 (aN (h.1 s2)) = true then Rf d 16 44 [a0, a1, a2] [] (hset h s2 (.inl (0, aN (h.1 s2), .inl (upd (aF (h.1 s2)) s1.toNatClampNeg s0)))) else Rx d 16 43 [a0, a1, a2] [.int s0, .int s1, .ref s2] h := stI c16_43
theorem c16_44 : cd 16 44 = some (44, .aload_n 0, 1, []) := by decide +kernel
theorem x16_44 {d : Nat} {a1 a2 : Value} {x : Nat} {h : AHp} : Rf d 16 44 [.ref x, a1, a2] [] h = Rf d 16 45 [.ref x, a1, a2] [.ref x] h := Rf_go ((stp_of c16_44).trans rfl)
theorem c16_45 : cd 16 45 = some (45, .dup, 1, []) := by decide +kernel
theorem x16_45 {d : Nat} {a0 a1 a2 : Value} {s0 : Nat} {h : AHp} : Rf d 16 45 [a0, a1, a2] [.ref s0] h = Rf d 16 46 [a0, a1, a2] [.ref s0, .ref s0] h := Rf_go ((stp_of c16_45).trans rfl)
theorem c16_46 : cd 16 46 = some (46, .getfield 82, 3, [(3, 4)]) := by decide +kernel
theorem x16_46 {d : Nat} {a0 a1 a2 : Value} {s0 : Nat} {s1 : Nat} {h : AHp} : Rf d 16 46 [a0, a1, a2] [.ref s0, .ref s1] h = if cls (h.1 s0) = 3 ∧ oKi (h.1 s0) 4 = true then Rf d 16 49 [a0, a1, a2] [.int (oN (h.1 s0) 4), .ref s1] h else Rx d 16 46 [a0, a1, a2] [.ref s0, .ref s1] h := getI c16_46
theorem c16_49 : cd 16 49 = some (49, .iconst 1, 1, []) := by decide +kernel
theorem x16_49 {d : Nat} {a0 a1 a2 : Value} {s0 : Int32} {s1 : Nat} {h : AHp} : Rf d 16 49 [a0, a1, a2] [.int s0, .ref s1] h = Rf d 16 50 [a0, a1, a2] [.int 1, .int s0, .ref s1] h := Rf_go ((stp_of c16_49).trans rfl)
theorem c16_50 : cd 16 50 = some (50, .iadd, 1, []) := by decide +kernel
theorem x16_50 {d : Nat} {a0 a1 a2 : Value} {s0 : Int32} {s1 : Int32} {s2 : Nat} {h : AHp} : Rf d 16 50 [a0, a1, a2] [.int s0, .int s1, .ref s2] h = Rf d 16 51 [a0, a1, a2] [.int (s1 + s0), .ref s2] h := Rf_go ((stp_of c16_50).trans rfl)
theorem c16_51 : cd 16 51 = some (51, .putfield 82, 3, [(3, 4)]) := by decide +kernel
theorem x16_51 {d : Nat} {a0 a1 a2 : Value} {s0 : Int32} {s1 : Nat} {h : AHp} : Rf d 16 51 [a0, a1, a2] [.int s0, .ref s1] h = if cls (h.1 s1) = 3 ∧ oL (h.1 s1) = 10 then Rf d 16 54 [a0, a1, a2] [] (hset h s1 (oSet (h.1 s1) 4 (.int s0))) else Rx d 16 51 [a0, a1, a2] [.int s0, .ref s1] h := putV c16_51 rfl (fMay_i (by decide +kernel))
theorem c16_54 : cd 16 54 = some (54, .iconst 1, 1, []) := by decide +kernel
theorem x16_54 {d : Nat} {a0 a1 a2 : Value} {h : AHp} : Rf d 16 54 [a0, a1, a2] [] h = Rf d 16 55 [a0, a1, a2] [.int 1] h := Rf_go ((stp_of c16_54).trans rfl)
theorem c16_55 : cd 16 55 = some (55, .ireturn, 1, []) := by decide +kernel
theorem x16_55 {d : Nat} {a0 a1 a2 : Value} {s0 : Int32} {h : AHp} : Rf d 16 55 [a0, a1, a2] [.int s0] h = if retI (some .boolean) s0 = true then some (some (.int s0), h) else Rx d 16 55 [a0, a1, a2] [.int s0] h := Rf_ife (fun hk => by rw [stp_of c16_55]; exact if_pos hk)
theorem c16_9 : cd 16 9 = some (9, .iconst 0, 1, []) := by decide +kernel
theorem x16_9 {d : Nat} {a0 a1 a2 : Value} {h : AHp} : Rf d 16 9 [a0, a1, a2] [] h = Rf d 16 10 [a0, a1, a2] [.int 0] h := Rf_go ((stp_of c16_9).trans rfl)
theorem c16_10 : cd 16 10 = some (10, .ireturn, 1, []) := by decide +kernel
theorem x16_10 {d : Nat} {a0 a1 a2 : Value} {s0 : Int32} {h : AHp} : Rf d 16 10 [a0, a1, a2] [.int s0] h = if retI (some .boolean) s0 = true then some (some (.int s0), h) else Rx d 16 10 [a0, a1, a2] [.int s0] h := Rf_ife (fun hk => by rw [stp_of c16_10]; exact if_pos hk)
-- 17: X3_readEither
theorem c17_0 : cd 17 0 = some (0, .aload_n 0, 1, []) := by decide +kernel
theorem x17_0 {d : Nat} {a1 a2 a3 : Value} {x : Nat} {h : AHp} : Rf d 17 0 [.ref x, a1, a2, a3] [] h = Rf d 17 1 [.ref x, a1, a2, a3] [.ref x] h := Rf_go ((stp_of c17_0).trans rfl)
theorem c17_1 : cd 17 1 = some (1, .iload_n 1, 1, []) := by decide +kernel
theorem x17_1 {d : Nat} {a0 a2 a3 : Value} {s0 : Nat} {x : Int32} {h : AHp} : Rf d 17 1 [a0, .int x, a2, a3] [.ref s0] h = Rf d 17 2 [a0, .int x, a2, a3] [.int x, .ref s0] h := Rf_go ((stp_of c17_1).trans rfl)
theorem c17_2 : cd 17 2 = some (2, .invokevirtual 88, 3, [(3, 18)]) := by decide +kernel
theorem xc17_2 {d : Nat} {a0 a1 a2 a3 : Value} {s0 : Int32} {s1 : Nat} {h : AHp} {h1 : AHp} {v : Int32} (hr : cls (h.1 s1) = 3) (hq : Rf d 18 0 [.ref s1, .int s0, noV, noV] [] h = some (some (.int v), h1)) : Rf (d + 1) 17 2 [a0, a1, a2, a3] [.int s0, .ref s1] h = Rf (d + 1) 17 5 [a0, a1, a2, a3] [.int v] h1 := clV (c := 18) (as := [.int s0]) c17_2 rfl (by simp [isV]) (by rw [hr]; rfl) hq
theorem c17_5 : cd 17 5 = some (5, .istore_n 2, 1, []) := by decide +kernel
theorem x17_5 {d : Nat} {a0 a1 a2 a3 : Value} {s0 : Int32} {h : AHp} : Rf d 17 5 [a0, a1, a2, a3] [.int s0] h = Rf d 17 6 [a0, a1, .int s0, a3] [] h := Rf_go ((stp_of c17_5).trans rfl)
theorem c17_6 : cd 17 6 = some (6, .iconst 0, 1, []) := by decide +kernel
theorem x17_6 {d : Nat} {a0 a1 a2 a3 : Value} {h : AHp} : Rf d 17 6 [a0, a1, a2, a3] [] h = Rf d 17 7 [a0, a1, a2, a3] [.int 0] h := Rf_go ((stp_of c17_6).trans rfl)
theorem c17_7 : cd 17 7 = some (7, .istore_n 3, 1, []) := by decide +kernel
theorem x17_7 {d : Nat} {a0 a1 a2 a3 : Value} {s0 : Int32} {h : AHp} : Rf d 17 7 [a0, a1, a2, a3] [.int s0] h = Rf d 17 8 [a0, a1, a2, .int s0] [] h := Rf_go ((stp_of c17_7).trans rfl)
theorem c17_8 : cd 17 8 = some (8, .iload_n 2, 1, []) := by decide +kernel
theorem x17_8 {d : Nat} {a0 a1 a3 : Value} {x : Int32} {h : AHp} : Rf d 17 8 [a0, a1, .int x, a3] [] h = Rf d 17 9 [a0, a1, .int x, a3] [.int x] h := Rf_go ((stp_of c17_8).trans rfl)
theorem c17_9 : cd 17 9 = some (9, .ifCond .eq 47, 3, [(56, 0)]) := by decide +kernel
theorem x17_9 {d : Nat} {a0 a1 a2 a3 : Value} {s0 : Int32} {h : AHp} : Rf d 17 9 [a0, a1, a2, a3] [.int s0] h = if s0 = 0 then Rf d 17 56 [a0, a1, a2, a3] [] h else Rf d 17 12 [a0, a1, a2, a3] [] h := Rf_brd ((stp_of c17_9).trans rfl)
theorem c17_56 : cd 17 56 = some (56, .iload_n 2, 1, []) := by decide +kernel
theorem x17_56 {d : Nat} {a0 a1 a3 : Value} {x : Int32} {h : AHp} : Rf d 17 56 [a0, a1, .int x, a3] [] h = Rf d 17 57 [a0, a1, .int x, a3] [.int x] h := Rf_go ((stp_of c17_56).trans rfl)
theorem c17_57 : cd 17 57 = some (57, .ireturn, 1, []) := by decide +kernel
theorem x17_57 {d : Nat} {a0 a1 a2 a3 : Value} {s0 : Int32} {h : AHp} : Rf d 17 57 [a0, a1, a2, a3] [.int s0] h = if retI (some .boolean) s0 = true then some (some (.int s0), h) else Rx d 17 57 [a0, a1, a2, a3] [.int s0] h := Rf_ife (fun hk => by rw [stp_of c17_57]; exact if_pos hk)
theorem c17_12 : cd 17 12 = some (12, .iload_n 3, 1, []) := by decide +kernel
theorem x17_12 {d : Nat} {a0 a1 a2 : Value} {x : Int32} {h : AHp} : Rf d 17 12 [a0, a1, a2, .int x] [] h = Rf d 17 13 [a0, a1, a2, .int x] [.int x] h := Rf_go ((stp_of c17_12).trans rfl)
theorem c17_13 : cd 17 13 = some (13, .bipush 100, 2, []) := by decide +kernel
theorem x17_13 {d : Nat} {a0 a1 a2 a3 : Value} {s0 : Int32} {h : AHp} : Rf d 17 13 [a0, a1, a2, a3] [.int s0] h = Rf d 17 15 [a0, a1, a2, a3] [.int 100, .int s0] h := Rf_go ((stp_of c17_13).trans rfl)
theorem c17_15 : cd 17 15 = some (15, .if_icmp .ge 41, 3, [(56, 0)]) := by decide +kernel
theorem x17_15 {d : Nat} {a0 a1 a2 a3 : Value} {s0 : Int32} {s1 : Int32} {h : AHp} : Rf d 17 15 [a0, a1, a2, a3] [.int s0, .int s1] h = if s1 < s0 then Rf d 17 18 [a0, a1, a2, a3] [] h else Rf d 17 56 [a0, a1, a2, a3] [] h := Rf_brn ((stp_of c17_15).trans rfl)
theorem c17_18 : cd 17 18 = some (18, .aload_n 0, 1, []) := by decide +kernel
theorem x17_18 {d : Nat} {a1 a2 a3 : Value} {x : Nat} {h : AHp} : Rf d 17 18 [.ref x, a1, a2, a3] [] h = Rf d 17 19 [.ref x, a1, a2, a3] [.ref x] h := Rf_go ((stp_of c17_18).trans rfl)
theorem c17_19 : cd 17 19 = some (19, .bipush 124, 2, []) := by decide +kernel
theorem x17_19 {d : Nat} {a0 a1 a2 a3 : Value} {s0 : Nat} {h : AHp} : Rf d 17 19 [a0, a1, a2, a3] [.ref s0] h = Rf d 17 21 [a0, a1, a2, a3] [.int 124, .ref s0] h := Rf_go ((stp_of c17_19).trans rfl)
theorem c17_21 : cd 17 21 = some (21, .invokevirtual 42, 3, [(3, 21)]) := by decide +kernel
theorem xc17_21 {d : Nat} {a0 a1 a2 a3 : Value} {s0 : Int32} {s1 : Nat} {h : AHp} {h1 : AHp} {v : Int32} (hr : cls (h.1 s1) = 3) (hq : Rf d 21 0 [.ref s1, .int s0] [] h = some (some (.int v), h1)) : Rf (d + 1) 17 21 [a0, a1, a2, a3] [.int s0, .ref s1] h = Rf (d + 1) 17 24 [a0, a1, a2, a3] [.int v] h1 := clV (c := 21) (as := [.int s0]) c17_21 rfl (by simp [isV]) (by rw [hr]; rfl) hq
theorem c17_24 : cd 17 24 = some (24, .ifCond .eq 32, 3, [(56, 0)]) := by decide +kernel
theorem x17_24 {d : Nat} {a0 a1 a2 a3 : Value} {s0 : Int32} {h : AHp} : Rf d 17 24 [a0, a1, a2, a3] [.int s0] h = if s0 = 0 then Rf d 17 56 [a0, a1, a2, a3] [] h else Rf d 17 27 [a0, a1, a2, a3] [] h := Rf_brd ((stp_of c17_24).trans rfl)
theorem c17_27 : cd 17 27 = some (27, .aload_n 0, 1, []) := by decide +kernel
theorem x17_27 {d : Nat} {a1 a2 a3 : Value} {x : Nat} {h : AHp} : Rf d 17 27 [.ref x, a1, a2, a3] [] h = Rf d 17 28 [.ref x, a1, a2, a3] [.ref x] h := Rf_go ((stp_of c17_27).trans rfl)
theorem c17_28 : cd 17 28 = some (28, .iload_n 1, 1, []) := by decide +kernel
theorem x17_28 {d : Nat} {a0 a2 a3 : Value} {s0 : Nat} {x : Int32} {h : AHp} : Rf d 17 28 [a0, .int x, a2, a3] [.ref s0] h = Rf d 17 29 [a0, .int x, a2, a3] [.int x, .ref s0] h := Rf_go ((stp_of c17_28).trans rfl)
theorem c17_29 : cd 17 29 = some (29, .invokevirtual 88, 3, [(3, 18)]) := by decide +kernel
theorem xc17_29 {d : Nat} {a0 a1 a2 a3 : Value} {s0 : Int32} {s1 : Nat} {h : AHp} {h1 : AHp} {v : Int32} (hr : cls (h.1 s1) = 3) (hq : Rf d 18 0 [.ref s1, .int s0, noV, noV] [] h = some (some (.int v), h1)) : Rf (d + 1) 17 29 [a0, a1, a2, a3] [.int s0, .ref s1] h = Rf (d + 1) 17 32 [a0, a1, a2, a3] [.int v] h1 := clV (c := 18) (as := [.int s0]) c17_29 rfl (by simp [isV]) (by rw [hr]; rfl) hq
theorem c17_32 : cd 17 32 = some (32, .ifCond .eq 16, 3, [(48, 0)]) := by decide +kernel
theorem x17_32 {d : Nat} {a0 a1 a2 a3 : Value} {s0 : Int32} {h : AHp} : Rf d 17 32 [a0, a1, a2, a3] [.int s0] h = if s0 = 0 then Rf d 17 48 [a0, a1, a2, a3] [] h else Rf d 17 35 [a0, a1, a2, a3] [] h := Rf_brd ((stp_of c17_32).trans rfl)
theorem c17_48 : cd 17 48 = some (48, .iconst 0, 1, []) := by decide +kernel
theorem x17_48 {d : Nat} {a0 a1 a2 a3 : Value} {h : AHp} : Rf d 17 48 [a0, a1, a2, a3] [] h = Rf d 17 49 [a0, a1, a2, a3] [.int 0] h := Rf_go ((stp_of c17_48).trans rfl)
theorem c17_49 : cd 17 49 = some (49, .istore_n 2, 1, []) := by decide +kernel
theorem x17_49 {d : Nat} {a0 a1 a2 a3 : Value} {s0 : Int32} {h : AHp} : Rf d 17 49 [a0, a1, a2, a3] [.int s0] h = Rf d 17 50 [a0, a1, .int s0, a3] [] h := Rf_go ((stp_of c17_49).trans rfl)
theorem c17_50 : cd 17 50 = some (50, .iinc 3 1, 3, []) := by decide +kernel
theorem x17_50 {d : Nat} {a0 a1 a2 : Value} {x : Int32} {h : AHp} : Rf d 17 50 [a0, a1, a2, .int x] [] h = Rf d 17 53 [a0, a1, a2, .int (x + 1)] [] h := Rf_go ((stp_of c17_50).trans rfl)
theorem c17_53 : cd 17 53 = some (53, .goto (-45), 3, [(8, 0)]) := by decide +kernel
theorem x17_53 {d : Nat} {a0 a1 a2 a3 : Value} {h : AHp} : Rf d 17 53 [a0, a1, a2, a3] [] h = Rf d 17 8 [a0, a1, a2, a3] [] h := Rf_go ((stp_of c17_53).trans rfl)
theorem c17_35 : cd 17 35 = some (35, .aload_n 0, 1, []) := by decide +kernel
theorem x17_35 {d : Nat} {a1 a2 a3 : Value} {x : Nat} {h : AHp} : Rf d 17 35 [.ref x, a1, a2, a3] [] h = Rf d 17 36 [.ref x, a1, a2, a3] [.ref x] h := Rf_go ((stp_of c17_35).trans rfl)
theorem c17_36 : cd 17 36 = some (36, .bipush (-3), 2, []) := by decide +kernel
theorem x17_36 {d : Nat} {a0 a1 a2 a3 : Value} {s0 : Nat} {h : AHp} : Rf d 17 36 [a0, a1, a2, a3] [.ref s0] h = Rf d 17 38 [a0, a1, a2, a3] [.int (-3), .ref s0] h := Rf_go ((stp_of c17_36).trans rfl)
theorem c17_38 : cd 17 38 = some (38, .invokevirtual 91, 3, [(3, 24)]) := by decide +kernel
theorem xc17_38 {d : Nat} {a0 a1 a2 a3 : Value} {s0 : Int32} {s1 : Nat} {h : AHp} {h1 : AHp} {v : Int32} (hr : cls (h.1 s1) = 3) (hq : Rf d 24 0 [.ref s1, .int s0] [] h = some (some (.int v), h1)) : Rf (d + 1) 17 38 [a0, a1, a2, a3] [.int s0, .ref s1] h = Rf (d + 1) 17 41 [a0, a1, a2, a3] [.int v] h1 := clV (c := 24) (as := [.int s0]) c17_38 rfl (by simp [isV]) (by rw [hr]; rfl) hq
theorem c17_41 : cd 17 41 = some (41, .ifCond .eq 7, 3, [(48, 0)]) := by decide +kernel
theorem x17_41 {d : Nat} {a0 a1 a2 a3 : Value} {s0 : Int32} {h : AHp} : Rf d 17 41 [a0, a1, a2, a3] [.int s0] h = if s0 = 0 then Rf d 17 48 [a0, a1, a2, a3] [] h else Rf d 17 44 [a0, a1, a2, a3] [] h := Rf_brd ((stp_of c17_41).trans rfl)
theorem c17_44 : cd 17 44 = some (44, .iconst 1, 1, []) := by decide +kernel
theorem x17_44 {d : Nat} {a0 a1 a2 a3 : Value} {h : AHp} : Rf d 17 44 [a0, a1, a2, a3] [] h = Rf d 17 45 [a0, a1, a2, a3] [.int 1] h := Rf_go ((stp_of c17_44).trans rfl)
theorem c17_45 : cd 17 45 = some (45, .goto 4, 3, [(49, 0)]) := by decide +kernel
theorem x17_45 {d : Nat} {a0 a1 a2 a3 : Value} {s0 : Int32} {h : AHp} : Rf d 17 45 [a0, a1, a2, a3] [.int s0] h = Rf d 17 49 [a0, a1, a2, a3] [.int s0] h := Rf_go ((stp_of c17_45).trans rfl)
-- 18: X3_readBoth
theorem c18_0 : cd 18 0 = some (0, .aload_n 0, 1, []) := by decide +kernel
theorem x18_0 {d : Nat} {a1 a2 a3 : Value} {x : Nat} {h : AHp} : Rf d 18 0 [.ref x, a1, a2, a3] [] h = Rf d 18 1 [.ref x, a1, a2, a3] [.ref x] h := Rf_go ((stp_of c18_0).trans rfl)
theorem c18_1 : cd 18 1 = some (1, .iload_n 1, 1, []) := by decide +kernel
theorem x18_1 {d : Nat} {a0 a2 a3 : Value} {s0 : Nat} {x : Int32} {h : AHp} : Rf d 18 1 [a0, .int x, a2, a3] [.ref s0] h = Rf d 18 2 [a0, .int x, a2, a3] [.int x, .ref s0] h := Rf_go ((stp_of c18_1).trans rfl)
theorem c18_2 : cd 18 2 = some (2, .invokevirtual 94, 3, [(3, 19)]) := by decide +kernel
theorem xc18_2 {d : Nat} {a0 a1 a2 a3 : Value} {s0 : Int32} {s1 : Nat} {h : AHp} {h1 : AHp} {v : Int32} (hr : cls (h.1 s1) = 3) (hq : Rf d 19 0 [.ref s1, .int s0, noV, noV, noV] [] h = some (some (.int v), h1)) : Rf (d + 1) 18 2 [a0, a1, a2, a3] [.int s0, .ref s1] h = Rf (d + 1) 18 5 [a0, a1, a2, a3] [.int v] h1 := clV (c := 19) (as := [.int s0]) c18_2 rfl (by simp [isV]) (by rw [hr]; rfl) hq
theorem c18_5 : cd 18 5 = some (5, .istore_n 2, 1, []) := by decide +kernel
theorem x18_5 {d : Nat} {a0 a1 a2 a3 : Value} {s0 : Int32} {h : AHp} : Rf d 18 5 [a0, a1, a2, a3] [.int s0] h = Rf d 18 6 [a0, a1, .int s0, a3] [] h := Rf_go ((stp_of c18_5).trans rfl)
theorem c18_6 : cd 18 6 = some (6, .iconst 0, 1, []) := by decide +kernel
theorem x18_6 {d : Nat} {a0 a1 a2 a3 : Value} {h : AHp} : Rf d 18 6 [a0, a1, a2, a3] [] h = Rf d 18 7 [a0, a1, a2, a3] [.int 0] h := Rf_go ((stp_of c18_6).trans rfl)
theorem c18_7 : cd 18 7 = some (7, .istore_n 3, 1, []) := by decide +kernel
theorem x18_7 {d : Nat} {a0 a1 a2 a3 : Value} {s0 : Int32} {h : AHp} : Rf d 18 7 [a0, a1, a2, a3] [.int s0] h = Rf d 18 8 [a0, a1, a2, .int s0] [] h := Rf_go ((stp_of c18_7).trans rfl)
theorem c18_8 : cd 18 8 = some (8, .iload_n 2, 1, []) := by decide +kernel
theorem x18_8 {d : Nat} {a0 a1 a3 : Value} {x : Int32} {h : AHp} : Rf d 18 8 [a0, a1, .int x, a3] [] h = Rf d 18 9 [a0, a1, .int x, a3] [.int x] h := Rf_go ((stp_of c18_8).trans rfl)
theorem c18_9 : cd 18 9 = some (9, .ifCond .eq 47, 3, [(56, 0)]) := by decide +kernel
theorem x18_9 {d : Nat} {a0 a1 a2 a3 : Value} {s0 : Int32} {h : AHp} : Rf d 18 9 [a0, a1, a2, a3] [.int s0] h = if s0 = 0 then Rf d 18 56 [a0, a1, a2, a3] [] h else Rf d 18 12 [a0, a1, a2, a3] [] h := Rf_brd ((stp_of c18_9).trans rfl)
theorem c18_56 : cd 18 56 = some (56, .iload_n 2, 1, []) := by decide +kernel
theorem x18_56 {d : Nat} {a0 a1 a3 : Value} {x : Int32} {h : AHp} : Rf d 18 56 [a0, a1, .int x, a3] [] h = Rf d 18 57 [a0, a1, .int x, a3] [.int x] h := Rf_go ((stp_of c18_56).trans rfl)
theorem c18_57 : cd 18 57 = some (57, .ireturn, 1, []) := by decide +kernel
theorem x18_57 {d : Nat} {a0 a1 a2 a3 : Value} {s0 : Int32} {h : AHp} : Rf d 18 57 [a0, a1, a2, a3] [.int s0] h = if retI (some .boolean) s0 = true then some (some (.int s0), h) else Rx d 18 57 [a0, a1, a2, a3] [.int s0] h := Rf_ife (fun hk => by rw [stp_of c18_57]; exact if_pos hk)
theorem c18_12 : cd 18 12 = some (12, .iload_n 3, 1, []) := by decide +kernel
theorem x18_12 {d : Nat} {a0 a1 a2 : Value} {x : Int32} {h : AHp} : Rf d 18 12 [a0, a1, a2, .int x] [] h = Rf d 18 13 [a0, a1, a2, .int x] [.int x] h := Rf_go ((stp_of c18_12).trans rfl)
theorem c18_13 : cd 18 13 = some (13, .bipush 100, 2, []) := by decide +kernel
theorem x18_13 {d : Nat} {a0 a1 a2 a3 : Value} {s0 : Int32} {h : AHp} : Rf d 18 13 [a0, a1, a2, a3] [.int s0] h = Rf d 18 15 [a0, a1, a2, a3] [.int 100, .int s0] h := Rf_go ((stp_of c18_13).trans rfl)
theorem c18_15 : cd 18 15 = some (15, .if_icmp .ge 41, 3, [(56, 0)]) := by decide +kernel
theorem x18_15 {d : Nat} {a0 a1 a2 a3 : Value} {s0 : Int32} {s1 : Int32} {h : AHp} : Rf d 18 15 [a0, a1, a2, a3] [.int s0, .int s1] h = if s1 < s0 then Rf d 18 18 [a0, a1, a2, a3] [] h else Rf d 18 56 [a0, a1, a2, a3] [] h := Rf_brn ((stp_of c18_15).trans rfl)
theorem c18_18 : cd 18 18 = some (18, .aload_n 0, 1, []) := by decide +kernel
theorem x18_18 {d : Nat} {a1 a2 a3 : Value} {x : Nat} {h : AHp} : Rf d 18 18 [.ref x, a1, a2, a3] [] h = Rf d 18 19 [.ref x, a1, a2, a3] [.ref x] h := Rf_go ((stp_of c18_18).trans rfl)
theorem c18_19 : cd 18 19 = some (19, .bipush 38, 2, []) := by decide +kernel
theorem x18_19 {d : Nat} {a0 a1 a2 a3 : Value} {s0 : Nat} {h : AHp} : Rf d 18 19 [a0, a1, a2, a3] [.ref s0] h = Rf d 18 21 [a0, a1, a2, a3] [.int 38, .ref s0] h := Rf_go ((stp_of c18_19).trans rfl)
theorem c18_21 : cd 18 21 = some (21, .invokevirtual 42, 3, [(3, 21)]) := by decide +kernel
theorem xc18_21 {d : Nat} {a0 a1 a2 a3 : Value} {s0 : Int32} {s1 : Nat} {h : AHp} {h1 : AHp} {v : Int32} (hr : cls (h.1 s1) = 3) (hq : Rf d 21 0 [.ref s1, .int s0] [] h = some (some (.int v), h1)) : Rf (d + 1) 18 21 [a0, a1, a2, a3] [.int s0, .ref s1] h = Rf (d + 1) 18 24 [a0, a1, a2, a3] [.int v] h1 := clV (c := 21) (as := [.int s0]) c18_21 rfl (by simp [isV]) (by rw [hr]; rfl) hq
theorem c18_24 : cd 18 24 = some (24, .ifCond .eq 32, 3, [(56, 0)]) := by decide +kernel
theorem x18_24 {d : Nat} {a0 a1 a2 a3 : Value} {s0 : Int32} {h : AHp} : Rf d 18 24 [a0, a1, a2, a3] [.int s0] h = if s0 = 0 then Rf d 18 56 [a0, a1, a2, a3] [] h else Rf d 18 27 [a0, a1, a2, a3] [] h := Rf_brd ((stp_of c18_24).trans rfl)
theorem c18_27 : cd 18 27 = some (27, .aload_n 0, 1, []) := by decide +kernel
theorem x18_27 {d : Nat} {a1 a2 a3 : Value} {x : Nat} {h : AHp} : Rf d 18 27 [.ref x, a1, a2, a3] [] h = Rf d 18 28 [.ref x, a1, a2, a3] [.ref x] h := Rf_go ((stp_of c18_27).trans rfl)
theorem c18_28 : cd 18 28 = some (28, .iload_n 1, 1, []) := by decide +kernel
theorem x18_28 {d : Nat} {a0 a2 a3 : Value} {s0 : Nat} {x : Int32} {h : AHp} : Rf d 18 28 [a0, .int x, a2, a3] [.ref s0] h = Rf d 18 29 [a0, .int x, a2, a3] [.int x, .ref s0] h := Rf_go ((stp_of c18_28).trans rfl)
theorem c18_29 : cd 18 29 = some (29, .invokevirtual 94, 3, [(3, 19)]) := by decide +kernel
theorem xc18_29 {d : Nat} {a0 a1 a2 a3 : Value} {s0 : Int32} {s1 : Nat} {h : AHp} {h1 : AHp} {v : Int32} (hr : cls (h.1 s1) = 3) (hq : Rf d 19 0 [.ref s1, .int s0, noV, noV, noV] [] h = some (some (.int v), h1)) : Rf (d + 1) 18 29 [a0, a1, a2, a3] [.int s0, .ref s1] h = Rf (d + 1) 18 32 [a0, a1, a2, a3] [.int v] h1 := clV (c := 19) (as := [.int s0]) c18_29 rfl (by simp [isV]) (by rw [hr]; rfl) hq
theorem c18_32 : cd 18 32 = some (32, .ifCond .eq 16, 3, [(48, 0)]) := by decide +kernel
theorem x18_32 {d : Nat} {a0 a1 a2 a3 : Value} {s0 : Int32} {h : AHp} : Rf d 18 32 [a0, a1, a2, a3] [.int s0] h = if s0 = 0 then Rf d 18 48 [a0, a1, a2, a3] [] h else Rf d 18 35 [a0, a1, a2, a3] [] h := Rf_brd ((stp_of c18_32).trans rfl)
theorem c18_48 : cd 18 48 = some (48, .iconst 0, 1, []) := by decide +kernel
theorem x18_48 {d : Nat} {a0 a1 a2 a3 : Value} {h : AHp} : Rf d 18 48 [a0, a1, a2, a3] [] h = Rf d 18 49 [a0, a1, a2, a3] [.int 0] h := Rf_go ((stp_of c18_48).trans rfl)
theorem c18_49 : cd 18 49 = some (49, .istore_n 2, 1, []) := by decide +kernel
theorem x18_49 {d : Nat} {a0 a1 a2 a3 : Value} {s0 : Int32} {h : AHp} : Rf d 18 49 [a0, a1, a2, a3] [.int s0] h = Rf d 18 50 [a0, a1, .int s0, a3] [] h := Rf_go ((stp_of c18_49).trans rfl)
theorem c18_50 : cd 18 50 = some (50, .iinc 3 1, 3, []) := by decide +kernel
theorem x18_50 {d : Nat} {a0 a1 a2 : Value} {x : Int32} {h : AHp} : Rf d 18 50 [a0, a1, a2, .int x] [] h = Rf d 18 53 [a0, a1, a2, .int (x + 1)] [] h := Rf_go ((stp_of c18_50).trans rfl)
theorem c18_53 : cd 18 53 = some (53, .goto (-45), 3, [(8, 0)]) := by decide +kernel
theorem x18_53 {d : Nat} {a0 a1 a2 a3 : Value} {h : AHp} : Rf d 18 53 [a0, a1, a2, a3] [] h = Rf d 18 8 [a0, a1, a2, a3] [] h := Rf_go ((stp_of c18_53).trans rfl)
theorem c18_35 : cd 18 35 = some (35, .aload_n 0, 1, []) := by decide +kernel
theorem x18_35 {d : Nat} {a1 a2 a3 : Value} {x : Nat} {h : AHp} : Rf d 18 35 [.ref x, a1, a2, a3] [] h = Rf d 18 36 [.ref x, a1, a2, a3] [.ref x] h := Rf_go ((stp_of c18_35).trans rfl)
theorem c18_36 : cd 18 36 = some (36, .bipush (-2), 2, []) := by decide +kernel
theorem x18_36 {d : Nat} {a0 a1 a2 a3 : Value} {s0 : Nat} {h : AHp} : Rf d 18 36 [a0, a1, a2, a3] [.ref s0] h = Rf d 18 38 [a0, a1, a2, a3] [.int (-2), .ref s0] h := Rf_go ((stp_of c18_36).trans rfl)
theorem c18_38 : cd 18 38 = some (38, .invokevirtual 91, 3, [(3, 24)]) := by decide +kernel
theorem xc18_38 {d : Nat} {a0 a1 a2 a3 : Value} {s0 : Int32} {s1 : Nat} {h : AHp} {h1 : AHp} {v : Int32} (hr : cls (h.1 s1) = 3) (hq : Rf d 24 0 [.ref s1, .int s0] [] h = some (some (.int v), h1)) : Rf (d + 1) 18 38 [a0, a1, a2, a3] [.int s0, .ref s1] h = Rf (d + 1) 18 41 [a0, a1, a2, a3] [.int v] h1 := clV (c := 24) (as := [.int s0]) c18_38 rfl (by simp [isV]) (by rw [hr]; rfl) hq
theorem c18_41 : cd 18 41 = some (41, .ifCond .eq 7, 3, [(48, 0)]) := by decide +kernel
theorem x18_41 {d : Nat} {a0 a1 a2 a3 : Value} {s0 : Int32} {h : AHp} : Rf d 18 41 [a0, a1, a2, a3] [.int s0] h = if s0 = 0 then Rf d 18 48 [a0, a1, a2, a3] [] h else Rf d 18 44 [a0, a1, a2, a3] [] h := Rf_brd ((stp_of c18_41).trans rfl)
theorem c18_44 : cd 18 44 = some (44, .iconst 1, 1, []) := by decide +kernel
theorem x18_44 {d : Nat} {a0 a1 a2 a3 : Value} {h : AHp} : Rf d 18 44 [a0, a1, a2, a3] [] h = Rf d 18 45 [a0, a1, a2, a3] [.int 1] h := Rf_go ((stp_of c18_44).trans rfl)
theorem c18_45 : cd 18 45 = some (45, .goto 4, 3, [(49, 0)]) := by decide +kernel
theorem x18_45 {d : Nat} {a0 a1 a2 a3 : Value} {s0 : Int32} {h : AHp} : Rf d 18 45 [a0, a1, a2, a3] [.int s0] h = Rf d 18 49 [a0, a1, a2, a3] [.int s0] h := Rf_go ((stp_of c18_45).trans rfl)
-- 19: X3_readPart
theorem c19_0 : cd 19 0 = some (0, .iload_n 1, 1, []) := by decide +kernel
theorem x19_0 {d : Nat} {a0 a2 a3 a4 : Value} {x : Int32} {h : AHp} : Rf d 19 0 [a0, .int x, a2, a3, a4] [] h = Rf d 19 1 [a0, .int x, a2, a3, a4] [.int x] h := Rf_go ((stp_of c19_0).trans rfl)
theorem c19_1 : cd 19 1 = some (1, .iconst 5, 1, []) := by decide +kernel
theorem x19_1 {d : Nat} {a0 a1 a2 a3 a4 : Value} {s0 : Int32} {h : AHp} : Rf d 19 1 [a0, a1, a2, a3, a4] [.int s0] h = Rf d 19 2 [a0, a1, a2, a3, a4] [.int 5, .int s0] h := Rf_go ((stp_of c19_1).trans rfl)
theorem c19_2 : cd 19 2 = some (2, .if_icmp .ge 36, 3, [(38, 0)]) := by decide +kernel
theorem x19_2 {d : Nat} {a0 a1 a2 a3 a4 : Value} {s0 : Int32} {s1 : Int32} {h : AHp} : Rf d 19 2 [a0, a1, a2, a3, a4] [.int s0, .int s1] h = if s1 < s0 then Rf d 19 5 [a0, a1, a2, a3, a4] [] h else Rf d 19 38 [a0, a1, a2, a3, a4] [] h := Rf_brn ((stp_of c19_2).trans rfl)
theorem c19_38 : cd 19 38 = some (38, .iload_n 1, 1, []) := by decide +kernel
theorem x19_38 {d : Nat} {a0 a2 a3 a4 : Value} {x : Int32} {h : AHp} : Rf d 19 38 [a0, .int x, a2, a3, a4] [] h = Rf d 19 39 [a0, .int x, a2, a3, a4] [.int x] h := Rf_go ((stp_of c19_38).trans rfl)
theorem c19_39 : cd 19 39 = some (39, .iconst 5, 1, []) := by decide +kernel
theorem x19_39 {d : Nat} {a0 a1 a2 a3 a4 : Value} {s0 : Int32} {h : AHp} : Rf d 19 39 [a0, a1, a2, a3, a4] [.int s0] h = Rf d 19 40 [a0, a1, a2, a3, a4] [.int 5, .int s0] h := Rf_go ((stp_of c19_39).trans rfl)
theorem c19_40 : cd 19 40 = some (40, .if_icmp .ge 37, 3, [(77, 0)]) := by decide +kernel
theorem x19_40 {d : Nat} {a0 a1 a2 a3 a4 : Value} {s0 : Int32} {s1 : Int32} {h : AHp} : Rf d 19 40 [a0, a1, a2, a3, a4] [.int s0, .int s1] h = if s1 < s0 then Rf d 19 43 [a0, a1, a2, a3, a4] [] h else Rf d 19 77 [a0, a1, a2, a3, a4] [] h := Rf_brn ((stp_of c19_40).trans rfl)
theorem c19_77 : cd 19 77 = some (77, .aload_n 0, 1, []) := by decide +kernel
theorem x19_77 {d : Nat} {a1 a2 a3 a4 : Value} {x : Nat} {h : AHp} : Rf d 19 77 [.ref x, a1, a2, a3, a4] [] h = Rf d 19 78 [.ref x, a1, a2, a3, a4] [.ref x] h := Rf_go ((stp_of c19_77).trans rfl)
theorem c19_78 : cd 19 78 = some (78, .ldc 97, 2, [(1, 8)]) := by decide +kernel
theorem x19_78 {d : Nat} {a0 a1 a2 a3 a4 : Value} {s0 : Nat} {h : AHp} : Rf d 19 78 [a0, a1, a2, a3, a4] [.ref s0] h = Rf d 19 80 [a0, a1, a2, a3, a4] [.ref 8, .ref s0] h := Rf_go ((stp_of c19_78).trans rfl)
theorem c19_80 : cd 19 80 = some (80, .invokevirtual 48, 3, [(3, 23)]) := by decide +kernel
theorem xc19_80 {d : Nat} {a0 a1 a2 a3 a4 : Value} {s0 : Nat} {s1 : Nat} {h : AHp} {h1 : AHp} {v : Int32} (hr : cls (h.1 s1) = 3) (hq : Rf d 23 0 [.ref s1, .ref s0, noV] [] h = some (some (.int v), h1)) : Rf (d + 1) 19 80 [a0, a1, a2, a3, a4] [.ref s0, .ref s1] h = Rf (d + 1) 19 83 [a0, a1, a2, a3, a4] [.int v] h1 := clV (c := 23) (as := [.ref s0]) c19_80 rfl (by simp [isV]) (by rw [hr]; rfl) hq
theorem c19_83 : cd 19 83 = some (83, .istore_n 2, 1, []) := by decide +kernel
theorem x19_83 {d : Nat} {a0 a1 a2 a3 a4 : Value} {s0 : Int32} {h : AHp} : Rf d 19 83 [a0, a1, a2, a3, a4] [.int s0] h = Rf d 19 84 [a0, a1, .int s0, a3, a4] [] h := Rf_go ((stp_of c19_83).trans rfl)
theorem c19_84 : cd 19 84 = some (84, .iload_n 2, 1, []) := by decide +kernel
theorem x19_84 {d : Nat} {a0 a1 a3 a4 : Value} {x : Int32} {h : AHp} : Rf d 19 84 [a0, a1, .int x, a3, a4] [] h = Rf d 19 85 [a0, a1, .int x, a3, a4] [.int x] h := Rf_go ((stp_of c19_84).trans rfl)
theorem c19_85 : cd 19 85 = some (85, .ifCond .ge 7, 3, [(92, 0)]) := by decide +kernel
theorem x19_85 {d : Nat} {a0 a1 a2 a3 a4 : Value} {s0 : Int32} {h : AHp} : Rf d 19 85 [a0, a1, a2, a3, a4] [.int s0] h = if s0 < 0 then Rf d 19 88 [a0, a1, a2, a3, a4] [] h else Rf d 19 92 [a0, a1, a2, a3, a4] [] h := Rf_brn ((stp_of c19_85).trans rfl)
theorem c19_92 : cd 19 92 = some (92, .aload_n 0, 1, []) := by decide +kernel
theorem x19_92 {d : Nat} {a1 a2 a3 a4 : Value} {x : Nat} {h : AHp} : Rf d 19 92 [.ref x, a1, a2, a3, a4] [] h = Rf d 19 93 [.ref x, a1, a2, a3, a4] [.ref x] h := Rf_go ((stp_of c19_92).trans rfl)
theorem c19_93 : cd 19 93 = some (93, .ldc 99, 2, [(1, 9)]) := by decide +kernel
theorem x19_93 {d : Nat} {a0 a1 a2 a3 a4 : Value} {s0 : Nat} {h : AHp} : Rf d 19 93 [a0, a1, a2, a3, a4] [.ref s0] h = Rf d 19 95 [a0, a1, a2, a3, a4] [.ref 9, .ref s0] h := Rf_go ((stp_of c19_93).trans rfl)
theorem c19_95 : cd 19 95 = some (95, .invokevirtual 48, 3, [(3, 23)]) := by decide +kernel
theorem xc19_95 {d : Nat} {a0 a1 a2 a3 a4 : Value} {s0 : Nat} {s1 : Nat} {h : AHp} {h1 : AHp} {v : Int32} (hr : cls (h.1 s1) = 3) (hq : Rf d 23 0 [.ref s1, .ref s0, noV] [] h = some (some (.int v), h1)) : Rf (d + 1) 19 95 [a0, a1, a2, a3, a4] [.ref s0, .ref s1] h = Rf (d + 1) 19 98 [a0, a1, a2, a3, a4] [.int v] h1 := clV (c := 23) (as := [.ref s0]) c19_95 rfl (by simp [isV]) (by rw [hr]; rfl) hq
theorem c19_98 : cd 19 98 = some (98, .istore_n 3, 1, []) := by decide +kernel
theorem x19_98 {d : Nat} {a0 a1 a2 a3 a4 : Value} {s0 : Int32} {h : AHp} : Rf d 19 98 [a0, a1, a2, a3, a4] [.int s0] h = Rf d 19 99 [a0, a1, a2, .int s0, a4] [] h := Rf_go ((stp_of c19_98).trans rfl)
theorem c19_99 : cd 19 99 = some (99, .iload_n 3, 1, []) := by decide +kernel
theorem x19_99 {d : Nat} {a0 a1 a2 a4 : Value} {x : Int32} {h : AHp} : Rf d 19 99 [a0, a1, a2, .int x, a4] [] h = Rf d 19 100 [a0, a1, a2, .int x, a4] [.int x] h := Rf_go ((stp_of c19_99).trans rfl)
theorem c19_100 : cd 19 100 = some (100, .ifCond .ge 7, 3, [(107, 0)]) := by decide +kernel
theorem x19_100 {d : Nat} {a0 a1 a2 a3 a4 : Value} {s0 : Int32} {h : AHp} : Rf d 19 100 [a0, a1, a2, a3, a4] [.int s0] h = if s0 < 0 then Rf d 19 103 [a0, a1, a2, a3, a4] [] h else Rf d 19 107 [a0, a1, a2, a3, a4] [] h := Rf_brn ((stp_of c19_100).trans rfl)
theorem c19_107 : cd 19 107 = some (107, .aload_n 0, 1, []) := by decide +kernel
theorem x19_107 {d : Nat} {a1 a2 a3 a4 : Value} {x : Nat} {h : AHp} : Rf d 19 107 [.ref x, a1, a2, a3, a4] [] h = Rf d 19 108 [.ref x, a1, a2, a3, a4] [.ref x] h := Rf_go ((stp_of c19_107).trans rfl)
theorem c19_108 : cd 19 108 = some (108, .invokevirtual 60, 3, [(3, 20)]) := by decide +kernel
theorem xc19_108 {d : Nat} {a0 a1 a2 a3 a4 : Value} {s0 : Nat} {h : AHp} {h1 : AHp} {v : Int32} (hr : cls (h.1 s0) = 3) (hq : Rf d 20 0 [.ref s0, noV, noV] [] h = some (some (.int v), h1)) : Rf (d + 1) 19 108 [a0, a1, a2, a3, a4] [.ref s0] h = Rf (d + 1) 19 111 [a0, a1, a2, a3, a4] [.int v] h1 := clV (c := 20) (as := []) c19_108 rfl (by simp [isV]) (by rw [hr]; rfl) hq
theorem c19_111 : cd 19 111 = some (111, .istore 4, 2, []) := by decide +kernel
theorem x19_111 {d : Nat} {a0 a1 a2 a3 a4 : Value} {s0 : Int32} {h : AHp} : Rf d 19 111 [a0, a1, a2, a3, a4] [.int s0] h = Rf d 19 113 [a0, a1, a2, a3, .int s0] [] h := Rf_go ((stp_of c19_111).trans rfl)
theorem c19_113 : cd 19 113 = some (113, .iload 4, 2, []) := by decide +kernel
theorem x19_113 {d : Nat} {a0 a1 a2 a3 : Value} {x : Int32} {h : AHp} : Rf d 19 113 [a0, a1, a2, a3, .int x] [] h = Rf d 19 115 [a0, a1, a2, a3, .int x] [.int x] h := Rf_go ((stp_of c19_113).trans rfl)
theorem c19_115 : cd 19 115 = some (115, .ifCond .lt 25, 3, [(140, 0)]) := by decide +kernel
theorem x19_115 {d : Nat} {a0 a1 a2 a3 a4 : Value} {s0 : Int32} {h : AHp} : Rf d 19 115 [a0, a1, a2, a3, a4] [.int s0] h = if s0 < 0 then Rf d 19 140 [a0, a1, a2, a3, a4] [] h else Rf d 19 118 [a0, a1, a2, a3, a4] [] h := Rf_brd ((stp_of c19_115).trans rfl)
theorem c19_140 : cd 19 140 = some (140, .iconst 0, 1, []) := by decide +kernel
theorem x19_140 {d : Nat} {a0 a1 a2 a3 a4 : Value} {h : AHp} : Rf d 19 140 [a0, a1, a2, a3, a4] [] h = Rf d 19 141 [a0, a1, a2, a3, a4] [.int 0] h := Rf_go ((stp_of c19_140).trans rfl)
theorem c19_141 : cd 19 141 = some (141, .ireturn, 1, []) := by decide +kernel
theorem x19_141 {d : Nat} {a0 a1 a2 a3 a4 : Value} {s0 : Int32} {h : AHp} : Rf d 19 141 [a0, a1, a2, a3, a4] [.int s0] h = if retI (some .boolean) s0 = true then some (some (.int s0), h) else Rx d 19 141 [a0, a1, a2, a3, a4] [.int s0] h := Rf_ife (fun hk => by rw [stp_of c19_141]; exact if_pos hk)
theorem c19_118 : cd 19 118 = some (118, .aload_n 0, 1, []) := by decide +kernel
theorem x19_118 {d : Nat} {a1 a2 a3 a4 : Value} {x : Nat} {h : AHp} : Rf d 19 118 [.ref x, a1, a2, a3, a4] [] h = Rf d 19 119 [.ref x, a1, a2, a3, a4] [.ref x] h := Rf_go ((stp_of c19_118).trans rfl)
theorem c19_119 : cd 19 119 = some (119, .iload_n 2, 1, []) := by decide +kernel
theorem x19_119 {d : Nat} {a0 a1 a3 a4 : Value} {s0 : Nat} {x : Int32} {h : AHp} : Rf d 19 119 [a0, a1, .int x, a3, a4] [.ref s0] h = Rf d 19 120 [a0, a1, .int x, a3, a4] [.int x, .ref s0] h := Rf_go ((stp_of c19_119).trans rfl)
theorem c19_120 : cd 19 120 = some (120, .iconst 3, 1, []) := by decide +kernel
theorem x19_120 {d : Nat} {a0 a1 a2 a3 a4 : Value} {s0 : Int32} {s1 : Nat} {h : AHp} : Rf d 19 120 [a0, a1, a2, a3, a4] [.int s0, .ref s1] h = Rf d 19 121 [a0, a1, a2, a3, a4] [.int 3, .int s0, .ref s1] h := Rf_go ((stp_of c19_120).trans rfl)
theorem c19_121 : cd 19 121 = some (121, .imul, 1, []) := by decide +kernel
theorem x19_121 {d : Nat} {a0 a1 a2 a3 a4 : Value} {s0 : Int32} {s1 : Int32} {s2 : Nat} {h : AHp} : Rf d 19 121 [a0, a1, a2, a3, a4] [.int s0, .int s1, .ref s2] h = Rf d 19 122 [a0, a1, a2, a3, a4] [.int (s1 * s0), .ref s2] h := Rf_go ((stp_of c19_121).trans rfl)
theorem c19_122 : cd 19 122 = some (122, .iload_n 3, 1, []) := by decide +kernel
theorem x19_122 {d : Nat} {a0 a1 a2 a4 : Value} {s0 : Int32} {s1 : Nat} {x : Int32} {h : AHp} : Rf d 19 122 [a0, a1, a2, .int x, a4] [.int s0, .ref s1] h = Rf d 19 123 [a0, a1, a2, .int x, a4] [.int x, .int s0, .ref s1] h := Rf_go ((stp_of c19_122).trans rfl)
theorem c19_123 : cd 19 123 = some (123, .iadd, 1, []) := by decide +kernel
theorem x19_123 {d : Nat} {a0 a1 a2 a3 a4 : Value} {s0 : Int32} {s1 : Int32} {s2 : Nat} {h : AHp} : Rf d 19 123 [a0, a1, a2, a3, a4] [.int s0, .int s1, .ref s2] h = Rf d 19 124 [a0, a1, a2, a3, a4] [.int (s1 + s0), .ref s2] h := Rf_go ((stp_of c19_123).trans rfl)
theorem c19_124 : cd 19 124 = some (124, .bipush 100, 2, []) := by decide +kernel
theorem x19_124 {d : Nat} {a0 a1 a2 a3 a4 : Value} {s0 : Int32} {s1 : Nat} {h : AHp} : Rf d 19 124 [a0, a1, a2, a3, a4] [.int s0, .ref s1] h = Rf d 19 126 [a0, a1, a2, a3, a4] [.int 100, .int s0, .ref s1] h := Rf_go ((stp_of c19_124).trans rfl)
theorem c19_126 : cd 19 126 = some (126, .imul, 1, []) := by decide +kernel
theorem x19_126 {d : Nat} {a0 a1 a2 a3 a4 : Value} {s0 : Int32} {s1 : Int32} {s2 : Nat} {h : AHp} : Rf d 19 126 [a0, a1, a2, a3, a4] [.int s0, .int s1, .ref s2] h = Rf d 19 127 [a0, a1, a2, a3, a4] [.int (s1 * s0), .ref s2] h := Rf_go ((stp_of c19_126).trans rfl)
theorem c19_127 : cd 19 127 = some (127, .iload 4, 2, []) := by decide +kernel
theorem x19_127 {d : Nat} {a0 a1 a2 a3 : Value} {s0 : Int32} {s1 : Nat} {x : Int32} {h : AHp} : Rf d 19 127 [a0, a1, a2, a3, .int x] [.int s0, .ref s1] h = Rf d 19 129 [a0, a1, a2, a3, .int x] [.int x, .int s0, .ref s1] h := Rf_go ((stp_of c19_127).trans rfl)
theorem c19_129 : cd 19 129 = some (129, .iadd, 1, []) := by decide +kernel
theorem x19_129 {d : Nat} {a0 a1 a2 a3 a4 : Value} {s0 : Int32} {s1 : Int32} {s2 : Nat} {h : AHp} : Rf d 19 129 [a0, a1, a2, a3, a4] [.int s0, .int s1, .ref s2] h = Rf d 19 130 [a0, a1, a2, a3, a4] [.int (s1 + s0), .ref s2] h := Rf_go ((stp_of c19_129).trans rfl)
theorem c19_130 : cd 19 130 = some (130, .invokevirtual 91, 3, [(3, 24)]) := by decide +kernel
theorem xc19_130 {d : Nat} {a0 a1 a2 a3 a4 : Value} {s0 : Int32} {s1 : Nat} {h : AHp} {h1 : AHp} {v : Int32} (hr : cls (h.1 s1) = 3) (hq : Rf d 24 0 [.ref s1, .int s0] [] h = some (some (.int v), h1)) : Rf (d + 1) 19 130 [a0, a1, a2, a3, a4] [.int s0, .ref s1] h = Rf (d + 1) 19 133 [a0, a1, a2, a3, a4] [.int v] h1 := clV (c := 24) (as := [.int s0]) c19_130 rfl (by simp [isV]) (by rw [hr]; rfl) hq
theorem c19_133 : cd 19 133 = some (133, .ifCond .eq 7, 3, [(140, 0)]) := by decide +kernel
theorem x19_133 {d : Nat} {a0 a1 a2 a3 a4 : Value} {s0 : Int32} {h : AHp} : Rf d 19 133 [a0, a1, a2, a3, a4] [.int s0] h = if s0 = 0 then Rf d 19 140 [a0, a1, a2, a3, a4] [] h else Rf d 19 136 [a0, a1, a2, a3, a4] [] h := Rf_brd ((stp_of c19_133).trans rfl)
theorem c19_136 : cd 19 136 = some (136, .iconst 1, 1, []) := by decide +kernel
theorem x19_136 {d : Nat} {a0 a1 a2 a3 a4 : Value} {h : AHp} : Rf d 19 136 [a0, a1, a2, a3, a4] [] h = Rf d 19 137 [a0, a1, a2, a3, a4] [.int 1] h := Rf_go ((stp_of c19_136).trans rfl)
theorem c19_137 : cd 19 137 = some (137, .goto 4, 3, [(141, 0)]) := by decide +kernel
theorem x19_137 {d : Nat} {a0 a1 a2 a3 a4 : Value} {s0 : Int32} {h : AHp} : Rf d 19 137 [a0, a1, a2, a3, a4] [.int s0] h = Rf d 19 141 [a0, a1, a2, a3, a4] [.int s0] h := Rf_go ((stp_of c19_137).trans rfl)
theorem c19_103 : cd 19 103 = some (103, .iconst (-1), 1, []) := by decide +kernel
theorem x19_103 {d : Nat} {a0 a1 a2 a3 a4 : Value} {h : AHp} : Rf d 19 103 [a0, a1, a2, a3, a4] [] h = Rf d 19 104 [a0, a1, a2, a3, a4] [.int (-1)] h := Rf_go ((stp_of c19_103).trans rfl)
theorem c19_104 : cd 19 104 = some (104, .goto 7, 3, [(111, 0)]) := by decide +kernel
theorem x19_104 {d : Nat} {a0 a1 a2 a3 a4 : Value} {s0 : Int32} {h : AHp} : Rf d 19 104 [a0, a1, a2, a3, a4] [.int s0] h = Rf d 19 111 [a0, a1, a2, a3, a4] [.int s0] h := Rf_go ((stp_of c19_104).trans rfl)
theorem c19_88 : cd 19 88 = some (88, .iconst (-1), 1, []) := by decide +kernel
theorem x19_88 {d : Nat} {a0 a1 a2 a3 a4 : Value} {h : AHp} : Rf d 19 88 [a0, a1, a2, a3, a4] [] h = Rf d 19 89 [a0, a1, a2, a3, a4] [.int (-1)] h := Rf_go ((stp_of c19_88).trans rfl)
theorem c19_89 : cd 19 89 = some (89, .goto 9, 3, [(98, 0)]) := by decide +kernel
theorem x19_89 {d : Nat} {a0 a1 a2 a3 a4 : Value} {s0 : Int32} {h : AHp} : Rf d 19 89 [a0, a1, a2, a3, a4] [.int s0] h = Rf d 19 98 [a0, a1, a2, a3, a4] [.int s0] h := Rf_go ((stp_of c19_89).trans rfl)
theorem c19_43 : cd 19 43 = some (43, .aload_n 0, 1, []) := by decide +kernel
theorem x19_43 {d : Nat} {a1 a2 a3 a4 : Value} {x : Nat} {h : AHp} : Rf d 19 43 [.ref x, a1, a2, a3, a4] [] h = Rf d 19 44 [.ref x, a1, a2, a3, a4] [.ref x] h := Rf_go ((stp_of c19_43).trans rfl)
theorem c19_44 : cd 19 44 = some (44, .bipush 40, 2, []) := by decide +kernel
theorem x19_44 {d : Nat} {a0 a1 a2 a3 a4 : Value} {s0 : Nat} {h : AHp} : Rf d 19 44 [a0, a1, a2, a3, a4] [.ref s0] h = Rf d 19 46 [a0, a1, a2, a3, a4] [.int 40, .ref s0] h := Rf_go ((stp_of c19_44).trans rfl)
theorem c19_46 : cd 19 46 = some (46, .invokevirtual 42, 3, [(3, 21)]) := by decide +kernel
theorem xc19_46 {d : Nat} {a0 a1 a2 a3 a4 : Value} {s0 : Int32} {s1 : Nat} {h : AHp} {h1 : AHp} {v : Int32} (hr : cls (h.1 s1) = 3) (hq : Rf d 21 0 [.ref s1, .int s0] [] h = some (some (.int v), h1)) : Rf (d + 1) 19 46 [a0, a1, a2, a3, a4] [.int s0, .ref s1] h = Rf (d + 1) 19 49 [a0, a1, a2, a3, a4] [.int v] h1 := clV (c := 21) (as := [.int s0]) c19_46 rfl (by simp [isV]) (by rw [hr]; rfl) hq
theorem c19_49 : cd 19 49 = some (49, .ifCond .eq 28, 3, [(77, 0)]) := by decide +kernel
theorem x19_49 {d : Nat} {a0 a1 a2 a3 a4 : Value} {s0 : Int32} {h : AHp} : Rf d 19 49 [a0, a1, a2, a3, a4] [.int s0] h = if s0 = 0 then Rf d 19 77 [a0, a1, a2, a3, a4] [] h else Rf d 19 52 [a0, a1, a2, a3, a4] [] h := Rf_brd ((stp_of c19_49).trans rfl)
theorem c19_52 : cd 19 52 = some (52, .aload_n 0, 1, []) := by decide +kernel
theorem x19_52 {d : Nat} {a1 a2 a3 a4 : Value} {x : Nat} {h : AHp} : Rf d 19 52 [.ref x, a1, a2, a3, a4] [] h = Rf d 19 53 [.ref x, a1, a2, a3, a4] [.ref x] h := Rf_go ((stp_of c19_52).trans rfl)
theorem c19_53 : cd 19 53 = some (53, .iload_n 1, 1, []) := by decide +kernel
theorem x19_53 {d : Nat} {a0 a2 a3 a4 : Value} {s0 : Nat} {x : Int32} {h : AHp} : Rf d 19 53 [a0, .int x, a2, a3, a4] [.ref s0] h = Rf d 19 54 [a0, .int x, a2, a3, a4] [.int x, .ref s0] h := Rf_go ((stp_of c19_53).trans rfl)
theorem c19_54 : cd 19 54 = some (54, .iconst 1, 1, []) := by decide +kernel
theorem x19_54 {d : Nat} {a0 a1 a2 a3 a4 : Value} {s0 : Int32} {s1 : Nat} {h : AHp} : Rf d 19 54 [a0, a1, a2, a3, a4] [.int s0, .ref s1] h = Rf d 19 55 [a0, a1, a2, a3, a4] [.int 1, .int s0, .ref s1] h := Rf_go ((stp_of c19_54).trans rfl)
theorem c19_55 : cd 19 55 = some (55, .iadd, 1, []) := by decide +kernel
theorem x19_55 {d : Nat} {a0 a1 a2 a3 a4 : Value} {s0 : Int32} {s1 : Int32} {s2 : Nat} {h : AHp} : Rf d 19 55 [a0, a1, a2, a3, a4] [.int s0, .int s1, .ref s2] h = Rf d 19 56 [a0, a1, a2, a3, a4] [.int (s1 + s0), .ref s2] h := Rf_go ((stp_of c19_55).trans rfl)
theorem c19_56 : cd 19 56 = some (56, .invokevirtual 64, 3, [(3, 17)]) := by decide +kernel
theorem xc19_56 {d : Nat} {a0 a1 a2 a3 a4 : Value} {s0 : Int32} {s1 : Nat} {h : AHp} {h1 : AHp} {v : Int32} (hr : cls (h.1 s1) = 3) (hq : Rf d 17 0 [.ref s1, .int s0, noV, noV] [] h = some (some (.int v), h1)) : Rf (d + 1) 19 56 [a0, a1, a2, a3, a4] [.int s0, .ref s1] h = Rf (d + 1) 19 59 [a0, a1, a2, a3, a4] [.int v] h1 := clV (c := 17) (as := [.int s0]) c19_56 rfl (by simp [isV]) (by rw [hr]; rfl) hq
theorem c19_59 : cd 19 59 = some (59, .ifCond .eq 16, 3, [(75, 0)]) := by decide +kernel
theorem x19_59 {d : Nat} {a0 a1 a2 a3 a4 : Value} {s0 : Int32} {h : AHp} : Rf d 19 59 [a0, a1, a2, a3, a4] [.int s0] h = if s0 = 0 then Rf d 19 75 [a0, a1, a2, a3, a4] [] h else Rf d 19 62 [a0, a1, a2, a3, a4] [] h := Rf_brd ((stp_of c19_59).trans rfl)
theorem c19_75 : cd 19 75 = some (75, .iconst 0, 1, []) := by decide +kernel
theorem x19_75 {d : Nat} {a0 a1 a2 a3 a4 : Value} {h : AHp} : Rf d 19 75 [a0, a1, a2, a3, a4] [] h = Rf d 19 76 [a0, a1, a2, a3, a4] [.int 0] h := Rf_go ((stp_of c19_75).trans rfl)
theorem c19_76 : cd 19 76 = some (76, .ireturn, 1, []) := by decide +kernel
theorem x19_76 {d : Nat} {a0 a1 a2 a3 a4 : Value} {s0 : Int32} {h : AHp} : Rf d 19 76 [a0, a1, a2, a3, a4] [.int s0] h = if retI (some .boolean) s0 = true then some (some (.int s0), h) else Rx d 19 76 [a0, a1, a2, a3, a4] [.int s0] h := Rf_ife (fun hk => by rw [stp_of c19_76]; exact if_pos hk)
theorem c19_62 : cd 19 62 = some (62, .aload_n 0, 1, []) := by decide +kernel
theorem x19_62 {d : Nat} {a1 a2 a3 a4 : Value} {x : Nat} {h : AHp} : Rf d 19 62 [.ref x, a1, a2, a3, a4] [] h = Rf d 19 63 [.ref x, a1, a2, a3, a4] [.ref x] h := Rf_go ((stp_of c19_62).trans rfl)
theorem c19_63 : cd 19 63 = some (63, .bipush 41, 2, []) := by decide +kernel
theorem x19_63 {d : Nat} {a0 a1 a2 a3 a4 : Value} {s0 : Nat} {h : AHp} : Rf d 19 63 [a0, a1, a2, a3, a4] [.ref s0] h = Rf d 19 65 [a0, a1, a2, a3, a4] [.int 41, .ref s0] h := Rf_go ((stp_of c19_63).trans rfl)
theorem c19_65 : cd 19 65 = some (65, .invokevirtual 42, 3, [(3, 21)]) := by decide +kernel
theorem xc19_65 {d : Nat} {a0 a1 a2 a3 a4 : Value} {s0 : Int32} {s1 : Nat} {h : AHp} {h1 : AHp} {v : Int32} (hr : cls (h.1 s1) = 3) (hq : Rf d 21 0 [.ref s1, .int s0] [] h = some (some (.int v), h1)) : Rf (d + 1) 19 65 [a0, a1, a2, a3, a4] [.int s0, .ref s1] h = Rf (d + 1) 19 68 [a0, a1, a2, a3, a4] [.int v] h1 := clV (c := 21) (as := [.int s0]) c19_65 rfl (by simp [isV]) (by rw [hr]; rfl) hq
theorem c19_68 : cd 19 68 = some (68, .ifCond .eq 7, 3, [(75, 0)]) := by decide +kernel
theorem x19_68 {d : Nat} {a0 a1 a2 a3 a4 : Value} {s0 : Int32} {h : AHp} : Rf d 19 68 [a0, a1, a2, a3, a4] [.int s0] h = if s0 = 0 then Rf d 19 75 [a0, a1, a2, a3, a4] [] h else Rf d 19 71 [a0, a1, a2, a3, a4] [] h := Rf_brd ((stp_of c19_68).trans rfl)
theorem c19_71 : cd 19 71 = some (71, .iconst 1, 1, []) := by decide +kernel
theorem x19_71 {d : Nat} {a0 a1 a2 a3 a4 : Value} {h : AHp} : Rf d 19 71 [a0, a1, a2, a3, a4] [] h = Rf d 19 72 [a0, a1, a2, a3, a4] [.int 1] h := Rf_go ((stp_of c19_71).trans rfl)
theorem c19_72 : cd 19 72 = some (72, .goto 4, 3, [(76, 0)]) := by decide +kernel
theorem x19_72 {d : Nat} {a0 a1 a2 a3 a4 : Value} {s0 : Int32} {h : AHp} : Rf d 19 72 [a0, a1, a2, a3, a4] [.int s0] h = Rf d 19 76 [a0, a1, a2, a3, a4] [.int s0] h := Rf_go ((stp_of c19_72).trans rfl)
theorem c19_5 : cd 19 5 = some (5, .aload_n 0, 1, []) := by decide +kernel
theorem x19_5 {d : Nat} {a1 a2 a3 a4 : Value} {x : Nat} {h : AHp} : Rf d 19 5 [.ref x, a1, a2, a3, a4] [] h = Rf d 19 6 [.ref x, a1, a2, a3, a4] [.ref x] h := Rf_go ((stp_of c19_5).trans rfl)
theorem c19_6 : cd 19 6 = some (6, .bipush 33, 2, []) := by decide +kernel
theorem x19_6 {d : Nat} {a0 a1 a2 a3 a4 : Value} {s0 : Nat} {h : AHp} : Rf d 19 6 [a0, a1, a2, a3, a4] [.ref s0] h = Rf d 19 8 [a0, a1, a2, a3, a4] [.int 33, .ref s0] h := Rf_go ((stp_of c19_6).trans rfl)
theorem c19_8 : cd 19 8 = some (8, .invokevirtual 42, 3, [(3, 21)]) := by decide +kernel
theorem xc19_8 {d : Nat} {a0 a1 a2 a3 a4 : Value} {s0 : Int32} {s1 : Nat} {h : AHp} {h1 : AHp} {v : Int32} (hr : cls (h.1 s1) = 3) (hq : Rf d 21 0 [.ref s1, .int s0] [] h = some (some (.int v), h1)) : Rf (d + 1) 19 8 [a0, a1, a2, a3, a4] [.int s0, .ref s1] h = Rf (d + 1) 19 11 [a0, a1, a2, a3, a4] [.int v] h1 := clV (c := 21) (as := [.int s0]) c19_8 rfl (by simp [isV]) (by rw [hr]; rfl) hq
theorem c19_11 : cd 19 11 = some (11, .ifCond .eq 27, 3, [(38, 0)]) := by decide +kernel
theorem x19_11 {d : Nat} {a0 a1 a2 a3 a4 : Value} {s0 : Int32} {h : AHp} : Rf d 19 11 [a0, a1, a2, a3, a4] [.int s0] h = if s0 = 0 then Rf d 19 38 [a0, a1, a2, a3, a4] [] h else Rf d 19 14 [a0, a1, a2, a3, a4] [] h := Rf_brd ((stp_of c19_11).trans rfl)
theorem c19_14 : cd 19 14 = some (14, .aload_n 0, 1, []) := by decide +kernel
theorem x19_14 {d : Nat} {a1 a2 a3 a4 : Value} {x : Nat} {h : AHp} : Rf d 19 14 [.ref x, a1, a2, a3, a4] [] h = Rf d 19 15 [.ref x, a1, a2, a3, a4] [.ref x] h := Rf_go ((stp_of c19_14).trans rfl)
theorem c19_15 : cd 19 15 = some (15, .iload_n 1, 1, []) := by decide +kernel
theorem x19_15 {d : Nat} {a0 a2 a3 a4 : Value} {s0 : Nat} {x : Int32} {h : AHp} : Rf d 19 15 [a0, .int x, a2, a3, a4] [.ref s0] h = Rf d 19 16 [a0, .int x, a2, a3, a4] [.int x, .ref s0] h := Rf_go ((stp_of c19_15).trans rfl)
theorem c19_16 : cd 19 16 = some (16, .iconst 1, 1, []) := by decide +kernel
theorem x19_16 {d : Nat} {a0 a1 a2 a3 a4 : Value} {s0 : Int32} {s1 : Nat} {h : AHp} : Rf d 19 16 [a0, a1, a2, a3, a4] [.int s0, .ref s1] h = Rf d 19 17 [a0, a1, a2, a3, a4] [.int 1, .int s0, .ref s1] h := Rf_go ((stp_of c19_16).trans rfl)
theorem c19_17 : cd 19 17 = some (17, .iadd, 1, []) := by decide +kernel
theorem x19_17 {d : Nat} {a0 a1 a2 a3 a4 : Value} {s0 : Int32} {s1 : Int32} {s2 : Nat} {h : AHp} : Rf d 19 17 [a0, a1, a2, a3, a4] [.int s0, .int s1, .ref s2] h = Rf d 19 18 [a0, a1, a2, a3, a4] [.int (s1 + s0), .ref s2] h := Rf_go ((stp_of c19_17).trans rfl)
theorem c19_18 : cd 19 18 = some (18, .invokevirtual 94, 3, [(3, 19)]) := by decide +kernel
theorem xc19_18 {d : Nat} {a0 a1 a2 a3 a4 : Value} {s0 : Int32} {s1 : Nat} {h : AHp} {h1 : AHp} {v : Int32} (hr : cls (h.1 s1) = 3) (hq : Rf d 19 0 [.ref s1, .int s0, noV, noV, noV] [] h = some (some (.int v), h1)) : Rf (d + 1) 19 18 [a0, a1, a2, a3, a4] [.int s0, .ref s1] h = Rf (d + 1) 19 21 [a0, a1, a2, a3, a4] [.int v] h1 := clV (c := 19) (as := [.int s0]) c19_18 rfl (by simp [isV]) (by rw [hr]; rfl) hq
theorem c19_21 : cd 19 21 = some (21, .ifCond .eq 15, 3, [(36, 0)]) := by decide +kernel
theorem x19_21 {d : Nat} {a0 a1 a2 a3 a4 : Value} {s0 : Int32} {h : AHp} : Rf d 19 21 [a0, a1, a2, a3, a4] [.int s0] h = if s0 = 0 then Rf d 19 36 [a0, a1, a2, a3, a4] [] h else Rf d 19 24 [a0, a1, a2, a3, a4] [] h := Rf_brd ((stp_of c19_21).trans rfl)
theorem c19_36 : cd 19 36 = some (36, .iconst 0, 1, []) := by decide +kernel
theorem x19_36 {d : Nat} {a0 a1 a2 a3 a4 : Value} {h : AHp} : Rf d 19 36 [a0, a1, a2, a3, a4] [] h = Rf d 19 37 [a0, a1, a2, a3, a4] [.int 0] h := Rf_go ((stp_of c19_36).trans rfl)
theorem c19_37 : cd 19 37 = some (37, .ireturn, 1, []) := by decide +kernel
theorem x19_37 {d : Nat} {a0 a1 a2 a3 a4 : Value} {s0 : Int32} {h : AHp} : Rf d 19 37 [a0, a1, a2, a3, a4] [.int s0] h = if retI (some .boolean) s0 = true then some (some (.int s0), h) else Rx d 19 37 [a0, a1, a2, a3, a4] [.int s0] h := Rf_ife (fun hk => by rw [stp_of c19_37]; exact if_pos hk)
theorem c19_24 : cd 19 24 = some (24, .aload_n 0, 1, []) := by decide +kernel
theorem x19_24 {d : Nat} {a1 a2 a3 a4 : Value} {x : Nat} {h : AHp} : Rf d 19 24 [.ref x, a1, a2, a3, a4] [] h = Rf d 19 25 [.ref x, a1, a2, a3, a4] [.ref x] h := Rf_go ((stp_of c19_24).trans rfl)
theorem c19_25 : cd 19 25 = some (25, .iconst (-1), 1, []) := by decide +kernel
theorem x19_25 {d : Nat} {a0 a1 a2 a3 a4 : Value} {s0 : Nat} {h : AHp} : Rf d 19 25 [a0, a1, a2, a3, a4] [.ref s0] h = Rf d 19 26 [a0, a1, a2, a3, a4] [.int (-1), .ref s0] h := Rf_go ((stp_of c19_25).trans rfl)
theorem c19_26 : cd 19 26 = some (26, .invokevirtual 91, 3, [(3, 24)]) := by decide +kernel
theorem xc19_26 {d : Nat} {a0 a1 a2 a3 a4 : Value} {s0 : Int32} {s1 : Nat} {h : AHp} {h1 : AHp} {v : Int32} (hr : cls (h.1 s1) = 3) (hq : Rf d 24 0 [.ref s1, .int s0] [] h = some (some (.int v), h1)) : Rf (d + 1) 19 26 [a0, a1, a2, a3, a4] [.int s0, .ref s1] h = Rf (d + 1) 19 29 [a0, a1, a2, a3, a4] [.int v] h1 := clV (c := 24) (as := [.int s0]) c19_26 rfl (by simp [isV]) (by rw [hr]; rfl) hq
theorem c19_29 : cd 19 29 = some (29, .ifCond .eq 7, 3, [(36, 0)]) := by decide +kernel
theorem x19_29 {d : Nat} {a0 a1 a2 a3 a4 : Value} {s0 : Int32} {h : AHp} : Rf d 19 29 [a0, a1, a2, a3, a4] [.int s0] h = if s0 = 0 then Rf d 19 36 [a0, a1, a2, a3, a4] [] h else Rf d 19 32 [a0, a1, a2, a3, a4] [] h := Rf_brd ((stp_of c19_29).trans rfl)
theorem c19_32 : cd 19 32 = some (32, .iconst 1, 1, []) := by decide +kernel
theorem x19_32 {d : Nat} {a0 a1 a2 a3 a4 : Value} {h : AHp} : Rf d 19 32 [a0, a1, a2, a3, a4] [] h = Rf d 19 33 [a0, a1, a2, a3, a4] [.int 1] h := Rf_go ((stp_of c19_32).trans rfl)
theorem c19_33 : cd 19 33 = some (33, .goto 4, 3, [(37, 0)]) := by decide +kernel
theorem x19_33 {d : Nat} {a0 a1 a2 a3 a4 : Value} {s0 : Int32} {h : AHp} : Rf d 19 33 [a0, a1, a2, a3, a4] [.int s0] h = Rf d 19 37 [a0, a1, a2, a3, a4] [.int s0] h := Rf_go ((stp_of c19_33).trans rfl)
-- 20: X3_readNumber
theorem c20_0 : cd 20 0 = some (0, .aload_n 0, 1, []) := by decide +kernel
theorem x20_0 {d : Nat} {a1 a2 : Value} {x : Nat} {h : AHp} : Rf d 20 0 [.ref x, a1, a2] [] h = Rf d 20 1 [.ref x, a1, a2] [.ref x] h := Rf_go ((stp_of c20_0).trans rfl)
theorem c20_1 : cd 20 1 = some (1, .ldc 101, 2, [(1, 7)]) := by decide +kernel
theorem x20_1 {d : Nat} {a0 a1 a2 : Value} {s0 : Nat} {h : AHp} : Rf d 20 1 [a0, a1, a2] [.ref s0] h = Rf d 20 3 [a0, a1, a2] [.ref 7, .ref s0] h := Rf_go ((stp_of c20_1).trans rfl)
theorem c20_3 : cd 20 3 = some (3, .invokevirtual 48, 3, [(3, 23)]) := by decide +kernel
theorem xc20_3 {d : Nat} {a0 a1 a2 : Value} {s0 : Nat} {s1 : Nat} {h : AHp} {h1 : AHp} {v : Int32} (hr : cls (h.1 s1) = 3) (hq : Rf d 23 0 [.ref s1, .ref s0, noV] [] h = some (some (.int v), h1)) : Rf (d + 1) 20 3 [a0, a1, a2] [.ref s0, .ref s1] h = Rf (d + 1) 20 6 [a0, a1, a2] [.int v] h1 := clV (c := 23) (as := [.ref s0]) c20_3 rfl (by simp [isV]) (by rw [hr]; rfl) hq
theorem c20_6 : cd 20 6 = some (6, .istore_n 1, 1, []) := by decide +kernel
theorem x20_6 {d : Nat} {a0 a1 a2 : Value} {s0 : Int32} {h : AHp} : Rf d 20 6 [a0, a1, a2] [.int s0] h = Rf d 20 7 [a0, .int s0, a2] [] h := Rf_go ((stp_of c20_6).trans rfl)
theorem c20_7 : cd 20 7 = some (7, .iload_n 1, 1, []) := by decide +kernel
theorem x20_7 {d : Nat} {a0 a2 : Value} {x : Int32} {h : AHp} : Rf d 20 7 [a0, .int x, a2] [] h = Rf d 20 8 [a0, .int x, a2] [.int x] h := Rf_go ((stp_of c20_7).trans rfl)
theorem c20_8 : cd 20 8 = some (8, .ifCond .gt 5, 3, [(13, 0)]) := by decide +kernel
theorem x20_8 {d : Nat} {a0 a1 a2 : Value} {s0 : Int32} {h : AHp} : Rf d 20 8 [a0, a1, a2] [.int s0] h = if 0 < s0 then Rf d 20 13 [a0, a1, a2] [] h else Rf d 20 11 [a0, a1, a2] [] h := Rf_brd ((stp_of c20_8).trans rfl)
theorem c20_13 : cd 20 13 = some (13, .aload_n 0, 1, []) := by decide +kernel
theorem x20_13 {d : Nat} {a1 a2 : Value} {x : Nat} {h : AHp} : Rf d 20 13 [.ref x, a1, a2] [] h = Rf d 20 14 [.ref x, a1, a2] [.ref x] h := Rf_go ((stp_of c20_13).trans rfl)
theorem c20_14 : cd 20 14 = some (14, .ldc 101, 2, [(1, 7)]) := by decide +kernel
theorem x20_14 {d : Nat} {a0 a1 a2 : Value} {s0 : Nat} {h : AHp} : Rf d 20 14 [a0, a1, a2] [.ref s0] h = Rf d 20 16 [a0, a1, a2] [.ref 7, .ref s0] h := Rf_go ((stp_of c20_14).trans rfl)
theorem c20_16 : cd 20 16 = some (16, .invokevirtual 48, 3, [(3, 23)]) := by decide +kernel
theorem xc20_16 {d : Nat} {a0 a1 a2 : Value} {s0 : Nat} {s1 : Nat} {h : AHp} {h1 : AHp} {v : Int32} (hr : cls (h.1 s1) = 3) (hq : Rf d 23 0 [.ref s1, .ref s0, noV] [] h = some (some (.int v), h1)) : Rf (d + 1) 20 16 [a0, a1, a2] [.ref s0, .ref s1] h = Rf (d + 1) 20 19 [a0, a1, a2] [.int v] h1 := clV (c := 23) (as := [.ref s0]) c20_16 rfl (by simp [isV]) (by rw [hr]; rfl) hq
theorem c20_19 : cd 20 19 = some (19, .istore_n 2, 1, []) := by decide +kernel
theorem x20_19 {d : Nat} {a0 a1 a2 : Value} {s0 : Int32} {h : AHp} : Rf d 20 19 [a0, a1, a2] [.int s0] h = Rf d 20 20 [a0, a1, .int s0] [] h := Rf_go ((stp_of c20_19).trans rfl)
theorem c20_20 : cd 20 20 = some (20, .iload_n 2, 1, []) := by decide +kernel
theorem x20_20 {d : Nat} {a0 a1 : Value} {x : Int32} {h : AHp} : Rf d 20 20 [a0, a1, .int x] [] h = Rf d 20 21 [a0, a1, .int x] [.int x] h := Rf_go ((stp_of c20_20).trans rfl)
theorem c20_21 : cd 20 21 = some (21, .ifCond .ge 7, 3, [(28, 0)]) := by decide +kernel
theorem x20_21 {d : Nat} {a0 a1 a2 : Value} {s0 : Int32} {h : AHp} : Rf d 20 21 [a0, a1, a2] [.int s0] h = if s0 < 0 then Rf d 20 24 [a0, a1, a2] [] h else Rf d 20 28 [a0, a1, a2] [] h := Rf_brn ((stp_of c20_21).trans rfl)
theorem c20_28 : cd 20 28 = some (28, .bipush 10, 2, []) := by decide +kernel
theorem x20_28 {d : Nat} {a0 a1 a2 : Value} {h : AHp} : Rf d 20 28 [a0, a1, a2] [] h = Rf d 20 30 [a0, a1, a2] [.int 10] h := Rf_go ((stp_of c20_28).trans rfl)
theorem c20_30 : cd 20 30 = some (30, .iload_n 1, 1, []) := by decide +kernel
theorem x20_30 {d : Nat} {a0 a2 : Value} {s0 : Int32} {x : Int32} {h : AHp} : Rf d 20 30 [a0, .int x, a2] [.int s0] h = Rf d 20 31 [a0, .int x, a2] [.int x, .int s0] h := Rf_go ((stp_of c20_30).trans rfl)
theorem c20_31 : cd 20 31 = some (31, .imul, 1, []) := by decide +kernel
theorem x20_31 {d : Nat} {a0 a1 a2 : Value} {s0 : Int32} {s1 : Int32} {h : AHp} : Rf d 20 31 [a0, a1, a2] [.int s0, .int s1] h = Rf d 20 32 [a0, a1, a2] [.int (s1 * s0)] h := Rf_go ((stp_of c20_31).trans rfl)
theorem c20_32 : cd 20 32 = some (32, .iload_n 2, 1, []) := by decide +kernel
theorem x20_32 {d : Nat} {a0 a1 : Value} {s0 : Int32} {x : Int32} {h : AHp} : Rf d 20 32 [a0, a1, .int x] [.int s0] h = Rf d 20 33 [a0, a1, .int x] [.int x, .int s0] h := Rf_go ((stp_of c20_32).trans rfl)
theorem c20_33 : cd 20 33 = some (33, .iadd, 1, []) := by decide +kernel
theorem x20_33 {d : Nat} {a0 a1 a2 : Value} {s0 : Int32} {s1 : Int32} {h : AHp} : Rf d 20 33 [a0, a1, a2] [.int s0, .int s1] h = Rf d 20 34 [a0, a1, a2] [.int (s1 + s0)] h := Rf_go ((stp_of c20_33).trans rfl)
theorem c20_34 : cd 20 34 = some (34, .ireturn, 1, []) := by decide +kernel
theorem x20_34 {d : Nat} {a0 a1 a2 : Value} {s0 : Int32} {h : AHp} : Rf d 20 34 [a0, a1, a2] [.int s0] h = some (some (.int s0), h) := Rf_end (by rw [stp_of c20_34]; simp only [stpI]; rw [if_pos (show retI (mH 20).2.2.1 s0 = true from retI_int)])
theorem c20_24 : cd 20 24 = some (24, .iload_n 1, 1, []) := by decide +kernel
theorem x20_24 {d : Nat} {a0 a2 : Value} {x : Int32} {h : AHp} : Rf d 20 24 [a0, .int x, a2] [] h = Rf d 20 25 [a0, .int x, a2] [.int x] h := Rf_go ((stp_of c20_24).trans rfl)
theorem c20_25 : cd 20 25 = some (25, .goto 9, 3, [(34, 0)]) := by decide +kernel
theorem x20_25 {d : Nat} {a0 a1 a2 : Value} {s0 : Int32} {h : AHp} : Rf d 20 25 [a0, a1, a2] [.int s0] h = Rf d 20 34 [a0, a1, a2] [.int s0] h := Rf_go ((stp_of c20_25).trans rfl)
theorem c20_11 : cd 20 11 = some (11, .iload_n 1, 1, []) := by decide +kernel
theorem x20_11 {d : Nat} {a0 a2 : Value} {x : Int32} {h : AHp} : Rf d 20 11 [a0, .int x, a2] [] h = Rf d 20 12 [a0, .int x, a2] [.int x] h := Rf_go ((stp_of c20_11).trans rfl)
theorem c20_12 : cd 20 12 = some (12, .ireturn, 1, []) := by decide +kernel
theorem x20_12 {d : Nat} {a0 a1 a2 : Value} {s0 : Int32} {h : AHp} : Rf d 20 12 [a0, a1, a2] [.int s0] h = some (some (.int s0), h) := Rf_end (by rw [stp_of c20_12]; simp only [stpI]; rw [if_pos (show retI (mH 20).2.2.1 s0 = true from retI_int)])
-- 21: X3_take
theorem c21_0 : cd 21 0 = some (0, .aload_n 0, 1, []) := by decide +kernel
theorem x21_0 {d : Nat} {a1 : Value} {x : Nat} {h : AHp} : Rf d 21 0 [.ref x, a1] [] h = Rf d 21 1 [.ref x, a1] [.ref x] h := Rf_go ((stp_of c21_0).trans rfl)
theorem c21_1 : cd 21 1 = some (1, .getfield 39, 3, [(3, 3)]) := by decide +kernel
theorem x21_1 {d : Nat} {a0 a1 : Value} {s0 : Nat} {h : AHp} : Rf d 21 1 [a0, a1] [.ref s0] h = if cls (h.1 s0) = 3 ∧ oKi (h.1 s0) 3 = true then Rf d 21 4 [a0, a1] [.int (oN (h.1 s0) 3)] h else Rx d 21 1 [a0, a1] [.ref s0] h := getI c21_1
theorem c21_4 : cd 21 4 = some (4, .aload_n 0, 1, []) := by decide +kernel
theorem x21_4 {d : Nat} {a1 : Value} {s0 : Int32} {x : Nat} {h : AHp} : Rf d 21 4 [.ref x, a1] [.int s0] h = Rf d 21 5 [.ref x, a1] [.ref x, .int s0] h := Rf_go ((stp_of c21_4).trans rfl)
theorem c21_5 : cd 21 5 = some (5, .getfield 28, 3, [(3, 2)]) := by decide +kernel
theorem x21_5 {d : Nat} {a0 a1 : Value} {s0 : Nat} {s1 : Int32} {h : AHp} : Rf d 21 5 [a0, a1] [.ref s0, .int s1] h = if cls (h.1 s0) = 3 ∧ oKr (h.1 s0) 2 = true then Rf d 21 8 [a0, a1] [.ref (oR (h.1 s0) 2), .int s1] h else Rx d 21 5 [a0, a1] [.ref s0, .int s1] h := getR c21_5
theorem c21_8 : cd 21 8 = some (8, .arraylength, 1, []) := by decide +kernel
theorem x21_8 {d : Nat} {a0 a1 : Value} {s0 : Nat} {s1 : Int32} {h : AHp} : Rf d 21 8 [a0, a1] [.ref s0, .int s1] h = if aT (h.1 s0) = 0 ∨ aT (h.1 s0) = 1 ∨ aT (h.1 s0) = 10 ∨ aT (h.1 s0) = 11 then Rf d 21 9 [a0, a1] [.int (nI (aN (h.1 s0))), .int s1] h else Rx d 21 8 [a0, a1] [.ref s0, .int s1] h := alI c21_8
theorem c21_9 : cd 21 9 = some (9, .if_icmp .ge 16, 3, [(25, 0)]) := by decide +kernel
theorem x21_9 {d : Nat} {a0 a1 : Value} {s0 : Int32} {s1 : Int32} {h : AHp} : Rf d 21 9 [a0, a1] [.int s0, .int s1] h = if s1 < s0 then Rf d 21 12 [a0, a1] [] h else Rf d 21 25 [a0, a1] [] h := Rf_brn ((stp_of c21_9).trans rfl)
theorem c21_25 : cd 21 25 = some (25, .iconst 0, 1, []) := by decide +kernel
theorem x21_25 {d : Nat} {a0 a1 : Value} {h : AHp} : Rf d 21 25 [a0, a1] [] h = Rf d 21 26 [a0, a1] [.int 0] h := Rf_go ((stp_of c21_25).trans rfl)
theorem c21_26 : cd 21 26 = some (26, .ireturn, 1, []) := by decide +kernel
theorem x21_26 {d : Nat} {a0 a1 : Value} {s0 : Int32} {h : AHp} : Rf d 21 26 [a0, a1] [.int s0] h = if retI (some .boolean) s0 = true then some (some (.int s0), h) else Rx d 21 26 [a0, a1] [.int s0] h := Rf_ife (fun hk => by rw [stp_of c21_26]; exact if_pos hk)
theorem c21_12 : cd 21 12 = some (12, .aload_n 0, 1, []) := by decide +kernel
theorem x21_12 {d : Nat} {a1 : Value} {x : Nat} {h : AHp} : Rf d 21 12 [.ref x, a1] [] h = Rf d 21 13 [.ref x, a1] [.ref x] h := Rf_go ((stp_of c21_12).trans rfl)
theorem c21_13 : cd 21 13 = some (13, .getfield 28, 3, [(3, 2)]) := by decide +kernel
theorem x21_13 {d : Nat} {a0 a1 : Value} {s0 : Nat} {h : AHp} : Rf d 21 13 [a0, a1] [.ref s0] h = if cls (h.1 s0) = 3 ∧ oKr (h.1 s0) 2 = true then Rf d 21 16 [a0, a1] [.ref (oR (h.1 s0) 2)] h else Rx d 21 13 [a0, a1] [.ref s0] h := getR c21_13
theorem c21_16 : cd 21 16 = some (16, .aload_n 0, 1, []) := by decide +kernel
theorem x21_16 {d : Nat} {a1 : Value} {s0 : Nat} {x : Nat} {h : AHp} : Rf d 21 16 [.ref x, a1] [.ref s0] h = Rf d 21 17 [.ref x, a1] [.ref x, .ref s0] h := Rf_go ((stp_of c21_16).trans rfl)
theorem c21_17 : cd 21 17 = some (17, .getfield 39, 3, [(3, 3)]) := by decide +kernel
theorem x21_17 {d : Nat} {a0 a1 : Value} {s0 : Nat} {s1 : Nat} {h : AHp} : Rf d 21 17 [a0, a1] [.ref s0, .ref s1] h = if cls (h.1 s0) = 3 ∧ oKi (h.1 s0) 3 = true then Rf d 21 20 [a0, a1] [.int (oN (h.1 s0) 3), .ref s1] h else Rx d 21 17 [a0, a1] [.ref s0, .ref s1] h := getI c21_17
theorem c21_20 : cd 21 20 = some (20, .baload, 1, []) := by decide +kernel
theorem x21_20 {d : Nat} {a0 a1 : Value} {s0 : Int32} {s1 : Nat} {h : AHp} : Rf d 21 20 [a0, a1] [.int s0, .ref s1] h = if (aT (h.1 s1) = 1 ∨ aT (h.1 s1) = 2 ∨ aT (h.1 s1) = 11) ∧ inB s0 (aN (h.1 s1)) = true then Rf d 21 21 [a0, a1] [.int (aF (h.1 s1) s0.toNatClampNeg)] h else Rx d 21 20 [a0, a1] [.int s0, .ref s1] h := ldB c21_20
theorem c21_21 : cd 21 21 = some (21, .iload_n 1, 1, []) := by decide +kernel
theorem x21_21 {d : Nat} {a0 : Value} {s0 : Int32} {x : Int32} {h : AHp} : Rf d 21 21 [a0, .int x] [.int s0] h = Rf d 21 22 [a0, .int x] [.int x, .int s0] h := Rf_go ((stp_of c21_21).trans rfl)
theorem c21_22 : cd 21 22 = some (22, .if_icmp .eq 5, 3, [(27, 0)]) := by decide +kernel
theorem x21_22 {d : Nat} {a0 a1 : Value} {s0 : Int32} {s1 : Int32} {h : AHp} : Rf d 21 22 [a0, a1] [.int s0, .int s1] h = if s1 = s0 then Rf d 21 27 [a0, a1] [] h else Rf d 21 25 [a0, a1] [] h := Rf_brd ((stp_of c21_22).trans rfl)
theorem c21_27 : cd 21 27 = some (27, .aload_n 0, 1, []) := by decide +kernel
theorem x21_27 {d : Nat} {a1 : Value} {x : Nat} {h : AHp} : Rf d 21 27 [.ref x, a1] [] h = Rf d 21 28 [.ref x, a1] [.ref x] h := Rf_go ((stp_of c21_27).trans rfl)
theorem c21_28 : cd 21 28 = some (28, .dup, 1, []) := by decide +kernel
theorem x21_28 {d : Nat} {a0 a1 : Value} {s0 : Nat} {h : AHp} : Rf d 21 28 [a0, a1] [.ref s0] h = Rf d 21 29 [a0, a1] [.ref s0, .ref s0] h := Rf_go ((stp_of c21_28).trans rfl)
theorem c21_29 : cd 21 29 = some (29, .getfield 39, 3, [(3, 3)]) := by decide +kernel
theorem x21_29 {d : Nat} {a0 a1 : Value} {s0 : Nat} {s1 : Nat} {h : AHp} : Rf d 21 29 [a0, a1] [.ref s0, .ref s1] h = if cls (h.1 s0) = 3 ∧ oKi (h.1 s0) 3 = true then Rf d 21 32 [a0, a1] [.int (oN (h.1 s0) 3), .ref s1] h else Rx d 21 29 [a0, a1] [.ref s0, .ref s1] h := getI c21_29
theorem c21_32 : cd 21 32 = some (32, .iconst 1, 1, []) := by decide +kernel
theorem x21_32 {d : Nat} {a0 a1 : Value} {s0 : Int32} {s1 : Nat} {h : AHp} : Rf d 21 32 [a0, a1] [.int s0, .ref s1] h = Rf d 21 33 [a0, a1] [.int 1, .int s0, .ref s1] h := Rf_go ((stp_of c21_32).trans rfl)
theorem c21_33 : cd 21 33 = some (33, .iadd, 1, []) := by decide +kernel
theorem x21_33 {d : Nat} {a0 a1 : Value} {s0 : Int32} {s1 : Int32} {s2 : Nat} {h : AHp} : Rf d 21 33 [a0, a1] [.int s0, .int s1, .ref s2] h = Rf d 21 34 [a0, a1] [.int (s1 + s0), .ref s2] h := Rf_go ((stp_of c21_33).trans rfl)
theorem c21_34 : cd 21 34 = some (34, .putfield 39, 3, [(3, 3)]) := by decide +kernel
theorem x21_34 {d : Nat} {a0 a1 : Value} {s0 : Int32} {s1 : Nat} {h : AHp} : Rf d 21 34 [a0, a1] [.int s0, .ref s1] h = if cls (h.1 s1) = 3 ∧ oL (h.1 s1) = 10 then Rf d 21 37 [a0, a1] [] (hset h s1 (oSet (h.1 s1) 3 (.int s0))) else Rx d 21 34 [a0, a1] [.int s0, .ref s1] h := putV c21_34 rfl (fMay_i (by decide +kernel))
theorem c21_37 : cd 21 37 = some (37, .iconst 1, 1, []) := by decide +kernel
theorem x21_37 {d : Nat} {a0 a1 : Value} {h : AHp} : Rf d 21 37 [a0, a1] [] h = Rf d 21 38 [a0, a1] [.int 1] h := Rf_go ((stp_of c21_37).trans rfl)
theorem c21_38 : cd 21 38 = some (38, .ireturn, 1, []) := by decide +kernel
theorem x21_38 {d : Nat} {a0 a1 : Value} {s0 : Int32} {h : AHp} : Rf d 21 38 [a0, a1] [.int s0] h = if retI (some .boolean) s0 = true then some (some (.int s0), h) else Rx d 21 38 [a0, a1] [.int s0] h := Rf_ife (fun hk => by rw [stp_of c21_38]; exact if_pos hk)
-- 22: X3_takeWord
theorem c22_0 : cd 22 0 = some (0, .iconst 0, 1, []) := by decide +kernel
theorem x22_0 {d : Nat} {a0 a1 a2 : Value} {h : AHp} : Rf d 22 0 [a0, a1, a2] [] h = Rf d 22 1 [a0, a1, a2] [.int 0] h := Rf_go ((stp_of c22_0).trans rfl)
theorem c22_1 : cd 22 1 = some (1, .istore_n 2, 1, []) := by decide +kernel
theorem x22_1 {d : Nat} {a0 a1 a2 : Value} {s0 : Int32} {h : AHp} : Rf d 22 1 [a0, a1, a2] [.int s0] h = Rf d 22 2 [a0, a1, .int s0] [] h := Rf_go ((stp_of c22_1).trans rfl)
theorem c22_2 : cd 22 2 = some (2, .iload_n 2, 1, []) := by decide +kernel
theorem x22_2 {d : Nat} {a0 a1 : Value} {x : Int32} {h : AHp} : Rf d 22 2 [a0, a1, .int x] [] h = Rf d 22 3 [a0, a1, .int x] [.int x] h := Rf_go ((stp_of c22_2).trans rfl)
theorem c22_3 : cd 22 3 = some (3, .aload_n 1, 1, []) := by decide +kernel
theorem x22_3 {d : Nat} {a0 a2 : Value} {s0 : Int32} {x : Nat} {h : AHp} : Rf d 22 3 [a0, .ref x, a2] [.int s0] h = Rf d 22 4 [a0, .ref x, a2] [.ref x, .int s0] h := Rf_go ((stp_of c22_3).trans rfl)
theorem c22_4 : cd 22 4 = some (4, .invokevirtual 103, 3, [(13, 203)]) := by decide +kernel
theorem xc22_4 {d : Nat} {a0 a1 a2 : Value} {s0 : Nat} {s1 : Int32} {h : AHp} {h1 : AHp} {v : Int32} (hr : cls (h.1 s0) = 13) (hq : Rf d 203 0 [.ref s0] [] h = some (some (.int v), h1)) : Rf (d + 1) 22 4 [a0, a1, a2] [.ref s0, .int s1] h = Rf (d + 1) 22 7 [a0, a1, a2] [.int v, .int s1] h1 := clV (c := 203) (as := []) c22_4 rfl (by simp [isV]) (by rw [hr]; rfl) hq
theorem c22_7 : cd 22 7 = some (7, .if_icmp .ge 23, 3, [(30, 0)]) := by decide +kernel
theorem x22_7 {d : Nat} {a0 a1 a2 : Value} {s0 : Int32} {s1 : Int32} {h : AHp} : Rf d 22 7 [a0, a1, a2] [.int s0, .int s1] h = if s1 < s0 then Rf d 22 10 [a0, a1, a2] [] h else Rf d 22 30 [a0, a1, a2] [] h := Rf_brn ((stp_of c22_7).trans rfl)
theorem c22_30 : cd 22 30 = some (30, .iconst 1, 1, []) := by decide +kernel
theorem x22_30 {d : Nat} {a0 a1 a2 : Value} {h : AHp} : Rf d 22 30 [a0, a1, a2] [] h = Rf d 22 31 [a0, a1, a2] [.int 1] h := Rf_go ((stp_of c22_30).trans rfl)
theorem c22_31 : cd 22 31 = some (31, .ireturn, 1, []) := by decide +kernel
theorem x22_31 {d : Nat} {a0 a1 a2 : Value} {s0 : Int32} {h : AHp} : Rf d 22 31 [a0, a1, a2] [.int s0] h = if retI (some .boolean) s0 = true then some (some (.int s0), h) else Rx d 22 31 [a0, a1, a2] [.int s0] h := Rf_ife (fun hk => by rw [stp_of c22_31]; exact if_pos hk)
theorem c22_10 : cd 22 10 = some (10, .aload_n 0, 1, []) := by decide +kernel
theorem x22_10 {d : Nat} {a1 a2 : Value} {x : Nat} {h : AHp} : Rf d 22 10 [.ref x, a1, a2] [] h = Rf d 22 11 [.ref x, a1, a2] [.ref x] h := Rf_go ((stp_of c22_10).trans rfl)
theorem c22_11 : cd 22 11 = some (11, .aload_n 1, 1, []) := by decide +kernel
theorem x22_11 {d : Nat} {a0 a2 : Value} {s0 : Nat} {x : Nat} {h : AHp} : Rf d 22 11 [a0, .ref x, a2] [.ref s0] h = Rf d 22 12 [a0, .ref x, a2] [.ref x, .ref s0] h := Rf_go ((stp_of c22_11).trans rfl)
theorem c22_12 : cd 22 12 = some (12, .iload_n 2, 1, []) := by decide +kernel
theorem x22_12 {d : Nat} {a0 a1 : Value} {s0 : Nat} {s1 : Nat} {x : Int32} {h : AHp} : Rf d 22 12 [a0, a1, .int x] [.ref s0, .ref s1] h = Rf d 22 13 [a0, a1, .int x] [.int x, .ref s0, .ref s1] h := Rf_go ((stp_of c22_12).trans rfl)
theorem c22_13 : cd 22 13 = some (13, .invokevirtual 107, 3, [(13, 204)]) := by decide +kernel
theorem xc22_13 {d : Nat} {a0 a1 a2 : Value} {s0 : Int32} {s1 : Nat} {s2 : Nat} {h : AHp} {h1 : AHp} {v : Int32} (hr : cls (h.1 s1) = 13) (hq : Rf d 204 0 [.ref s1, .int s0] [] h = some (some (.int v), h1)) : Rf (d + 1) 22 13 [a0, a1, a2] [.int s0, .ref s1, .ref s2] h = Rf (d + 1) 22 16 [a0, a1, a2] [.int v, .ref s2] h1 := clV (c := 204) (as := [.int s0]) c22_13 rfl (by simp [isV]) (by rw [hr]; rfl) hq
theorem c22_16 : cd 22 16 = some (16, .invokevirtual 42, 3, [(3, 21)]) := by decide +kernel
theorem xc22_16 {d : Nat} {a0 a1 a2 : Value} {s0 : Int32} {s1 : Nat} {h : AHp} {h1 : AHp} {v : Int32} (hr : cls (h.1 s1) = 3) (hq : Rf d 21 0 [.ref s1, .int s0] [] h = some (some (.int v), h1)) : Rf (d + 1) 22 16 [a0, a1, a2] [.int s0, .ref s1] h = Rf (d + 1) 22 19 [a0, a1, a2] [.int v] h1 := clV (c := 21) (as := [.int s0]) c22_16 rfl (by simp [isV]) (by rw [hr]; rfl) hq
theorem c22_19 : cd 22 19 = some (19, .ifCond .ne 5, 3, [(24, 0)]) := by decide +kernel
theorem x22_19 {d : Nat} {a0 a1 a2 : Value} {s0 : Int32} {h : AHp} : Rf d 22 19 [a0, a1, a2] [.int s0] h = if s0 = 0 then Rf d 22 22 [a0, a1, a2] [] h else Rf d 22 24 [a0, a1, a2] [] h := Rf_brn ((stp_of c22_19).trans rfl)
theorem c22_24 : cd 22 24 = some (24, .iinc 2 1, 3, []) := by decide +kernel
theorem x22_24 {d : Nat} {a0 a1 : Value} {x : Int32} {h : AHp} : Rf d 22 24 [a0, a1, .int x] [] h = Rf d 22 27 [a0, a1, .int (x + 1)] [] h := Rf_go ((stp_of c22_24).trans rfl)
theorem c22_27 : cd 22 27 = some (27, .goto (-25), 3, [(2, 0)]) := by decide +kernel
theorem x22_27 {d : Nat} {a0 a1 a2 : Value} {h : AHp} : Rf d 22 27 [a0, a1, a2] [] h = Rf d 22 2 [a0, a1, a2] [] h := Rf_go ((stp_of c22_27).trans rfl)
theorem c22_22 : cd 22 22 = some (22, .iconst 0, 1, []) := by decide +kernel
theorem x22_22 {d : Nat} {a0 a1 a2 : Value} {h : AHp} : Rf d 22 22 [a0, a1, a2] [] h = Rf d 22 23 [a0, a1, a2] [.int 0] h := Rf_go ((stp_of c22_22).trans rfl)
theorem c22_23 : cd 22 23 = some (23, .ireturn, 1, []) := by decide +kernel
theorem x22_23 {d : Nat} {a0 a1 a2 : Value} {s0 : Int32} {h : AHp} : Rf d 22 23 [a0, a1, a2] [.int s0] h = if retI (some .boolean) s0 = true then some (some (.int s0), h) else Rx d 22 23 [a0, a1, a2] [.int s0] h := Rf_ife (fun hk => by rw [stp_of c22_23]; exact if_pos hk)
-- 23: X3_takeOneOf
theorem c23_0 : cd 23 0 = some (0, .aload_n 0, 1, []) := by decide +kernel
theorem x23_0 {d : Nat} {a1 a2 : Value} {x : Nat} {h : AHp} : Rf d 23 0 [.ref x, a1, a2] [] h = Rf d 23 1 [.ref x, a1, a2] [.ref x] h := Rf_go ((stp_of c23_0).trans rfl)
theorem c23_1 : cd 23 1 = some (1, .getfield 39, 3, [(3, 3)]) := by decide +kernel
theorem x23_1 {d : Nat} {a0 a1 a2 : Value} {s0 : Nat} {h : AHp} : Rf d 23 1 [a0, a1, a2] [.ref s0] h = if cls (h.1 s0) = 3 ∧ oKi (h.1 s0) 3 = true then Rf d 23 4 [a0, a1, a2] [.int (oN (h.1 s0) 3)] h else Rx d 23 1 [a0, a1, a2] [.ref s0] h := getI c23_1
theorem c23_4 : cd 23 4 = some (4, .aload_n 0, 1, []) := by decide +kernel
theorem x23_4 {d : Nat} {a1 a2 : Value} {s0 : Int32} {x : Nat} {h : AHp} : Rf d 23 4 [.ref x, a1, a2] [.int s0] h = Rf d 23 5 [.ref x, a1, a2] [.ref x, .int s0] h := Rf_go ((stp_of c23_4).trans rfl)
theorem c23_5 : cd 23 5 = some (5, .getfield 28, 3, [(3, 2)]) := by decide +kernel
theorem x23_5 {d : Nat} {a0 a1 a2 : Value} {s0 : Nat} {s1 : Int32} {h : AHp} : Rf d 23 5 [a0, a1, a2] [.ref s0, .int s1] h = if cls (h.1 s0) = 3 ∧ oKr (h.1 s0) 2 = true then Rf d 23 8 [a0, a1, a2] [.ref (oR (h.1 s0) 2), .int s1] h else Rx d 23 5 [a0, a1, a2] [.ref s0, .int s1] h := getR c23_5
theorem c23_8 : cd 23 8 = some (8, .arraylength, 1, []) := by decide +kernel
theorem x23_8 {d : Nat} {a0 a1 a2 : Value} {s0 : Nat} {s1 : Int32} {h : AHp} : Rf d 23 8 [a0, a1, a2] [.ref s0, .int s1] h = if aT (h.1 s0) = 0 ∨ aT (h.1 s0) = 1 ∨ aT (h.1 s0) = 10 ∨ aT (h.1 s0) = 11 then Rf d 23 9 [a0, a1, a2] [.int (nI (aN (h.1 s0))), .int s1] h else Rx d 23 8 [a0, a1, a2] [.ref s0, .int s1] h := alI c23_8
theorem c23_9 : cd 23 9 = some (9, .if_icmp .ge 20, 3, [(29, 0)]) := by decide +kernel
theorem x23_9 {d : Nat} {a0 a1 a2 : Value} {s0 : Int32} {s1 : Int32} {h : AHp} : Rf d 23 9 [a0, a1, a2] [.int s0, .int s1] h = if s1 < s0 then Rf d 23 12 [a0, a1, a2] [] h else Rf d 23 29 [a0, a1, a2] [] h := Rf_brn ((stp_of c23_9).trans rfl)
theorem c23_29 : cd 23 29 = some (29, .iconst (-1), 1, []) := by decide +kernel
theorem x23_29 {d : Nat} {a0 a1 a2 : Value} {h : AHp} : Rf d 23 29 [a0, a1, a2] [] h = Rf d 23 30 [a0, a1, a2] [.int (-1)] h := Rf_go ((stp_of c23_29).trans rfl)
theorem c23_30 : cd 23 30 = some (30, .istore_n 2, 1, []) := by decide +kernel
theorem x23_30 {d : Nat} {a0 a1 a2 : Value} {s0 : Int32} {h : AHp} : Rf d 23 30 [a0, a1, a2] [.int s0] h = Rf d 23 31 [a0, a1, .int s0] [] h := Rf_go ((stp_of c23_30).trans rfl)
theorem c23_31 : cd 23 31 = some (31, .iload_n 2, 1, []) := by decide +kernel
theorem x23_31 {d : Nat} {a0 a1 : Value} {x : Int32} {h : AHp} : Rf d 23 31 [a0, a1, .int x] [] h = Rf d 23 32 [a0, a1, .int x] [.int x] h := Rf_go ((stp_of c23_31).trans rfl)
theorem c23_32 : cd 23 32 = some (32, .ifCond .lt 13, 3, [(45, 0)]) := by decide +kernel
theorem x23_32 {d : Nat} {a0 a1 a2 : Value} {s0 : Int32} {h : AHp} : Rf d 23 32 [a0, a1, a2] [.int s0] h = if s0 < 0 then Rf d 23 45 [a0, a1, a2] [] h else Rf d 23 35 [a0, a1, a2] [] h := Rf_brd ((stp_of c23_32).trans rfl)
theorem c23_45 : cd 23 45 = some (45, .iload_n 2, 1, []) := by decide +kernel
theorem x23_45 {d : Nat} {a0 a1 : Value} {x : Int32} {h : AHp} : Rf d 23 45 [a0, a1, .int x] [] h = Rf d 23 46 [a0, a1, .int x] [.int x] h := Rf_go ((stp_of c23_45).trans rfl)
theorem c23_46 : cd 23 46 = some (46, .ireturn, 1, []) := by decide +kernel
theorem x23_46 {d : Nat} {a0 a1 a2 : Value} {s0 : Int32} {h : AHp} : Rf d 23 46 [a0, a1, a2] [.int s0] h = some (some (.int s0), h) := Rf_end (by rw [stp_of c23_46]; simp only [stpI]; rw [if_pos (show retI (mH 23).2.2.1 s0 = true from retI_int)])
theorem c23_35 : cd 23 35 = some (35, .aload_n 0, 1, []) := by decide +kernel
theorem x23_35 {d : Nat} {a1 a2 : Value} {x : Nat} {h : AHp} : Rf d 23 35 [.ref x, a1, a2] [] h = Rf d 23 36 [.ref x, a1, a2] [.ref x] h := Rf_go ((stp_of c23_35).trans rfl)
theorem c23_36 : cd 23 36 = some (36, .dup, 1, []) := by decide +kernel
theorem x23_36 {d : Nat} {a0 a1 a2 : Value} {s0 : Nat} {h : AHp} : Rf d 23 36 [a0, a1, a2] [.ref s0] h = Rf d 23 37 [a0, a1, a2] [.ref s0, .ref s0] h := Rf_go ((stp_of c23_36).trans rfl)
theorem c23_37 : cd 23 37 = some (37, .getfield 39, 3, [(3, 3)]) := by decide +kernel
theorem x23_37 {d : Nat} {a0 a1 a2 : Value} {s0 : Nat} {s1 : Nat} {h : AHp} : Rf d 23 37 [a0, a1, a2] [.ref s0, .ref s1] h = if cls (h.1 s0) = 3 ∧ oKi (h.1 s0) 3 = true then Rf d 23 40 [a0, a1, a2] [.int (oN (h.1 s0) 3), .ref s1] h else Rx d 23 37 [a0, a1, a2] [.ref s0, .ref s1] h := getI c23_37
theorem c23_40 : cd 23 40 = some (40, .iconst 1, 1, []) := by decide +kernel
theorem x23_40 {d : Nat} {a0 a1 a2 : Value} {s0 : Int32} {s1 : Nat} {h : AHp} : Rf d 23 40 [a0, a1, a2] [.int s0, .ref s1] h = Rf d 23 41 [a0, a1, a2] [.int 1, .int s0, .ref s1] h := Rf_go ((stp_of c23_40).trans rfl)
theorem c23_41 : cd 23 41 = some (41, .iadd, 1, []) := by decide +kernel
theorem x23_41 {d : Nat} {a0 a1 a2 : Value} {s0 : Int32} {s1 : Int32} {s2 : Nat} {h : AHp} : Rf d 23 41 [a0, a1, a2] [.int s0, .int s1, .ref s2] h = Rf d 23 42 [a0, a1, a2] [.int (s1 + s0), .ref s2] h := Rf_go ((stp_of c23_41).trans rfl)
theorem c23_42 : cd 23 42 = some (42, .putfield 39, 3, [(3, 3)]) := by decide +kernel
theorem x23_42 {d : Nat} {a0 a1 a2 : Value} {s0 : Int32} {s1 : Nat} {h : AHp} : Rf d 23 42 [a0, a1, a2] [.int s0, .ref s1] h = if cls (h.1 s1) = 3 ∧ oL (h.1 s1) = 10 then Rf d 23 45 [a0, a1, a2] [] (hset h s1 (oSet (h.1 s1) 3 (.int s0))) else Rx d 23 42 [a0, a1, a2] [.int s0, .ref s1] h := putV c23_42 rfl (fMay_i (by decide +kernel))
theorem c23_12 : cd 23 12 = some (12, .aload_n 1, 1, []) := by decide +kernel
theorem x23_12 {d : Nat} {a0 a2 : Value} {x : Nat} {h : AHp} : Rf d 23 12 [a0, .ref x, a2] [] h = Rf d 23 13 [a0, .ref x, a2] [.ref x] h := Rf_go ((stp_of c23_12).trans rfl)
theorem c23_13 : cd 23 13 = some (13, .aload_n 0, 1, []) := by decide +kernel
theorem x23_13 {d : Nat} {a1 a2 : Value} {s0 : Nat} {x : Nat} {h : AHp} : Rf d 23 13 [.ref x, a1, a2] [.ref s0] h = Rf d 23 14 [.ref x, a1, a2] [.ref x, .ref s0] h := Rf_go ((stp_of c23_13).trans rfl)
theorem c23_14 : cd 23 14 = some (14, .getfield 28, 3, [(3, 2)]) := by decide +kernel
theorem x23_14 {d : Nat} {a0 a1 a2 : Value} {s0 : Nat} {s1 : Nat} {h : AHp} : Rf d 23 14 [a0, a1, a2] [.ref s0, .ref s1] h = if cls (h.1 s0) = 3 ∧ oKr (h.1 s0) 2 = true then Rf d 23 17 [a0, a1, a2] [.ref (oR (h.1 s0) 2), .ref s1] h else Rx d 23 14 [a0, a1, a2] [.ref s0, .ref s1] h := getR c23_14
theorem c23_17 : cd 23 17 = some (17, .aload_n 0, 1, []) := by decide +kernel
theorem x23_17 {d : Nat} {a1 a2 : Value} {s0 : Nat} {s1 : Nat} {x : Nat} {h : AHp} : Rf d 23 17 [.ref x, a1, a2] [.ref s0, .ref s1] h = Rf d 23 18 [.ref x, a1, a2] [.ref x, .ref s0, .ref s1] h := Rf_go ((stp_of c23_17).trans rfl)
theorem c23_18 : cd 23 18 = some (18, .getfield 39, 3, [(3, 3)]) := by decide +kernel
theorem x23_18 {d : Nat} {a0 a1 a2 : Value} {s0 : Nat} {s1 : Nat} {s2 : Nat} {h : AHp} : Rf d 23 18 [a0, a1, a2] [.ref s0, .ref s1, .ref s2] h = if cls (h.1 s0) = 3 ∧ oKi (h.1 s0) 3 = true then Rf d 23 21 [a0, a1, a2] [.int (oN (h.1 s0) 3), .ref s1, .ref s2] h else Rx d 23 18 [a0, a1, a2] [.ref s0, .ref s1, .ref s2] h := getI c23_18
theorem c23_21 : cd 23 21 = some (21, .baload, 1, []) := by decide +kernel
theorem x23_21 {d : Nat} {a0 a1 a2 : Value} {s0 : Int32} {s1 : Nat} {s2 : Nat} {h : AHp} : Rf d 23 21 [a0, a1, a2] [.int s0, .ref s1, .ref s2] h = if (aT (h.1 s1) = 1 ∨ aT (h.1 s1) = 2 ∨ aT (h.1 s1) = 11) ∧ inB s0 (aN (h.1 s1)) = true then Rf d 23 22 [a0, a1, a2] [.int (aF (h.1 s1) s0.toNatClampNeg), .ref s2] h else Rx d 23 21 [a0, a1, a2] [.int s0, .ref s1, .ref s2] h := ldB c23_21
theorem c23_22 : cd 23 22 = some (22, .i2c, 1, []) := by decide +kernel
theorem x23_22 {d : Nat} {a0 a1 a2 : Value} {s0 : Int32} {s1 : Nat} {h : AHp} : Rf d 23 22 [a0, a1, a2] [.int s0, .ref s1] h = Rf d 23 23 [a0, a1, a2] [.int ((s0.toUInt32 % 65536).toInt32), .ref s1] h := Rf_go ((stp_of c23_22).trans rfl)
theorem c23_23 : cd 23 23 = some (23, .invokevirtual 111, 3, [(13, 205)]) := by decide +kernel
theorem xc23_23 {d : Nat} {a0 a1 a2 : Value} {s0 : Int32} {s1 : Nat} {h : AHp} {h1 : AHp} {v : Int32} (hr : cls (h.1 s1) = 13) (hq : Rf d 205 0 [.ref s1, .int s0] [] h = some (some (.int v), h1)) : Rf (d + 1) 23 23 [a0, a1, a2] [.int s0, .ref s1] h = Rf (d + 1) 23 26 [a0, a1, a2] [.int v] h1 := clV (c := 205) (as := [.int s0]) c23_23 rfl (by simp [isV]) (by rw [hr]; rfl) hq
theorem c23_26 : cd 23 26 = some (26, .goto 4, 3, [(30, 0)]) := by decide +kernel
theorem x23_26 {d : Nat} {a0 a1 a2 : Value} {s0 : Int32} {h : AHp} : Rf d 23 26 [a0, a1, a2] [.int s0] h = Rf d 23 30 [a0, a1, a2] [.int s0] h := Rf_go ((stp_of c23_26).trans rfl)
-- 24: X3_emit
theorem c24_0 : cd 24 0 = some (0, .aload_n 0, 1, []) := by decide +kernel
theorem x24_0 {d : Nat} {a1 : Value} {x : Nat} {h : AHp} : Rf d 24 0 [.ref x, a1] [] h = Rf d 24 1 [.ref x, a1] [.ref x] h := Rf_go ((stp_of c24_0).trans rfl)
theorem c24_1 : cd 24 1 = some (1, .getfield 85, 3, [(3, 9)]) := by decide +kernel
theorem x24_1 {d : Nat} {a0 a1 : Value} {s0 : Nat} {h : AHp} : Rf d 24 1 [a0, a1] [.ref s0] h = if cls (h.1 s0) = 3 ∧ oKi (h.1 s0) 9 = true then Rf d 24 4 [a0, a1] [.int (oN (h.1 s0) 9)] h else Rx d 24 1 [a0, a1] [.ref s0] h := getI c24_1
theorem c24_4 : cd 24 4 = some (4, .aload_n 0, 1, []) := by decide +kernel
theorem x24_4 {d : Nat} {a1 : Value} {s0 : Int32} {x : Nat} {h : AHp} : Rf d 24 4 [.ref x, a1] [.int s0] h = Rf d 24 5 [.ref x, a1] [.ref x, .int s0] h := Rf_go ((stp_of c24_4).trans rfl)
theorem c24_5 : cd 24 5 = some (5, .getfield 32, 3, [(3, 8)]) := by decide +kernel
theorem x24_5 {d : Nat} {a0 a1 : Value} {s0 : Nat} {s1 : Int32} {h : AHp} : Rf d 24 5 [a0, a1] [.ref s0, .int s1] h = if cls (h.1 s0) = 3 ∧ oKr (h.1 s0) 8 = true then Rf d 24 8 [a0, a1] [.ref (oR (h.1 s0) 8), .int s1] h else Rx d 24 5 [a0, a1] [.ref s0, .int s1] h := getR c24_5
theorem c24_8 : cd 24 8 = some (8, .arraylength, 1, []) := by decide +kernel
theorem x24_8 {d : Nat} {a0 a1 : Value} {s0 : Nat} {s1 : Int32} {h : AHp} : Rf d 24 8 [a0, a1] [.ref s0, .int s1] h = if aT (h.1 s0) = 0 ∨ aT (h.1 s0) = 1 ∨ aT (h.1 s0) = 10 ∨ aT (h.1 s0) = 11 then Rf d 24 9 [a0, a1] [.int (nI (aN (h.1 s0))), .int s1] h else Rx d 24 8 [a0, a1] [.ref s0, .int s1] h := alI c24_8
theorem c24_9 : cd 24 9 = some (9, .if_icmp .lt 5, 3, [(14, 0)]) := by decide +kernel
theorem x24_9 {d : Nat} {a0 a1 : Value} {s0 : Int32} {s1 : Int32} {h : AHp} : Rf d 24 9 [a0, a1] [.int s0, .int s1] h = if s1 < s0 then Rf d 24 14 [a0, a1] [] h else Rf d 24 12 [a0, a1] [] h := Rf_brd ((stp_of c24_9).trans rfl)
theorem c24_14 : cd 24 14 = some (14, .aload_n 0, 1, []) := by decide +kernel
theorem x24_14 {d : Nat} {a1 : Value} {x : Nat} {h : AHp} : Rf d 24 14 [.ref x, a1] [] h = Rf d 24 15 [.ref x, a1] [.ref x] h := Rf_go ((stp_of c24_14).trans rfl)
theorem c24_15 : cd 24 15 = some (15, .getfield 32, 3, [(3, 8)]) := by decide +kernel
theorem x24_15 {d : Nat} {a0 a1 : Value} {s0 : Nat} {h : AHp} : Rf d 24 15 [a0, a1] [.ref s0] h = if cls (h.1 s0) = 3 ∧ oKr (h.1 s0) 8 = true then Rf d 24 18 [a0, a1] [.ref (oR (h.1 s0) 8)] h else Rx d 24 15 [a0, a1] [.ref s0] h := getR c24_15
theorem c24_18 : cd 24 18 = some (18, .aload_n 0, 1, []) := by decide +kernel
theorem x24_18 {d : Nat} {a1 : Value} {s0 : Nat} {x : Nat} {h : AHp} : Rf d 24 18 [.ref x, a1] [.ref s0] h = Rf d 24 19 [.ref x, a1] [.ref x, .ref s0] h := Rf_go ((stp_of c24_18).trans rfl)
theorem c24_19 : cd 24 19 = some (19, .getfield 85, 3, [(3, 9)]) := by decide +kernel
theorem x24_19 {d : Nat} {a0 a1 : Value} {s0 : Nat} {s1 : Nat} {h : AHp} : Rf d 24 19 [a0, a1] [.ref s0, .ref s1] h = if cls (h.1 s0) = 3 ∧ oKi (h.1 s0) 9 = true then Rf d 24 22 [a0, a1] [.int (oN (h.1 s0) 9), .ref s1] h else Rx d 24 19 [a0, a1] [.ref s0, .ref s1] h := getI c24_19
theorem c24_22 : cd 24 22 = some (22, .iload_n 1, 1, []) := by decide +kernel
theorem x24_22 {d : Nat} {a0 : Value} {s0 : Int32} {s1 : Nat} {x : Int32} {h : AHp} : Rf d 24 22 [a0, .int x] [.int s0, .ref s1] h = Rf d 24 23 [a0, .int x] [.int x, .int s0, .ref s1] h := Rf_go ((stp_of c24_22).trans rfl)
theorem c24_23 : cd 24 23 = some (23, .iastore, 1, []) := by decide +kernel
theorem x24_23 {d : Nat} {a0 a1 : Value} {s0 : Int32} {s1 : Int32} {s2 : Nat} {h : AHp} : Rf d 24 23 [a0, a1] [.int s0, .int s1, .ref s2] h = if aT (h.1 s2) = 0 ∧ inB s1 (aN (h.1 s2)) = true then Rf d 24 24 [a0, a1] [] (hset h s2 (.inl (0, aN (h.1 s2), .inl (upd (aF (h.1 s2)) s1.toNatClampNeg s0)))) else Rx d 24 23 [a0, a1] [.int s0, .int s1, .ref s2] h := stI c24_23
theorem c24_24 : cd 24 24 = some (24, .aload_n 0, 1, []) := by decide +kernel
theorem x24_24 {d : Nat} {a1 : Value} {x : Nat} {h : AHp} : Rf d 24 24 [.ref x, a1] [] h = Rf d 24 25 [.ref x, a1] [.ref x] h := Rf_go ((stp_of c24_24).trans rfl)
theorem c24_25 : cd 24 25 = some (25, .dup, 1, []) := by decide +kernel
theorem x24_25 {d : Nat} {a0 a1 : Value} {s0 : Nat} {h : AHp} : Rf d 24 25 [a0, a1] [.ref s0] h = Rf d 24 26 [a0, a1] [.ref s0, .ref s0] h := Rf_go ((stp_of c24_25).trans rfl)
theorem c24_26 : cd 24 26 = some (26, .getfield 85, 3, [(3, 9)]) := by decide +kernel
theorem x24_26 {d : Nat} {a0 a1 : Value} {s0 : Nat} {s1 : Nat} {h : AHp} : Rf d 24 26 [a0, a1] [.ref s0, .ref s1] h = if cls (h.1 s0) = 3 ∧ oKi (h.1 s0) 9 = true then Rf d 24 29 [a0, a1] [.int (oN (h.1 s0) 9), .ref s1] h else Rx d 24 26 [a0, a1] [.ref s0, .ref s1] h := getI c24_26
theorem c24_29 : cd 24 29 = some (29, .iconst 1, 1, []) := by decide +kernel
theorem x24_29 {d : Nat} {a0 a1 : Value} {s0 : Int32} {s1 : Nat} {h : AHp} : Rf d 24 29 [a0, a1] [.int s0, .ref s1] h = Rf d 24 30 [a0, a1] [.int 1, .int s0, .ref s1] h := Rf_go ((stp_of c24_29).trans rfl)
theorem c24_30 : cd 24 30 = some (30, .iadd, 1, []) := by decide +kernel
theorem x24_30 {d : Nat} {a0 a1 : Value} {s0 : Int32} {s1 : Int32} {s2 : Nat} {h : AHp} : Rf d 24 30 [a0, a1] [.int s0, .int s1, .ref s2] h = Rf d 24 31 [a0, a1] [.int (s1 + s0), .ref s2] h := Rf_go ((stp_of c24_30).trans rfl)
theorem c24_31 : cd 24 31 = some (31, .putfield 85, 3, [(3, 9)]) := by decide +kernel
theorem x24_31 {d : Nat} {a0 a1 : Value} {s0 : Int32} {s1 : Nat} {h : AHp} : Rf d 24 31 [a0, a1] [.int s0, .ref s1] h = if cls (h.1 s1) = 3 ∧ oL (h.1 s1) = 10 then Rf d 24 34 [a0, a1] [] (hset h s1 (oSet (h.1 s1) 9 (.int s0))) else Rx d 24 31 [a0, a1] [.int s0, .ref s1] h := putV c24_31 rfl (fMay_i (by decide +kernel))
theorem c24_34 : cd 24 34 = some (34, .iconst 1, 1, []) := by decide +kernel
theorem x24_34 {d : Nat} {a0 a1 : Value} {h : AHp} : Rf d 24 34 [a0, a1] [] h = Rf d 24 35 [a0, a1] [.int 1] h := Rf_go ((stp_of c24_34).trans rfl)
theorem c24_35 : cd 24 35 = some (35, .ireturn, 1, []) := by decide +kernel
theorem x24_35 {d : Nat} {a0 a1 : Value} {s0 : Int32} {h : AHp} : Rf d 24 35 [a0, a1] [.int s0] h = if retI (some .boolean) s0 = true then some (some (.int s0), h) else Rx d 24 35 [a0, a1] [.int s0] h := Rf_ife (fun hk => by rw [stp_of c24_35]; exact if_pos hk)
theorem c24_12 : cd 24 12 = some (12, .iconst 0, 1, []) := by decide +kernel
theorem x24_12 {d : Nat} {a0 a1 : Value} {h : AHp} : Rf d 24 12 [a0, a1] [] h = Rf d 24 13 [a0, a1] [.int 0] h := Rf_go ((stp_of c24_12).trans rfl)
theorem c24_13 : cd 24 13 = some (13, .ireturn, 1, []) := by decide +kernel
theorem x24_13 {d : Nat} {a0 a1 : Value} {s0 : Int32} {h : AHp} : Rf d 24 13 [a0, a1] [.int s0] h = if retI (some .boolean) s0 = true then some (some (.int s0), h) else Rx d 24 13 [a0, a1] [.int s0] h := Rf_ife (fun hk => by rw [stp_of c24_13]; exact if_pos hk)
-- 25: X3_together
theorem c25_0 : cd 25 0 = some (0, .iconst 0, 1, []) := by decide +kernel
theorem x25_0 {d : Nat} {a0 a1 a2 a3 a4 : Value} {h : AHp} : Rf d 25 0 [a0, a1, a2, a3, a4] [] h = Rf d 25 1 [a0, a1, a2, a3, a4] [.int 0] h := Rf_go ((stp_of c25_0).trans rfl)
theorem c25_1 : cd 25 1 = some (1, .istore_n 3, 1, []) := by decide +kernel
theorem x25_1 {d : Nat} {a0 a1 a2 a3 a4 : Value} {s0 : Int32} {h : AHp} : Rf d 25 1 [a0, a1, a2, a3, a4] [.int s0] h = Rf d 25 2 [a0, a1, a2, .int s0, a4] [] h := Rf_go ((stp_of c25_1).trans rfl)
theorem c25_2 : cd 25 2 = some (2, .iconst 0, 1, []) := by decide +kernel
theorem x25_2 {d : Nat} {a0 a1 a2 a3 a4 : Value} {h : AHp} : Rf d 25 2 [a0, a1, a2, a3, a4] [] h = Rf d 25 3 [a0, a1, a2, a3, a4] [.int 0] h := Rf_go ((stp_of c25_2).trans rfl)
theorem c25_3 : cd 25 3 = some (3, .istore 4, 2, []) := by decide +kernel
theorem x25_3 {d : Nat} {a0 a1 a2 a3 a4 : Value} {s0 : Int32} {h : AHp} : Rf d 25 3 [a0, a1, a2, a3, a4] [.int s0] h = Rf d 25 5 [a0, a1, a2, a3, .int s0] [] h := Rf_go ((stp_of c25_3).trans rfl)
theorem c25_5 : cd 25 5 = some (5, .iload 4, 2, []) := by decide +kernel
theorem x25_5 {d : Nat} {a0 a1 a2 a3 : Value} {x : Int32} {h : AHp} : Rf d 25 5 [a0, a1, a2, a3, .int x] [] h = Rf d 25 7 [a0, a1, a2, a3, .int x] [.int x] h := Rf_go ((stp_of c25_5).trans rfl)
theorem c25_7 : cd 25 7 = some (7, .aload_n 0, 1, []) := by decide +kernel
theorem x25_7 {d : Nat} {a1 a2 a3 a4 : Value} {s0 : Int32} {x : Nat} {h : AHp} : Rf d 25 7 [.ref x, a1, a2, a3, a4] [.int s0] h = Rf d 25 8 [.ref x, a1, a2, a3, a4] [.ref x, .int s0] h := Rf_go ((stp_of c25_7).trans rfl)
theorem c25_8 : cd 25 8 = some (8, .getfield 82, 3, [(3, 4)]) := by decide +kernel
theorem x25_8 {d : Nat} {a0 a1 a2 a3 a4 : Value} {s0 : Nat} {s1 : Int32} {h : AHp} : Rf d 25 8 [a0, a1, a2, a3, a4] [.ref s0, .int s1] h = if cls (h.1 s0) = 3 ∧ oKi (h.1 s0) 4 = true then Rf d 25 11 [a0, a1, a2, a3, a4] [.int (oN (h.1 s0) 4), .int s1] h else Rx d 25 8 [a0, a1, a2, a3, a4] [.ref s0, .int s1] h := getI c25_8
theorem c25_11 : cd 25 11 = some (11, .if_icmp .ge 40, 3, [(51, 0)]) := by decide +kernel
theorem x25_11 {d : Nat} {a0 a1 a2 a3 a4 : Value} {s0 : Int32} {s1 : Int32} {h : AHp} : Rf d 25 11 [a0, a1, a2, a3, a4] [.int s0, .int s1] h = if s1 < s0 then Rf d 25 14 [a0, a1, a2, a3, a4] [] h else Rf d 25 51 [a0, a1, a2, a3, a4] [] h := Rf_brn ((stp_of c25_11).trans rfl)
theorem c25_51 : cd 25 51 = some (51, .iload_n 3, 1, []) := by decide +kernel
theorem x25_51 {d : Nat} {a0 a1 a2 a4 : Value} {x : Int32} {h : AHp} : Rf d 25 51 [a0, a1, a2, .int x, a4] [] h = Rf d 25 52 [a0, a1, a2, .int x, a4] [.int x] h := Rf_go ((stp_of c25_51).trans rfl)
theorem c25_52 : cd 25 52 = some (52, .ireturn, 1, []) := by decide +kernel
theorem x25_52 {d : Nat} {a0 a1 a2 a3 a4 : Value} {s0 : Int32} {h : AHp} : Rf d 25 52 [a0, a1, a2, a3, a4] [.int s0] h = some (some (.int s0), h) := Rf_end (by rw [stp_of c25_52]; simp only [stpI]; rw [if_pos (show retI (mH 25).2.2.1 s0 = true from retI_int)])
theorem c25_14 : cd 25 14 = some (14, .aload_n 0, 1, []) := by decide +kernel
theorem x25_14 {d : Nat} {a1 a2 a3 a4 : Value} {x : Nat} {h : AHp} : Rf d 25 14 [.ref x, a1, a2, a3, a4] [] h = Rf d 25 15 [.ref x, a1, a2, a3, a4] [.ref x] h := Rf_go ((stp_of c25_14).trans rfl)
theorem c25_15 : cd 25 15 = some (15, .getfield 18, 3, [(3, 5)]) := by decide +kernel
theorem x25_15 {d : Nat} {a0 a1 a2 a3 a4 : Value} {s0 : Nat} {h : AHp} : Rf d 25 15 [a0, a1, a2, a3, a4] [.ref s0] h = if cls (h.1 s0) = 3 ∧ oKr (h.1 s0) 5 = true then Rf d 25 18 [a0, a1, a2, a3, a4] [.ref (oR (h.1 s0) 5)] h else Rx d 25 15 [a0, a1, a2, a3, a4] [.ref s0] h := getR c25_15
theorem c25_18 : cd 25 18 = some (18, .iload 4, 2, []) := by decide +kernel
theorem x25_18 {d : Nat} {a0 a1 a2 a3 : Value} {s0 : Nat} {x : Int32} {h : AHp} : Rf d 25 18 [a0, a1, a2, a3, .int x] [.ref s0] h = Rf d 25 20 [a0, a1, a2, a3, .int x] [.int x, .ref s0] h := Rf_go ((stp_of c25_18).trans rfl)
theorem c25_20 : cd 25 20 = some (20, .iaload, 1, []) := by decide +kernel
theorem x25_20 {d : Nat} {a0 a1 a2 a3 a4 : Value} {s0 : Int32} {s1 : Nat} {h : AHp} : Rf d 25 20 [a0, a1, a2, a3, a4] [.int s0, .ref s1] h = if (aT (h.1 s1) = 0 ∨ aT (h.1 s1) = 10) ∧ inB s0 (aN (h.1 s1)) = true then Rf d 25 21 [a0, a1, a2, a3, a4] [.int (aF (h.1 s1) s0.toNatClampNeg)] h else Rx d 25 20 [a0, a1, a2, a3, a4] [.int s0, .ref s1] h := ldI c25_20
theorem c25_21 : cd 25 21 = some (21, .iload_n 1, 1, []) := by decide +kernel
theorem x25_21 {d : Nat} {a0 a2 a3 a4 : Value} {s0 : Int32} {x : Int32} {h : AHp} : Rf d 25 21 [a0, .int x, a2, a3, a4] [.int s0] h = Rf d 25 22 [a0, .int x, a2, a3, a4] [.int x, .int s0] h := Rf_go ((stp_of c25_21).trans rfl)
theorem c25_22 : cd 25 22 = some (22, .if_icmp .ne 23, 3, [(45, 0)]) := by decide +kernel
theorem x25_22 {d : Nat} {a0 a1 a2 a3 a4 : Value} {s0 : Int32} {s1 : Int32} {h : AHp} : Rf d 25 22 [a0, a1, a2, a3, a4] [.int s0, .int s1] h = if s1 = s0 then Rf d 25 25 [a0, a1, a2, a3, a4] [] h else Rf d 25 45 [a0, a1, a2, a3, a4] [] h := Rf_brn ((stp_of c25_22).trans rfl)
theorem c25_45 : cd 25 45 = some (45, .iinc 4 1, 3, []) := by decide +kernel
theorem x25_45 {d : Nat} {a0 a1 a2 a3 : Value} {x : Int32} {h : AHp} : Rf d 25 45 [a0, a1, a2, a3, .int x] [] h = Rf d 25 48 [a0, a1, a2, a3, .int (x + 1)] [] h := Rf_go ((stp_of c25_45).trans rfl)
theorem c25_48 : cd 25 48 = some (48, .goto (-43), 3, [(5, 0)]) := by decide +kernel
theorem x25_48 {d : Nat} {a0 a1 a2 a3 a4 : Value} {h : AHp} : Rf d 25 48 [a0, a1, a2, a3, a4] [] h = Rf d 25 5 [a0, a1, a2, a3, a4] [] h := Rf_go ((stp_of c25_48).trans rfl)
theorem c25_25 : cd 25 25 = some (25, .aload_n 0, 1, []) := by decide +kernel
theorem x25_25 {d : Nat} {a1 a2 a3 a4 : Value} {x : Nat} {h : AHp} : Rf d 25 25 [.ref x, a1, a2, a3, a4] [] h = Rf d 25 26 [.ref x, a1, a2, a3, a4] [.ref x] h := Rf_go ((stp_of c25_25).trans rfl)
theorem c25_26 : cd 25 26 = some (26, .iload 4, 2, []) := by decide +kernel
theorem x25_26 {d : Nat} {a0 a1 a2 a3 : Value} {s0 : Nat} {x : Int32} {h : AHp} : Rf d 25 26 [a0, a1, a2, a3, .int x] [.ref s0] h = Rf d 25 28 [a0, a1, a2, a3, .int x] [.int x, .ref s0] h := Rf_go ((stp_of c25_26).trans rfl)
theorem c25_28 : cd 25 28 = some (28, .aload_n 2, 1, []) := by decide +kernel
theorem x25_28 {d : Nat} {a0 a1 a3 a4 : Value} {s0 : Int32} {s1 : Nat} {x : Nat} {h : AHp} : Rf d 25 28 [a0, a1, .ref x, a3, a4] [.int s0, .ref s1] h = Rf d 25 29 [a0, a1, .ref x, a3, a4] [.ref x, .int s0, .ref s1] h := Rf_go ((stp_of c25_28).trans rfl)
theorem c25_29 : cd 25 29 = some (29, .invokevirtual 115, 3, [(3, 26)]) := by decide +kernel
theorem xc25_29 {d : Nat} {a0 a1 a2 a3 a4 : Value} {s0 : Nat} {s1 : Int32} {s2 : Nat} {h : AHp} {h1 : AHp} {v : Int32} (hr : cls (h.1 s2) = 3) (hq : Rf d 26 0 [.ref s2, .int s1, .ref s0, noV, noV, noV] [] h = some (some (.int v), h1)) : Rf (d + 1) 25 29 [a0, a1, a2, a3, a4] [.ref s0, .int s1, .ref s2] h = Rf (d + 1) 25 32 [a0, a1, a2, a3, a4] [.int v] h1 := clV (c := 26) (as := [.int s1, .ref s0]) c25_29 rfl (by simp [isV]) (by rw [hr]; rfl) hq
theorem c25_32 : cd 25 32 = some (32, .ifCond .eq 13, 3, [(45, 0)]) := by decide +kernel
theorem x25_32 {d : Nat} {a0 a1 a2 a3 a4 : Value} {s0 : Int32} {h : AHp} : Rf d 25 32 [a0, a1, a2, a3, a4] [.int s0] h = if s0 = 0 then Rf d 25 45 [a0, a1, a2, a3, a4] [] h else Rf d 25 35 [a0, a1, a2, a3, a4] [] h := Rf_brd ((stp_of c25_32).trans rfl)
theorem c25_35 : cd 25 35 = some (35, .iload_n 3, 1, []) := by decide +kernel
theorem x25_35 {d : Nat} {a0 a1 a2 a4 : Value} {x : Int32} {h : AHp} : Rf d 25 35 [a0, a1, a2, .int x, a4] [] h = Rf d 25 36 [a0, a1, a2, .int x, a4] [.int x] h := Rf_go ((stp_of c25_35).trans rfl)
theorem c25_36 : cd 25 36 = some (36, .aload_n 0, 1, []) := by decide +kernel
theorem x25_36 {d : Nat} {a1 a2 a3 a4 : Value} {s0 : Int32} {x : Nat} {h : AHp} : Rf d 25 36 [.ref x, a1, a2, a3, a4] [.int s0] h = Rf d 25 37 [.ref x, a1, a2, a3, a4] [.ref x, .int s0] h := Rf_go ((stp_of c25_36).trans rfl)
theorem c25_37 : cd 25 37 = some (37, .getfield 22, 3, [(3, 6)]) := by decide +kernel
theorem x25_37 {d : Nat} {a0 a1 a2 a3 a4 : Value} {s0 : Nat} {s1 : Int32} {h : AHp} : Rf d 25 37 [a0, a1, a2, a3, a4] [.ref s0, .int s1] h = if cls (h.1 s0) = 3 ∧ oKr (h.1 s0) 6 = true then Rf d 25 40 [a0, a1, a2, a3, a4] [.ref (oR (h.1 s0) 6), .int s1] h else Rx d 25 37 [a0, a1, a2, a3, a4] [.ref s0, .int s1] h := getR c25_37
theorem c25_40 : cd 25 40 = some (40, .iload 4, 2, []) := by decide +kernel
theorem x25_40 {d : Nat} {a0 a1 a2 a3 : Value} {s0 : Nat} {s1 : Int32} {x : Int32} {h : AHp} : Rf d 25 40 [a0, a1, a2, a3, .int x] [.ref s0, .int s1] h = Rf d 25 42 [a0, a1, a2, a3, .int x] [.int x, .ref s0, .int s1] h := Rf_go ((stp_of c25_40).trans rfl)
theorem c25_42 : cd 25 42 = some (42, .iaload, 1, []) := by decide +kernel
theorem x25_42 {d : Nat} {a0 a1 a2 a3 a4 : Value} {s0 : Int32} {s1 : Nat} {s2 : Int32} {h : AHp} : Rf d 25 42 [a0, a1, a2, a3, a4] [.int s0, .ref s1, .int s2] h = if (aT (h.1 s1) = 0 ∨ aT (h.1 s1) = 10) ∧ inB s0 (aN (h.1 s1)) = true then Rf d 25 43 [a0, a1, a2, a3, a4] [.int (aF (h.1 s1) s0.toNatClampNeg), .int s2] h else Rx d 25 42 [a0, a1, a2, a3, a4] [.int s0, .ref s1, .int s2] h := ldI c25_42
theorem c25_43 : cd 25 43 = some (43, .iadd, 1, []) := by decide +kernel
theorem x25_43 {d : Nat} {a0 a1 a2 a3 a4 : Value} {s0 : Int32} {s1 : Int32} {h : AHp} : Rf d 25 43 [a0, a1, a2, a3, a4] [.int s0, .int s1] h = Rf d 25 44 [a0, a1, a2, a3, a4] [.int (s1 + s0)] h := Rf_go ((stp_of c25_43).trans rfl)
theorem c25_44 : cd 25 44 = some (44, .istore_n 3, 1, []) := by decide +kernel
theorem x25_44 {d : Nat} {a0 a1 a2 a3 a4 : Value} {s0 : Int32} {h : AHp} : Rf d 25 44 [a0, a1, a2, a3, a4] [.int s0] h = Rf d 25 45 [a0, a1, a2, .int s0, a4] [] h := Rf_go ((stp_of c25_44).trans rfl)
-- 26: X3_holds
theorem c26_0 : cd 26 0 = some (0, .iconst 0, 1, []) := by decide +kernel
theorem x26_0 {d : Nat} {a0 a1 a2 a3 a4 a5 : Value} {h : AHp} : Rf d 26 0 [a0, a1, a2, a3, a4, a5] [] h = Rf d 26 1 [a0, a1, a2, a3, a4, a5] [.int 0] h := Rf_go ((stp_of c26_0).trans rfl)
theorem c26_1 : cd 26 1 = some (1, .istore_n 3, 1, []) := by decide +kernel
theorem x26_1 {d : Nat} {a0 a1 a2 a3 a4 a5 : Value} {s0 : Int32} {h : AHp} : Rf d 26 1 [a0, a1, a2, a3, a4, a5] [.int s0] h = Rf d 26 2 [a0, a1, a2, .int s0, a4, a5] [] h := Rf_go ((stp_of c26_1).trans rfl)
theorem c26_2 : cd 26 2 = some (2, .iload_n 1, 1, []) := by decide +kernel
theorem x26_2 {d : Nat} {a0 a2 a3 a4 a5 : Value} {x : Int32} {h : AHp} : Rf d 26 2 [a0, .int x, a2, a3, a4, a5] [] h = Rf d 26 3 [a0, .int x, a2, a3, a4, a5] [.int x] h := Rf_go ((stp_of c26_2).trans rfl)
theorem c26_3 : cd 26 3 = some (3, .ifCond .ne 7, 3, [(10, 0)]) := by decide +kernel
theorem x26_3 {d : Nat} {a0 a1 a2 a3 a4 a5 : Value} {s0 : Int32} {h : AHp} : Rf d 26 3 [a0, a1, a2, a3, a4, a5] [.int s0] h = if s0 = 0 then Rf d 26 6 [a0, a1, a2, a3, a4, a5] [] h else Rf d 26 10 [a0, a1, a2, a3, a4, a5] [] h := Rf_brn ((stp_of c26_3).trans rfl)
theorem c26_10 : cd 26 10 = some (10, .aload_n 0, 1, []) := by decide +kernel
theorem x26_10 {d : Nat} {a1 a2 a3 a4 a5 : Value} {x : Nat} {h : AHp} : Rf d 26 10 [.ref x, a1, a2, a3, a4, a5] [] h = Rf d 26 11 [.ref x, a1, a2, a3, a4, a5] [.ref x] h := Rf_go ((stp_of c26_10).trans rfl)
theorem c26_11 : cd 26 11 = some (11, .getfield 25, 3, [(3, 7)]) := by decide +kernel
theorem x26_11 {d : Nat} {a0 a1 a2 a3 a4 a5 : Value} {s0 : Nat} {h : AHp} : Rf d 26 11 [a0, a1, a2, a3, a4, a5] [.ref s0] h = if cls (h.1 s0) = 3 ∧ oKr (h.1 s0) 7 = true then Rf d 26 14 [a0, a1, a2, a3, a4, a5] [.ref (oR (h.1 s0) 7)] h else Rx d 26 11 [a0, a1, a2, a3, a4, a5] [.ref s0] h := getR c26_11
theorem c26_14 : cd 26 14 = some (14, .iload_n 1, 1, []) := by decide +kernel
theorem x26_14 {d : Nat} {a0 a2 a3 a4 a5 : Value} {s0 : Nat} {x : Int32} {h : AHp} : Rf d 26 14 [a0, .int x, a2, a3, a4, a5] [.ref s0] h = Rf d 26 15 [a0, .int x, a2, a3, a4, a5] [.int x, .ref s0] h := Rf_go ((stp_of c26_14).trans rfl)
theorem c26_15 : cd 26 15 = some (15, .iconst 1, 1, []) := by decide +kernel
theorem x26_15 {d : Nat} {a0 a1 a2 a3 a4 a5 : Value} {s0 : Int32} {s1 : Nat} {h : AHp} : Rf d 26 15 [a0, a1, a2, a3, a4, a5] [.int s0, .ref s1] h = Rf d 26 16 [a0, a1, a2, a3, a4, a5] [.int 1, .int s0, .ref s1] h := Rf_go ((stp_of c26_15).trans rfl)
theorem c26_16 : cd 26 16 = some (16, .isub, 1, []) := by decide +kernel
theorem x26_16 {d : Nat} {a0 a1 a2 a3 a4 a5 : Value} {s0 : Int32} {s1 : Int32} {s2 : Nat} {h : AHp} : Rf d 26 16 [a0, a1, a2, a3, a4, a5] [.int s0, .int s1, .ref s2] h = Rf d 26 17 [a0, a1, a2, a3, a4, a5] [.int (s1 - s0), .ref s2] h := Rf_go ((stp_of c26_16).trans rfl)
theorem c26_17 : cd 26 17 = some (17, .iaload, 1, []) := by decide +kernel
theorem x26_17 {d : Nat} {a0 a1 a2 a3 a4 a5 : Value} {s0 : Int32} {s1 : Nat} {h : AHp} : Rf d 26 17 [a0, a1, a2, a3, a4, a5] [.int s0, .ref s1] h = if (aT (h.1 s1) = 0 ∨ aT (h.1 s1) = 10) ∧ inB s0 (aN (h.1 s1)) = true then Rf d 26 18 [a0, a1, a2, a3, a4, a5] [.int (aF (h.1 s1) s0.toNatClampNeg)] h else Rx d 26 17 [a0, a1, a2, a3, a4, a5] [.int s0, .ref s1] h := ldI c26_17
theorem c26_18 : cd 26 18 = some (18, .istore 4, 2, []) := by decide +kernel
theorem x26_18 {d : Nat} {a0 a1 a2 a3 a4 a5 : Value} {s0 : Int32} {h : AHp} : Rf d 26 18 [a0, a1, a2, a3, a4, a5] [.int s0] h = Rf d 26 20 [a0, a1, a2, a3, .int s0, a5] [] h := Rf_go ((stp_of c26_18).trans rfl)
theorem c26_20 : cd 26 20 = some (20, .iload 4, 2, []) := by decide +kernel
theorem x26_20 {d : Nat} {a0 a1 a2 a3 a5 : Value} {x : Int32} {h : AHp} : Rf d 26 20 [a0, a1, a2, a3, .int x, a5] [] h = Rf d 26 22 [a0, a1, a2, a3, .int x, a5] [.int x] h := Rf_go ((stp_of c26_20).trans rfl)
theorem c26_22 : cd 26 22 = some (22, .istore 5, 2, []) := by decide +kernel
theorem x26_22 {d : Nat} {a0 a1 a2 a3 a4 a5 : Value} {s0 : Int32} {h : AHp} : Rf d 26 22 [a0, a1, a2, a3, a4, a5] [.int s0] h = Rf d 26 24 [a0, a1, a2, a3, a4, .int s0] [] h := Rf_go ((stp_of c26_22).trans rfl)
theorem c26_24 : cd 26 24 = some (24, .iload 5, 2, []) := by decide +kernel
theorem x26_24 {d : Nat} {a0 a1 a2 a3 a4 : Value} {x : Int32} {h : AHp} : Rf d 26 24 [a0, a1, a2, a3, a4, .int x] [] h = Rf d 26 26 [a0, a1, a2, a3, a4, .int x] [.int x] h := Rf_go ((stp_of c26_24).trans rfl)
theorem c26_26 : cd 26 26 = some (26, .aload_n 0, 1, []) := by decide +kernel
theorem x26_26 {d : Nat} {a1 a2 a3 a4 a5 : Value} {s0 : Int32} {x : Nat} {h : AHp} : Rf d 26 26 [.ref x, a1, a2, a3, a4, a5] [.int s0] h = Rf d 26 27 [.ref x, a1, a2, a3, a4, a5] [.ref x, .int s0] h := Rf_go ((stp_of c26_26).trans rfl)
theorem c26_27 : cd 26 27 = some (27, .getfield 25, 3, [(3, 7)]) := by decide +kernel
theorem x26_27 {d : Nat} {a0 a1 a2 a3 a4 a5 : Value} {s0 : Nat} {s1 : Int32} {h : AHp} : Rf d 26 27 [a0, a1, a2, a3, a4, a5] [.ref s0, .int s1] h = if cls (h.1 s0) = 3 ∧ oKr (h.1 s0) 7 = true then Rf d 26 30 [a0, a1, a2, a3, a4, a5] [.ref (oR (h.1 s0) 7), .int s1] h else Rx d 26 27 [a0, a1, a2, a3, a4, a5] [.ref s0, .int s1] h := getR c26_27
theorem c26_30 : cd 26 30 = some (30, .iload_n 1, 1, []) := by decide +kernel
theorem x26_30 {d : Nat} {a0 a2 a3 a4 a5 : Value} {s0 : Nat} {s1 : Int32} {x : Int32} {h : AHp} : Rf d 26 30 [a0, .int x, a2, a3, a4, a5] [.ref s0, .int s1] h = Rf d 26 31 [a0, .int x, a2, a3, a4, a5] [.int x, .ref s0, .int s1] h := Rf_go ((stp_of c26_30).trans rfl)
theorem c26_31 : cd 26 31 = some (31, .iaload, 1, []) := by decide +kernel
theorem x26_31 {d : Nat} {a0 a1 a2 a3 a4 a5 : Value} {s0 : Int32} {s1 : Nat} {s2 : Int32} {h : AHp} : Rf d 26 31 [a0, a1, a2, a3, a4, a5] [.int s0, .ref s1, .int s2] h = if (aT (h.1 s1) = 0 ∨ aT (h.1 s1) = 10) ∧ inB s0 (aN (h.1 s1)) = true then Rf d 26 32 [a0, a1, a2, a3, a4, a5] [.int (aF (h.1 s1) s0.toNatClampNeg), .int s2] h else Rx d 26 31 [a0, a1, a2, a3, a4, a5] [.int s0, .ref s1, .int s2] h := ldI c26_31
theorem c26_32 : cd 26 32 = some (32, .if_icmp .ge 98, 3, [(130, 0)]) := by decide +kernel
theorem x26_32 {d : Nat} {a0 a1 a2 a3 a4 a5 : Value} {s0 : Int32} {s1 : Int32} {h : AHp} : Rf d 26 32 [a0, a1, a2, a3, a4, a5] [.int s0, .int s1] h = if s1 < s0 then Rf d 26 35 [a0, a1, a2, a3, a4, a5] [] h else Rf d 26 130 [a0, a1, a2, a3, a4, a5] [] h := Rf_brn ((stp_of c26_32).trans rfl)
theorem c26_130 : cd 26 130 = some (130, .iload_n 3, 1, []) := by decide +kernel
theorem x26_130 {d : Nat} {a0 a1 a2 a4 a5 : Value} {x : Int32} {h : AHp} : Rf d 26 130 [a0, a1, a2, .int x, a4, a5] [] h = Rf d 26 131 [a0, a1, a2, .int x, a4, a5] [.int x] h := Rf_go ((stp_of c26_130).trans rfl)
theorem c26_131 : cd 26 131 = some (131, .iconst 1, 1, []) := by decide +kernel
theorem x26_131 {d : Nat} {a0 a1 a2 a3 a4 a5 : Value} {s0 : Int32} {h : AHp} : Rf d 26 131 [a0, a1, a2, a3, a4, a5] [.int s0] h = Rf d 26 132 [a0, a1, a2, a3, a4, a5] [.int 1, .int s0] h := Rf_go ((stp_of c26_131).trans rfl)
theorem c26_132 : cd 26 132 = some (132, .iand, 1, []) := by decide +kernel
theorem x26_132 {d : Nat} {a0 a1 a2 a3 a4 a5 : Value} {s0 : Int32} {s1 : Int32} {h : AHp} : Rf d 26 132 [a0, a1, a2, a3, a4, a5] [.int s0, .int s1] h = Rf d 26 133 [a0, a1, a2, a3, a4, a5] [.int (s1 &&& s0)] h := Rf_go ((stp_of c26_132).trans rfl)
theorem c26_133 : cd 26 133 = some (133, .ifCond .eq 7, 3, [(140, 0)]) := by decide +kernel
theorem x26_133 {d : Nat} {a0 a1 a2 a3 a4 a5 : Value} {s0 : Int32} {h : AHp} : Rf d 26 133 [a0, a1, a2, a3, a4, a5] [.int s0] h = if s0 = 0 then Rf d 26 140 [a0, a1, a2, a3, a4, a5] [] h else Rf d 26 136 [a0, a1, a2, a3, a4, a5] [] h := Rf_brd ((stp_of c26_133).trans rfl)
theorem c26_140 : cd 26 140 = some (140, .iconst 0, 1, []) := by decide +kernel
theorem x26_140 {d : Nat} {a0 a1 a2 a3 a4 a5 : Value} {h : AHp} : Rf d 26 140 [a0, a1, a2, a3, a4, a5] [] h = Rf d 26 141 [a0, a1, a2, a3, a4, a5] [.int 0] h := Rf_go ((stp_of c26_140).trans rfl)
theorem c26_141 : cd 26 141 = some (141, .ireturn, 1, []) := by decide +kernel
theorem x26_141 {d : Nat} {a0 a1 a2 a3 a4 a5 : Value} {s0 : Int32} {h : AHp} : Rf d 26 141 [a0, a1, a2, a3, a4, a5] [.int s0] h = if retI (some .boolean) s0 = true then some (some (.int s0), h) else Rx d 26 141 [a0, a1, a2, a3, a4, a5] [.int s0] h := Rf_ife (fun hk => by rw [stp_of c26_141]; exact if_pos hk)
theorem c26_136 : cd 26 136 = some (136, .iconst 1, 1, []) := by decide +kernel
theorem x26_136 {d : Nat} {a0 a1 a2 a3 a4 a5 : Value} {h : AHp} : Rf d 26 136 [a0, a1, a2, a3, a4, a5] [] h = Rf d 26 137 [a0, a1, a2, a3, a4, a5] [.int 1] h := Rf_go ((stp_of c26_136).trans rfl)
theorem c26_137 : cd 26 137 = some (137, .goto 4, 3, [(141, 0)]) := by decide +kernel
theorem x26_137 {d : Nat} {a0 a1 a2 a3 a4 a5 : Value} {s0 : Int32} {h : AHp} : Rf d 26 137 [a0, a1, a2, a3, a4, a5] [.int s0] h = Rf d 26 141 [a0, a1, a2, a3, a4, a5] [.int s0] h := Rf_go ((stp_of c26_137).trans rfl)
theorem c26_35 : cd 26 35 = some (35, .aload_n 0, 1, []) := by decide +kernel
theorem x26_35 {d : Nat} {a1 a2 a3 a4 a5 : Value} {x : Nat} {h : AHp} : Rf d 26 35 [.ref x, a1, a2, a3, a4, a5] [] h = Rf d 26 36 [.ref x, a1, a2, a3, a4, a5] [.ref x] h := Rf_go ((stp_of c26_35).trans rfl)
theorem c26_36 : cd 26 36 = some (36, .getfield 32, 3, [(3, 8)]) := by decide +kernel
theorem x26_36 {d : Nat} {a0 a1 a2 a3 a4 a5 : Value} {s0 : Nat} {h : AHp} : Rf d 26 36 [a0, a1, a2, a3, a4, a5] [.ref s0] h = if cls (h.1 s0) = 3 ∧ oKr (h.1 s0) 8 = true then Rf d 26 39 [a0, a1, a2, a3, a4, a5] [.ref (oR (h.1 s0) 8)] h else Rx d 26 36 [a0, a1, a2, a3, a4, a5] [.ref s0] h := getR c26_36
theorem c26_39 : cd 26 39 = some (39, .iload 5, 2, []) := by decide +kernel
theorem x26_39 {d : Nat} {a0 a1 a2 a3 a4 : Value} {s0 : Nat} {x : Int32} {h : AHp} : Rf d 26 39 [a0, a1, a2, a3, a4, .int x] [.ref s0] h = Rf d 26 41 [a0, a1, a2, a3, a4, .int x] [.int x, .ref s0] h := Rf_go ((stp_of c26_39).trans rfl)
theorem c26_41 : cd 26 41 = some (41, .iaload, 1, []) := by decide +kernel
theorem x26_41 {d : Nat} {a0 a1 a2 a3 a4 a5 : Value} {s0 : Int32} {s1 : Nat} {h : AHp} : Rf d 26 41 [a0, a1, a2, a3, a4, a5] [.int s0, .ref s1] h = if (aT (h.1 s1) = 0 ∨ aT (h.1 s1) = 10) ∧ inB s0 (aN (h.1 s1)) = true then Rf d 26 42 [a0, a1, a2, a3, a4, a5] [.int (aF (h.1 s1) s0.toNatClampNeg)] h else Rx d 26 41 [a0, a1, a2, a3, a4, a5] [.int s0, .ref s1] h := ldI c26_41
theorem c26_42 : cd 26 42 = some (42, .iconst (-1), 1, []) := by decide +kernel
theorem x26_42 {d : Nat} {a0 a1 a2 a3 a4 a5 : Value} {s0 : Int32} {h : AHp} : Rf d 26 42 [a0, a1, a2, a3, a4, a5] [.int s0] h = Rf d 26 43 [a0, a1, a2, a3, a4, a5] [.int (-1), .int s0] h := Rf_go ((stp_of c26_42).trans rfl)
theorem c26_43 : cd 26 43 = some (43, .if_icmp .ne 10, 3, [(53, 0)]) := by decide +kernel
theorem x26_43 {d : Nat} {a0 a1 a2 a3 a4 a5 : Value} {s0 : Int32} {s1 : Int32} {h : AHp} : Rf d 26 43 [a0, a1, a2, a3, a4, a5] [.int s0, .int s1] h = if s1 = s0 then Rf d 26 46 [a0, a1, a2, a3, a4, a5] [] h else Rf d 26 53 [a0, a1, a2, a3, a4, a5] [] h := Rf_brn ((stp_of c26_43).trans rfl)
theorem c26_53 : cd 26 53 = some (53, .aload_n 0, 1, []) := by decide +kernel
theorem x26_53 {d : Nat} {a1 a2 a3 a4 a5 : Value} {x : Nat} {h : AHp} : Rf d 26 53 [.ref x, a1, a2, a3, a4, a5] [] h = Rf d 26 54 [.ref x, a1, a2, a3, a4, a5] [.ref x] h := Rf_go ((stp_of c26_53).trans rfl)
theorem c26_54 : cd 26 54 = some (54, .getfield 32, 3, [(3, 8)]) := by decide +kernel
theorem x26_54 {d : Nat} {a0 a1 a2 a3 a4 a5 : Value} {s0 : Nat} {h : AHp} : Rf d 26 54 [a0, a1, a2, a3, a4, a5] [.ref s0] h = if cls (h.1 s0) = 3 ∧ oKr (h.1 s0) 8 = true then Rf d 26 57 [a0, a1, a2, a3, a4, a5] [.ref (oR (h.1 s0) 8)] h else Rx d 26 54 [a0, a1, a2, a3, a4, a5] [.ref s0] h := getR c26_54
theorem c26_57 : cd 26 57 = some (57, .iload 5, 2, []) := by decide +kernel
theorem x26_57 {d : Nat} {a0 a1 a2 a3 a4 : Value} {s0 : Nat} {x : Int32} {h : AHp} : Rf d 26 57 [a0, a1, a2, a3, a4, .int x] [.ref s0] h = Rf d 26 59 [a0, a1, a2, a3, a4, .int x] [.int x, .ref s0] h := Rf_go ((stp_of c26_57).trans rfl)
theorem c26_59 : cd 26 59 = some (59, .iaload, 1, []) := by decide +kernel
theorem x26_59 {d : Nat} {a0 a1 a2 a3 a4 a5 : Value} {s0 : Int32} {s1 : Nat} {h : AHp} : Rf d 26 59 [a0, a1, a2, a3, a4, a5] [.int s0, .ref s1] h = if (aT (h.1 s1) = 0 ∨ aT (h.1 s1) = 10) ∧ inB s0 (aN (h.1 s1)) = true then Rf d 26 60 [a0, a1, a2, a3, a4, a5] [.int (aF (h.1 s1) s0.toNatClampNeg)] h else Rx d 26 59 [a0, a1, a2, a3, a4, a5] [.int s0, .ref s1] h := ldI c26_59
theorem c26_60 : cd 26 60 = some (60, .bipush (-2), 2, []) := by decide +kernel
theorem x26_60 {d : Nat} {a0 a1 a2 a3 a4 a5 : Value} {s0 : Int32} {h : AHp} : Rf d 26 60 [a0, a1, a2, a3, a4, a5] [.int s0] h = Rf d 26 62 [a0, a1, a2, a3, a4, a5] [.int (-2), .int s0] h := Rf_go ((stp_of c26_60).trans rfl)
theorem c26_62 : cd 26 62 = some (62, .if_icmp .ne 15, 3, [(77, 0)]) := by decide +kernel
theorem x26_62 {d : Nat} {a0 a1 a2 a3 a4 a5 : Value} {s0 : Int32} {s1 : Int32} {h : AHp} : Rf d 26 62 [a0, a1, a2, a3, a4, a5] [.int s0, .int s1] h = if s1 = s0 then Rf d 26 65 [a0, a1, a2, a3, a4, a5] [] h else Rf d 26 77 [a0, a1, a2, a3, a4, a5] [] h := Rf_brn ((stp_of c26_62).trans rfl)
theorem c26_77 : cd 26 77 = some (77, .aload_n 0, 1, []) := by decide +kernel
theorem x26_77 {d : Nat} {a1 a2 a3 a4 a5 : Value} {x : Nat} {h : AHp} : Rf d 26 77 [.ref x, a1, a2, a3, a4, a5] [] h = Rf d 26 78 [.ref x, a1, a2, a3, a4, a5] [.ref x] h := Rf_go ((stp_of c26_77).trans rfl)
theorem c26_78 : cd 26 78 = some (78, .getfield 32, 3, [(3, 8)]) := by decide +kernel
theorem x26_78 {d : Nat} {a0 a1 a2 a3 a4 a5 : Value} {s0 : Nat} {h : AHp} : Rf d 26 78 [a0, a1, a2, a3, a4, a5] [.ref s0] h = if cls (h.1 s0) = 3 ∧ oKr (h.1 s0) 8 = true then Rf d 26 81 [a0, a1, a2, a3, a4, a5] [.ref (oR (h.1 s0) 8)] h else Rx d 26 78 [a0, a1, a2, a3, a4, a5] [.ref s0] h := getR c26_78
theorem c26_81 : cd 26 81 = some (81, .iload 5, 2, []) := by decide +kernel
theorem x26_81 {d : Nat} {a0 a1 a2 a3 a4 : Value} {s0 : Nat} {x : Int32} {h : AHp} : Rf d 26 81 [a0, a1, a2, a3, a4, .int x] [.ref s0] h = Rf d 26 83 [a0, a1, a2, a3, a4, .int x] [.int x, .ref s0] h := Rf_go ((stp_of c26_81).trans rfl)
theorem c26_83 : cd 26 83 = some (83, .iaload, 1, []) := by decide +kernel
theorem x26_83 {d : Nat} {a0 a1 a2 a3 a4 a5 : Value} {s0 : Int32} {s1 : Nat} {h : AHp} : Rf d 26 83 [a0, a1, a2, a3, a4, a5] [.int s0, .ref s1] h = if (aT (h.1 s1) = 0 ∨ aT (h.1 s1) = 10) ∧ inB s0 (aN (h.1 s1)) = true then Rf d 26 84 [a0, a1, a2, a3, a4, a5] [.int (aF (h.1 s1) s0.toNatClampNeg)] h else Rx d 26 83 [a0, a1, a2, a3, a4, a5] [.int s0, .ref s1] h := ldI c26_83
theorem c26_84 : cd 26 84 = some (84, .bipush (-3), 2, []) := by decide +kernel
theorem x26_84 {d : Nat} {a0 a1 a2 a3 a4 a5 : Value} {s0 : Int32} {h : AHp} : Rf d 26 84 [a0, a1, a2, a3, a4, a5] [.int s0] h = Rf d 26 86 [a0, a1, a2, a3, a4, a5] [.int (-3), .int s0] h := Rf_go ((stp_of c26_84).trans rfl)
theorem c26_86 : cd 26 86 = some (86, .if_icmp .ne 14, 3, [(100, 0)]) := by decide +kernel
theorem x26_86 {d : Nat} {a0 a1 a2 a3 a4 a5 : Value} {s0 : Int32} {s1 : Int32} {h : AHp} : Rf d 26 86 [a0, a1, a2, a3, a4, a5] [.int s0, .int s1] h = if s1 = s0 then Rf d 26 89 [a0, a1, a2, a3, a4, a5] [] h else Rf d 26 100 [a0, a1, a2, a3, a4, a5] [] h := Rf_brn ((stp_of c26_86).trans rfl)
theorem c26_100 : cd 26 100 = some (100, .iload_n 3, 1, []) := by decide +kernel
theorem x26_100 {d : Nat} {a0 a1 a2 a4 a5 : Value} {x : Int32} {h : AHp} : Rf d 26 100 [a0, a1, a2, .int x, a4, a5] [] h = Rf d 26 101 [a0, a1, a2, .int x, a4, a5] [.int x] h := Rf_go ((stp_of c26_100).trans rfl)
theorem c26_101 : cd 26 101 = some (101, .iconst 1, 1, []) := by decide +kernel
theorem x26_101 {d : Nat} {a0 a1 a2 a3 a4 a5 : Value} {s0 : Int32} {h : AHp} : Rf d 26 101 [a0, a1, a2, a3, a4, a5] [.int s0] h = Rf d 26 102 [a0, a1, a2, a3, a4, a5] [.int 1, .int s0] h := Rf_go ((stp_of c26_101).trans rfl)
theorem c26_102 : cd 26 102 = some (102, .ishl, 1, []) := by decide +kernel
theorem x26_102 {d : Nat} {a0 a1 a2 a3 a4 a5 : Value} {s0 : Int32} {s1 : Int32} {h : AHp} : Rf d 26 102 [a0, a1, a2, a3, a4, a5] [.int s0, .int s1] h = Rf d 26 103 [a0, a1, a2, a3, a4, a5] [.int (s1 <<< (s0 &&& 31))] h := Rf_go ((stp_of c26_102).trans rfl)
theorem c26_103 : cd 26 103 = some (103, .aload_n 0, 1, []) := by decide +kernel
theorem x26_103 {d : Nat} {a1 a2 a3 a4 a5 : Value} {s0 : Int32} {x : Nat} {h : AHp} : Rf d 26 103 [.ref x, a1, a2, a3, a4, a5] [.int s0] h = Rf d 26 104 [.ref x, a1, a2, a3, a4, a5] [.ref x, .int s0] h := Rf_go ((stp_of c26_103).trans rfl)
theorem c26_104 : cd 26 104 = some (104, .getfield 32, 3, [(3, 8)]) := by decide +kernel
theorem x26_104 {d : Nat} {a0 a1 a2 a3 a4 a5 : Value} {s0 : Nat} {s1 : Int32} {h : AHp} : Rf d 26 104 [a0, a1, a2, a3, a4, a5] [.ref s0, .int s1] h = if cls (h.1 s0) = 3 ∧ oKr (h.1 s0) 8 = true then Rf d 26 107 [a0, a1, a2, a3, a4, a5] [.ref (oR (h.1 s0) 8), .int s1] h else Rx d 26 104 [a0, a1, a2, a3, a4, a5] [.ref s0, .int s1] h := getR c26_104
theorem c26_107 : cd 26 107 = some (107, .iload 5, 2, []) := by decide +kernel
theorem x26_107 {d : Nat} {a0 a1 a2 a3 a4 : Value} {s0 : Nat} {s1 : Int32} {x : Int32} {h : AHp} : Rf d 26 107 [a0, a1, a2, a3, a4, .int x] [.ref s0, .int s1] h = Rf d 26 109 [a0, a1, a2, a3, a4, .int x] [.int x, .ref s0, .int s1] h := Rf_go ((stp_of c26_107).trans rfl)
theorem c26_109 : cd 26 109 = some (109, .iaload, 1, []) := by decide +kernel
theorem x26_109 {d : Nat} {a0 a1 a2 a3 a4 a5 : Value} {s0 : Int32} {s1 : Nat} {s2 : Int32} {h : AHp} : Rf d 26 109 [a0, a1, a2, a3, a4, a5] [.int s0, .ref s1, .int s2] h = if (aT (h.1 s1) = 0 ∨ aT (h.1 s1) = 10) ∧ inB s0 (aN (h.1 s1)) = true then Rf d 26 110 [a0, a1, a2, a3, a4, a5] [.int (aF (h.1 s1) s0.toNatClampNeg), .int s2] h else Rx d 26 109 [a0, a1, a2, a3, a4, a5] [.int s0, .ref s1, .int s2] h := ldI c26_109
theorem c26_110 : cd 26 110 = some (110, .aload_n 2, 1, []) := by decide +kernel
theorem x26_110 {d : Nat} {a0 a1 a3 a4 a5 : Value} {s0 : Int32} {s1 : Int32} {x : Nat} {h : AHp} : Rf d 26 110 [a0, a1, .ref x, a3, a4, a5] [.int s0, .int s1] h = Rf d 26 111 [a0, a1, .ref x, a3, a4, a5] [.ref x, .int s0, .int s1] h := Rf_go ((stp_of c26_110).trans rfl)
theorem c26_111 : cd 26 111 = some (111, .invokestatic 119, 3, [(0, 27)]) := by decide +kernel
theorem xc26_111 {d : Nat} {a0 a1 a2 a3 a4 a5 : Value} {s0 : Nat} {s1 : Int32} {s2 : Int32} {h : AHp} {h1 : AHp} {v : Int32} (hq : Rf d 27 0 [.int s1, .ref s0, noV, noV, noV] [] h = some (some (.int v), h1)) : Rf (d + 1) 26 111 [a0, a1, a2, a3, a4, a5] [.ref s0, .int s1, .int s2] h = Rf (d + 1) 26 114 [a0, a1, a2, a3, a4, a5] [.int v, .int s2] h1 := clS (as := [.int s1, .ref s0]) c26_111 rfl rfl (by simp [isV]) hq
theorem c26_114 : cd 26 114 = some (114, .ifCond .eq 7, 3, [(121, 0)]) := by decide +kernel
theorem x26_114 {d : Nat} {a0 a1 a2 a3 a4 a5 : Value} {s0 : Int32} {s1 : Int32} {h : AHp} : Rf d 26 114 [a0, a1, a2, a3, a4, a5] [.int s0, .int s1] h = if s0 = 0 then Rf d 26 121 [a0, a1, a2, a3, a4, a5] [.int s1] h else Rf d 26 117 [a0, a1, a2, a3, a4, a5] [.int s1] h := Rf_brd ((stp_of c26_114).trans rfl)
theorem c26_121 : cd 26 121 = some (121, .iconst 0, 1, []) := by decide +kernel
theorem x26_121 {d : Nat} {a0 a1 a2 a3 a4 a5 : Value} {s0 : Int32} {h : AHp} : Rf d 26 121 [a0, a1, a2, a3, a4, a5] [.int s0] h = Rf d 26 122 [a0, a1, a2, a3, a4, a5] [.int 0, .int s0] h := Rf_go ((stp_of c26_121).trans rfl)
theorem c26_122 : cd 26 122 = some (122, .ior, 1, []) := by decide +kernel
theorem x26_122 {d : Nat} {a0 a1 a2 a3 a4 a5 : Value} {s0 : Int32} {s1 : Int32} {h : AHp} : Rf d 26 122 [a0, a1, a2, a3, a4, a5] [.int s0, .int s1] h = Rf d 26 123 [a0, a1, a2, a3, a4, a5] [.int (s1 ||| s0)] h := Rf_go ((stp_of c26_122).trans rfl)
theorem c26_123 : cd 26 123 = some (123, .istore_n 3, 1, []) := by decide +kernel
theorem x26_123 {d : Nat} {a0 a1 a2 a3 a4 a5 : Value} {s0 : Int32} {h : AHp} : Rf d 26 123 [a0, a1, a2, a3, a4, a5] [.int s0] h = Rf d 26 124 [a0, a1, a2, .int s0, a4, a5] [] h := Rf_go ((stp_of c26_123).trans rfl)
theorem c26_124 : cd 26 124 = some (124, .iinc 5 1, 3, []) := by decide +kernel
theorem x26_124 {d : Nat} {a0 a1 a2 a3 a4 : Value} {x : Int32} {h : AHp} : Rf d 26 124 [a0, a1, a2, a3, a4, .int x] [] h = Rf d 26 127 [a0, a1, a2, a3, a4, .int (x + 1)] [] h := Rf_go ((stp_of c26_124).trans rfl)
theorem c26_127 : cd 26 127 = some (127, .goto (-103), 3, [(24, 0)]) := by decide +kernel
theorem x26_127 {d : Nat} {a0 a1 a2 a3 a4 a5 : Value} {h : AHp} : Rf d 26 127 [a0, a1, a2, a3, a4, a5] [] h = Rf d 26 24 [a0, a1, a2, a3, a4, a5] [] h := Rf_go ((stp_of c26_127).trans rfl)
theorem c26_117 : cd 26 117 = some (117, .iconst 1, 1, []) := by decide +kernel
theorem x26_117 {d : Nat} {a0 a1 a2 a3 a4 a5 : Value} {s0 : Int32} {h : AHp} : Rf d 26 117 [a0, a1, a2, a3, a4, a5] [.int s0] h = Rf d 26 118 [a0, a1, a2, a3, a4, a5] [.int 1, .int s0] h := Rf_go ((stp_of c26_117).trans rfl)
theorem c26_118 : cd 26 118 = some (118, .goto 4, 3, [(122, 0)]) := by decide +kernel
theorem x26_118 {d : Nat} {a0 a1 a2 a3 a4 a5 : Value} {s0 : Int32} {s1 : Int32} {h : AHp} : Rf d 26 118 [a0, a1, a2, a3, a4, a5] [.int s0, .int s1] h = Rf d 26 122 [a0, a1, a2, a3, a4, a5] [.int s0, .int s1] h := Rf_go ((stp_of c26_118).trans rfl)
theorem c26_89 : cd 26 89 = some (89, .iload_n 3, 1, []) := by decide +kernel
theorem x26_89 {d : Nat} {a0 a1 a2 a4 a5 : Value} {x : Int32} {h : AHp} : Rf d 26 89 [a0, a1, a2, .int x, a4, a5] [] h = Rf d 26 90 [a0, a1, a2, .int x, a4, a5] [.int x] h := Rf_go ((stp_of c26_89).trans rfl)
theorem c26_90 : cd 26 90 = some (90, .iconst 1, 1, []) := by decide +kernel
theorem x26_90 {d : Nat} {a0 a1 a2 a3 a4 a5 : Value} {s0 : Int32} {h : AHp} : Rf d 26 90 [a0, a1, a2, a3, a4, a5] [.int s0] h = Rf d 26 91 [a0, a1, a2, a3, a4, a5] [.int 1, .int s0] h := Rf_go ((stp_of c26_90).trans rfl)
theorem c26_91 : cd 26 91 = some (91, .iushr, 1, []) := by decide +kernel
theorem x26_91 {d : Nat} {a0 a1 a2 a3 a4 a5 : Value} {s0 : Int32} {s1 : Int32} {h : AHp} : Rf d 26 91 [a0, a1, a2, a3, a4, a5] [.int s0, .int s1] h = Rf d 26 92 [a0, a1, a2, a3, a4, a5] [.int ((s1.toUInt32 >>> (s0.toUInt32 &&& Int32.toUInt32 31)).toInt32)] h := Rf_go ((stp_of c26_91).trans rfl)
theorem c26_92 : cd 26 92 = some (92, .iload_n 3, 1, []) := by decide +kernel
theorem x26_92 {d : Nat} {a0 a1 a2 a4 a5 : Value} {s0 : Int32} {x : Int32} {h : AHp} : Rf d 26 92 [a0, a1, a2, .int x, a4, a5] [.int s0] h = Rf d 26 93 [a0, a1, a2, .int x, a4, a5] [.int x, .int s0] h := Rf_go ((stp_of c26_92).trans rfl)
theorem c26_93 : cd 26 93 = some (93, .iconst 1, 1, []) := by decide +kernel
theorem x26_93 {d : Nat} {a0 a1 a2 a3 a4 a5 : Value} {s0 : Int32} {s1 : Int32} {h : AHp} : Rf d 26 93 [a0, a1, a2, a3, a4, a5] [.int s0, .int s1] h = Rf d 26 94 [a0, a1, a2, a3, a4, a5] [.int 1, .int s0, .int s1] h := Rf_go ((stp_of c26_93).trans rfl)
theorem c26_94 : cd 26 94 = some (94, .iand, 1, []) := by decide +kernel
theorem x26_94 {d : Nat} {a0 a1 a2 a3 a4 a5 : Value} {s0 : Int32} {s1 : Int32} {s2 : Int32} {h : AHp} : Rf d 26 94 [a0, a1, a2, a3, a4, a5] [.int s0, .int s1, .int s2] h = Rf d 26 95 [a0, a1, a2, a3, a4, a5] [.int (s1 &&& s0), .int s2] h := Rf_go ((stp_of c26_94).trans rfl)
theorem c26_95 : cd 26 95 = some (95, .ior, 1, []) := by decide +kernel
theorem x26_95 {d : Nat} {a0 a1 a2 a3 a4 a5 : Value} {s0 : Int32} {s1 : Int32} {h : AHp} : Rf d 26 95 [a0, a1, a2, a3, a4, a5] [.int s0, .int s1] h = Rf d 26 96 [a0, a1, a2, a3, a4, a5] [.int (s1 ||| s0)] h := Rf_go ((stp_of c26_95).trans rfl)
theorem c26_96 : cd 26 96 = some (96, .istore_n 3, 1, []) := by decide +kernel
theorem x26_96 {d : Nat} {a0 a1 a2 a3 a4 a5 : Value} {s0 : Int32} {h : AHp} : Rf d 26 96 [a0, a1, a2, a3, a4, a5] [.int s0] h = Rf d 26 97 [a0, a1, a2, .int s0, a4, a5] [] h := Rf_go ((stp_of c26_96).trans rfl)
theorem c26_97 : cd 26 97 = some (97, .goto 27, 3, [(124, 0)]) := by decide +kernel
theorem x26_97 {d : Nat} {a0 a1 a2 a3 a4 a5 : Value} {h : AHp} : Rf d 26 97 [a0, a1, a2, a3, a4, a5] [] h = Rf d 26 124 [a0, a1, a2, a3, a4, a5] [] h := Rf_go ((stp_of c26_97).trans rfl)
theorem c26_65 : cd 26 65 = some (65, .iload_n 3, 1, []) := by decide +kernel
theorem x26_65 {d : Nat} {a0 a1 a2 a4 a5 : Value} {x : Int32} {h : AHp} : Rf d 26 65 [a0, a1, a2, .int x, a4, a5] [] h = Rf d 26 66 [a0, a1, a2, .int x, a4, a5] [.int x] h := Rf_go ((stp_of c26_65).trans rfl)
theorem c26_66 : cd 26 66 = some (66, .iconst 1, 1, []) := by decide +kernel
theorem x26_66 {d : Nat} {a0 a1 a2 a3 a4 a5 : Value} {s0 : Int32} {h : AHp} : Rf d 26 66 [a0, a1, a2, a3, a4, a5] [.int s0] h = Rf d 26 67 [a0, a1, a2, a3, a4, a5] [.int 1, .int s0] h := Rf_go ((stp_of c26_66).trans rfl)
theorem c26_67 : cd 26 67 = some (67, .iushr, 1, []) := by decide +kernel
theorem x26_67 {d : Nat} {a0 a1 a2 a3 a4 a5 : Value} {s0 : Int32} {s1 : Int32} {h : AHp} : Rf d 26 67 [a0, a1, a2, a3, a4, a5] [.int s0, .int s1] h = Rf d 26 68 [a0, a1, a2, a3, a4, a5] [.int ((s1.toUInt32 >>> (s0.toUInt32 &&& Int32.toUInt32 31)).toInt32)] h := Rf_go ((stp_of c26_67).trans rfl)
theorem c26_68 : cd 26 68 = some (68, .iload_n 3, 1, []) := by decide +kernel
theorem x26_68 {d : Nat} {a0 a1 a2 a4 a5 : Value} {s0 : Int32} {x : Int32} {h : AHp} : Rf d 26 68 [a0, a1, a2, .int x, a4, a5] [.int s0] h = Rf d 26 69 [a0, a1, a2, .int x, a4, a5] [.int x, .int s0] h := Rf_go ((stp_of c26_68).trans rfl)
theorem c26_69 : cd 26 69 = some (69, .bipush (-2), 2, []) := by decide +kernel
theorem x26_69 {d : Nat} {a0 a1 a2 a3 a4 a5 : Value} {s0 : Int32} {s1 : Int32} {h : AHp} : Rf d 26 69 [a0, a1, a2, a3, a4, a5] [.int s0, .int s1] h = Rf d 26 71 [a0, a1, a2, a3, a4, a5] [.int (-2), .int s0, .int s1] h := Rf_go ((stp_of c26_69).trans rfl)
theorem c26_71 : cd 26 71 = some (71, .ior, 1, []) := by decide +kernel
theorem x26_71 {d : Nat} {a0 a1 a2 a3 a4 a5 : Value} {s0 : Int32} {s1 : Int32} {s2 : Int32} {h : AHp} : Rf d 26 71 [a0, a1, a2, a3, a4, a5] [.int s0, .int s1, .int s2] h = Rf d 26 72 [a0, a1, a2, a3, a4, a5] [.int (s1 ||| s0), .int s2] h := Rf_go ((stp_of c26_71).trans rfl)
theorem c26_72 : cd 26 72 = some (72, .iand, 1, []) := by decide +kernel
theorem x26_72 {d : Nat} {a0 a1 a2 a3 a4 a5 : Value} {s0 : Int32} {s1 : Int32} {h : AHp} : Rf d 26 72 [a0, a1, a2, a3, a4, a5] [.int s0, .int s1] h = Rf d 26 73 [a0, a1, a2, a3, a4, a5] [.int (s1 &&& s0)] h := Rf_go ((stp_of c26_72).trans rfl)
theorem c26_73 : cd 26 73 = some (73, .istore_n 3, 1, []) := by decide +kernel
theorem x26_73 {d : Nat} {a0 a1 a2 a3 a4 a5 : Value} {s0 : Int32} {h : AHp} : Rf d 26 73 [a0, a1, a2, a3, a4, a5] [.int s0] h = Rf d 26 74 [a0, a1, a2, .int s0, a4, a5] [] h := Rf_go ((stp_of c26_73).trans rfl)
theorem c26_74 : cd 26 74 = some (74, .goto 50, 3, [(124, 0)]) := by decide +kernel
theorem x26_74 {d : Nat} {a0 a1 a2 a3 a4 a5 : Value} {h : AHp} : Rf d 26 74 [a0, a1, a2, a3, a4, a5] [] h = Rf d 26 124 [a0, a1, a2, a3, a4, a5] [] h := Rf_go ((stp_of c26_74).trans rfl)
theorem c26_46 : cd 26 46 = some (46, .iload_n 3, 1, []) := by decide +kernel
theorem x26_46 {d : Nat} {a0 a1 a2 a4 a5 : Value} {x : Int32} {h : AHp} : Rf d 26 46 [a0, a1, a2, .int x, a4, a5] [] h = Rf d 26 47 [a0, a1, a2, .int x, a4, a5] [.int x] h := Rf_go ((stp_of c26_46).trans rfl)
theorem c26_47 : cd 26 47 = some (47, .iconst 1, 1, []) := by decide +kernel
theorem x26_47 {d : Nat} {a0 a1 a2 a3 a4 a5 : Value} {s0 : Int32} {h : AHp} : Rf d 26 47 [a0, a1, a2, a3, a4, a5] [.int s0] h = Rf d 26 48 [a0, a1, a2, a3, a4, a5] [.int 1, .int s0] h := Rf_go ((stp_of c26_47).trans rfl)
theorem c26_48 : cd 26 48 = some (48, .ixor, 1, []) := by decide +kernel
theorem x26_48 {d : Nat} {a0 a1 a2 a3 a4 a5 : Value} {s0 : Int32} {s1 : Int32} {h : AHp} : Rf d 26 48 [a0, a1, a2, a3, a4, a5] [.int s0, .int s1] h = Rf d 26 49 [a0, a1, a2, a3, a4, a5] [.int (s1 ^^^ s0)] h := Rf_go ((stp_of c26_48).trans rfl)
theorem c26_49 : cd 26 49 = some (49, .istore_n 3, 1, []) := by decide +kernel
theorem x26_49 {d : Nat} {a0 a1 a2 a3 a4 a5 : Value} {s0 : Int32} {h : AHp} : Rf d 26 49 [a0, a1, a2, a3, a4, a5] [.int s0] h = Rf d 26 50 [a0, a1, a2, .int s0, a4, a5] [] h := Rf_go ((stp_of c26_49).trans rfl)
theorem c26_50 : cd 26 50 = some (50, .goto 74, 3, [(124, 0)]) := by decide +kernel
theorem x26_50 {d : Nat} {a0 a1 a2 a3 a4 a5 : Value} {h : AHp} : Rf d 26 50 [a0, a1, a2, a3, a4, a5] [] h = Rf d 26 124 [a0, a1, a2, a3, a4, a5] [] h := Rf_go ((stp_of c26_50).trans rfl)
theorem c26_6 : cd 26 6 = some (6, .iconst 0, 1, []) := by decide +kernel
theorem x26_6 {d : Nat} {a0 a1 a2 a3 a4 a5 : Value} {h : AHp} : Rf d 26 6 [a0, a1, a2, a3, a4, a5] [] h = Rf d 26 7 [a0, a1, a2, a3, a4, a5] [.int 0] h := Rf_go ((stp_of c26_6).trans rfl)
theorem c26_7 : cd 26 7 = some (7, .goto 11, 3, [(18, 0)]) := by decide +kernel
theorem x26_7 {d : Nat} {a0 a1 a2 a3 a4 a5 : Value} {s0 : Int32} {h : AHp} : Rf d 26 7 [a0, a1, a2, a3, a4, a5] [.int s0] h = Rf d 26 18 [a0, a1, a2, a3, a4, a5] [.int s0] h := Rf_go ((stp_of c26_7).trans rfl)
-- 27: X3_testHolds
theorem c27_0 : cd 27 0 = some (0, .iload_n 0, 1, []) := by decide +kernel
theorem x27_0 {d : Nat} {a1 a2 a3 a4 : Value} {x : Int32} {h : AHp} : Rf d 27 0 [.int x, a1, a2, a3, a4] [] h = Rf d 27 1 [.int x, a1, a2, a3, a4] [.int x] h := Rf_go ((stp_of c27_0).trans rfl)
theorem c27_1 : cd 27 1 = some (1, .sipush 300, 3, []) := by decide +kernel
theorem x27_1 {d : Nat} {a0 a1 a2 a3 a4 : Value} {s0 : Int32} {h : AHp} : Rf d 27 1 [a0, a1, a2, a3, a4] [.int s0] h = Rf d 27 4 [a0, a1, a2, a3, a4] [.int 300, .int s0] h := Rf_go ((stp_of c27_1).trans rfl)
theorem c27_4 : cd 27 4 = some (4, .idiv, 1, []) := by decide +kernel
theorem x27_4 {d : Nat} {a0 a1 a2 a3 a4 : Value} {s0 : Int32} {s1 : Int32} {h : AHp} : Rf d 27 4 [a0, a1, a2, a3, a4] [.int s0, .int s1] h = if ¬ s0 = 0 then Rf d 27 5 [a0, a1, a2, a3, a4] [.int (s1 / s0)] h else Rx d 27 4 [a0, a1, a2, a3, a4] [.int s0, .int s1] h := divE c27_4 (fun _ _ _ => rfl)
theorem c27_5 : cd 27 5 = some (5, .istore_n 2, 1, []) := by decide +kernel
theorem x27_5 {d : Nat} {a0 a1 a2 a3 a4 : Value} {s0 : Int32} {h : AHp} : Rf d 27 5 [a0, a1, a2, a3, a4] [.int s0] h = Rf d 27 6 [a0, a1, .int s0, a3, a4] [] h := Rf_go ((stp_of c27_5).trans rfl)
theorem c27_6 : cd 27 6 = some (6, .iload_n 2, 1, []) := by decide +kernel
theorem x27_6 {d : Nat} {a0 a1 a3 a4 : Value} {x : Int32} {h : AHp} : Rf d 27 6 [a0, a1, .int x, a3, a4] [] h = Rf d 27 7 [a0, a1, .int x, a3, a4] [.int x] h := Rf_go ((stp_of c27_6).trans rfl)
theorem c27_7 : cd 27 7 = some (7, .ifCond .lt 9, 3, [(16, 0)]) := by decide +kernel
theorem x27_7 {d : Nat} {a0 a1 a2 a3 a4 : Value} {s0 : Int32} {h : AHp} : Rf d 27 7 [a0, a1, a2, a3, a4] [.int s0] h = if s0 < 0 then Rf d 27 16 [a0, a1, a2, a3, a4] [] h else Rf d 27 10 [a0, a1, a2, a3, a4] [] h := Rf_brd ((stp_of c27_7).trans rfl)
theorem c27_16 : cd 27 16 = some (16, .iconst 0, 1, []) := by decide +kernel
theorem x27_16 {d : Nat} {a0 a1 a2 a3 a4 : Value} {h : AHp} : Rf d 27 16 [a0, a1, a2, a3, a4] [] h = Rf d 27 17 [a0, a1, a2, a3, a4] [.int 0] h := Rf_go ((stp_of c27_16).trans rfl)
theorem c27_17 : cd 27 17 = some (17, .ireturn, 1, []) := by decide +kernel
theorem x27_17 {d : Nat} {a0 a1 a2 a3 a4 : Value} {s0 : Int32} {h : AHp} : Rf d 27 17 [a0, a1, a2, a3, a4] [.int s0] h = if retI (some .boolean) s0 = true then some (some (.int s0), h) else Rx d 27 17 [a0, a1, a2, a3, a4] [.int s0] h := Rf_ife (fun hk => by rw [stp_of c27_17]; exact if_pos hk)
theorem c27_10 : cd 27 10 = some (10, .iload_n 2, 1, []) := by decide +kernel
theorem x27_10 {d : Nat} {a0 a1 a3 a4 : Value} {x : Int32} {h : AHp} : Rf d 27 10 [a0, a1, .int x, a3, a4] [] h = Rf d 27 11 [a0, a1, .int x, a3, a4] [.int x] h := Rf_go ((stp_of c27_10).trans rfl)
theorem c27_11 : cd 27 11 = some (11, .aload_n 1, 1, []) := by decide +kernel
theorem x27_11 {d : Nat} {a0 a2 a3 a4 : Value} {s0 : Int32} {x : Nat} {h : AHp} : Rf d 27 11 [a0, .ref x, a2, a3, a4] [.int s0] h = Rf d 27 12 [a0, .ref x, a2, a3, a4] [.ref x, .int s0] h := Rf_go ((stp_of c27_11).trans rfl)
theorem c27_12 : cd 27 12 = some (12, .arraylength, 1, []) := by decide +kernel
theorem x27_12 {d : Nat} {a0 a1 a2 a3 a4 : Value} {s0 : Nat} {s1 : Int32} {h : AHp} : Rf d 27 12 [a0, a1, a2, a3, a4] [.ref s0, .int s1] h = if aT (h.1 s0) = 0 ∨ aT (h.1 s0) = 1 ∨ aT (h.1 s0) = 10 ∨ aT (h.1 s0) = 11 then Rf d 27 13 [a0, a1, a2, a3, a4] [.int (nI (aN (h.1 s0))), .int s1] h else Rx d 27 12 [a0, a1, a2, a3, a4] [.ref s0, .int s1] h := alI c27_12
theorem c27_13 : cd 27 13 = some (13, .if_icmp .lt 5, 3, [(18, 0)]) := by decide +kernel
theorem x27_13 {d : Nat} {a0 a1 a2 a3 a4 : Value} {s0 : Int32} {s1 : Int32} {h : AHp} : Rf d 27 13 [a0, a1, a2, a3, a4] [.int s0, .int s1] h = if s1 < s0 then Rf d 27 18 [a0, a1, a2, a3, a4] [] h else Rf d 27 16 [a0, a1, a2, a3, a4] [] h := Rf_brd ((stp_of c27_13).trans rfl)
theorem c27_18 : cd 27 18 = some (18, .aload_n 1, 1, []) := by decide +kernel
theorem x27_18 {d : Nat} {a0 a2 a3 a4 : Value} {x : Nat} {h : AHp} : Rf d 27 18 [a0, .ref x, a2, a3, a4] [] h = Rf d 27 19 [a0, .ref x, a2, a3, a4] [.ref x] h := Rf_go ((stp_of c27_18).trans rfl)
theorem c27_19 : cd 27 19 = some (19, .iload_n 2, 1, []) := by decide +kernel
theorem x27_19 {d : Nat} {a0 a1 a3 a4 : Value} {s0 : Nat} {x : Int32} {h : AHp} : Rf d 27 19 [a0, a1, .int x, a3, a4] [.ref s0] h = Rf d 27 20 [a0, a1, .int x, a3, a4] [.int x, .ref s0] h := Rf_go ((stp_of c27_19).trans rfl)
theorem c27_20 : cd 27 20 = some (20, .iaload, 1, []) := by decide +kernel
theorem x27_20 {d : Nat} {a0 a1 a2 a3 a4 : Value} {s0 : Int32} {s1 : Nat} {h : AHp} : Rf d 27 20 [a0, a1, a2, a3, a4] [.int s0, .ref s1] h = if (aT (h.1 s1) = 0 ∨ aT (h.1 s1) = 10) ∧ inB s0 (aN (h.1 s1)) = true then Rf d 27 21 [a0, a1, a2, a3, a4] [.int (aF (h.1 s1) s0.toNatClampNeg)] h else Rx d 27 20 [a0, a1, a2, a3, a4] [.int s0, .ref s1] h := ldI c27_20
theorem c27_21 : cd 27 21 = some (21, .istore_n 3, 1, []) := by decide +kernel
theorem x27_21 {d : Nat} {a0 a1 a2 a3 a4 : Value} {s0 : Int32} {h : AHp} : Rf d 27 21 [a0, a1, a2, a3, a4] [.int s0] h = Rf d 27 22 [a0, a1, a2, .int s0, a4] [] h := Rf_go ((stp_of c27_21).trans rfl)
theorem c27_22 : cd 27 22 = some (22, .iload_n 0, 1, []) := by decide +kernel
theorem x27_22 {d : Nat} {a1 a2 a3 a4 : Value} {x : Int32} {h : AHp} : Rf d 27 22 [.int x, a1, a2, a3, a4] [] h = Rf d 27 23 [.int x, a1, a2, a3, a4] [.int x] h := Rf_go ((stp_of c27_22).trans rfl)
theorem c27_23 : cd 27 23 = some (23, .bipush 100, 2, []) := by decide +kernel
theorem x27_23 {d : Nat} {a0 a1 a2 a3 a4 : Value} {s0 : Int32} {h : AHp} : Rf d 27 23 [a0, a1, a2, a3, a4] [.int s0] h = Rf d 27 25 [a0, a1, a2, a3, a4] [.int 100, .int s0] h := Rf_go ((stp_of c27_23).trans rfl)
theorem c27_25 : cd 27 25 = some (25, .irem, 1, []) := by decide +kernel
theorem x27_25 {d : Nat} {a0 a1 a2 a3 a4 : Value} {s0 : Int32} {s1 : Int32} {h : AHp} : Rf d 27 25 [a0, a1, a2, a3, a4] [.int s0, .int s1] h = if ¬ s0 = 0 then Rf d 27 26 [a0, a1, a2, a3, a4] [.int (remI s1 s0)] h else Rx d 27 25 [a0, a1, a2, a3, a4] [.int s0, .int s1] h := divE c27_25 (fun _ _ _ => rfl)
theorem c27_26 : cd 27 26 = some (26, .istore 4, 2, []) := by decide +kernel
theorem x27_26 {d : Nat} {a0 a1 a2 a3 a4 : Value} {s0 : Int32} {h : AHp} : Rf d 27 26 [a0, a1, a2, a3, a4] [.int s0] h = Rf d 27 28 [a0, a1, a2, a3, .int s0] [] h := Rf_go ((stp_of c27_26).trans rfl)
theorem c27_28 : cd 27 28 = some (28, .iload_n 0, 1, []) := by decide +kernel
theorem x27_28 {d : Nat} {a1 a2 a3 a4 : Value} {x : Int32} {h : AHp} : Rf d 27 28 [.int x, a1, a2, a3, a4] [] h = Rf d 27 29 [.int x, a1, a2, a3, a4] [.int x] h := Rf_go ((stp_of c27_28).trans rfl)
theorem c27_29 : cd 27 29 = some (29, .bipush 100, 2, []) := by decide +kernel
theorem x27_29 {d : Nat} {a0 a1 a2 a3 a4 : Value} {s0 : Int32} {h : AHp} : Rf d 27 29 [a0, a1, a2, a3, a4] [.int s0] h = Rf d 27 31 [a0, a1, a2, a3, a4] [.int 100, .int s0] h := Rf_go ((stp_of c27_29).trans rfl)
theorem c27_31 : cd 27 31 = some (31, .idiv, 1, []) := by decide +kernel
theorem x27_31 {d : Nat} {a0 a1 a2 a3 a4 : Value} {s0 : Int32} {s1 : Int32} {h : AHp} : Rf d 27 31 [a0, a1, a2, a3, a4] [.int s0, .int s1] h = if ¬ s0 = 0 then Rf d 27 32 [a0, a1, a2, a3, a4] [.int (s1 / s0)] h else Rx d 27 31 [a0, a1, a2, a3, a4] [.int s0, .int s1] h := divE c27_31 (fun _ _ _ => rfl)
theorem c27_32 : cd 27 32 = some (32, .iconst 3, 1, []) := by decide +kernel
theorem x27_32 {d : Nat} {a0 a1 a2 a3 a4 : Value} {s0 : Int32} {h : AHp} : Rf d 27 32 [a0, a1, a2, a3, a4] [.int s0] h = Rf d 27 33 [a0, a1, a2, a3, a4] [.int 3, .int s0] h := Rf_go ((stp_of c27_32).trans rfl)
theorem c27_33 : cd 27 33 = some (33, .irem, 1, []) := by decide +kernel
theorem x27_33 {d : Nat} {a0 a1 a2 a3 a4 : Value} {s0 : Int32} {s1 : Int32} {h : AHp} : Rf d 27 33 [a0, a1, a2, a3, a4] [.int s0, .int s1] h = if ¬ s0 = 0 then Rf d 27 34 [a0, a1, a2, a3, a4] [.int (remI s1 s0)] h else Rx d 27 33 [a0, a1, a2, a3, a4] [.int s0, .int s1] h := divE c27_33 (fun _ _ _ => rfl)
theorem c27_34 : cd 27 34 = some (34, .lookupswitch 50 #[(0, 26), (1, 38)], 26, [(0, 84), (0, 60), (1, 72)]) := by decide +kernel
theorem x27_34 {d : Nat} {a0 a1 a2 a3 a4 : Value} {s0 : Int32} {h : AHp} : Rf d 27 34 [a0, a1, a2, a3, a4] [.int s0] h = if s0 = 0 then Rf d 27 60 [a0, a1, a2, a3, a4] [] h else (if s0 = 1 then Rf d 27 72 [a0, a1, a2, a3, a4] [] h else (Rf d 27 84 [a0, a1, a2, a3, a4] [] h)) := (swE (e := 84) c27_34 rfl).trans (by simp only [List.drop, swT, Rf_ite]; rfl)
theorem c27_72 : cd 27 72 = some (72, .iload_n 3, 1, []) := by decide +kernel
theorem x27_72 {d : Nat} {a0 a1 a2 a4 : Value} {x : Int32} {h : AHp} : Rf d 27 72 [a0, a1, a2, .int x, a4] [] h = Rf d 27 73 [a0, a1, a2, .int x, a4] [.int x] h := Rf_go ((stp_of c27_72).trans rfl)
theorem c27_73 : cd 27 73 = some (73, .iload 4, 2, []) := by decide +kernel
theorem x27_73 {d : Nat} {a0 a1 a2 a3 : Value} {s0 : Int32} {x : Int32} {h : AHp} : Rf d 27 73 [a0, a1, a2, a3, .int x] [.int s0] h = Rf d 27 75 [a0, a1, a2, a3, .int x] [.int x, .int s0] h := Rf_go ((stp_of c27_73).trans rfl)
theorem c27_75 : cd 27 75 = some (75, .if_icmp .ne 7, 3, [(82, 0)]) := by decide +kernel
theorem x27_75 {d : Nat} {a0 a1 a2 a3 a4 : Value} {s0 : Int32} {s1 : Int32} {h : AHp} : Rf d 27 75 [a0, a1, a2, a3, a4] [.int s0, .int s1] h = if s1 = s0 then Rf d 27 78 [a0, a1, a2, a3, a4] [] h else Rf d 27 82 [a0, a1, a2, a3, a4] [] h := Rf_brn ((stp_of c27_75).trans rfl)
theorem c27_82 : cd 27 82 = some (82, .iconst 0, 1, []) := by decide +kernel
theorem x27_82 {d : Nat} {a0 a1 a2 a3 a4 : Value} {h : AHp} : Rf d 27 82 [a0, a1, a2, a3, a4] [] h = Rf d 27 83 [a0, a1, a2, a3, a4] [.int 0] h := Rf_go ((stp_of c27_82).trans rfl)
theorem c27_83 : cd 27 83 = some (83, .ireturn, 1, []) := by decide +kernel
theorem x27_83 {d : Nat} {a0 a1 a2 a3 a4 : Value} {s0 : Int32} {h : AHp} : Rf d 27 83 [a0, a1, a2, a3, a4] [.int s0] h = if retI (some .boolean) s0 = true then some (some (.int s0), h) else Rx d 27 83 [a0, a1, a2, a3, a4] [.int s0] h := Rf_ife (fun hk => by rw [stp_of c27_83]; exact if_pos hk)
theorem c27_78 : cd 27 78 = some (78, .iconst 1, 1, []) := by decide +kernel
theorem x27_78 {d : Nat} {a0 a1 a2 a3 a4 : Value} {h : AHp} : Rf d 27 78 [a0, a1, a2, a3, a4] [] h = Rf d 27 79 [a0, a1, a2, a3, a4] [.int 1] h := Rf_go ((stp_of c27_78).trans rfl)
theorem c27_79 : cd 27 79 = some (79, .goto 4, 3, [(83, 0)]) := by decide +kernel
theorem x27_79 {d : Nat} {a0 a1 a2 a3 a4 : Value} {s0 : Int32} {h : AHp} : Rf d 27 79 [a0, a1, a2, a3, a4] [.int s0] h = Rf d 27 83 [a0, a1, a2, a3, a4] [.int s0] h := Rf_go ((stp_of c27_79).trans rfl)
theorem c27_60 : cd 27 60 = some (60, .iload_n 3, 1, []) := by decide +kernel
theorem x27_60 {d : Nat} {a0 a1 a2 a4 : Value} {x : Int32} {h : AHp} : Rf d 27 60 [a0, a1, a2, .int x, a4] [] h = Rf d 27 61 [a0, a1, a2, .int x, a4] [.int x] h := Rf_go ((stp_of c27_60).trans rfl)
theorem c27_61 : cd 27 61 = some (61, .iload 4, 2, []) := by decide +kernel
theorem x27_61 {d : Nat} {a0 a1 a2 a3 : Value} {s0 : Int32} {x : Int32} {h : AHp} : Rf d 27 61 [a0, a1, a2, a3, .int x] [.int s0] h = Rf d 27 63 [a0, a1, a2, a3, .int x] [.int x, .int s0] h := Rf_go ((stp_of c27_61).trans rfl)
theorem c27_63 : cd 27 63 = some (63, .if_icmp .ge 7, 3, [(70, 0)]) := by decide +kernel
theorem x27_63 {d : Nat} {a0 a1 a2 a3 a4 : Value} {s0 : Int32} {s1 : Int32} {h : AHp} : Rf d 27 63 [a0, a1, a2, a3, a4] [.int s0, .int s1] h = if s1 < s0 then Rf d 27 66 [a0, a1, a2, a3, a4] [] h else Rf d 27 70 [a0, a1, a2, a3, a4] [] h := Rf_brn ((stp_of c27_63).trans rfl)
theorem c27_70 : cd 27 70 = some (70, .iconst 0, 1, []) := by decide +kernel
theorem x27_70 {d : Nat} {a0 a1 a2 a3 a4 : Value} {h : AHp} : Rf d 27 70 [a0, a1, a2, a3, a4] [] h = Rf d 27 71 [a0, a1, a2, a3, a4] [.int 0] h := Rf_go ((stp_of c27_70).trans rfl)
theorem c27_71 : cd 27 71 = some (71, .ireturn, 1, []) := by decide +kernel
theorem x27_71 {d : Nat} {a0 a1 a2 a3 a4 : Value} {s0 : Int32} {h : AHp} : Rf d 27 71 [a0, a1, a2, a3, a4] [.int s0] h = if retI (some .boolean) s0 = true then some (some (.int s0), h) else Rx d 27 71 [a0, a1, a2, a3, a4] [.int s0] h := Rf_ife (fun hk => by rw [stp_of c27_71]; exact if_pos hk)
theorem c27_66 : cd 27 66 = some (66, .iconst 1, 1, []) := by decide +kernel
theorem x27_66 {d : Nat} {a0 a1 a2 a3 a4 : Value} {h : AHp} : Rf d 27 66 [a0, a1, a2, a3, a4] [] h = Rf d 27 67 [a0, a1, a2, a3, a4] [.int 1] h := Rf_go ((stp_of c27_66).trans rfl)
theorem c27_67 : cd 27 67 = some (67, .goto 4, 3, [(71, 0)]) := by decide +kernel
theorem x27_67 {d : Nat} {a0 a1 a2 a3 a4 : Value} {s0 : Int32} {h : AHp} : Rf d 27 67 [a0, a1, a2, a3, a4] [.int s0] h = Rf d 27 71 [a0, a1, a2, a3, a4] [.int s0] h := Rf_go ((stp_of c27_67).trans rfl)
theorem c27_84 : cd 27 84 = some (84, .iload_n 3, 1, []) := by decide +kernel
theorem x27_84 {d : Nat} {a0 a1 a2 a4 : Value} {x : Int32} {h : AHp} : Rf d 27 84 [a0, a1, a2, .int x, a4] [] h = Rf d 27 85 [a0, a1, a2, .int x, a4] [.int x] h := Rf_go ((stp_of c27_84).trans rfl)
theorem c27_85 : cd 27 85 = some (85, .iload 4, 2, []) := by decide +kernel
theorem x27_85 {d : Nat} {a0 a1 a2 a3 : Value} {s0 : Int32} {x : Int32} {h : AHp} : Rf d 27 85 [a0, a1, a2, a3, .int x] [.int s0] h = Rf d 27 87 [a0, a1, a2, a3, .int x] [.int x, .int s0] h := Rf_go ((stp_of c27_85).trans rfl)
theorem c27_87 : cd 27 87 = some (87, .if_icmp .le 7, 3, [(94, 0)]) := by decide +kernel
theorem x27_87 {d : Nat} {a0 a1 a2 a3 a4 : Value} {s0 : Int32} {s1 : Int32} {h : AHp} : Rf d 27 87 [a0, a1, a2, a3, a4] [.int s0, .int s1] h = if s0 < s1 then Rf d 27 90 [a0, a1, a2, a3, a4] [] h else Rf d 27 94 [a0, a1, a2, a3, a4] [] h := Rf_brn ((stp_of c27_87).trans rfl)
theorem c27_94 : cd 27 94 = some (94, .iconst 0, 1, []) := by decide +kernel
theorem x27_94 {d : Nat} {a0 a1 a2 a3 a4 : Value} {h : AHp} : Rf d 27 94 [a0, a1, a2, a3, a4] [] h = Rf d 27 95 [a0, a1, a2, a3, a4] [.int 0] h := Rf_go ((stp_of c27_94).trans rfl)
theorem c27_95 : cd 27 95 = some (95, .ireturn, 1, []) := by decide +kernel
theorem x27_95 {d : Nat} {a0 a1 a2 a3 a4 : Value} {s0 : Int32} {h : AHp} : Rf d 27 95 [a0, a1, a2, a3, a4] [.int s0] h = if retI (some .boolean) s0 = true then some (some (.int s0), h) else Rx d 27 95 [a0, a1, a2, a3, a4] [.int s0] h := Rf_ife (fun hk => by rw [stp_of c27_95]; exact if_pos hk)
theorem c27_90 : cd 27 90 = some (90, .iconst 1, 1, []) := by decide +kernel
theorem x27_90 {d : Nat} {a0 a1 a2 a3 a4 : Value} {h : AHp} : Rf d 27 90 [a0, a1, a2, a3, a4] [] h = Rf d 27 91 [a0, a1, a2, a3, a4] [.int 1] h := Rf_go ((stp_of c27_90).trans rfl)
theorem c27_91 : cd 27 91 = some (91, .goto 4, 3, [(95, 0)]) := by decide +kernel
theorem x27_91 {d : Nat} {a0 a1 a2 a3 a4 : Value} {s0 : Int32} {h : AHp} : Rf d 27 91 [a0, a1, a2, a3, a4] [.int s0] h = Rf d 27 95 [a0, a1, a2, a3, a4] [.int s0] h := Rf_go ((stp_of c27_91).trans rfl)
